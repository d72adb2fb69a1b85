/-! Instructions as equations: written by gen_u.py. -/
set_option maxRecDepth 20000 in
theorem u_X7_init_0 (x : Nat) (st : List Value) (h : xH) : xf 62 0 [some (.ref x)] st h = xf 62 1 [some (.ref x)] (.ref x :: st) h := xo_aload (k := 0) (by decide +kernel) rfl
set_option maxRecDepth 20000 in
theorem u_X7_init_1 (L : xL) (a : Nat) (st : List Value) (h : xH) (hl : st.length ≤ 4) : xf 62 1 L (.ref a :: st) h = xf 62 4 L st h := xo_objinit (by decide +kernel) hl
set_option maxRecDepth 20000 in
theorem u_X7_init_4 (x : Nat) (st : List Value) (h : xH) : xf 62 4 [some (.ref x)] st h = xf 62 5 [some (.ref x)] (.ref x :: st) h := xo_aload (k := 0) (by decide +kernel) rfl
set_option maxRecDepth 20000 in
theorem u_X7_init_5 (L : xL) (st : List Value) (h : xH) (hn : h.2.1 ≠ 0) : xf 62 5 L st h = xf 62 8 L (.ref h.2.1 :: st) (xnew h (.inr (6, xdef 6)) 6) := xo_new (c := 6) (by decide +kernel) (by decide) hn
set_option maxRecDepth 20000 in
theorem u_X7_init_8 (L : xL) (a : Nat) (st : List Value) (h : xH) : xf 62 8 L (.ref a :: st) h = xf 62 9 L (.ref a :: .ref a :: st) h := xo_dupR (by decide +kernel)
set_option maxRecDepth 20000 in
theorem u_X7_init_9 (L : xL) (b : Nat) (st : List Value) (h : xH) (hl : st.length ≤ 4) : xf 62 9 L (.ref b :: st) h = xgoI 62 9 12 L st (xev 47 [.ref b] h) := xo_callI (as := []) (by decide +kernel) rfl ⟨(by decide +kernel : xna 47 = 0), Nat.le_of_ble_eq_true rfl, by decide⟩ hl
set_option maxRecDepth 20000 in
theorem u_X7_init_12 (L : xL) (v : Nat) (a : Nat) (st : List Value) (h : xH) (hc : (xob h a).1 = 7) : xf 62 12 L (.ref v :: .ref a :: st) h = xf 62 15 L st (xso h a 0 (.ref v)) := xo_putf (r := 448) (by decide +kernel) (by decide) rfl hc
set_option maxRecDepth 20000 in
theorem u_X7_init_15 (x : Nat) (st : List Value) (h : xH) : xf 62 15 [some (.ref x)] st h = xf 62 16 [some (.ref x)] (.ref x :: st) h := xo_aload (k := 0) (by decide +kernel) rfl
set_option maxRecDepth 20000 in
theorem u_X7_init_16 (L : xL) (st : List Value) (h : xH) (hn : h.2.1 ≠ 0) : xf 62 16 L st h = xf 62 19 L (.ref h.2.1 :: st) (xnew h (.inr (2, xdef 2)) 3) := xo_new (c := 2) (by decide +kernel) (by decide) hn
set_option maxRecDepth 20000 in
theorem u_X7_init_19 (L : xL) (a : Nat) (st : List Value) (h : xH) : xf 62 19 L (.ref a :: st) h = xf 62 20 L (.ref a :: .ref a :: st) h := xo_dupR (by decide +kernel)
set_option maxRecDepth 20000 in
theorem u_X7_init_20 (L : xL) (b : Nat) (st : List Value) (h : xH) (hl : st.length ≤ 4) : xf 62 20 L (.ref b :: st) h = xgoI 62 20 23 L st (xev 16 [.ref b] h) := xo_callI (as := []) (by decide +kernel) rfl ⟨(by decide +kernel : xna 16 = 0), Nat.le_of_ble_eq_true rfl, by decide⟩ hl
set_option maxRecDepth 20000 in
theorem u_X7_init_23 (L : xL) (v : Nat) (a : Nat) (st : List Value) (h : xH) (hc : (xob h a).1 = 7) : xf 62 23 L (.ref v :: .ref a :: st) h = xf 62 26 L st (xso h a 1 (.ref v)) := xo_putf (r := 449) (by decide +kernel) (by decide) rfl hc
set_option maxRecDepth 20000 in
theorem u_X7_init_26 (x : Nat) (st : List Value) (h : xH) : xf 62 26 [some (.ref x)] st h = xf 62 27 [some (.ref x)] (.ref x :: st) h := xo_aload (k := 0) (by decide +kernel) rfl
set_option maxRecDepth 20000 in
theorem u_X7_init_27 (L : xL) (st : List Value) (h : xH) (hn : h.2.1 ≠ 0) : xf 62 27 L st h = xf 62 30 L (.ref h.2.1 :: st) (xnew h (.inr (0, xdef 0)) 2) := xo_new (c := 0) (by decide +kernel) (by decide) hn
set_option maxRecDepth 20000 in
theorem u_X7_init_30 (L : xL) (a : Nat) (st : List Value) (h : xH) : xf 62 30 L (.ref a :: st) h = xf 62 31 L (.ref a :: .ref a :: st) h := xo_dupR (by decide +kernel)
set_option maxRecDepth 20000 in
theorem u_X7_init_31 (L : xL) (b : Nat) (st : List Value) (h : xH) (hl : st.length ≤ 4) : xf 62 31 L (.ref b :: st) h = xgoI 62 31 34 L st (xev 0 [.ref b] h) := xo_callI (as := []) (by decide +kernel) rfl ⟨(by decide +kernel : xna 0 = 0), Nat.le_of_ble_eq_true rfl, by decide⟩ hl
set_option maxRecDepth 20000 in
theorem u_X7_init_34 (L : xL) (v : Nat) (a : Nat) (st : List Value) (h : xH) (hc : (xob h a).1 = 7) : xf 62 34 L (.ref v :: .ref a :: st) h = xf 62 37 L st (xso h a 2 (.ref v)) := xo_putf (r := 450) (by decide +kernel) (by decide) rfl hc
set_option maxRecDepth 20000 in
theorem u_X7_init_37 (x : Nat) (st : List Value) (h : xH) : xf 62 37 [some (.ref x)] st h = xf 62 38 [some (.ref x)] (.ref x :: st) h := xo_aload (k := 0) (by decide +kernel) rfl
set_option maxRecDepth 20000 in
theorem u_X7_init_38 (L : xL) (st : List Value) (h : xH) (hn : h.2.1 ≠ 0) : xf 62 38 L st h = xf 62 41 L (.ref h.2.1 :: st) (xnew h (.inr (4, xdef 4)) 6) := xo_new (c := 4) (by decide +kernel) (by decide) hn
set_option maxRecDepth 20000 in
theorem u_X7_init_41 (L : xL) (a : Nat) (st : List Value) (h : xH) : xf 62 41 L (.ref a :: st) h = xf 62 42 L (.ref a :: .ref a :: st) h := xo_dupR (by decide +kernel)
set_option maxRecDepth 20000 in
theorem u_X7_init_42 (L : xL) (b : Nat) (st : List Value) (h : xH) (hl : st.length ≤ 4) : xf 62 42 L (.ref b :: st) h = xgoI 62 42 45 L st (xev 28 [.ref b] h) := xo_callI (as := []) (by decide +kernel) rfl ⟨(by decide +kernel : xna 28 = 0), Nat.le_of_ble_eq_true rfl, by decide⟩ hl
set_option maxRecDepth 20000 in
theorem u_X7_init_45 (L : xL) (v : Nat) (a : Nat) (st : List Value) (h : xH) (hc : (xob h a).1 = 7) : xf 62 45 L (.ref v :: .ref a :: st) h = xf 62 48 L st (xso h a 3 (.ref v)) := xo_putf (r := 451) (by decide +kernel) (by decide) rfl hc
set_option maxRecDepth 20000 in
theorem u_X7_init_48 (x : Nat) (st : List Value) (h : xH) : xf 62 48 [some (.ref x)] st h = xf 62 49 [some (.ref x)] (.ref x :: st) h := xo_aload (k := 0) (by decide +kernel) rfl
set_option maxRecDepth 20000 in
theorem u_X7_init_49 (L : xL) (st : List Value) (h : xH) (hn : h.2.1 ≠ 0) : xf 62 49 L st h = xf 62 52 L (.ref h.2.1 :: st) (xnew h (.inr (6, xdef 6)) 6) := xo_new (c := 6) (by decide +kernel) (by decide) hn
set_option maxRecDepth 20000 in
theorem u_X7_init_52 (L : xL) (a : Nat) (st : List Value) (h : xH) : xf 62 52 L (.ref a :: st) h = xf 62 53 L (.ref a :: .ref a :: st) h := xo_dupR (by decide +kernel)
set_option maxRecDepth 20000 in
theorem u_X7_init_53 (L : xL) (b : Nat) (st : List Value) (h : xH) (hl : st.length ≤ 4) : xf 62 53 L (.ref b :: st) h = xgoI 62 53 56 L st (xev 47 [.ref b] h) := xo_callI (as := []) (by decide +kernel) rfl ⟨(by decide +kernel : xna 47 = 0), Nat.le_of_ble_eq_true rfl, by decide⟩ hl
set_option maxRecDepth 20000 in
theorem u_X7_init_56 (L : xL) (v : Nat) (a : Nat) (st : List Value) (h : xH) (hc : (xob h a).1 = 7) : xf 62 56 L (.ref v :: .ref a :: st) h = xf 62 59 L st (xso h a 4 (.ref v)) := xo_putf (r := 452) (by decide +kernel) (by decide) rfl hc
set_option maxRecDepth 20000 in
theorem u_X7_init_59 (L : xL) (h : xH) : xf 62 59 L [] h = some (.inl none, h) := xo_return (n := 60) (by decide +kernel) rfl
set_option maxRecDepth 20000 in
theorem e_X7_init (v0 : Nat) (h : xH) : xev 62 [.ref v0] h = xf 62 0 [some (.ref v0)] [] h := rfl
set_option maxRecDepth 20000 in
theorem u_X7_grow_0 (x : Nat) (st : List Value) (h : xH) : xf 63 0 [some (.ref x)] st h = xf 63 1 [some (.ref x)] (.ref x :: st) h := xo_aload (k := 0) (by decide +kernel) rfl
set_option maxRecDepth 20000 in
theorem u_X7_grow_1 (L : xL) (a : Nat) (st : List Value) (h : xH) (hc : (xob h a).1 = 7) : xf 63 1 L (.ref a :: st) h = xf 63 4 L ((xob h a).2.getD 2 .null :: st) h := xo_getf (r := 450) (by decide +kernel) (by decide) hc
set_option maxRecDepth 20000 in
theorem u_X7_grow_4 (L : xL) (b : Nat) (st : List Value) (h : xH) (hb : (xob h b).1 = 0) (hl : st.length ≤ 4) : xf 63 4 L (.ref b :: st) h = xgo 63 4 7 L st (xev 7 [.ref b] h) := xo_callV (as := []) (by decide +kernel) rfl ⟨(by decide +kernel : xna 7 = 0), Nat.le_of_ble_eq_true rfl, rfl, by decide⟩ hb hl
set_option maxRecDepth 20000 in
theorem u_X7_grow_7 (L : xL) (a : Int32) (st : List Value) (h : xH) : xf 63 7 L (.int a :: st) h = if a = 0 then xf 63 10 L st h else xf 63 20 L st h := xo_if_ne (t := 20) (by decide +kernel) rfl
set_option maxRecDepth 20000 in
theorem u_X7_grow_10 (L : xL) (st : List Value) (h : xH) (hl : st.length ≤ 4) : xf 63 10 L st h = some (.inr 0, xdead h) := xo_throw (n := 13) (e := 0) (by decide +kernel) hl
set_option maxRecDepth 20000 in
theorem u_X7_grow_20 (x : Nat) (st : List Value) (h : xH) : xf 63 20 [some (.ref x)] st h = xf 63 21 [some (.ref x)] (.ref x :: st) h := xo_aload (k := 0) (by decide +kernel) rfl
set_option maxRecDepth 20000 in
theorem u_X7_grow_21 (L : xL) (a : Nat) (st : List Value) (h : xH) (hc : (xob h a).1 = 7) : xf 63 21 L (.ref a :: st) h = xf 63 24 L ((xob h a).2.getD 0 .null :: st) h := xo_getf (r := 448) (by decide +kernel) (by decide) hc
set_option maxRecDepth 20000 in
theorem u_X7_grow_24 (L : xL) (a : Nat) (st : List Value) (h : xH) (hc : (xob h a).1 = 6) : xf 63 24 L (.ref a :: st) h = xf 63 27 L ((xob h a).2.getD 0 .null :: st) h := xo_getf (r := 384) (by decide +kernel) (by decide) hc
set_option maxRecDepth 20000 in
theorem u_X7_grow_27 (x : Nat) (st : List Value) (h : xH) : xf 63 27 [some (.ref x)] st h = xf 63 28 [some (.ref x)] (.ref x :: st) h := xo_aload (k := 0) (by decide +kernel) rfl
set_option maxRecDepth 20000 in
theorem u_X7_grow_28 (L : xL) (a : Nat) (st : List Value) (h : xH) (hc : (xob h a).1 = 7) : xf 63 28 L (.ref a :: st) h = xf 63 31 L ((xob h a).2.getD 2 .null :: st) h := xo_getf (r := 450) (by decide +kernel) (by decide) hc
set_option maxRecDepth 20000 in
theorem u_X7_grow_31 (L : xL) (b : Nat) (st : List Value) (h : xH) (hb : (xob h b).1 = 0) (hl : st.length ≤ 4) : xf 63 31 L (.ref b :: st) h = xgo 63 31 34 L st (xev 9 [.ref b] h) := xo_callV (as := []) (by decide +kernel) rfl ⟨(by decide +kernel : xna 9 = 0), Nat.le_of_ble_eq_true rfl, rfl, by decide⟩ hb hl
set_option maxRecDepth 20000 in
theorem u_X7_grow_34 (L : xL) (v0 : Int32) (b : Nat) (st : List Value) (h : xH) (hb : (xob h b).1 = 5) (hl : st.length ≤ 4) : xf 63 34 L (.int v0 :: .ref b :: st) h = xgo 63 34 37 L st (xev 37 [.ref b, .int v0] h) := xo_callV (as := [.int v0]) (by decide +kernel) rfl ⟨(by decide +kernel : xna 37 = 1), Nat.le_of_ble_eq_true rfl, rfl, by decide⟩ hb hl
set_option maxRecDepth 20000 in
theorem u_X7_grow_37 (L : xL) (a : Int32) (st : List Value) (h : xH) : xf 63 37 L (.int a :: st) h = if a = 0 then xf 63 40 L st h else xf 63 50 L st h := xo_if_ne (t := 50) (by decide +kernel) rfl
set_option maxRecDepth 20000 in
theorem u_X7_grow_40 (L : xL) (st : List Value) (h : xH) (hl : st.length ≤ 4) : xf 63 40 L st h = some (.inr 1, xdead h) := xo_throw (n := 43) (e := 1) (by decide +kernel) hl
set_option maxRecDepth 20000 in
theorem u_X7_grow_50 (x : Nat) (st : List Value) (h : xH) : xf 63 50 [some (.ref x)] st h = xf 63 51 [some (.ref x)] (.ref x :: st) h := xo_aload (k := 0) (by decide +kernel) rfl
set_option maxRecDepth 20000 in
theorem u_X7_grow_51 (L : xL) (a : Nat) (st : List Value) (h : xH) (hc : (xob h a).1 = 7) : xf 63 51 L (.ref a :: st) h = xf 63 54 L ((xob h a).2.getD 1 .null :: st) h := xo_getf (r := 449) (by decide +kernel) (by decide) hc
set_option maxRecDepth 20000 in
theorem u_X7_grow_54 (x : Nat) (st : List Value) (h : xH) : xf 63 54 [some (.ref x)] st h = xf 63 55 [some (.ref x)] (.ref x :: st) h := xo_aload (k := 0) (by decide +kernel) rfl
set_option maxRecDepth 20000 in
theorem u_X7_grow_55 (L : xL) (a : Nat) (st : List Value) (h : xH) (hc : (xob h a).1 = 7) : xf 63 55 L (.ref a :: st) h = xf 63 58 L ((xob h a).2.getD 0 .null :: st) h := xo_getf (r := 448) (by decide +kernel) (by decide) hc
set_option maxRecDepth 20000 in
theorem u_X7_grow_58 (L : xL) (v0 : Nat) (b : Nat) (st : List Value) (h : xH) (hb : (xob h b).1 = 2) (hl : st.length ≤ 4) : xf 63 58 L (.ref v0 :: .ref b :: st) h = xgo 63 58 61 L st (xev 17 [.ref b, .ref v0] h) := xo_callV (as := [.ref v0]) (by decide +kernel) rfl ⟨(by decide +kernel : xna 17 = 1), Nat.le_of_ble_eq_true rfl, rfl, by decide⟩ hb hl
set_option maxRecDepth 20000 in
theorem u_X7_grow_61 (x : Nat) (st : List Value) (h : xH) : xf 63 61 [some (.ref x)] st h = xf 63 62 [some (.ref x)] (.ref x :: st) h := xo_aload (k := 0) (by decide +kernel) rfl
set_option maxRecDepth 20000 in
theorem u_X7_grow_62 (L : xL) (a : Nat) (st : List Value) (h : xH) (hc : (xob h a).1 = 7) : xf 63 62 L (.ref a :: st) h = xf 63 65 L ((xob h a).2.getD 2 .null :: st) h := xo_getf (r := 450) (by decide +kernel) (by decide) hc
set_option maxRecDepth 20000 in
theorem u_X7_grow_65 (x : Nat) (st : List Value) (h : xH) : xf 63 65 [some (.ref x)] st h = xf 63 66 [some (.ref x)] (.ref x :: st) h := xo_aload (k := 0) (by decide +kernel) rfl
set_option maxRecDepth 20000 in
theorem u_X7_grow_66 (L : xL) (a : Nat) (st : List Value) (h : xH) (hc : (xob h a).1 = 7) : xf 63 66 L (.ref a :: st) h = xf 63 69 L ((xob h a).2.getD 0 .null :: st) h := xo_getf (r := 448) (by decide +kernel) (by decide) hc
set_option maxRecDepth 20000 in
theorem u_X7_grow_69 (L : xL) (a : Nat) (st : List Value) (h : xH) (hc : (xob h a).1 = 6) : xf 63 69 L (.ref a :: st) h = xf 63 72 L ((xob h a).2.getD 0 .null :: st) h := xo_getf (r := 384) (by decide +kernel) (by decide) hc
set_option maxRecDepth 20000 in
theorem u_X7_grow_72 (L : xL) (v0 : Nat) (b : Nat) (st : List Value) (h : xH) (hb : (xob h b).1 = 0) (hl : st.length ≤ 4) : xf 63 72 L (.ref v0 :: .ref b :: st) h = xgo 63 72 75 L st (xev 10 [.ref b, .ref v0] h) := xo_callV (as := [.ref v0]) (by decide +kernel) rfl ⟨(by decide +kernel : xna 10 = 1), Nat.le_of_ble_eq_true rfl, rfl, by decide⟩ hb hl
set_option maxRecDepth 20000 in
theorem u_X7_grow_75 (x : Nat) (st : List Value) (h : xH) : xf 63 75 [some (.ref x)] st h = xf 63 76 [some (.ref x)] (.ref x :: st) h := xo_aload (k := 0) (by decide +kernel) rfl
set_option maxRecDepth 20000 in
theorem u_X7_grow_76 (L : xL) (a : Nat) (st : List Value) (h : xH) (hc : (xob h a).1 = 7) : xf 63 76 L (.ref a :: st) h = xf 63 79 L ((xob h a).2.getD 2 .null :: st) h := xo_getf (r := 450) (by decide +kernel) (by decide) hc
set_option maxRecDepth 20000 in
theorem u_X7_grow_79 (L : xL) (b : Nat) (st : List Value) (h : xH) (hb : (xob h b).1 = 0) (hl : st.length ≤ 4) : xf 63 79 L (.ref b :: st) h = xgo 63 79 82 L st (xev 3 [.ref b] h) := xo_callV (as := []) (by decide +kernel) rfl ⟨(by decide +kernel : xna 3 = 0), Nat.le_of_ble_eq_true rfl, rfl, by decide⟩ hb hl
set_option maxRecDepth 20000 in
theorem u_X7_grow_82 (x : Nat) (st : List Value) (h : xH) : xf 63 82 [some (.ref x)] st h = xf 63 83 [some (.ref x)] (.ref x :: st) h := xo_aload (k := 0) (by decide +kernel) rfl
set_option maxRecDepth 20000 in
theorem u_X7_grow_83 (L : xL) (a : Nat) (st : List Value) (h : xH) (hc : (xob h a).1 = 7) : xf 63 83 L (.ref a :: st) h = xf 63 86 L ((xob h a).2.getD 0 .null :: st) h := xo_getf (r := 448) (by decide +kernel) (by decide) hc
set_option maxRecDepth 20000 in
theorem u_X7_grow_86 (L : xL) (a : Nat) (st : List Value) (h : xH) (hc : (xob h a).1 = 6) : xf 63 86 L (.ref a :: st) h = xf 63 89 L ((xob h a).2.getD 0 .null :: st) h := xo_getf (r := 384) (by decide +kernel) (by decide) hc
set_option maxRecDepth 20000 in
theorem u_X7_grow_89 (L : xL) (a : Nat) (st : List Value) (h : xH) (hc : (xob h a).1 = 5) : xf 63 89 L (.ref a :: st) h = xf 63 92 L ((xob h a).2.getD 1 .null :: st) h := xo_getf (r := 321) (by decide +kernel) (by decide) hc
set_option maxRecDepth 20000 in
theorem u_X7_grow_92 (L : xL) (x : Int32) (h : xH) : xf 63 92 L [.int x] h = some (.inl (some (.int x)), h) := xo_ireturn (n := 93) (by decide +kernel) rfl
set_option maxRecDepth 20000 in
theorem e_X7_grow (v0 : Nat) (h : xH) : xev 63 [.ref v0] h = xf 63 0 [some (.ref v0)] [] h := rfl
set_option maxRecDepth 20000 in
theorem u_X7_add_0 (l1 : Option Value) (x : Nat) (st : List Value) (h : xH) : xf 64 0 [some (.ref x), l1] st h = xf 64 1 [some (.ref x), l1] (.ref x :: st) h := xo_aload (k := 0) (by decide +kernel) rfl
set_option maxRecDepth 20000 in
theorem u_X7_add_1 (L : xL) (a : Nat) (st : List Value) (h : xH) (hc : (xob h a).1 = 7) : xf 64 1 L (.ref a :: st) h = xf 64 4 L ((xob h a).2.getD 0 .null :: st) h := xo_getf (r := 448) (by decide +kernel) (by decide) hc
set_option maxRecDepth 20000 in
theorem u_X7_add_4 (L : xL) (a : Nat) (st : List Value) (h : xH) (hc : (xob h a).1 = 6) : xf 64 4 L (.ref a :: st) h = xf 64 7 L ((xob h a).2.getD 1 .null :: st) h := xo_getf (r := 385) (by decide +kernel) (by decide) hc
set_option maxRecDepth 20000 in
theorem u_X7_add_7 (l0 : Option Value) (x : Int32) (st : List Value) (h : xH) : xf 64 7 [l0, some (.int x)] st h = xf 64 8 [l0, some (.int x)] (.int x :: st) h := xo_iload (k := 1) (by decide +kernel) rfl
set_option maxRecDepth 20000 in
theorem u_X7_add_8 (L : xL) (v0 : Int32) (b : Nat) (st : List Value) (h : xH) (hb : (xob h b).1 = 3) (hl : st.length ≤ 4) : xf 64 8 L (.int v0 :: .ref b :: st) h = xgo 64 8 11 L st (xev 21 [.ref b, .int v0] h) := xo_callV (as := [.int v0]) (by decide +kernel) rfl ⟨(by decide +kernel : xna 21 = 1), Nat.le_of_ble_eq_true rfl, rfl, by decide⟩ hb hl
set_option maxRecDepth 20000 in
theorem u_X7_add_11 (L : xL) (a : Int32) (st : List Value) (h : xH) : xf 64 11 L (.int a :: st) h = if a = 0 then xf 64 14 L st h else xf 64 24 L st h := xo_if_ne (t := 24) (by decide +kernel) rfl
set_option maxRecDepth 20000 in
theorem u_X7_add_14 (L : xL) (st : List Value) (h : xH) (hl : st.length ≤ 4) : xf 64 14 L st h = some (.inr 2, xdead h) := xo_throw (n := 17) (e := 2) (by decide +kernel) hl
set_option maxRecDepth 20000 in
theorem u_X7_add_24 (l1 : Option Value) (x : Nat) (st : List Value) (h : xH) : xf 64 24 [some (.ref x), l1] st h = xf 64 25 [some (.ref x), l1] (.ref x :: st) h := xo_aload (k := 0) (by decide +kernel) rfl
set_option maxRecDepth 20000 in
theorem u_X7_add_25 (L : xL) (a : Nat) (st : List Value) (h : xH) (hc : (xob h a).1 = 7) : xf 64 25 L (.ref a :: st) h = xf 64 28 L ((xob h a).2.getD 0 .null :: st) h := xo_getf (r := 448) (by decide +kernel) (by decide) hc
set_option maxRecDepth 20000 in
theorem u_X7_add_28 (L : xL) (a : Nat) (st : List Value) (h : xH) (hc : (xob h a).1 = 6) : xf 64 28 L (.ref a :: st) h = xf 64 31 L ((xob h a).2.getD 0 .null :: st) h := xo_getf (r := 384) (by decide +kernel) (by decide) hc
set_option maxRecDepth 20000 in
theorem u_X7_add_31 (L : xL) (st : List Value) (h : xH) : xf 64 31 L st h = xf 64 32 L (.int 1 :: st) h := xo_iconst (k := 1) (by decide +kernel) (by decide)
set_option maxRecDepth 20000 in
theorem u_X7_add_32 (L : xL) (v0 : Int32) (b : Nat) (st : List Value) (h : xH) (hb : (xob h b).1 = 5) (hl : st.length ≤ 4) : xf 64 32 L (.int v0 :: .ref b :: st) h = xgo 64 32 35 L st (xev 37 [.ref b, .int v0] h) := xo_callV (as := [.int v0]) (by decide +kernel) rfl ⟨(by decide +kernel : xna 37 = 1), Nat.le_of_ble_eq_true rfl, rfl, by decide⟩ hb hl
set_option maxRecDepth 20000 in
theorem u_X7_add_35 (L : xL) (a : Int32) (st : List Value) (h : xH) : xf 64 35 L (.int a :: st) h = if a = 0 then xf 64 38 L st h else xf 64 48 L st h := xo_if_ne (t := 48) (by decide +kernel) rfl
set_option maxRecDepth 20000 in
theorem u_X7_add_38 (L : xL) (st : List Value) (h : xH) (hl : st.length ≤ 4) : xf 64 38 L st h = some (.inr 1, xdead h) := xo_throw (n := 41) (e := 1) (by decide +kernel) hl
set_option maxRecDepth 20000 in
theorem u_X7_add_48 (l1 : Option Value) (x : Nat) (st : List Value) (h : xH) : xf 64 48 [some (.ref x), l1] st h = xf 64 49 [some (.ref x), l1] (.ref x :: st) h := xo_aload (k := 0) (by decide +kernel) rfl
set_option maxRecDepth 20000 in
theorem u_X7_add_49 (L : xL) (a : Nat) (st : List Value) (h : xH) (hc : (xob h a).1 = 7) : xf 64 49 L (.ref a :: st) h = xf 64 52 L ((xob h a).2.getD 1 .null :: st) h := xo_getf (r := 449) (by decide +kernel) (by decide) hc
set_option maxRecDepth 20000 in
theorem u_X7_add_52 (l1 : Option Value) (x : Nat) (st : List Value) (h : xH) : xf 64 52 [some (.ref x), l1] st h = xf 64 53 [some (.ref x), l1] (.ref x :: st) h := xo_aload (k := 0) (by decide +kernel) rfl
set_option maxRecDepth 20000 in
theorem u_X7_add_53 (L : xL) (a : Nat) (st : List Value) (h : xH) (hc : (xob h a).1 = 7) : xf 64 53 L (.ref a :: st) h = xf 64 56 L ((xob h a).2.getD 0 .null :: st) h := xo_getf (r := 448) (by decide +kernel) (by decide) hc
set_option maxRecDepth 20000 in
theorem u_X7_add_56 (L : xL) (v0 : Nat) (b : Nat) (st : List Value) (h : xH) (hb : (xob h b).1 = 2) (hl : st.length ≤ 4) : xf 64 56 L (.ref v0 :: .ref b :: st) h = xgo 64 56 59 L st (xev 17 [.ref b, .ref v0] h) := xo_callV (as := [.ref v0]) (by decide +kernel) rfl ⟨(by decide +kernel : xna 17 = 1), Nat.le_of_ble_eq_true rfl, rfl, by decide⟩ hb hl
set_option maxRecDepth 20000 in
theorem u_X7_add_59 (l1 : Option Value) (x : Nat) (st : List Value) (h : xH) : xf 64 59 [some (.ref x), l1] st h = xf 64 60 [some (.ref x), l1] (.ref x :: st) h := xo_aload (k := 0) (by decide +kernel) rfl
set_option maxRecDepth 20000 in
theorem u_X7_add_60 (L : xL) (a : Nat) (st : List Value) (h : xH) (hc : (xob h a).1 = 7) : xf 64 60 L (.ref a :: st) h = xf 64 63 L ((xob h a).2.getD 0 .null :: st) h := xo_getf (r := 448) (by decide +kernel) (by decide) hc
set_option maxRecDepth 20000 in
theorem u_X7_add_63 (L : xL) (a : Nat) (st : List Value) (h : xH) (hc : (xob h a).1 = 6) : xf 64 63 L (.ref a :: st) h = xf 64 66 L ((xob h a).2.getD 0 .null :: st) h := xo_getf (r := 384) (by decide +kernel) (by decide) hc
set_option maxRecDepth 20000 in
theorem u_X7_add_66 (l0 : Option Value) (x : Int32) (st : List Value) (h : xH) : xf 64 66 [l0, some (.int x)] st h = xf 64 67 [l0, some (.int x)] (.int x :: st) h := xo_iload (k := 1) (by decide +kernel) rfl
set_option maxRecDepth 20000 in
theorem u_X7_add_67 (L : xL) (v0 : Int32) (b : Nat) (st : List Value) (h : xH) (hb : (xob h b).1 = 5) (hl : st.length ≤ 4) : xf 64 67 L (.int v0 :: .ref b :: st) h = xgo 64 67 70 L st (xev 38 [.ref b, .int v0] h) := xo_callV (as := [.int v0]) (by decide +kernel) rfl ⟨(by decide +kernel : xna 38 = 1), Nat.le_of_ble_eq_true rfl, rfl, by decide⟩ hb hl
set_option maxRecDepth 20000 in
theorem u_X7_add_70 (l1 : Option Value) (x : Nat) (st : List Value) (h : xH) : xf 64 70 [some (.ref x), l1] st h = xf 64 71 [some (.ref x), l1] (.ref x :: st) h := xo_aload (k := 0) (by decide +kernel) rfl
set_option maxRecDepth 20000 in
theorem u_X7_add_71 (L : xL) (a : Nat) (st : List Value) (h : xH) (hc : (xob h a).1 = 7) : xf 64 71 L (.ref a :: st) h = xf 64 74 L ((xob h a).2.getD 0 .null :: st) h := xo_getf (r := 448) (by decide +kernel) (by decide) hc
set_option maxRecDepth 20000 in
theorem u_X7_add_74 (L : xL) (a : Nat) (st : List Value) (h : xH) (hc : (xob h a).1 = 6) : xf 64 74 L (.ref a :: st) h = xf 64 77 L ((xob h a).2.getD 0 .null :: st) h := xo_getf (r := 384) (by decide +kernel) (by decide) hc
set_option maxRecDepth 20000 in
theorem u_X7_add_77 (L : xL) (a : Nat) (st : List Value) (h : xH) (hc : (xob h a).1 = 5) : xf 64 77 L (.ref a :: st) h = xf 64 80 L ((xob h a).2.getD 1 .null :: st) h := xo_getf (r := 321) (by decide +kernel) (by decide) hc
set_option maxRecDepth 20000 in
theorem u_X7_add_80 (L : xL) (x : Int32) (h : xH) : xf 64 80 L [.int x] h = some (.inl (some (.int x)), h) := xo_ireturn (n := 81) (by decide +kernel) rfl
set_option maxRecDepth 20000 in
theorem e_X7_add (v0 : Nat) (v1 : Int32) (h : xH) : xev 64 [.ref v0, .int v1] h = xf 64 0 [some (.ref v0), some (.int v1)] [] h := rfl
set_option maxRecDepth 20000 in
theorem u_X7_cut_0 (l0 : Option Value) (x : Int32) (st : List Value) (h : xH) : xf 65 0 [l0, some (.int x)] st h = xf 65 1 [l0, some (.int x)] (.int x :: st) h := xo_iload (k := 1) (by decide +kernel) rfl
set_option maxRecDepth 20000 in
theorem u_X7_cut_1 (L : xL) (a : Int32) (st : List Value) (h : xH) : xf 65 1 L (.int a :: st) h = if a < 0 then xf 65 18 L st h else xf 65 4 L st h := xo_if_lt (t := 18) (by decide +kernel) rfl
set_option maxRecDepth 20000 in
theorem u_X7_cut_4 (l0 : Option Value) (x : Int32) (st : List Value) (h : xH) : xf 65 4 [l0, some (.int x)] st h = xf 65 5 [l0, some (.int x)] (.int x :: st) h := xo_iload (k := 1) (by decide +kernel) rfl
set_option maxRecDepth 20000 in
theorem u_X7_cut_5 (l1 : Option Value) (x : Nat) (st : List Value) (h : xH) : xf 65 5 [some (.ref x), l1] st h = xf 65 6 [some (.ref x), l1] (.ref x :: st) h := xo_aload (k := 0) (by decide +kernel) rfl
set_option maxRecDepth 20000 in
theorem u_X7_cut_6 (L : xL) (a : Nat) (st : List Value) (h : xH) (hc : (xob h a).1 = 7) : xf 65 6 L (.ref a :: st) h = xf 65 9 L ((xob h a).2.getD 0 .null :: st) h := xo_getf (r := 448) (by decide +kernel) (by decide) hc
set_option maxRecDepth 20000 in
theorem u_X7_cut_9 (L : xL) (a : Nat) (st : List Value) (h : xH) (hc : (xob h a).1 = 6) : xf 65 9 L (.ref a :: st) h = xf 65 12 L ((xob h a).2.getD 0 .null :: st) h := xo_getf (r := 384) (by decide +kernel) (by decide) hc
set_option maxRecDepth 20000 in
theorem u_X7_cut_12 (L : xL) (a : Nat) (st : List Value) (h : xH) (hc : (xob h a).1 = 5) : xf 65 12 L (.ref a :: st) h = xf 65 15 L ((xob h a).2.getD 1 .null :: st) h := xo_getf (r := 321) (by decide +kernel) (by decide) hc
set_option maxRecDepth 20000 in
theorem u_X7_cut_15 (L : xL) (a b : Int32) (st : List Value) (h : xH) : xf 65 15 L (.int b :: .int a :: st) h = if b < a then xf 65 18 L st h else xf 65 28 L st h := xo_icmp_le (t := 28) (by decide +kernel) rfl
set_option maxRecDepth 20000 in
theorem u_X7_cut_18 (L : xL) (st : List Value) (h : xH) (hl : st.length ≤ 4) : xf 65 18 L st h = some (.inr 2, xdead h) := xo_throw (n := 21) (e := 2) (by decide +kernel) hl
set_option maxRecDepth 20000 in
theorem u_X7_cut_28 (l1 : Option Value) (x : Nat) (st : List Value) (h : xH) : xf 65 28 [some (.ref x), l1] st h = xf 65 29 [some (.ref x), l1] (.ref x :: st) h := xo_aload (k := 0) (by decide +kernel) rfl
set_option maxRecDepth 20000 in
theorem u_X7_cut_29 (L : xL) (a : Nat) (st : List Value) (h : xH) (hc : (xob h a).1 = 7) : xf 65 29 L (.ref a :: st) h = xf 65 32 L ((xob h a).2.getD 1 .null :: st) h := xo_getf (r := 449) (by decide +kernel) (by decide) hc
set_option maxRecDepth 20000 in
theorem u_X7_cut_32 (l1 : Option Value) (x : Nat) (st : List Value) (h : xH) : xf 65 32 [some (.ref x), l1] st h = xf 65 33 [some (.ref x), l1] (.ref x :: st) h := xo_aload (k := 0) (by decide +kernel) rfl
set_option maxRecDepth 20000 in
theorem u_X7_cut_33 (L : xL) (a : Nat) (st : List Value) (h : xH) (hc : (xob h a).1 = 7) : xf 65 33 L (.ref a :: st) h = xf 65 36 L ((xob h a).2.getD 0 .null :: st) h := xo_getf (r := 448) (by decide +kernel) (by decide) hc
set_option maxRecDepth 20000 in
theorem u_X7_cut_36 (L : xL) (v0 : Nat) (b : Nat) (st : List Value) (h : xH) (hb : (xob h b).1 = 2) (hl : st.length ≤ 4) : xf 65 36 L (.ref v0 :: .ref b :: st) h = xgo 65 36 39 L st (xev 17 [.ref b, .ref v0] h) := xo_callV (as := [.ref v0]) (by decide +kernel) rfl ⟨(by decide +kernel : xna 17 = 1), Nat.le_of_ble_eq_true rfl, rfl, by decide⟩ hb hl
set_option maxRecDepth 20000 in
theorem u_X7_cut_39 (l1 : Option Value) (x : Nat) (st : List Value) (h : xH) : xf 65 39 [some (.ref x), l1] st h = xf 65 40 [some (.ref x), l1] (.ref x :: st) h := xo_aload (k := 0) (by decide +kernel) rfl
set_option maxRecDepth 20000 in
theorem u_X7_cut_40 (L : xL) (a : Nat) (st : List Value) (h : xH) (hc : (xob h a).1 = 7) : xf 65 40 L (.ref a :: st) h = xf 65 43 L ((xob h a).2.getD 0 .null :: st) h := xo_getf (r := 448) (by decide +kernel) (by decide) hc
set_option maxRecDepth 20000 in
theorem u_X7_cut_43 (L : xL) (a : Nat) (st : List Value) (h : xH) (hc : (xob h a).1 = 6) : xf 65 43 L (.ref a :: st) h = xf 65 46 L ((xob h a).2.getD 0 .null :: st) h := xo_getf (r := 384) (by decide +kernel) (by decide) hc
set_option maxRecDepth 20000 in
theorem u_X7_cut_46 (l0 : Option Value) (x : Int32) (st : List Value) (h : xH) : xf 65 46 [l0, some (.int x)] st h = xf 65 47 [l0, some (.int x)] (.int x :: st) h := xo_iload (k := 1) (by decide +kernel) rfl
set_option maxRecDepth 20000 in
theorem u_X7_cut_47 (L : xL) (v0 : Int32) (b : Nat) (st : List Value) (h : xH) (hb : (xob h b).1 = 5) (hl : st.length ≤ 4) : xf 65 47 L (.int v0 :: .ref b :: st) h = xgo 65 47 50 L st (xev 39 [.ref b, .int v0] h) := xo_callV (as := [.int v0]) (by decide +kernel) rfl ⟨(by decide +kernel : xna 39 = 1), Nat.le_of_ble_eq_true rfl, rfl, by decide⟩ hb hl
set_option maxRecDepth 20000 in
theorem u_X7_cut_50 (l1 : Option Value) (x : Nat) (st : List Value) (h : xH) : xf 65 50 [some (.ref x), l1] st h = xf 65 51 [some (.ref x), l1] (.ref x :: st) h := xo_aload (k := 0) (by decide +kernel) rfl
set_option maxRecDepth 20000 in
theorem u_X7_cut_51 (L : xL) (a : Nat) (st : List Value) (h : xH) (hc : (xob h a).1 = 7) : xf 65 51 L (.ref a :: st) h = xf 65 54 L ((xob h a).2.getD 0 .null :: st) h := xo_getf (r := 448) (by decide +kernel) (by decide) hc
set_option maxRecDepth 20000 in
theorem u_X7_cut_54 (L : xL) (b : Nat) (st : List Value) (h : xH) (hb : (xob h b).1 = 6) (hl : st.length ≤ 4) : xf 65 54 L (.ref b :: st) h = xgo 65 54 57 L st (xev 58 [.ref b] h) := xo_callV (as := []) (by decide +kernel) rfl ⟨(by decide +kernel : xna 58 = 0), Nat.le_of_ble_eq_true rfl, rfl, by decide⟩ hb hl
set_option maxRecDepth 20000 in
theorem u_X7_cut_57 (l1 : Option Value) (x : Nat) (st : List Value) (h : xH) : xf 65 57 [some (.ref x), l1] st h = xf 65 58 [some (.ref x), l1] (.ref x :: st) h := xo_aload (k := 0) (by decide +kernel) rfl
set_option maxRecDepth 20000 in
theorem u_X7_cut_58 (L : xL) (a : Nat) (st : List Value) (h : xH) (hc : (xob h a).1 = 7) : xf 65 58 L (.ref a :: st) h = xf 65 61 L ((xob h a).2.getD 0 .null :: st) h := xo_getf (r := 448) (by decide +kernel) (by decide) hc
set_option maxRecDepth 20000 in
theorem u_X7_cut_61 (L : xL) (a : Nat) (st : List Value) (h : xH) (hc : (xob h a).1 = 6) : xf 65 61 L (.ref a :: st) h = xf 65 64 L ((xob h a).2.getD 1 .null :: st) h := xo_getf (r := 385) (by decide +kernel) (by decide) hc
set_option maxRecDepth 20000 in
theorem u_X7_cut_64 (L : xL) (b : Nat) (st : List Value) (h : xH) (hb : (xob h b).1 = 3) (hl : st.length ≤ 4) : xf 65 64 L (.ref b :: st) h = xgo 65 64 67 L st (xev 22 [.ref b] h) := xo_callV (as := []) (by decide +kernel) rfl ⟨(by decide +kernel : xna 22 = 0), Nat.le_of_ble_eq_true rfl, rfl, by decide⟩ hb hl
set_option maxRecDepth 20000 in
theorem u_X7_cut_67 (L : xL) (x : Int32) (h : xH) : xf 65 67 L [.int x] h = some (.inl (some (.int x)), h) := xo_ireturn (n := 68) (by decide +kernel) rfl
set_option maxRecDepth 20000 in
theorem e_X7_cut (v0 : Nat) (v1 : Int32) (h : xH) : xev 65 [.ref v0, .int v1] h = xf 65 0 [some (.ref v0), some (.int v1)] [] h := rfl
set_option maxRecDepth 20000 in
theorem u_X7_open_0 (l0 l2 : Option Value) (x : Int32) (st : List Value) (h : xH) : xf 66 0 [l0, some (.int x), l2] st h = xf 66 1 [l0, some (.int x), l2] (.int x :: st) h := xo_iload (k := 1) (by decide +kernel) rfl
set_option maxRecDepth 20000 in
theorem u_X7_open_1 (L : xL) (a : Int32) (st : List Value) (h : xH) : xf 66 1 L (.int a :: st) h = if a < 0 then xf 66 18 L st h else xf 66 4 L st h := xo_if_lt (t := 18) (by decide +kernel) rfl
set_option maxRecDepth 20000 in
theorem u_X7_open_4 (l0 l2 : Option Value) (x : Int32) (st : List Value) (h : xH) : xf 66 4 [l0, some (.int x), l2] st h = xf 66 5 [l0, some (.int x), l2] (.int x :: st) h := xo_iload (k := 1) (by decide +kernel) rfl
set_option maxRecDepth 20000 in
theorem u_X7_open_5 (l1 l2 : Option Value) (x : Nat) (st : List Value) (h : xH) : xf 66 5 [some (.ref x), l1, l2] st h = xf 66 6 [some (.ref x), l1, l2] (.ref x :: st) h := xo_aload (k := 0) (by decide +kernel) rfl
set_option maxRecDepth 20000 in
theorem u_X7_open_6 (L : xL) (a : Nat) (st : List Value) (h : xH) (hc : (xob h a).1 = 7) : xf 66 6 L (.ref a :: st) h = xf 66 9 L ((xob h a).2.getD 0 .null :: st) h := xo_getf (r := 448) (by decide +kernel) (by decide) hc
set_option maxRecDepth 20000 in
theorem u_X7_open_9 (L : xL) (a : Nat) (st : List Value) (h : xH) (hc : (xob h a).1 = 6) : xf 66 9 L (.ref a :: st) h = xf 66 12 L ((xob h a).2.getD 0 .null :: st) h := xo_getf (r := 384) (by decide +kernel) (by decide) hc
set_option maxRecDepth 20000 in
theorem u_X7_open_12 (L : xL) (a : Nat) (st : List Value) (h : xH) (hc : (xob h a).1 = 5) : xf 66 12 L (.ref a :: st) h = xf 66 15 L ((xob h a).2.getD 1 .null :: st) h := xo_getf (r := 321) (by decide +kernel) (by decide) hc
set_option maxRecDepth 20000 in
theorem u_X7_open_15 (L : xL) (a b : Int32) (st : List Value) (h : xH) : xf 66 15 L (.int b :: .int a :: st) h = if a < b then xf 66 28 L st h else xf 66 18 L st h := xo_icmp_lt (t := 28) (by decide +kernel) rfl
set_option maxRecDepth 20000 in
theorem u_X7_open_18 (L : xL) (st : List Value) (h : xH) (hl : st.length ≤ 4) : xf 66 18 L st h = some (.inr 2, xdead h) := xo_throw (n := 21) (e := 2) (by decide +kernel) hl
set_option maxRecDepth 20000 in
theorem u_X7_open_28 (l1 l2 : Option Value) (x : Nat) (st : List Value) (h : xH) : xf 66 28 [some (.ref x), l1, l2] st h = xf 66 29 [some (.ref x), l1, l2] (.ref x :: st) h := xo_aload (k := 0) (by decide +kernel) rfl
set_option maxRecDepth 20000 in
theorem u_X7_open_29 (L : xL) (a : Nat) (st : List Value) (h : xH) (hc : (xob h a).1 = 7) : xf 66 29 L (.ref a :: st) h = xf 66 32 L ((xob h a).2.getD 0 .null :: st) h := xo_getf (r := 448) (by decide +kernel) (by decide) hc
set_option maxRecDepth 20000 in
theorem u_X7_open_32 (L : xL) (a : Nat) (st : List Value) (h : xH) (hc : (xob h a).1 = 6) : xf 66 32 L (.ref a :: st) h = xf 66 35 L ((xob h a).2.getD 0 .null :: st) h := xo_getf (r := 384) (by decide +kernel) (by decide) hc
set_option maxRecDepth 20000 in
theorem u_X7_open_35 (l0 l2 : Option Value) (x : Int32) (st : List Value) (h : xH) : xf 66 35 [l0, some (.int x), l2] st h = xf 66 36 [l0, some (.int x), l2] (.int x :: st) h := xo_iload (k := 1) (by decide +kernel) rfl
set_option maxRecDepth 20000 in
theorem u_X7_open_36 (L : xL) (v0 : Int32) (b : Nat) (st : List Value) (h : xH) (hb : (xob h b).1 = 5) (hl : st.length ≤ 4) : xf 66 36 L (.int v0 :: .ref b :: st) h = xgo 66 36 39 L st (xev 36 [.ref b, .int v0] h) := xo_callV (as := [.int v0]) (by decide +kernel) rfl ⟨(by decide +kernel : xna 36 = 1), Nat.le_of_ble_eq_true rfl, rfl, by decide⟩ hb hl
set_option maxRecDepth 20000 in
theorem u_X7_open_39 (l0 l1 l2 : Option Value) (x : Int32) (st : List Value) (h : xH) : xf 66 39 [l0, l1, l2] (.int x :: st) h = xf 66 40 [l0, xcat l1, some (.int x)] st h := xo_istore (k := 2) (by decide +kernel) (Nat.le_of_ble_eq_true rfl) rfl
set_option maxRecDepth 20000 in
theorem u_X7_open_40 (l0 l1 : Option Value) (x : Int32) (st : List Value) (h : xH) : xf 66 40 [l0, l1, some (.int x)] st h = xf 66 41 [l0, l1, some (.int x)] (.int x :: st) h := xo_iload (k := 2) (by decide +kernel) rfl
set_option maxRecDepth 20000 in
theorem u_X7_open_41 (L : xL) (st : List Value) (h : xH) : xf 66 41 L st h = xf 66 43 L (.int 8 :: st) h := xo_iconst (k := 8) (by decide +kernel) (by decide)
set_option maxRecDepth 20000 in
theorem u_X7_open_43 (L : xL) (a b : Int32) (st : List Value) (h : xH) : xf 66 43 L (.int b :: .int a :: st) h = if a < b then xf 66 60 L st h else xf 66 46 L st h := xo_icmp_lt (t := 60) (by decide +kernel) rfl
set_option maxRecDepth 20000 in
theorem u_X7_open_46 (l1 l2 : Option Value) (x : Nat) (st : List Value) (h : xH) : xf 66 46 [some (.ref x), l1, l2] st h = xf 66 47 [some (.ref x), l1, l2] (.ref x :: st) h := xo_aload (k := 0) (by decide +kernel) rfl
set_option maxRecDepth 20000 in
theorem u_X7_open_47 (L : xL) (a : Nat) (st : List Value) (h : xH) (hc : (xob h a).1 = 7) : xf 66 47 L (.ref a :: st) h = xf 66 50 L ((xob h a).2.getD 0 .null :: st) h := xo_getf (r := 448) (by decide +kernel) (by decide) hc
set_option maxRecDepth 20000 in
theorem u_X7_open_50 (L : xL) (a : Nat) (st : List Value) (h : xH) (hc : (xob h a).1 = 6) : xf 66 50 L (.ref a :: st) h = xf 66 53 L ((xob h a).2.getD 0 .null :: st) h := xo_getf (r := 384) (by decide +kernel) (by decide) hc
set_option maxRecDepth 20000 in
theorem u_X7_open_53 (L : xL) (st : List Value) (h : xH) : xf 66 53 L st h = xf 66 54 L (.int 1 :: st) h := xo_iconst (k := 1) (by decide +kernel) (by decide)
set_option maxRecDepth 20000 in
theorem u_X7_open_54 (L : xL) (v0 : Int32) (b : Nat) (st : List Value) (h : xH) (hb : (xob h b).1 = 5) (hl : st.length ≤ 4) : xf 66 54 L (.int v0 :: .ref b :: st) h = xgo 66 54 57 L st (xev 37 [.ref b, .int v0] h) := xo_callV (as := [.int v0]) (by decide +kernel) rfl ⟨(by decide +kernel : xna 37 = 1), Nat.le_of_ble_eq_true rfl, rfl, by decide⟩ hb hl
set_option maxRecDepth 20000 in
theorem u_X7_open_57 (L : xL) (a : Int32) (st : List Value) (h : xH) : xf 66 57 L (.int a :: st) h = if a = 0 then xf 66 60 L st h else xf 66 70 L st h := xo_if_ne (t := 70) (by decide +kernel) rfl
set_option maxRecDepth 20000 in
theorem u_X7_open_60 (L : xL) (st : List Value) (h : xH) (hl : st.length ≤ 4) : xf 66 60 L st h = some (.inr 1, xdead h) := xo_throw (n := 63) (e := 1) (by decide +kernel) hl
set_option maxRecDepth 20000 in
theorem u_X7_open_70 (l1 l2 : Option Value) (x : Nat) (st : List Value) (h : xH) : xf 66 70 [some (.ref x), l1, l2] st h = xf 66 71 [some (.ref x), l1, l2] (.ref x :: st) h := xo_aload (k := 0) (by decide +kernel) rfl
set_option maxRecDepth 20000 in
theorem u_X7_open_71 (L : xL) (a : Nat) (st : List Value) (h : xH) (hc : (xob h a).1 = 7) : xf 66 71 L (.ref a :: st) h = xf 66 74 L ((xob h a).2.getD 1 .null :: st) h := xo_getf (r := 449) (by decide +kernel) (by decide) hc
set_option maxRecDepth 20000 in
theorem u_X7_open_74 (l1 l2 : Option Value) (x : Nat) (st : List Value) (h : xH) : xf 66 74 [some (.ref x), l1, l2] st h = xf 66 75 [some (.ref x), l1, l2] (.ref x :: st) h := xo_aload (k := 0) (by decide +kernel) rfl
set_option maxRecDepth 20000 in
theorem u_X7_open_75 (L : xL) (a : Nat) (st : List Value) (h : xH) (hc : (xob h a).1 = 7) : xf 66 75 L (.ref a :: st) h = xf 66 78 L ((xob h a).2.getD 0 .null :: st) h := xo_getf (r := 448) (by decide +kernel) (by decide) hc
set_option maxRecDepth 20000 in
theorem u_X7_open_78 (L : xL) (v0 : Nat) (b : Nat) (st : List Value) (h : xH) (hb : (xob h b).1 = 2) (hl : st.length ≤ 4) : xf 66 78 L (.ref v0 :: .ref b :: st) h = xgo 66 78 81 L st (xev 17 [.ref b, .ref v0] h) := xo_callV (as := [.ref v0]) (by decide +kernel) rfl ⟨(by decide +kernel : xna 17 = 1), Nat.le_of_ble_eq_true rfl, rfl, by decide⟩ hb hl
set_option maxRecDepth 20000 in
theorem u_X7_open_81 (l1 l2 : Option Value) (x : Nat) (st : List Value) (h : xH) : xf 66 81 [some (.ref x), l1, l2] st h = xf 66 82 [some (.ref x), l1, l2] (.ref x :: st) h := xo_aload (k := 0) (by decide +kernel) rfl
set_option maxRecDepth 20000 in
theorem u_X7_open_82 (L : xL) (a : Nat) (st : List Value) (h : xH) (hc : (xob h a).1 = 7) : xf 66 82 L (.ref a :: st) h = xf 66 85 L ((xob h a).2.getD 0 .null :: st) h := xo_getf (r := 448) (by decide +kernel) (by decide) hc
set_option maxRecDepth 20000 in
theorem u_X7_open_85 (l0 l2 : Option Value) (x : Int32) (st : List Value) (h : xH) : xf 66 85 [l0, some (.int x), l2] st h = xf 66 86 [l0, some (.int x), l2] (.int x :: st) h := xo_iload (k := 1) (by decide +kernel) rfl
set_option maxRecDepth 20000 in
theorem u_X7_open_86 (L : xL) (v0 : Int32) (b : Nat) (st : List Value) (h : xH) (hb : (xob h b).1 = 6) (hl : st.length ≤ 4) : xf 66 86 L (.int v0 :: .ref b :: st) h = xgo 66 86 89 L st (xev 57 [.ref b, .int v0] h) := xo_callV (as := [.int v0]) (by decide +kernel) rfl ⟨(by decide +kernel : xna 57 = 1), Nat.le_of_ble_eq_true rfl, rfl, by decide⟩ hb hl
set_option maxRecDepth 20000 in
theorem u_X7_open_89 (l1 l2 : Option Value) (x : Nat) (st : List Value) (h : xH) : xf 66 89 [some (.ref x), l1, l2] st h = xf 66 90 [some (.ref x), l1, l2] (.ref x :: st) h := xo_aload (k := 0) (by decide +kernel) rfl
set_option maxRecDepth 20000 in
theorem u_X7_open_90 (L : xL) (a : Nat) (st : List Value) (h : xH) (hc : (xob h a).1 = 7) : xf 66 90 L (.ref a :: st) h = xf 66 93 L ((xob h a).2.getD 0 .null :: st) h := xo_getf (r := 448) (by decide +kernel) (by decide) hc
set_option maxRecDepth 20000 in
theorem u_X7_open_93 (l0 l1 : Option Value) (x : Int32) (st : List Value) (h : xH) : xf 66 93 [l0, l1, some (.int x)] st h = xf 66 94 [l0, l1, some (.int x)] (.int x :: st) h := xo_iload (k := 2) (by decide +kernel) rfl
set_option maxRecDepth 20000 in
theorem u_X7_open_94 (L : xL) (v0 : Int32) (b : Nat) (st : List Value) (h : xH) (hb : (xob h b).1 = 6) (hl : st.length ≤ 4) : xf 66 94 L (.int v0 :: .ref b :: st) h = xgo 66 94 97 L st (xev 49 [.ref b, .int v0] h) := xo_callV (as := [.int v0]) (by decide +kernel) rfl ⟨(by decide +kernel : xna 49 = 1), Nat.le_of_ble_eq_true rfl, rfl, by decide⟩ hb hl
set_option maxRecDepth 20000 in
theorem u_X7_open_97 (L : xL) (a : Int32) (st : List Value) (h : xH) : xf 66 97 L (.int a :: st) h = if a = 0 then xf 66 100 L st h else xf 66 111 L st h := xo_if_ne (t := 111) (by decide +kernel) rfl
set_option maxRecDepth 20000 in
theorem u_X7_open_100 (l1 l2 : Option Value) (x : Nat) (st : List Value) (h : xH) : xf 66 100 [some (.ref x), l1, l2] st h = xf 66 101 [some (.ref x), l1, l2] (.ref x :: st) h := xo_aload (k := 0) (by decide +kernel) rfl
set_option maxRecDepth 20000 in
theorem u_X7_open_101 (L : xL) (a : Nat) (st : List Value) (h : xH) (hc : (xob h a).1 = 7) : xf 66 101 L (.ref a :: st) h = xf 66 104 L ((xob h a).2.getD 0 .null :: st) h := xo_getf (r := 448) (by decide +kernel) (by decide) hc
set_option maxRecDepth 20000 in
theorem u_X7_open_104 (L : xL) (a : Nat) (st : List Value) (h : xH) (hc : (xob h a).1 = 6) : xf 66 104 L (.ref a :: st) h = xf 66 107 L ((xob h a).2.getD 1 .null :: st) h := xo_getf (r := 385) (by decide +kernel) (by decide) hc
set_option maxRecDepth 20000 in
theorem u_X7_open_107 (l0 l1 : Option Value) (x : Int32) (st : List Value) (h : xH) : xf 66 107 [l0, l1, some (.int x)] st h = xf 66 108 [l0, l1, some (.int x)] (.int x :: st) h := xo_iload (k := 2) (by decide +kernel) rfl
set_option maxRecDepth 20000 in
theorem u_X7_open_108 (L : xL) (v0 : Int32) (b : Nat) (st : List Value) (h : xH) (hb : (xob h b).1 = 3) (hl : st.length ≤ 4) : xf 66 108 L (.int v0 :: .ref b :: st) h = xgo 66 108 111 L st (xev 24 [.ref b, .int v0] h) := xo_callV (as := [.int v0]) (by decide +kernel) rfl ⟨(by decide +kernel : xna 24 = 1), Nat.le_of_ble_eq_true rfl, rfl, by decide⟩ hb hl
set_option maxRecDepth 20000 in
theorem u_X7_open_111 (l0 l1 : Option Value) (x : Int32) (st : List Value) (h : xH) : xf 66 111 [l0, l1, some (.int x)] st h = xf 66 112 [l0, l1, some (.int x)] (.int x :: st) h := xo_iload (k := 2) (by decide +kernel) rfl
set_option maxRecDepth 20000 in
theorem u_X7_open_112 (L : xL) (x : Int32) (h : xH) : xf 66 112 L [.int x] h = some (.inl (some (.int x)), h) := xo_ireturn (n := 113) (by decide +kernel) rfl
set_option maxRecDepth 20000 in
theorem e_X7_open (v0 : Nat) (v1 : Int32) (h : xH) : xev 66 [.ref v0, .int v1] h = xf 66 0 [some (.ref v0), some (.int v1), none] [] h := rfl
set_option maxRecDepth 20000 in
theorem u_X7_name_0 (x : Nat) (st : List Value) (h : xH) : xf 67 0 [some (.ref x)] st h = xf 67 1 [some (.ref x)] (.ref x :: st) h := xo_aload (k := 0) (by decide +kernel) rfl
set_option maxRecDepth 20000 in
theorem u_X7_name_1 (L : xL) (a : Nat) (st : List Value) (h : xH) (hc : (xob h a).1 = 7) : xf 67 1 L (.ref a :: st) h = xf 67 4 L ((xob h a).2.getD 1 .null :: st) h := xo_getf (r := 449) (by decide +kernel) (by decide) hc
set_option maxRecDepth 20000 in
theorem u_X7_name_4 (x : Nat) (st : List Value) (h : xH) : xf 67 4 [some (.ref x)] st h = xf 67 5 [some (.ref x)] (.ref x :: st) h := xo_aload (k := 0) (by decide +kernel) rfl
set_option maxRecDepth 20000 in
theorem u_X7_name_5 (L : xL) (a : Nat) (st : List Value) (h : xH) (hc : (xob h a).1 = 7) : xf 67 5 L (.ref a :: st) h = xf 67 8 L ((xob h a).2.getD 0 .null :: st) h := xo_getf (r := 448) (by decide +kernel) (by decide) hc
set_option maxRecDepth 20000 in
theorem u_X7_name_8 (L : xL) (v0 : Nat) (b : Nat) (st : List Value) (h : xH) (hb : (xob h b).1 = 2) (hl : st.length ≤ 4) : xf 67 8 L (.ref v0 :: .ref b :: st) h = xgo 67 8 11 L st (xev 17 [.ref b, .ref v0] h) := xo_callV (as := [.ref v0]) (by decide +kernel) rfl ⟨(by decide +kernel : xna 17 = 1), Nat.le_of_ble_eq_true rfl, rfl, by decide⟩ hb hl
set_option maxRecDepth 20000 in
theorem u_X7_name_11 (x : Nat) (st : List Value) (h : xH) : xf 67 11 [some (.ref x)] st h = xf 67 12 [some (.ref x)] (.ref x :: st) h := xo_aload (k := 0) (by decide +kernel) rfl
set_option maxRecDepth 20000 in
theorem u_X7_name_12 (L : xL) (a : Nat) (st : List Value) (h : xH) (hc : (xob h a).1 = 7) : xf 67 12 L (.ref a :: st) h = xf 67 15 L ((xob h a).2.getD 3 .null :: st) h := xo_getf (r := 451) (by decide +kernel) (by decide) hc
set_option maxRecDepth 20000 in
theorem u_X7_name_15 (x : Nat) (st : List Value) (h : xH) : xf 67 15 [some (.ref x)] st h = xf 67 16 [some (.ref x)] (.ref x :: st) h := xo_aload (k := 0) (by decide +kernel) rfl
set_option maxRecDepth 20000 in
theorem u_X7_name_16 (L : xL) (a : Nat) (st : List Value) (h : xH) (hc : (xob h a).1 = 7) : xf 67 16 L (.ref a :: st) h = xf 67 19 L ((xob h a).2.getD 0 .null :: st) h := xo_getf (r := 448) (by decide +kernel) (by decide) hc
set_option maxRecDepth 20000 in
theorem u_X7_name_19 (L : xL) (v0 : Nat) (b : Nat) (st : List Value) (h : xH) (hb : (xob h b).1 = 4) (hl : st.length ≤ 4) : xf 67 19 L (.ref v0 :: .ref b :: st) h = xgo 67 19 22 L st (xev 29 [.ref b, .ref v0] h) := xo_callV (as := [.ref v0]) (by decide +kernel) rfl ⟨(by decide +kernel : xna 29 = 1), Nat.le_of_ble_eq_true rfl, rfl, by decide⟩ hb hl
set_option maxRecDepth 20000 in
theorem u_X7_name_22 (x : Nat) (st : List Value) (h : xH) : xf 67 22 [some (.ref x)] st h = xf 67 23 [some (.ref x)] (.ref x :: st) h := xo_aload (k := 0) (by decide +kernel) rfl
set_option maxRecDepth 20000 in
theorem u_X7_name_23 (L : xL) (a : Nat) (st : List Value) (h : xH) (hc : (xob h a).1 = 7) : xf 67 23 L (.ref a :: st) h = xf 67 26 L ((xob h a).2.getD 3 .null :: st) h := xo_getf (r := 451) (by decide +kernel) (by decide) hc
set_option maxRecDepth 20000 in
theorem u_X7_name_26 (x : Nat) (st : List Value) (h : xH) : xf 67 26 [some (.ref x)] st h = xf 67 27 [some (.ref x)] (.ref x :: st) h := xo_aload (k := 0) (by decide +kernel) rfl
set_option maxRecDepth 20000 in
theorem u_X7_name_27 (L : xL) (a : Nat) (st : List Value) (h : xH) (hc : (xob h a).1 = 7) : xf 67 27 L (.ref a :: st) h = xf 67 30 L ((xob h a).2.getD 0 .null :: st) h := xo_getf (r := 448) (by decide +kernel) (by decide) hc
set_option maxRecDepth 20000 in
theorem u_X7_name_30 (L : xL) (v0 : Nat) (b : Nat) (st : List Value) (h : xH) (hb : (xob h b).1 = 4) (hl : st.length ≤ 4) : xf 67 30 L (.ref v0 :: .ref b :: st) h = xgo 67 30 33 L st (xev 33 [.ref b, .ref v0] h) := xo_callV (as := [.ref v0]) (by decide +kernel) rfl ⟨(by decide +kernel : xna 33 = 1), Nat.le_of_ble_eq_true rfl, rfl, by decide⟩ hb hl
set_option maxRecDepth 20000 in
theorem u_X7_name_33 (x : Nat) (st : List Value) (h : xH) : xf 67 33 [some (.ref x)] st h = xf 67 34 [some (.ref x)] (.ref x :: st) h := xo_aload (k := 0) (by decide +kernel) rfl
set_option maxRecDepth 20000 in
theorem u_X7_name_34 (L : xL) (a : Nat) (st : List Value) (h : xH) (hc : (xob h a).1 = 7) : xf 67 34 L (.ref a :: st) h = xf 67 37 L ((xob h a).2.getD 3 .null :: st) h := xo_getf (r := 451) (by decide +kernel) (by decide) hc
set_option maxRecDepth 20000 in
theorem u_X7_name_37 (L : xL) (a : Nat) (st : List Value) (h : xH) (hc : (xob h a).1 = 4) : xf 67 37 L (.ref a :: st) h = xf 67 40 L ((xob h a).2.getD 5 .null :: st) h := xo_getf (r := 261) (by decide +kernel) (by decide) hc
set_option maxRecDepth 20000 in
theorem u_X7_name_40 (L : xL) (x : Int32) (h : xH) : xf 67 40 L [.int x] h = some (.inl (some (.int x)), h) := xo_ireturn (n := 41) (by decide +kernel) rfl
set_option maxRecDepth 20000 in
theorem e_X7_name (v0 : Nat) (h : xH) : xev 67 [.ref v0] h = xf 67 0 [some (.ref v0)] [] h := rfl
set_option maxRecDepth 20000 in
theorem u_X7_nameAll_0 (x : Nat) (st : List Value) (h : xH) : xf 68 0 [some (.ref x)] st h = xf 68 1 [some (.ref x)] (.ref x :: st) h := xo_aload (k := 0) (by decide +kernel) rfl
set_option maxRecDepth 20000 in
theorem u_X7_nameAll_1 (L : xL) (a : Nat) (st : List Value) (h : xH) (hc : (xob h a).1 = 7) : xf 68 1 L (.ref a :: st) h = xf 68 4 L ((xob h a).2.getD 1 .null :: st) h := xo_getf (r := 449) (by decide +kernel) (by decide) hc
set_option maxRecDepth 20000 in
theorem u_X7_nameAll_4 (x : Nat) (st : List Value) (h : xH) : xf 68 4 [some (.ref x)] st h = xf 68 5 [some (.ref x)] (.ref x :: st) h := xo_aload (k := 0) (by decide +kernel) rfl
set_option maxRecDepth 20000 in
theorem u_X7_nameAll_5 (L : xL) (a : Nat) (st : List Value) (h : xH) (hc : (xob h a).1 = 7) : xf 68 5 L (.ref a :: st) h = xf 68 8 L ((xob h a).2.getD 0 .null :: st) h := xo_getf (r := 448) (by decide +kernel) (by decide) hc
set_option maxRecDepth 20000 in
theorem u_X7_nameAll_8 (L : xL) (v0 : Nat) (b : Nat) (st : List Value) (h : xH) (hb : (xob h b).1 = 2) (hl : st.length ≤ 4) : xf 68 8 L (.ref v0 :: .ref b :: st) h = xgo 68 8 11 L st (xev 17 [.ref b, .ref v0] h) := xo_callV (as := [.ref v0]) (by decide +kernel) rfl ⟨(by decide +kernel : xna 17 = 1), Nat.le_of_ble_eq_true rfl, rfl, by decide⟩ hb hl
set_option maxRecDepth 20000 in
theorem u_X7_nameAll_11 (x : Nat) (st : List Value) (h : xH) : xf 68 11 [some (.ref x)] st h = xf 68 12 [some (.ref x)] (.ref x :: st) h := xo_aload (k := 0) (by decide +kernel) rfl
set_option maxRecDepth 20000 in
theorem u_X7_nameAll_12 (L : xL) (a : Nat) (st : List Value) (h : xH) (hc : (xob h a).1 = 7) : xf 68 12 L (.ref a :: st) h = xf 68 15 L ((xob h a).2.getD 3 .null :: st) h := xo_getf (r := 451) (by decide +kernel) (by decide) hc
set_option maxRecDepth 20000 in
theorem u_X7_nameAll_15 (x : Nat) (st : List Value) (h : xH) : xf 68 15 [some (.ref x)] st h = xf 68 16 [some (.ref x)] (.ref x :: st) h := xo_aload (k := 0) (by decide +kernel) rfl
set_option maxRecDepth 20000 in
theorem u_X7_nameAll_16 (L : xL) (a : Nat) (st : List Value) (h : xH) (hc : (xob h a).1 = 7) : xf 68 16 L (.ref a :: st) h = xf 68 19 L ((xob h a).2.getD 0 .null :: st) h := xo_getf (r := 448) (by decide +kernel) (by decide) hc
set_option maxRecDepth 20000 in
theorem u_X7_nameAll_19 (L : xL) (v0 : Nat) (b : Nat) (st : List Value) (h : xH) (hb : (xob h b).1 = 4) (hl : st.length ≤ 4) : xf 68 19 L (.ref v0 :: .ref b :: st) h = xgo 68 19 22 L st (xev 34 [.ref b, .ref v0] h) := xo_callV (as := [.ref v0]) (by decide +kernel) rfl ⟨(by decide +kernel : xna 34 = 1), Nat.le_of_ble_eq_true rfl, rfl, by decide⟩ hb hl
set_option maxRecDepth 20000 in
theorem u_X7_nameAll_22 (L : xL) (x : Int32) (h : xH) : xf 68 22 L [.int x] h = some (.inl (some (.int x)), h) := xo_ireturn (n := 23) (by decide +kernel) rfl
set_option maxRecDepth 20000 in
theorem e_X7_nameAll (v0 : Nat) (h : xH) : xev 68 [.ref v0] h = xf 68 0 [some (.ref v0)] [] h := rfl
set_option maxRecDepth 20000 in
theorem u_X7_letGo_0 (l1 l2 l3 : Option Value) (x : Nat) (st : List Value) (h : xH) : xf 69 0 [some (.ref x), l1, l2, l3] st h = xf 69 1 [some (.ref x), l1, l2, l3] (.ref x :: st) h := xo_aload (k := 0) (by decide +kernel) rfl
set_option maxRecDepth 20000 in
theorem u_X7_letGo_1 (L : xL) (a : Nat) (st : List Value) (h : xH) (hc : (xob h a).1 = 7) : xf 69 1 L (.ref a :: st) h = xf 69 4 L ((xob h a).2.getD 1 .null :: st) h := xo_getf (r := 449) (by decide +kernel) (by decide) hc
set_option maxRecDepth 20000 in
theorem u_X7_letGo_4 (l1 l2 l3 : Option Value) (x : Nat) (st : List Value) (h : xH) : xf 69 4 [some (.ref x), l1, l2, l3] st h = xf 69 5 [some (.ref x), l1, l2, l3] (.ref x :: st) h := xo_aload (k := 0) (by decide +kernel) rfl
set_option maxRecDepth 20000 in
theorem u_X7_letGo_5 (L : xL) (a : Nat) (st : List Value) (h : xH) (hc : (xob h a).1 = 7) : xf 69 5 L (.ref a :: st) h = xf 69 8 L ((xob h a).2.getD 0 .null :: st) h := xo_getf (r := 448) (by decide +kernel) (by decide) hc
set_option maxRecDepth 20000 in
theorem u_X7_letGo_8 (L : xL) (v0 : Nat) (b : Nat) (st : List Value) (h : xH) (hb : (xob h b).1 = 2) (hl : st.length ≤ 4) : xf 69 8 L (.ref v0 :: .ref b :: st) h = xgo 69 8 11 L st (xev 17 [.ref b, .ref v0] h) := xo_callV (as := [.ref v0]) (by decide +kernel) rfl ⟨(by decide +kernel : xna 17 = 1), Nat.le_of_ble_eq_true rfl, rfl, by decide⟩ hb hl
set_option maxRecDepth 20000 in
theorem u_X7_letGo_11 (l1 l2 l3 : Option Value) (x : Nat) (st : List Value) (h : xH) : xf 69 11 [some (.ref x), l1, l2, l3] st h = xf 69 12 [some (.ref x), l1, l2, l3] (.ref x :: st) h := xo_aload (k := 0) (by decide +kernel) rfl
set_option maxRecDepth 20000 in
theorem u_X7_letGo_12 (L : xL) (a : Nat) (st : List Value) (h : xH) (hc : (xob h a).1 = 7) : xf 69 12 L (.ref a :: st) h = xf 69 15 L ((xob h a).2.getD 0 .null :: st) h := xo_getf (r := 448) (by decide +kernel) (by decide) hc
set_option maxRecDepth 20000 in
theorem u_X7_letGo_15 (L : xL) (a : Nat) (st : List Value) (h : xH) (hc : (xob h a).1 = 6) : xf 69 15 L (.ref a :: st) h = xf 69 18 L ((xob h a).2.getD 4 .null :: st) h := xo_getf (r := 388) (by decide +kernel) (by decide) hc
set_option maxRecDepth 20000 in
theorem u_X7_letGo_18 (l0 l1 l2 l3 : Option Value) (x : Int32) (st : List Value) (h : xH) : xf 69 18 [l0, l1, l2, l3] (.int x :: st) h = xf 69 19 [xcat l0, some (.int x), l2, l3] st h := xo_istore (k := 1) (by decide +kernel) (Nat.le_of_ble_eq_true rfl) rfl
set_option maxRecDepth 20000 in
theorem u_X7_letGo_19 (L : xL) (st : List Value) (h : xH) : xf 69 19 L st h = xf 69 20 L (.int 0 :: st) h := xo_iconst (k := 0) (by decide +kernel) (by decide)
set_option maxRecDepth 20000 in
theorem u_X7_letGo_20 (l0 l1 l2 l3 : Option Value) (x : Int32) (st : List Value) (h : xH) : xf 69 20 [l0, l1, l2, l3] (.int x :: st) h = xf 69 21 [l0, xcat l1, some (.int x), l3] st h := xo_istore (k := 2) (by decide +kernel) (Nat.le_of_ble_eq_true rfl) rfl
set_option maxRecDepth 20000 in
theorem u_X7_letGo_21 (l0 l1 l3 : Option Value) (x : Int32) (st : List Value) (h : xH) : xf 69 21 [l0, l1, some (.int x), l3] st h = xf 69 22 [l0, l1, some (.int x), l3] (.int x :: st) h := xo_iload (k := 2) (by decide +kernel) rfl
set_option maxRecDepth 20000 in
theorem u_X7_letGo_22 (L : xL) (st : List Value) (h : xH) : xf 69 22 L st h = xf 69 24 L (.int 16 :: st) h := xo_iconst (k := 16) (by decide +kernel) (by decide)
set_option maxRecDepth 20000 in
theorem u_X7_letGo_24 (L : xL) (a b : Int32) (st : List Value) (h : xH) : xf 69 24 L (.int b :: .int a :: st) h = if a < b then xf 69 27 L st h else xf 69 57 L st h := xo_icmp_ge (t := 57) (by decide +kernel) rfl
set_option maxRecDepth 20000 in
theorem u_X7_letGo_27 (l1 l2 l3 : Option Value) (x : Nat) (st : List Value) (h : xH) : xf 69 27 [some (.ref x), l1, l2, l3] st h = xf 69 28 [some (.ref x), l1, l2, l3] (.ref x :: st) h := xo_aload (k := 0) (by decide +kernel) rfl
set_option maxRecDepth 20000 in
theorem u_X7_letGo_28 (L : xL) (a : Nat) (st : List Value) (h : xH) (hc : (xob h a).1 = 7) : xf 69 28 L (.ref a :: st) h = xf 69 31 L ((xob h a).2.getD 0 .null :: st) h := xo_getf (r := 448) (by decide +kernel) (by decide) hc
set_option maxRecDepth 20000 in
theorem u_X7_letGo_31 (L : xL) (b : Nat) (st : List Value) (h : xH) (hb : (xob h b).1 = 6) (hl : st.length ≤ 4) : xf 69 31 L (.ref b :: st) h = xgo 69 31 34 L st (xev 59 [.ref b] h) := xo_callV (as := []) (by decide +kernel) rfl ⟨(by decide +kernel : xna 59 = 0), Nat.le_of_ble_eq_true rfl, rfl, by decide⟩ hb hl
set_option maxRecDepth 20000 in
theorem u_X7_letGo_34 (l0 l1 l2 l3 : Option Value) (x : Int32) (st : List Value) (h : xH) : xf 69 34 [l0, l1, l2, l3] (.int x :: st) h = xf 69 35 [l0, l1, xcat l2, some (.int x)] st h := xo_istore (k := 3) (by decide +kernel) (Nat.le_of_ble_eq_true rfl) rfl
set_option maxRecDepth 20000 in
theorem u_X7_letGo_35 (l0 l1 l2 : Option Value) (x : Int32) (st : List Value) (h : xH) : xf 69 35 [l0, l1, l2, some (.int x)] st h = xf 69 36 [l0, l1, l2, some (.int x)] (.int x :: st) h := xo_iload (k := 3) (by decide +kernel) rfl
set_option maxRecDepth 20000 in
theorem u_X7_letGo_36 (L : xL) (st : List Value) (h : xH) : xf 69 36 L st h = xf 69 37 L (.int (-1) :: st) h := xo_iconst (k := (-1)) (by decide +kernel) (by decide)
set_option maxRecDepth 20000 in
theorem u_X7_letGo_37 (L : xL) (a b : Int32) (st : List Value) (h : xH) : xf 69 37 L (.int b :: .int a :: st) h = if a = b then xf 69 40 L st h else xf 69 43 L st h := xo_icmp_ne (t := 43) (by decide +kernel) rfl
set_option maxRecDepth 20000 in
theorem u_X7_letGo_40 (L : xL) (st : List Value) (h : xH) : xf 69 40 L st h = xf 69 57 L st h := xo_goto (n := 43) (t := 57) (by decide +kernel) rfl
set_option maxRecDepth 20000 in
theorem u_X7_letGo_43 (l1 l2 l3 : Option Value) (x : Nat) (st : List Value) (h : xH) : xf 69 43 [some (.ref x), l1, l2, l3] st h = xf 69 44 [some (.ref x), l1, l2, l3] (.ref x :: st) h := xo_aload (k := 0) (by decide +kernel) rfl
set_option maxRecDepth 20000 in
theorem u_X7_letGo_44 (L : xL) (a : Nat) (st : List Value) (h : xH) (hc : (xob h a).1 = 7) : xf 69 44 L (.ref a :: st) h = xf 69 47 L ((xob h a).2.getD 0 .null :: st) h := xo_getf (r := 448) (by decide +kernel) (by decide) hc
set_option maxRecDepth 20000 in
theorem u_X7_letGo_47 (l0 l1 l2 : Option Value) (x : Int32) (st : List Value) (h : xH) : xf 69 47 [l0, l1, l2, some (.int x)] st h = xf 69 48 [l0, l1, l2, some (.int x)] (.int x :: st) h := xo_iload (k := 3) (by decide +kernel) rfl
set_option maxRecDepth 20000 in
theorem u_X7_letGo_48 (L : xL) (v0 : Int32) (b : Nat) (st : List Value) (h : xH) (hb : (xob h b).1 = 6) (hl : st.length ≤ 4) : xf 69 48 L (.int v0 :: .ref b :: st) h = xgo 69 48 51 L st (xev 61 [.ref b, .int v0] h) := xo_callV (as := [.int v0]) (by decide +kernel) rfl ⟨(by decide +kernel : xna 61 = 1), Nat.le_of_ble_eq_true rfl, rfl, by decide⟩ hb hl
set_option maxRecDepth 20000 in
theorem u_X7_letGo_51 (l0 l1 l3 : Option Value) (x : Int32) (st : List Value) (h : xH) : xf 69 51 [l0, l1, some (.int x), l3] st h = xf 69 54 [l0, xcat l1, some (.int (x + 1)), l3] st h := xo_iinc (k := 2) (c := 1) (by decide +kernel) rfl (by decide) rfl
set_option maxRecDepth 20000 in
theorem u_X7_letGo_54 (L : xL) (st : List Value) (h : xH) : xf 69 54 L st h = xf 69 21 L st h := xo_goto (n := 57) (t := 21) (by decide +kernel) rfl
set_option maxRecDepth 20000 in
theorem u_X7_letGo_57 (l1 l2 l3 : Option Value) (x : Nat) (st : List Value) (h : xH) : xf 69 57 [some (.ref x), l1, l2, l3] st h = xf 69 58 [some (.ref x), l1, l2, l3] (.ref x :: st) h := xo_aload (k := 0) (by decide +kernel) rfl
set_option maxRecDepth 20000 in
theorem u_X7_letGo_58 (L : xL) (a : Nat) (st : List Value) (h : xH) (hc : (xob h a).1 = 7) : xf 69 58 L (.ref a :: st) h = xf 69 61 L ((xob h a).2.getD 0 .null :: st) h := xo_getf (r := 448) (by decide +kernel) (by decide) hc
set_option maxRecDepth 20000 in
theorem u_X7_letGo_61 (L : xL) (a : Nat) (st : List Value) (h : xH) (hc : (xob h a).1 = 6) : xf 69 61 L (.ref a :: st) h = xf 69 64 L ((xob h a).2.getD 4 .null :: st) h := xo_getf (r := 388) (by decide +kernel) (by decide) hc
set_option maxRecDepth 20000 in
theorem u_X7_letGo_64 (l0 l2 l3 : Option Value) (x : Int32) (st : List Value) (h : xH) : xf 69 64 [l0, some (.int x), l2, l3] st h = xf 69 65 [l0, some (.int x), l2, l3] (.int x :: st) h := xo_iload (k := 1) (by decide +kernel) rfl
set_option maxRecDepth 20000 in
theorem u_X7_letGo_65 (L : xL) (a b : Int32) (st : List Value) (h : xH) : xf 69 65 L (.int b :: .int a :: st) h = xf 69 66 L (.int (a - b) :: st) h := xo_isub (by decide +kernel)
set_option maxRecDepth 20000 in
theorem u_X7_letGo_66 (L : xL) (x : Int32) (h : xH) : xf 69 66 L [.int x] h = some (.inl (some (.int x)), h) := xo_ireturn (n := 67) (by decide +kernel) rfl
set_option maxRecDepth 20000 in
theorem e_X7_letGo (v0 : Nat) (h : xH) : xev 69 [.ref v0] h = xf 69 0 [some (.ref v0), none, none, none] [] h := rfl
set_option maxRecDepth 20000 in
theorem u_X7_openAll_0 (l1 l2 : Option Value) (x : Nat) (st : List Value) (h : xH) : xf 70 0 [some (.ref x), l1, l2] st h = xf 70 1 [some (.ref x), l1, l2] (.ref x :: st) h := xo_aload (k := 0) (by decide +kernel) rfl
set_option maxRecDepth 20000 in
theorem u_X7_openAll_1 (L : xL) (a : Nat) (st : List Value) (h : xH) (hc : (xob h a).1 = 7) : xf 70 1 L (.ref a :: st) h = xf 70 4 L ((xob h a).2.getD 0 .null :: st) h := xo_getf (r := 448) (by decide +kernel) (by decide) hc
set_option maxRecDepth 20000 in
theorem u_X7_openAll_4 (L : xL) (b : Nat) (st : List Value) (h : xH) (hb : (xob h b).1 = 6) (hl : st.length ≤ 4) : xf 70 4 L (.ref b :: st) h = xgo 70 4 7 L st (xev 51 [.ref b] h) := xo_callV (as := []) (by decide +kernel) rfl ⟨(by decide +kernel : xna 51 = 0), Nat.le_of_ble_eq_true rfl, rfl, by decide⟩ hb hl
set_option maxRecDepth 20000 in
theorem u_X7_openAll_7 (l0 l1 l2 : Option Value) (x : Int32) (st : List Value) (h : xH) : xf 70 7 [l0, l1, l2] (.int x :: st) h = xf 70 8 [xcat l0, some (.int x), l2] st h := xo_istore (k := 1) (by decide +kernel) (Nat.le_of_ble_eq_true rfl) rfl
set_option maxRecDepth 20000 in
theorem u_X7_openAll_8 (l0 l2 : Option Value) (x : Int32) (st : List Value) (h : xH) : xf 70 8 [l0, some (.int x), l2] st h = xf 70 9 [l0, some (.int x), l2] (.int x :: st) h := xo_iload (k := 1) (by decide +kernel) rfl
set_option maxRecDepth 20000 in
theorem u_X7_openAll_9 (L : xL) (st : List Value) (h : xH) : xf 70 9 L st h = xf 70 11 L (.int 64 :: st) h := xo_iconst (k := 64) (by decide +kernel) (by decide)
set_option maxRecDepth 20000 in
theorem u_X7_openAll_11 (L : xL) (a b : Int32) (st : List Value) (h : xH) : xf 70 11 L (.int b :: .int a :: st) h = if b < a then xf 70 14 L st h else xf 70 24 L st h := xo_icmp_le (t := 24) (by decide +kernel) rfl
set_option maxRecDepth 20000 in
theorem u_X7_openAll_14 (L : xL) (st : List Value) (h : xH) (hl : st.length ≤ 4) : xf 70 14 L st h = some (.inr 1, xdead h) := xo_throw (n := 17) (e := 1) (by decide +kernel) hl
set_option maxRecDepth 20000 in
theorem u_X7_openAll_24 (l1 l2 : Option Value) (x : Nat) (st : List Value) (h : xH) : xf 70 24 [some (.ref x), l1, l2] st h = xf 70 25 [some (.ref x), l1, l2] (.ref x :: st) h := xo_aload (k := 0) (by decide +kernel) rfl
set_option maxRecDepth 20000 in
theorem u_X7_openAll_25 (L : xL) (a : Nat) (st : List Value) (h : xH) (hc : (xob h a).1 = 7) : xf 70 25 L (.ref a :: st) h = xf 70 28 L ((xob h a).2.getD 1 .null :: st) h := xo_getf (r := 449) (by decide +kernel) (by decide) hc
set_option maxRecDepth 20000 in
theorem u_X7_openAll_28 (l1 l2 : Option Value) (x : Nat) (st : List Value) (h : xH) : xf 70 28 [some (.ref x), l1, l2] st h = xf 70 29 [some (.ref x), l1, l2] (.ref x :: st) h := xo_aload (k := 0) (by decide +kernel) rfl
set_option maxRecDepth 20000 in
theorem u_X7_openAll_29 (L : xL) (a : Nat) (st : List Value) (h : xH) (hc : (xob h a).1 = 7) : xf 70 29 L (.ref a :: st) h = xf 70 32 L ((xob h a).2.getD 0 .null :: st) h := xo_getf (r := 448) (by decide +kernel) (by decide) hc
set_option maxRecDepth 20000 in
theorem u_X7_openAll_32 (L : xL) (v0 : Nat) (b : Nat) (st : List Value) (h : xH) (hb : (xob h b).1 = 2) (hl : st.length ≤ 4) : xf 70 32 L (.ref v0 :: .ref b :: st) h = xgo 70 32 35 L st (xev 17 [.ref b, .ref v0] h) := xo_callV (as := [.ref v0]) (by decide +kernel) rfl ⟨(by decide +kernel : xna 17 = 1), Nat.le_of_ble_eq_true rfl, rfl, by decide⟩ hb hl
set_option maxRecDepth 20000 in
theorem u_X7_openAll_35 (l1 l2 : Option Value) (x : Nat) (st : List Value) (h : xH) : xf 70 35 [some (.ref x), l1, l2] st h = xf 70 36 [some (.ref x), l1, l2] (.ref x :: st) h := xo_aload (k := 0) (by decide +kernel) rfl
set_option maxRecDepth 20000 in
theorem u_X7_openAll_36 (L : xL) (a : Nat) (st : List Value) (h : xH) (hc : (xob h a).1 = 7) : xf 70 36 L (.ref a :: st) h = xf 70 39 L ((xob h a).2.getD 4 .null :: st) h := xo_getf (r := 452) (by decide +kernel) (by decide) hc
set_option maxRecDepth 20000 in
theorem u_X7_openAll_39 (l1 l2 : Option Value) (x : Nat) (st : List Value) (h : xH) : xf 70 39 [some (.ref x), l1, l2] st h = xf 70 40 [some (.ref x), l1, l2] (.ref x :: st) h := xo_aload (k := 0) (by decide +kernel) rfl
set_option maxRecDepth 20000 in
theorem u_X7_openAll_40 (L : xL) (a : Nat) (st : List Value) (h : xH) (hc : (xob h a).1 = 7) : xf 70 40 L (.ref a :: st) h = xf 70 43 L ((xob h a).2.getD 0 .null :: st) h := xo_getf (r := 448) (by decide +kernel) (by decide) hc
set_option maxRecDepth 20000 in
theorem u_X7_openAll_43 (L : xL) (v0 : Nat) (b : Nat) (st : List Value) (h : xH) (hb : (xob h b).1 = 6) (hl : st.length ≤ 4) : xf 70 43 L (.ref v0 :: .ref b :: st) h = xgo 70 43 46 L st (xev 48 [.ref b, .ref v0] h) := xo_callV (as := [.ref v0]) (by decide +kernel) rfl ⟨(by decide +kernel : xna 48 = 1), Nat.le_of_ble_eq_true rfl, rfl, by decide⟩ hb hl
set_option maxRecDepth 20000 in
theorem u_X7_openAll_46 (l1 l2 : Option Value) (x : Nat) (st : List Value) (h : xH) : xf 70 46 [some (.ref x), l1, l2] st h = xf 70 47 [some (.ref x), l1, l2] (.ref x :: st) h := xo_aload (k := 0) (by decide +kernel) rfl
set_option maxRecDepth 20000 in
theorem u_X7_openAll_47 (L : xL) (a : Nat) (st : List Value) (h : xH) (hc : (xob h a).1 = 7) : xf 70 47 L (.ref a :: st) h = xf 70 50 L ((xob h a).2.getD 0 .null :: st) h := xo_getf (r := 448) (by decide +kernel) (by decide) hc
set_option maxRecDepth 20000 in
theorem u_X7_openAll_50 (L : xL) (a : Nat) (st : List Value) (h : xH) (hc : (xob h a).1 = 6) : xf 70 50 L (.ref a :: st) h = xf 70 53 L ((xob h a).2.getD 0 .null :: st) h := xo_getf (r := 384) (by decide +kernel) (by decide) hc
set_option maxRecDepth 20000 in
theorem u_X7_openAll_53 (L : xL) (st : List Value) (h : xH) : xf 70 53 L st h = xf 70 54 L (.int 0 :: st) h := xo_iconst (k := 0) (by decide +kernel) (by decide)
set_option maxRecDepth 20000 in
theorem u_X7_openAll_54 (L : xL) (v0 : Int32) (b : Nat) (st : List Value) (h : xH) (hb : (xob h b).1 = 5) (hl : st.length ≤ 4) : xf 70 54 L (.int v0 :: .ref b :: st) h = xgo 70 54 57 L st (xev 39 [.ref b, .int v0] h) := xo_callV (as := [.int v0]) (by decide +kernel) rfl ⟨(by decide +kernel : xna 39 = 1), Nat.le_of_ble_eq_true rfl, rfl, by decide⟩ hb hl
set_option maxRecDepth 20000 in
theorem u_X7_openAll_57 (L : xL) (st : List Value) (h : xH) : xf 70 57 L st h = xf 70 58 L (.int 0 :: st) h := xo_iconst (k := 0) (by decide +kernel) (by decide)
set_option maxRecDepth 20000 in
theorem u_X7_openAll_58 (l0 l1 l2 : Option Value) (x : Int32) (st : List Value) (h : xH) : xf 70 58 [l0, l1, l2] (.int x :: st) h = xf 70 59 [l0, xcat l1, some (.int x)] st h := xo_istore (k := 2) (by decide +kernel) (Nat.le_of_ble_eq_true rfl) rfl
set_option maxRecDepth 20000 in
theorem u_X7_openAll_59 (l0 l1 : Option Value) (x : Int32) (st : List Value) (h : xH) : xf 70 59 [l0, l1, some (.int x)] st h = xf 70 60 [l0, l1, some (.int x)] (.int x :: st) h := xo_iload (k := 2) (by decide +kernel) rfl
set_option maxRecDepth 20000 in
theorem u_X7_openAll_60 (l0 l2 : Option Value) (x : Int32) (st : List Value) (h : xH) : xf 70 60 [l0, some (.int x), l2] st h = xf 70 61 [l0, some (.int x), l2] (.int x :: st) h := xo_iload (k := 1) (by decide +kernel) rfl
set_option maxRecDepth 20000 in
theorem u_X7_openAll_61 (L : xL) (a b : Int32) (st : List Value) (h : xH) : xf 70 61 L (.int b :: .int a :: st) h = if a < b then xf 70 64 L st h else xf 70 88 L st h := xo_icmp_ge (t := 88) (by decide +kernel) rfl
set_option maxRecDepth 20000 in
theorem u_X7_openAll_64 (l1 l2 : Option Value) (x : Nat) (st : List Value) (h : xH) : xf 70 64 [some (.ref x), l1, l2] st h = xf 70 65 [some (.ref x), l1, l2] (.ref x :: st) h := xo_aload (k := 0) (by decide +kernel) rfl
set_option maxRecDepth 20000 in
theorem u_X7_openAll_65 (L : xL) (a : Nat) (st : List Value) (h : xH) (hc : (xob h a).1 = 7) : xf 70 65 L (.ref a :: st) h = xf 70 68 L ((xob h a).2.getD 0 .null :: st) h := xo_getf (r := 448) (by decide +kernel) (by decide) hc
set_option maxRecDepth 20000 in
theorem u_X7_openAll_68 (L : xL) (a : Nat) (st : List Value) (h : xH) (hc : (xob h a).1 = 6) : xf 70 68 L (.ref a :: st) h = xf 70 71 L ((xob h a).2.getD 0 .null :: st) h := xo_getf (r := 384) (by decide +kernel) (by decide) hc
set_option maxRecDepth 20000 in
theorem u_X7_openAll_71 (l1 l2 : Option Value) (x : Nat) (st : List Value) (h : xH) : xf 70 71 [some (.ref x), l1, l2] st h = xf 70 72 [some (.ref x), l1, l2] (.ref x :: st) h := xo_aload (k := 0) (by decide +kernel) rfl
set_option maxRecDepth 20000 in
theorem u_X7_openAll_72 (L : xL) (a : Nat) (st : List Value) (h : xH) (hc : (xob h a).1 = 7) : xf 70 72 L (.ref a :: st) h = xf 70 75 L ((xob h a).2.getD 4 .null :: st) h := xo_getf (r := 452) (by decide +kernel) (by decide) hc
set_option maxRecDepth 20000 in
theorem u_X7_openAll_75 (l0 l1 : Option Value) (x : Int32) (st : List Value) (h : xH) : xf 70 75 [l0, l1, some (.int x)] st h = xf 70 76 [l0, l1, some (.int x)] (.int x :: st) h := xo_iload (k := 2) (by decide +kernel) rfl
set_option maxRecDepth 20000 in
theorem u_X7_openAll_76 (L : xL) (v0 : Int32) (b : Nat) (st : List Value) (h : xH) (hb : (xob h b).1 = 6) (hl : st.length ≤ 4) : xf 70 76 L (.int v0 :: .ref b :: st) h = xgo 70 76 79 L st (xev 53 [.ref b, .int v0] h) := xo_callV (as := [.int v0]) (by decide +kernel) rfl ⟨(by decide +kernel : xna 53 = 1), Nat.le_of_ble_eq_true rfl, rfl, by decide⟩ hb hl
set_option maxRecDepth 20000 in
theorem u_X7_openAll_79 (L : xL) (v0 : Int32) (b : Nat) (st : List Value) (h : xH) (hb : (xob h b).1 = 5) (hl : st.length ≤ 4) : xf 70 79 L (.int v0 :: .ref b :: st) h = xgo 70 79 82 L st (xev 38 [.ref b, .int v0] h) := xo_callV (as := [.int v0]) (by decide +kernel) rfl ⟨(by decide +kernel : xna 38 = 1), Nat.le_of_ble_eq_true rfl, rfl, by decide⟩ hb hl
set_option maxRecDepth 20000 in
theorem u_X7_openAll_82 (l0 l1 : Option Value) (x : Int32) (st : List Value) (h : xH) : xf 70 82 [l0, l1, some (.int x)] st h = xf 70 85 [l0, xcat l1, some (.int (x + 1))] st h := xo_iinc (k := 2) (c := 1) (by decide +kernel) rfl (by decide) rfl
set_option maxRecDepth 20000 in
theorem u_X7_openAll_85 (L : xL) (st : List Value) (h : xH) : xf 70 85 L st h = xf 70 59 L st h := xo_goto (n := 88) (t := 59) (by decide +kernel) rfl
set_option maxRecDepth 20000 in
theorem u_X7_openAll_88 (l1 l2 : Option Value) (x : Nat) (st : List Value) (h : xH) : xf 70 88 [some (.ref x), l1, l2] st h = xf 70 89 [some (.ref x), l1, l2] (.ref x :: st) h := xo_aload (k := 0) (by decide +kernel) rfl
set_option maxRecDepth 20000 in
theorem u_X7_openAll_89 (L : xL) (a : Nat) (st : List Value) (h : xH) (hc : (xob h a).1 = 7) : xf 70 89 L (.ref a :: st) h = xf 70 92 L ((xob h a).2.getD 0 .null :: st) h := xo_getf (r := 448) (by decide +kernel) (by decide) hc
set_option maxRecDepth 20000 in
theorem u_X7_openAll_92 (L : xL) (b : Nat) (st : List Value) (h : xH) (hb : (xob h b).1 = 6) (hl : st.length ≤ 4) : xf 70 92 L (.ref b :: st) h = xgo 70 92 95 L st (xev 58 [.ref b] h) := xo_callV (as := []) (by decide +kernel) rfl ⟨(by decide +kernel : xna 58 = 0), Nat.le_of_ble_eq_true rfl, rfl, by decide⟩ hb hl
set_option maxRecDepth 20000 in
theorem u_X7_openAll_95 (l1 l2 : Option Value) (x : Nat) (st : List Value) (h : xH) : xf 70 95 [some (.ref x), l1, l2] st h = xf 70 96 [some (.ref x), l1, l2] (.ref x :: st) h := xo_aload (k := 0) (by decide +kernel) rfl
set_option maxRecDepth 20000 in
theorem u_X7_openAll_96 (L : xL) (a : Nat) (st : List Value) (h : xH) (hc : (xob h a).1 = 7) : xf 70 96 L (.ref a :: st) h = xf 70 99 L ((xob h a).2.getD 0 .null :: st) h := xo_getf (r := 448) (by decide +kernel) (by decide) hc
set_option maxRecDepth 20000 in
theorem u_X7_openAll_99 (L : xL) (a : Nat) (st : List Value) (h : xH) (hc : (xob h a).1 = 6) : xf 70 99 L (.ref a :: st) h = xf 70 102 L ((xob h a).2.getD 0 .null :: st) h := xo_getf (r := 384) (by decide +kernel) (by decide) hc
set_option maxRecDepth 20000 in
theorem u_X7_openAll_102 (L : xL) (a : Nat) (st : List Value) (h : xH) (hc : (xob h a).1 = 5) : xf 70 102 L (.ref a :: st) h = xf 70 105 L ((xob h a).2.getD 1 .null :: st) h := xo_getf (r := 321) (by decide +kernel) (by decide) hc
set_option maxRecDepth 20000 in
theorem u_X7_openAll_105 (L : xL) (x : Int32) (h : xH) : xf 70 105 L [.int x] h = some (.inl (some (.int x)), h) := xo_ireturn (n := 106) (by decide +kernel) rfl
set_option maxRecDepth 20000 in
theorem e_X7_openAll (v0 : Nat) (h : xH) : xev 70 [.ref v0] h = xf 70 0 [some (.ref v0), none, none] [] h := rfl
set_option maxRecDepth 20000 in
theorem u_X7_set_0 (l0 l2 l3 : Option Value) (x : Int32) (st : List Value) (h : xH) : xf 71 0 [l0, some (.int x), l2, l3] st h = xf 71 1 [l0, some (.int x), l2, l3] (.int x :: st) h := xo_iload (k := 1) (by decide +kernel) rfl
set_option maxRecDepth 20000 in
theorem u_X7_set_1 (L : xL) (v0 : Int32) (st : List Value) (h : xH) (hl : st.length ≤ 4) : xf 71 1 L (.int v0 :: st) h = xgo 71 1 4 L st (xev 85 [.int v0] h) := xo_callS (as := [.int v0]) (by decide +kernel) rfl ⟨(by decide +kernel : xna 85 = 1), Nat.le_of_ble_eq_true rfl, by decide⟩ hl
set_option maxRecDepth 20000 in
theorem u_X7_set_4 (L : xL) (a : Int32) (st : List Value) (h : xH) : xf 71 4 L (.int a :: st) h = if a = 0 then xf 71 7 L st h else xf 71 17 L st h := xo_if_ne (t := 17) (by decide +kernel) rfl
set_option maxRecDepth 20000 in
theorem u_X7_set_7 (L : xL) (st : List Value) (h : xH) (hl : st.length ≤ 4) : xf 71 7 L st h = some (.inr 2, xdead h) := xo_throw (n := 10) (e := 2) (by decide +kernel) hl
set_option maxRecDepth 20000 in
theorem u_X7_set_17 (l0 l1 l3 : Option Value) (x : Int32) (st : List Value) (h : xH) : xf 71 17 [l0, l1, some (.int x), l3] st h = xf 71 18 [l0, l1, some (.int x), l3] (.int x :: st) h := xo_iload (k := 2) (by decide +kernel) rfl
set_option maxRecDepth 20000 in
theorem u_X7_set_18 (l0 l2 l3 : Option Value) (x : Int32) (st : List Value) (h : xH) : xf 71 18 [l0, some (.int x), l2, l3] st h = xf 71 19 [l0, some (.int x), l2, l3] (.int x :: st) h := xo_iload (k := 1) (by decide +kernel) rfl
set_option maxRecDepth 20000 in
theorem u_X7_set_19 (L : xL) (v0 : Int32) (st : List Value) (h : xH) (hl : st.length ≤ 4) : xf 71 19 L (.int v0 :: st) h = xgo 71 19 22 L st (xev 86 [.int v0] h) := xo_callS (as := [.int v0]) (by decide +kernel) rfl ⟨(by decide +kernel : xna 86 = 1), Nat.le_of_ble_eq_true rfl, by decide⟩ hl
set_option maxRecDepth 20000 in
theorem u_X7_set_22 (L : xL) (a b : Int32) (st : List Value) (h : xH) : xf 71 22 L (.int b :: .int a :: st) h = if a < b then xf 71 31 L st h else xf 71 25 L st h := xo_icmp_lt (t := 31) (by decide +kernel) rfl
set_option maxRecDepth 20000 in
theorem u_X7_set_25 (l0 l1 l3 : Option Value) (x : Int32) (st : List Value) (h : xH) : xf 71 25 [l0, l1, some (.int x), l3] st h = xf 71 26 [l0, l1, some (.int x), l3] (.int x :: st) h := xo_iload (k := 2) (by decide +kernel) rfl
set_option maxRecDepth 20000 in
theorem u_X7_set_26 (L : xL) (st : List Value) (h : xH) : xf 71 26 L st h = xf 71 28 L (.int 9 :: st) h := xo_iconst (k := 9) (by decide +kernel) (by decide)
set_option maxRecDepth 20000 in
theorem u_X7_set_28 (L : xL) (a b : Int32) (st : List Value) (h : xH) : xf 71 28 L (.int b :: .int a :: st) h = if b < a then xf 71 31 L st h else xf 71 41 L st h := xo_icmp_le (t := 41) (by decide +kernel) rfl
set_option maxRecDepth 20000 in
theorem u_X7_set_31 (L : xL) (st : List Value) (h : xH) (hl : st.length ≤ 4) : xf 71 31 L st h = some (.inr 0, xdead h) := xo_throw (n := 34) (e := 0) (by decide +kernel) hl
set_option maxRecDepth 20000 in
theorem u_X7_set_41 (l1 l2 l3 : Option Value) (x : Nat) (st : List Value) (h : xH) : xf 71 41 [some (.ref x), l1, l2, l3] st h = xf 71 42 [some (.ref x), l1, l2, l3] (.ref x :: st) h := xo_aload (k := 0) (by decide +kernel) rfl
set_option maxRecDepth 20000 in
theorem u_X7_set_42 (L : xL) (a : Nat) (st : List Value) (h : xH) (hc : (xob h a).1 = 7) : xf 71 42 L (.ref a :: st) h = xf 71 45 L ((xob h a).2.getD 1 .null :: st) h := xo_getf (r := 449) (by decide +kernel) (by decide) hc
set_option maxRecDepth 20000 in
theorem u_X7_set_45 (l1 l2 l3 : Option Value) (x : Nat) (st : List Value) (h : xH) : xf 71 45 [some (.ref x), l1, l2, l3] st h = xf 71 46 [some (.ref x), l1, l2, l3] (.ref x :: st) h := xo_aload (k := 0) (by decide +kernel) rfl
set_option maxRecDepth 20000 in
theorem u_X7_set_46 (L : xL) (a : Nat) (st : List Value) (h : xH) (hc : (xob h a).1 = 7) : xf 71 46 L (.ref a :: st) h = xf 71 49 L ((xob h a).2.getD 0 .null :: st) h := xo_getf (r := 448) (by decide +kernel) (by decide) hc
set_option maxRecDepth 20000 in
theorem u_X7_set_49 (L : xL) (v0 : Nat) (b : Nat) (st : List Value) (h : xH) (hb : (xob h b).1 = 2) (hl : st.length ≤ 4) : xf 71 49 L (.ref v0 :: .ref b :: st) h = xgo 71 49 52 L st (xev 17 [.ref b, .ref v0] h) := xo_callV (as := [.ref v0]) (by decide +kernel) rfl ⟨(by decide +kernel : xna 17 = 1), Nat.le_of_ble_eq_true rfl, rfl, by decide⟩ hb hl
set_option maxRecDepth 20000 in
theorem u_X7_set_52 (l1 l2 l3 : Option Value) (x : Nat) (st : List Value) (h : xH) : xf 71 52 [some (.ref x), l1, l2, l3] st h = xf 71 53 [some (.ref x), l1, l2, l3] (.ref x :: st) h := xo_aload (k := 0) (by decide +kernel) rfl
set_option maxRecDepth 20000 in
theorem u_X7_set_53 (L : xL) (a : Nat) (st : List Value) (h : xH) (hc : (xob h a).1 = 7) : xf 71 53 L (.ref a :: st) h = xf 71 56 L ((xob h a).2.getD 0 .null :: st) h := xo_getf (r := 448) (by decide +kernel) (by decide) hc
set_option maxRecDepth 20000 in
theorem u_X7_set_56 (L : xL) (a : Nat) (st : List Value) (h : xH) (hc : (xob h a).1 = 6) : xf 71 56 L (.ref a :: st) h = xf 71 59 L ((xob h a).2.getD 2 .null :: st) h := xo_getf (r := 386) (by decide +kernel) (by decide) hc
set_option maxRecDepth 20000 in
theorem u_X7_set_59 (l0 l2 l3 : Option Value) (x : Int32) (st : List Value) (h : xH) : xf 71 59 [l0, some (.int x), l2, l3] st h = xf 71 60 [l0, some (.int x), l2, l3] (.int x :: st) h := xo_iload (k := 1) (by decide +kernel) rfl
set_option maxRecDepth 20000 in
theorem u_X7_set_60 (L : xL) (v0 : Int32) (b : Nat) (st : List Value) (h : xH) (hb : (xob h b).1 = 1) (hl : st.length ≤ 4) : xf 71 60 L (.int v0 :: .ref b :: st) h = xgo 71 60 63 L st (xev 12 [.ref b, .int v0] h) := xo_callV (as := [.int v0]) (by decide +kernel) rfl ⟨(by decide +kernel : xna 12 = 1), Nat.le_of_ble_eq_true rfl, rfl, by decide⟩ hb hl
set_option maxRecDepth 20000 in
theorem u_X7_set_63 (l0 l1 l2 l3 : Option Value) (x : Int32) (st : List Value) (h : xH) : xf 71 63 [l0, l1, l2, l3] (.int x :: st) h = xf 71 64 [l0, l1, xcat l2, some (.int x)] st h := xo_istore (k := 3) (by decide +kernel) (Nat.le_of_ble_eq_true rfl) rfl
set_option maxRecDepth 20000 in
theorem u_X7_set_64 (l1 l2 l3 : Option Value) (x : Nat) (st : List Value) (h : xH) : xf 71 64 [some (.ref x), l1, l2, l3] st h = xf 71 65 [some (.ref x), l1, l2, l3] (.ref x :: st) h := xo_aload (k := 0) (by decide +kernel) rfl
set_option maxRecDepth 20000 in
theorem u_X7_set_65 (L : xL) (a : Nat) (st : List Value) (h : xH) (hc : (xob h a).1 = 7) : xf 71 65 L (.ref a :: st) h = xf 71 68 L ((xob h a).2.getD 0 .null :: st) h := xo_getf (r := 448) (by decide +kernel) (by decide) hc
set_option maxRecDepth 20000 in
theorem u_X7_set_68 (L : xL) (a : Nat) (st : List Value) (h : xH) (hc : (xob h a).1 = 6) : xf 71 68 L (.ref a :: st) h = xf 71 71 L ((xob h a).2.getD 2 .null :: st) h := xo_getf (r := 386) (by decide +kernel) (by decide) hc
set_option maxRecDepth 20000 in
theorem u_X7_set_71 (l0 l2 l3 : Option Value) (x : Int32) (st : List Value) (h : xH) : xf 71 71 [l0, some (.int x), l2, l3] st h = xf 71 72 [l0, some (.int x), l2, l3] (.int x :: st) h := xo_iload (k := 1) (by decide +kernel) rfl
set_option maxRecDepth 20000 in
theorem u_X7_set_72 (l0 l1 l3 : Option Value) (x : Int32) (st : List Value) (h : xH) : xf 71 72 [l0, l1, some (.int x), l3] st h = xf 71 73 [l0, l1, some (.int x), l3] (.int x :: st) h := xo_iload (k := 2) (by decide +kernel) rfl
set_option maxRecDepth 20000 in
theorem u_X7_set_73 (L : xL) (v0 : Int32) (v1 : Int32) (b : Nat) (st : List Value) (h : xH) (hb : (xob h b).1 = 1) (hl : st.length ≤ 4) : xf 71 73 L (.int v1 :: .int v0 :: .ref b :: st) h = xgo 71 73 76 L st (xev 13 [.ref b, .int v0, .int v1] h) := xo_callV (as := [.int v0, .int v1]) (by decide +kernel) rfl ⟨(by decide +kernel : xna 13 = 2), Nat.le_of_ble_eq_true rfl, rfl, by decide⟩ hb hl
set_option maxRecDepth 20000 in
theorem u_X7_set_76 (l0 l1 l2 : Option Value) (x : Int32) (st : List Value) (h : xH) : xf 71 76 [l0, l1, l2, some (.int x)] st h = xf 71 77 [l0, l1, l2, some (.int x)] (.int x :: st) h := xo_iload (k := 3) (by decide +kernel) rfl
set_option maxRecDepth 20000 in
theorem u_X7_set_77 (L : xL) (x : Int32) (h : xH) : xf 71 77 L [.int x] h = some (.inl (some (.int x)), h) := xo_ireturn (n := 78) (by decide +kernel) rfl
set_option maxRecDepth 20000 in
theorem e_X7_set (v0 : Nat) (v1 : Int32) (v2 : Int32) (h : xH) : xev 71 [.ref v0, .int v1, .int v2] h = xf 71 0 [some (.ref v0), some (.int v1), some (.int v2), none] [] h := rfl
set_option maxRecDepth 20000 in
theorem u_X7_append_0 (l0 : Option Value) (x : Int32) (st : List Value) (h : xH) : xf 72 0 [l0, some (.int x)] st h = xf 72 1 [l0, some (.int x)] (.int x :: st) h := xo_iload (k := 1) (by decide +kernel) rfl
set_option maxRecDepth 20000 in
theorem u_X7_append_1 (L : xL) (st : List Value) (h : xH) : xf 72 1 L st h = xf 72 3 L (.int 33 :: st) h := xo_iconst (k := 33) (by decide +kernel) (by decide)
set_option maxRecDepth 20000 in
theorem u_X7_append_3 (L : xL) (a b : Int32) (st : List Value) (h : xH) : xf 72 3 L (.int b :: .int a :: st) h = if a < b then xf 72 12 L st h else xf 72 6 L st h := xo_icmp_lt (t := 12) (by decide +kernel) rfl
set_option maxRecDepth 20000 in
theorem u_X7_append_6 (l0 : Option Value) (x : Int32) (st : List Value) (h : xH) : xf 72 6 [l0, some (.int x)] st h = xf 72 7 [l0, some (.int x)] (.int x :: st) h := xo_iload (k := 1) (by decide +kernel) rfl
set_option maxRecDepth 20000 in
theorem u_X7_append_7 (L : xL) (st : List Value) (h : xH) : xf 72 7 L st h = xf 72 9 L (.int 126 :: st) h := xo_iconst (k := 126) (by decide +kernel) (by decide)
set_option maxRecDepth 20000 in
theorem u_X7_append_9 (L : xL) (a b : Int32) (st : List Value) (h : xH) : xf 72 9 L (.int b :: .int a :: st) h = if b < a then xf 72 12 L st h else xf 72 22 L st h := xo_icmp_le (t := 22) (by decide +kernel) rfl
set_option maxRecDepth 20000 in
theorem u_X7_append_12 (L : xL) (st : List Value) (h : xH) (hl : st.length ≤ 4) : xf 72 12 L st h = some (.inr 0, xdead h) := xo_throw (n := 15) (e := 0) (by decide +kernel) hl
set_option maxRecDepth 20000 in
theorem u_X7_append_22 (l1 : Option Value) (x : Nat) (st : List Value) (h : xH) : xf 72 22 [some (.ref x), l1] st h = xf 72 23 [some (.ref x), l1] (.ref x :: st) h := xo_aload (k := 0) (by decide +kernel) rfl
set_option maxRecDepth 20000 in
theorem u_X7_append_23 (L : xL) (a : Nat) (st : List Value) (h : xH) (hc : (xob h a).1 = 7) : xf 72 23 L (.ref a :: st) h = xf 72 26 L ((xob h a).2.getD 2 .null :: st) h := xo_getf (r := 450) (by decide +kernel) (by decide) hc
set_option maxRecDepth 20000 in
theorem u_X7_append_26 (L : xL) (a : Nat) (st : List Value) (h : xH) (hc : (xob h a).1 = 0) : xf 72 26 L (.ref a :: st) h = xf 72 29 L ((xob h a).2.getD 1 .null :: st) h := xo_getf (r := 1) (by decide +kernel) (by decide) hc
set_option maxRecDepth 20000 in
theorem u_X7_append_29 (L : xL) (st : List Value) (h : xH) : xf 72 29 L st h = xf 72 31 L (.int 60 :: st) h := xo_iconst (k := 60) (by decide +kernel) (by decide)
set_option maxRecDepth 20000 in
theorem u_X7_append_31 (L : xL) (a b : Int32) (st : List Value) (h : xH) : xf 72 31 L (.int b :: .int a :: st) h = if a < b then xf 72 44 L st h else xf 72 34 L st h := xo_icmp_lt (t := 44) (by decide +kernel) rfl
set_option maxRecDepth 20000 in
theorem u_X7_append_34 (L : xL) (st : List Value) (h : xH) (hl : st.length ≤ 4) : xf 72 34 L st h = some (.inr 1, xdead h) := xo_throw (n := 37) (e := 1) (by decide +kernel) hl
set_option maxRecDepth 20000 in
theorem u_X7_append_44 (l1 : Option Value) (x : Nat) (st : List Value) (h : xH) : xf 72 44 [some (.ref x), l1] st h = xf 72 45 [some (.ref x), l1] (.ref x :: st) h := xo_aload (k := 0) (by decide +kernel) rfl
set_option maxRecDepth 20000 in
theorem u_X7_append_45 (L : xL) (a : Nat) (st : List Value) (h : xH) (hc : (xob h a).1 = 7) : xf 72 45 L (.ref a :: st) h = xf 72 48 L ((xob h a).2.getD 2 .null :: st) h := xo_getf (r := 450) (by decide +kernel) (by decide) hc
set_option maxRecDepth 20000 in
theorem u_X7_append_48 (l0 : Option Value) (x : Int32) (st : List Value) (h : xH) : xf 72 48 [l0, some (.int x)] st h = xf 72 49 [l0, some (.int x)] (.int x :: st) h := xo_iload (k := 1) (by decide +kernel) rfl
set_option maxRecDepth 20000 in
theorem u_X7_append_49 (L : xL) (v0 : Int32) (b : Nat) (st : List Value) (h : xH) (hb : (xob h b).1 = 0) (hl : st.length ≤ 4) : xf 72 49 L (.int v0 :: .ref b :: st) h = xgo 72 49 52 L st (xev 2 [.ref b, .int v0] h) := xo_callV (as := [.int v0]) (by decide +kernel) rfl ⟨(by decide +kernel : xna 2 = 1), Nat.le_of_ble_eq_true rfl, rfl, by decide⟩ hb hl
set_option maxRecDepth 20000 in
theorem u_X7_append_52 (l1 : Option Value) (x : Nat) (st : List Value) (h : xH) : xf 72 52 [some (.ref x), l1] st h = xf 72 53 [some (.ref x), l1] (.ref x :: st) h := xo_aload (k := 0) (by decide +kernel) rfl
set_option maxRecDepth 20000 in
theorem u_X7_append_53 (L : xL) (a : Nat) (st : List Value) (h : xH) (hc : (xob h a).1 = 7) : xf 72 53 L (.ref a :: st) h = xf 72 56 L ((xob h a).2.getD 2 .null :: st) h := xo_getf (r := 450) (by decide +kernel) (by decide) hc
set_option maxRecDepth 20000 in
theorem u_X7_append_56 (L : xL) (a : Nat) (st : List Value) (h : xH) (hc : (xob h a).1 = 0) : xf 72 56 L (.ref a :: st) h = xf 72 59 L ((xob h a).2.getD 1 .null :: st) h := xo_getf (r := 1) (by decide +kernel) (by decide) hc
set_option maxRecDepth 20000 in
theorem u_X7_append_59 (L : xL) (x : Int32) (h : xH) : xf 72 59 L [.int x] h = some (.inl (some (.int x)), h) := xo_ireturn (n := 60) (by decide +kernel) rfl
set_option maxRecDepth 20000 in
theorem e_X7_append (v0 : Nat) (v1 : Int32) (h : xH) : xev 72 [.ref v0, .int v1] h = xf 72 0 [some (.ref v0), some (.int v1)] [] h := rfl
set_option maxRecDepth 20000 in
theorem u_X7_clearBuffer_0 (l1 : Option Value) (x : Nat) (st : List Value) (h : xH) : xf 73 0 [some (.ref x), l1] st h = xf 73 1 [some (.ref x), l1] (.ref x :: st) h := xo_aload (k := 0) (by decide +kernel) rfl
set_option maxRecDepth 20000 in
theorem u_X7_clearBuffer_1 (L : xL) (a : Nat) (st : List Value) (h : xH) (hc : (xob h a).1 = 7) : xf 73 1 L (.ref a :: st) h = xf 73 4 L ((xob h a).2.getD 2 .null :: st) h := xo_getf (r := 450) (by decide +kernel) (by decide) hc
set_option maxRecDepth 20000 in
theorem u_X7_clearBuffer_4 (L : xL) (a : Nat) (st : List Value) (h : xH) (hc : (xob h a).1 = 0) : xf 73 4 L (.ref a :: st) h = xf 73 7 L ((xob h a).2.getD 1 .null :: st) h := xo_getf (r := 1) (by decide +kernel) (by decide) hc
set_option maxRecDepth 20000 in
theorem u_X7_clearBuffer_7 (l0 l1 : Option Value) (x : Int32) (st : List Value) (h : xH) : xf 73 7 [l0, l1] (.int x :: st) h = xf 73 8 [xcat l0, some (.int x)] st h := xo_istore (k := 1) (by decide +kernel) (Nat.le_of_ble_eq_true rfl) rfl
set_option maxRecDepth 20000 in
theorem u_X7_clearBuffer_8 (l1 : Option Value) (x : Nat) (st : List Value) (h : xH) : xf 73 8 [some (.ref x), l1] st h = xf 73 9 [some (.ref x), l1] (.ref x :: st) h := xo_aload (k := 0) (by decide +kernel) rfl
set_option maxRecDepth 20000 in
theorem u_X7_clearBuffer_9 (L : xL) (a : Nat) (st : List Value) (h : xH) (hc : (xob h a).1 = 7) : xf 73 9 L (.ref a :: st) h = xf 73 12 L ((xob h a).2.getD 2 .null :: st) h := xo_getf (r := 450) (by decide +kernel) (by decide) hc
set_option maxRecDepth 20000 in
theorem u_X7_clearBuffer_12 (L : xL) (b : Nat) (st : List Value) (h : xH) (hb : (xob h b).1 = 0) (hl : st.length ≤ 4) : xf 73 12 L (.ref b :: st) h = xgo 73 12 15 L st (xev 3 [.ref b] h) := xo_callV (as := []) (by decide +kernel) rfl ⟨(by decide +kernel : xna 3 = 0), Nat.le_of_ble_eq_true rfl, rfl, by decide⟩ hb hl
set_option maxRecDepth 20000 in
theorem u_X7_clearBuffer_15 (l0 : Option Value) (x : Int32) (st : List Value) (h : xH) : xf 73 15 [l0, some (.int x)] st h = xf 73 16 [l0, some (.int x)] (.int x :: st) h := xo_iload (k := 1) (by decide +kernel) rfl
set_option maxRecDepth 20000 in
theorem u_X7_clearBuffer_16 (L : xL) (x : Int32) (h : xH) : xf 73 16 L [.int x] h = some (.inl (some (.int x)), h) := xo_ireturn (n := 17) (by decide +kernel) rfl
set_option maxRecDepth 20000 in
theorem e_X7_clearBuffer (v0 : Nat) (h : xH) : xev 73 [.ref v0] h = xf 73 0 [some (.ref v0), none] [] h := rfl
set_option maxRecDepth 20000 in
theorem u_X7_undo_0 (x : Nat) (st : List Value) (h : xH) : xf 74 0 [some (.ref x)] st h = xf 74 1 [some (.ref x)] (.ref x :: st) h := xo_aload (k := 0) (by decide +kernel) rfl
set_option maxRecDepth 20000 in
theorem u_X7_undo_1 (L : xL) (a : Nat) (st : List Value) (h : xH) (hc : (xob h a).1 = 7) : xf 74 1 L (.ref a :: st) h = xf 74 4 L ((xob h a).2.getD 1 .null :: st) h := xo_getf (r := 449) (by decide +kernel) (by decide) hc
set_option maxRecDepth 20000 in
theorem u_X7_undo_4 (L : xL) (a : Nat) (st : List Value) (h : xH) (hc : (xob h a).1 = 2) : xf 74 4 L (.ref a :: st) h = xf 74 7 L ((xob h a).2.getD 1 .null :: st) h := xo_getf (r := 129) (by decide +kernel) (by decide) hc
set_option maxRecDepth 20000 in
theorem u_X7_undo_7 (L : xL) (a : Int32) (st : List Value) (h : xH) : xf 74 7 L (.int a :: st) h = if a = 0 then xf 74 10 L st h else xf 74 20 L st h := xo_if_ne (t := 20) (by decide +kernel) rfl
set_option maxRecDepth 20000 in
theorem u_X7_undo_10 (L : xL) (st : List Value) (h : xH) (hl : st.length ≤ 4) : xf 74 10 L st h = some (.inr 1, xdead h) := xo_throw (n := 13) (e := 1) (by decide +kernel) hl
set_option maxRecDepth 20000 in
theorem u_X7_undo_20 (x : Nat) (st : List Value) (h : xH) : xf 74 20 [some (.ref x)] st h = xf 74 21 [some (.ref x)] (.ref x :: st) h := xo_aload (k := 0) (by decide +kernel) rfl
set_option maxRecDepth 20000 in
theorem u_X7_undo_21 (L : xL) (a : Nat) (st : List Value) (h : xH) (hc : (xob h a).1 = 7) : xf 74 21 L (.ref a :: st) h = xf 74 24 L ((xob h a).2.getD 1 .null :: st) h := xo_getf (r := 449) (by decide +kernel) (by decide) hc
set_option maxRecDepth 20000 in
theorem u_X7_undo_24 (x : Nat) (st : List Value) (h : xH) : xf 74 24 [some (.ref x)] st h = xf 74 25 [some (.ref x)] (.ref x :: st) h := xo_aload (k := 0) (by decide +kernel) rfl
set_option maxRecDepth 20000 in
theorem u_X7_undo_25 (L : xL) (a : Nat) (st : List Value) (h : xH) (hc : (xob h a).1 = 7) : xf 74 25 L (.ref a :: st) h = xf 74 28 L ((xob h a).2.getD 0 .null :: st) h := xo_getf (r := 448) (by decide +kernel) (by decide) hc
set_option maxRecDepth 20000 in
theorem u_X7_undo_28 (L : xL) (v0 : Nat) (b : Nat) (st : List Value) (h : xH) (hb : (xob h b).1 = 2) (hl : st.length ≤ 4) : xf 74 28 L (.ref v0 :: .ref b :: st) h = xgo 74 28 31 L st (xev 18 [.ref b, .ref v0] h) := xo_callV (as := [.ref v0]) (by decide +kernel) rfl ⟨(by decide +kernel : xna 18 = 1), Nat.le_of_ble_eq_true rfl, rfl, by decide⟩ hb hl
set_option maxRecDepth 20000 in
theorem u_X7_undo_31 (x : Nat) (st : List Value) (h : xH) : xf 74 31 [some (.ref x)] st h = xf 74 32 [some (.ref x)] (.ref x :: st) h := xo_aload (k := 0) (by decide +kernel) rfl
set_option maxRecDepth 20000 in
theorem u_X7_undo_32 (L : xL) (a : Nat) (st : List Value) (h : xH) (hc : (xob h a).1 = 7) : xf 74 32 L (.ref a :: st) h = xf 74 35 L ((xob h a).2.getD 1 .null :: st) h := xo_getf (r := 449) (by decide +kernel) (by decide) hc
set_option maxRecDepth 20000 in
theorem u_X7_undo_35 (L : xL) (a : Nat) (st : List Value) (h : xH) (hc : (xob h a).1 = 2) : xf 74 35 L (.ref a :: st) h = xf 74 38 L ((xob h a).2.getD 1 .null :: st) h := xo_getf (r := 129) (by decide +kernel) (by decide) hc
set_option maxRecDepth 20000 in
theorem u_X7_undo_38 (L : xL) (x : Int32) (h : xH) : xf 74 38 L [.int x] h = some (.inl (some (.int x)), h) := xo_ireturn (n := 39) (by decide +kernel) rfl
set_option maxRecDepth 20000 in
theorem e_X7_undo (v0 : Nat) (h : xH) : xev 74 [.ref v0] h = xf 74 0 [some (.ref v0)] [] h := rfl
set_option maxRecDepth 20000 in
theorem u_X7_part_0 (l0 : Option Value) (x : Int32) (st : List Value) (h : xH) : xf 75 0 [l0, some (.int x)] st h = xf 75 1 [l0, some (.int x)] (.int x :: st) h := xo_iload (k := 1) (by decide +kernel) rfl
set_option maxRecDepth 20000 in
theorem u_X7_part_1 (L : xL) (a : Int32) (st : List Value) (h : xH) : xf 75 1 L (.int a :: st) h = if a < 0 then xf 75 4 L st h else xf 75 14 L st h := xo_if_ge (t := 14) (by decide +kernel) rfl
set_option maxRecDepth 20000 in
theorem u_X7_part_4 (L : xL) (st : List Value) (h : xH) (hl : st.length ≤ 4) : xf 75 4 L st h = some (.inr 0, xdead h) := xo_throw (n := 7) (e := 0) (by decide +kernel) hl
set_option maxRecDepth 20000 in
theorem u_X7_part_14 (l1 : Option Value) (x : Nat) (st : List Value) (h : xH) : xf 75 14 [some (.ref x), l1] st h = xf 75 15 [some (.ref x), l1] (.ref x :: st) h := xo_aload (k := 0) (by decide +kernel) rfl
set_option maxRecDepth 20000 in
theorem u_X7_part_15 (L : xL) (a : Nat) (st : List Value) (h : xH) (hc : (xob h a).1 = 7) : xf 75 15 L (.ref a :: st) h = xf 75 18 L ((xob h a).2.getD 0 .null :: st) h := xo_getf (r := 448) (by decide +kernel) (by decide) hc
set_option maxRecDepth 20000 in
theorem u_X7_part_18 (L : xL) (a : Nat) (st : List Value) (h : xH) (hc : (xob h a).1 = 6) : xf 75 18 L (.ref a :: st) h = xf 75 21 L ((xob h a).2.getD 0 .null :: st) h := xo_getf (r := 384) (by decide +kernel) (by decide) hc
set_option maxRecDepth 20000 in
theorem u_X7_part_21 (l0 : Option Value) (x : Int32) (st : List Value) (h : xH) : xf 75 21 [l0, some (.int x)] st h = xf 75 22 [l0, some (.int x)] (.int x :: st) h := xo_iload (k := 1) (by decide +kernel) rfl
set_option maxRecDepth 20000 in
theorem u_X7_part_22 (L : xL) (v0 : Int32) (b : Nat) (st : List Value) (h : xH) (hb : (xob h b).1 = 5) (hl : st.length ≤ 4) : xf 75 22 L (.int v0 :: .ref b :: st) h = xgo 75 22 25 L st (xev 36 [.ref b, .int v0] h) := xo_callV (as := [.int v0]) (by decide +kernel) rfl ⟨(by decide +kernel : xna 36 = 1), Nat.le_of_ble_eq_true rfl, rfl, by decide⟩ hb hl
set_option maxRecDepth 20000 in
theorem u_X7_part_25 (L : xL) (x : Int32) (h : xH) : xf 75 25 L [.int x] h = some (.inl (some (.int x)), h) := xo_ireturn (n := 26) (by decide +kernel) rfl
set_option maxRecDepth 20000 in
theorem e_X7_part (v0 : Nat) (v1 : Int32) (h : xH) : xev 75 [.ref v0, .int v1] h = xf 75 0 [some (.ref v0), some (.int v1)] [] h := rfl
set_option maxRecDepth 20000 in
theorem u_X7_sign_0 (l0 : Option Value) (x : Int32) (st : List Value) (h : xH) : xf 76 0 [l0, some (.int x)] st h = xf 76 1 [l0, some (.int x)] (.int x :: st) h := xo_iload (k := 1) (by decide +kernel) rfl
set_option maxRecDepth 20000 in
theorem u_X7_sign_1 (L : xL) (a : Int32) (st : List Value) (h : xH) : xf 76 1 L (.int a :: st) h = if a < 0 then xf 76 4 L st h else xf 76 14 L st h := xo_if_ge (t := 14) (by decide +kernel) rfl
set_option maxRecDepth 20000 in
theorem u_X7_sign_4 (L : xL) (st : List Value) (h : xH) (hl : st.length ≤ 4) : xf 76 4 L st h = some (.inr 0, xdead h) := xo_throw (n := 7) (e := 0) (by decide +kernel) hl
set_option maxRecDepth 20000 in
theorem u_X7_sign_14 (l1 : Option Value) (x : Nat) (st : List Value) (h : xH) : xf 76 14 [some (.ref x), l1] st h = xf 76 15 [some (.ref x), l1] (.ref x :: st) h := xo_aload (k := 0) (by decide +kernel) rfl
set_option maxRecDepth 20000 in
theorem u_X7_sign_15 (L : xL) (a : Nat) (st : List Value) (h : xH) (hc : (xob h a).1 = 7) : xf 76 15 L (.ref a :: st) h = xf 76 18 L ((xob h a).2.getD 0 .null :: st) h := xo_getf (r := 448) (by decide +kernel) (by decide) hc
set_option maxRecDepth 20000 in
theorem u_X7_sign_18 (l0 : Option Value) (x : Int32) (st : List Value) (h : xH) : xf 76 18 [l0, some (.int x)] st h = xf 76 19 [l0, some (.int x)] (.int x :: st) h := xo_iload (k := 1) (by decide +kernel) rfl
set_option maxRecDepth 20000 in
theorem u_X7_sign_19 (L : xL) (v0 : Int32) (b : Nat) (st : List Value) (h : xH) (hb : (xob h b).1 = 6) (hl : st.length ≤ 4) : xf 76 19 L (.int v0 :: .ref b :: st) h = xgo 76 19 22 L st (xev 53 [.ref b, .int v0] h) := xo_callV (as := [.int v0]) (by decide +kernel) rfl ⟨(by decide +kernel : xna 53 = 1), Nat.le_of_ble_eq_true rfl, rfl, by decide⟩ hb hl
set_option maxRecDepth 20000 in
theorem u_X7_sign_22 (L : xL) (x : Int32) (h : xH) : xf 76 22 L [.int x] h = some (.inl (some (.int x)), h) := xo_ireturn (n := 23) (by decide +kernel) rfl
set_option maxRecDepth 20000 in
theorem e_X7_sign (v0 : Nat) (v1 : Int32) (h : xH) : xev 76 [.ref v0, .int v1] h = xf 76 0 [some (.ref v0), some (.int v1)] [] h := rfl
set_option maxRecDepth 20000 in
theorem u_X7_about_0 (l1 l2 : Option Value) (x : Nat) (st : List Value) (h : xH) : xf 77 0 [some (.ref x), l1, l2] st h = xf 77 1 [some (.ref x), l1, l2] (.ref x :: st) h := xo_aload (k := 0) (by decide +kernel) rfl
set_option maxRecDepth 20000 in
theorem u_X7_about_1 (L : xL) (a : Nat) (st : List Value) (h : xH) (hc : (xob h a).1 = 7) : xf 77 1 L (.ref a :: st) h = xf 77 4 L ((xob h a).2.getD 0 .null :: st) h := xo_getf (r := 448) (by decide +kernel) (by decide) hc
set_option maxRecDepth 20000 in
theorem u_X7_about_4 (L : xL) (a : Nat) (st : List Value) (h : xH) (hc : (xob h a).1 = 6) : xf 77 4 L (.ref a :: st) h = xf 77 7 L ((xob h a).2.getD 1 .null :: st) h := xo_getf (r := 385) (by decide +kernel) (by decide) hc
set_option maxRecDepth 20000 in
theorem u_X7_about_7 (l0 l2 : Option Value) (x : Int32) (st : List Value) (h : xH) : xf 77 7 [l0, some (.int x), l2] st h = xf 77 8 [l0, some (.int x), l2] (.int x :: st) h := xo_iload (k := 1) (by decide +kernel) rfl
set_option maxRecDepth 20000 in
theorem u_X7_about_8 (L : xL) (v0 : Int32) (b : Nat) (st : List Value) (h : xH) (hb : (xob h b).1 = 3) (hl : st.length ≤ 4) : xf 77 8 L (.int v0 :: .ref b :: st) h = xgo 77 8 11 L st (xev 21 [.ref b, .int v0] h) := xo_callV (as := [.int v0]) (by decide +kernel) rfl ⟨(by decide +kernel : xna 21 = 1), Nat.le_of_ble_eq_true rfl, rfl, by decide⟩ hb hl
set_option maxRecDepth 20000 in
theorem u_X7_about_11 (L : xL) (a : Int32) (st : List Value) (h : xH) : xf 77 11 L (.int a :: st) h = if a = 0 then xf 77 14 L st h else xf 77 24 L st h := xo_if_ne (t := 24) (by decide +kernel) rfl
set_option maxRecDepth 20000 in
theorem u_X7_about_14 (L : xL) (st : List Value) (h : xH) (hl : st.length ≤ 4) : xf 77 14 L st h = some (.inr 2, xdead h) := xo_throw (n := 17) (e := 2) (by decide +kernel) hl
set_option maxRecDepth 20000 in
theorem u_X7_about_24 (l0 l1 : Option Value) (x : Int32) (st : List Value) (h : xH) : xf 77 24 [l0, l1, some (.int x)] st h = xf 77 25 [l0, l1, some (.int x)] (.int x :: st) h := xo_iload (k := 2) (by decide +kernel) rfl
set_option maxRecDepth 20000 in
theorem u_X7_about_25 (L : xL) (a : Int32) (st : List Value) (h : xH) : xf 77 25 L (.int a :: st) h = if a < 0 then xf 77 34 L st h else xf 77 28 L st h := xo_if_lt (t := 34) (by decide +kernel) rfl
set_option maxRecDepth 20000 in
theorem u_X7_about_28 (l0 l1 : Option Value) (x : Int32) (st : List Value) (h : xH) : xf 77 28 [l0, l1, some (.int x)] st h = xf 77 29 [l0, l1, some (.int x)] (.int x :: st) h := xo_iload (k := 2) (by decide +kernel) rfl
set_option maxRecDepth 20000 in
theorem u_X7_about_29 (L : xL) (st : List Value) (h : xH) : xf 77 29 L st h = xf 77 31 L (.int 7 :: st) h := xo_iconst (k := 7) (by decide +kernel) (by decide)
set_option maxRecDepth 20000 in
theorem u_X7_about_31 (L : xL) (a b : Int32) (st : List Value) (h : xH) : xf 77 31 L (.int b :: .int a :: st) h = if b < a then xf 77 34 L st h else xf 77 44 L st h := xo_icmp_le (t := 44) (by decide +kernel) rfl
set_option maxRecDepth 20000 in
theorem u_X7_about_34 (L : xL) (st : List Value) (h : xH) (hl : st.length ≤ 4) : xf 77 34 L st h = some (.inr 0, xdead h) := xo_throw (n := 37) (e := 0) (by decide +kernel) hl
set_option maxRecDepth 20000 in
theorem u_X7_about_44 (l1 l2 : Option Value) (x : Nat) (st : List Value) (h : xH) : xf 77 44 [some (.ref x), l1, l2] st h = xf 77 45 [some (.ref x), l1, l2] (.ref x :: st) h := xo_aload (k := 0) (by decide +kernel) rfl
set_option maxRecDepth 20000 in
theorem u_X7_about_45 (L : xL) (a : Nat) (st : List Value) (h : xH) (hc : (xob h a).1 = 7) : xf 77 45 L (.ref a :: st) h = xf 77 48 L ((xob h a).2.getD 0 .null :: st) h := xo_getf (r := 448) (by decide +kernel) (by decide) hc
set_option maxRecDepth 20000 in
theorem u_X7_about_48 (l0 l2 : Option Value) (x : Int32) (st : List Value) (h : xH) : xf 77 48 [l0, some (.int x), l2] st h = xf 77 49 [l0, some (.int x), l2] (.int x :: st) h := xo_iload (k := 1) (by decide +kernel) rfl
set_option maxRecDepth 20000 in
theorem u_X7_about_49 (l0 l1 : Option Value) (x : Int32) (st : List Value) (h : xH) : xf 77 49 [l0, l1, some (.int x)] st h = xf 77 50 [l0, l1, some (.int x)] (.int x :: st) h := xo_iload (k := 2) (by decide +kernel) rfl
set_option maxRecDepth 20000 in
theorem u_X7_about_50 (L : xL) (v0 : Int32) (v1 : Int32) (b : Nat) (st : List Value) (h : xH) (hb : (xob h b).1 = 6) (hl : st.length ≤ 4) : xf 77 50 L (.int v1 :: .int v0 :: .ref b :: st) h = xgo 77 50 53 L st (xev 55 [.ref b, .int v0, .int v1] h) := xo_callV (as := [.int v0, .int v1]) (by decide +kernel) rfl ⟨(by decide +kernel : xna 55 = 2), Nat.le_of_ble_eq_true rfl, rfl, by decide⟩ hb hl
set_option maxRecDepth 20000 in
theorem u_X7_about_53 (L : xL) (x : Int32) (h : xH) : xf 77 53 L [.int x] h = some (.inl (some (.int x)), h) := xo_ireturn (n := 54) (by decide +kernel) rfl
set_option maxRecDepth 20000 in
theorem e_X7_about (v0 : Nat) (v1 : Int32) (v2 : Int32) (h : xH) : xev 77 [.ref v0, .int v1, .int v2] h = xf 77 0 [some (.ref v0), some (.int v1), some (.int v2)] [] h := rfl
set_option maxRecDepth 20000 in
theorem u_X7_pair_0 (l1 l2 : Option Value) (x : Nat) (st : List Value) (h : xH) : xf 78 0 [some (.ref x), l1, l2] st h = xf 78 1 [some (.ref x), l1, l2] (.ref x :: st) h := xo_aload (k := 0) (by decide +kernel) rfl
set_option maxRecDepth 20000 in
theorem u_X7_pair_1 (L : xL) (a : Nat) (st : List Value) (h : xH) (hc : (xob h a).1 = 7) : xf 78 1 L (.ref a :: st) h = xf 78 4 L ((xob h a).2.getD 0 .null :: st) h := xo_getf (r := 448) (by decide +kernel) (by decide) hc
set_option maxRecDepth 20000 in
theorem u_X7_pair_4 (L : xL) (a : Nat) (st : List Value) (h : xH) (hc : (xob h a).1 = 6) : xf 78 4 L (.ref a :: st) h = xf 78 7 L ((xob h a).2.getD 1 .null :: st) h := xo_getf (r := 385) (by decide +kernel) (by decide) hc
set_option maxRecDepth 20000 in
theorem u_X7_pair_7 (l0 l2 : Option Value) (x : Int32) (st : List Value) (h : xH) : xf 78 7 [l0, some (.int x), l2] st h = xf 78 8 [l0, some (.int x), l2] (.int x :: st) h := xo_iload (k := 1) (by decide +kernel) rfl
set_option maxRecDepth 20000 in
theorem u_X7_pair_8 (L : xL) (v0 : Int32) (b : Nat) (st : List Value) (h : xH) (hb : (xob h b).1 = 3) (hl : st.length ≤ 4) : xf 78 8 L (.int v0 :: .ref b :: st) h = xgo 78 8 11 L st (xev 21 [.ref b, .int v0] h) := xo_callV (as := [.int v0]) (by decide +kernel) rfl ⟨(by decide +kernel : xna 21 = 1), Nat.le_of_ble_eq_true rfl, rfl, by decide⟩ hb hl
set_option maxRecDepth 20000 in
theorem u_X7_pair_11 (L : xL) (a : Int32) (st : List Value) (h : xH) : xf 78 11 L (.int a :: st) h = if a = 0 then xf 78 28 L st h else xf 78 14 L st h := xo_if_eq (t := 28) (by decide +kernel) rfl
set_option maxRecDepth 20000 in
theorem u_X7_pair_14 (l1 l2 : Option Value) (x : Nat) (st : List Value) (h : xH) : xf 78 14 [some (.ref x), l1, l2] st h = xf 78 15 [some (.ref x), l1, l2] (.ref x :: st) h := xo_aload (k := 0) (by decide +kernel) rfl
set_option maxRecDepth 20000 in
theorem u_X7_pair_15 (L : xL) (a : Nat) (st : List Value) (h : xH) (hc : (xob h a).1 = 7) : xf 78 15 L (.ref a :: st) h = xf 78 18 L ((xob h a).2.getD 0 .null :: st) h := xo_getf (r := 448) (by decide +kernel) (by decide) hc
set_option maxRecDepth 20000 in
theorem u_X7_pair_18 (L : xL) (a : Nat) (st : List Value) (h : xH) (hc : (xob h a).1 = 6) : xf 78 18 L (.ref a :: st) h = xf 78 21 L ((xob h a).2.getD 1 .null :: st) h := xo_getf (r := 385) (by decide +kernel) (by decide) hc
set_option maxRecDepth 20000 in
theorem u_X7_pair_21 (l0 l1 : Option Value) (x : Int32) (st : List Value) (h : xH) : xf 78 21 [l0, l1, some (.int x)] st h = xf 78 22 [l0, l1, some (.int x)] (.int x :: st) h := xo_iload (k := 2) (by decide +kernel) rfl
set_option maxRecDepth 20000 in
theorem u_X7_pair_22 (L : xL) (v0 : Int32) (b : Nat) (st : List Value) (h : xH) (hb : (xob h b).1 = 3) (hl : st.length ≤ 4) : xf 78 22 L (.int v0 :: .ref b :: st) h = xgo 78 22 25 L st (xev 21 [.ref b, .int v0] h) := xo_callV (as := [.int v0]) (by decide +kernel) rfl ⟨(by decide +kernel : xna 21 = 1), Nat.le_of_ble_eq_true rfl, rfl, by decide⟩ hb hl
set_option maxRecDepth 20000 in
theorem u_X7_pair_25 (L : xL) (a : Int32) (st : List Value) (h : xH) : xf 78 25 L (.int a :: st) h = if a = 0 then xf 78 28 L st h else xf 78 38 L st h := xo_if_ne (t := 38) (by decide +kernel) rfl
set_option maxRecDepth 20000 in
theorem u_X7_pair_28 (L : xL) (st : List Value) (h : xH) (hl : st.length ≤ 4) : xf 78 28 L st h = some (.inr 2, xdead h) := xo_throw (n := 31) (e := 2) (by decide +kernel) hl
set_option maxRecDepth 20000 in
theorem u_X7_pair_38 (l1 l2 : Option Value) (x : Nat) (st : List Value) (h : xH) : xf 78 38 [some (.ref x), l1, l2] st h = xf 78 39 [some (.ref x), l1, l2] (.ref x :: st) h := xo_aload (k := 0) (by decide +kernel) rfl
set_option maxRecDepth 20000 in
theorem u_X7_pair_39 (L : xL) (a : Nat) (st : List Value) (h : xH) (hc : (xob h a).1 = 7) : xf 78 39 L (.ref a :: st) h = xf 78 42 L ((xob h a).2.getD 0 .null :: st) h := xo_getf (r := 448) (by decide +kernel) (by decide) hc
set_option maxRecDepth 20000 in
theorem u_X7_pair_42 (L : xL) (a : Nat) (st : List Value) (h : xH) (hc : (xob h a).1 = 6) : xf 78 42 L (.ref a :: st) h = xf 78 45 L ((xob h a).2.getD 0 .null :: st) h := xo_getf (r := 384) (by decide +kernel) (by decide) hc
set_option maxRecDepth 20000 in
theorem u_X7_pair_45 (l0 l2 : Option Value) (x : Int32) (st : List Value) (h : xH) : xf 78 45 [l0, some (.int x), l2] st h = xf 78 46 [l0, some (.int x), l2] (.int x :: st) h := xo_iload (k := 1) (by decide +kernel) rfl
set_option maxRecDepth 20000 in
theorem u_X7_pair_46 (l0 l1 : Option Value) (x : Int32) (st : List Value) (h : xH) : xf 78 46 [l0, l1, some (.int x)] st h = xf 78 47 [l0, l1, some (.int x)] (.int x :: st) h := xo_iload (k := 2) (by decide +kernel) rfl
set_option maxRecDepth 20000 in
theorem u_X7_pair_47 (L : xL) (v0 : Int32) (v1 : Int32) (b : Nat) (st : List Value) (h : xH) (hb : (xob h b).1 = 5) (hl : st.length ≤ 4) : xf 78 47 L (.int v1 :: .int v0 :: .ref b :: st) h = xgo 78 47 50 L st (xev 44 [.ref b, .int v0, .int v1] h) := xo_callV (as := [.int v0, .int v1]) (by decide +kernel) rfl ⟨(by decide +kernel : xna 44 = 2), Nat.le_of_ble_eq_true rfl, rfl, by decide⟩ hb hl
set_option maxRecDepth 20000 in
theorem u_X7_pair_50 (L : xL) (x : Int32) (h : xH) : xf 78 50 L [.int x] h = some (.inl (some (.int x)), h) := xo_ireturn (n := 51) (by decide +kernel) rfl
set_option maxRecDepth 20000 in
theorem e_X7_pair (v0 : Nat) (v1 : Int32) (v2 : Int32) (h : xH) : xev 78 [.ref v0, .int v1, .int v2] h = xf 78 0 [some (.ref v0), some (.int v1), some (.int v2)] [] h := rfl
set_option maxRecDepth 20000 in
theorem u_X7_next_0 (l0 : Option Value) (x : Int32) (st : List Value) (h : xH) : xf 79 0 [l0, some (.int x)] st h = xf 79 1 [l0, some (.int x)] (.int x :: st) h := xo_iload (k := 1) (by decide +kernel) rfl
set_option maxRecDepth 20000 in
theorem u_X7_next_1 (L : xL) (a : Int32) (st : List Value) (h : xH) : xf 79 1 L (.int a :: st) h = if a < 0 then xf 79 9 L st h else xf 79 4 L st h := xo_if_lt (t := 9) (by decide +kernel) rfl
set_option maxRecDepth 20000 in
theorem u_X7_next_4 (l0 : Option Value) (x : Int32) (st : List Value) (h : xH) : xf 79 4 [l0, some (.int x)] st h = xf 79 5 [l0, some (.int x)] (.int x :: st) h := xo_iload (k := 1) (by decide +kernel) rfl
set_option maxRecDepth 20000 in
theorem u_X7_next_5 (L : xL) (st : List Value) (h : xH) : xf 79 5 L st h = xf 79 6 L (.int 3 :: st) h := xo_iconst (k := 3) (by decide +kernel) (by decide)
set_option maxRecDepth 20000 in
theorem u_X7_next_6 (L : xL) (a b : Int32) (st : List Value) (h : xH) : xf 79 6 L (.int b :: .int a :: st) h = if b < a then xf 79 9 L st h else xf 79 19 L st h := xo_icmp_le (t := 19) (by decide +kernel) rfl
set_option maxRecDepth 20000 in
theorem u_X7_next_9 (L : xL) (st : List Value) (h : xH) (hl : st.length ≤ 4) : xf 79 9 L st h = some (.inr 0, xdead h) := xo_throw (n := 12) (e := 0) (by decide +kernel) hl
set_option maxRecDepth 20000 in
theorem u_X7_next_19 (l1 : Option Value) (x : Nat) (st : List Value) (h : xH) : xf 79 19 [some (.ref x), l1] st h = xf 79 20 [some (.ref x), l1] (.ref x :: st) h := xo_aload (k := 0) (by decide +kernel) rfl
set_option maxRecDepth 20000 in
theorem u_X7_next_20 (L : xL) (a : Nat) (st : List Value) (h : xH) (hc : (xob h a).1 = 7) : xf 79 20 L (.ref a :: st) h = xf 79 23 L ((xob h a).2.getD 3 .null :: st) h := xo_getf (r := 451) (by decide +kernel) (by decide) hc
set_option maxRecDepth 20000 in
theorem u_X7_next_23 (l1 : Option Value) (x : Nat) (st : List Value) (h : xH) : xf 79 23 [some (.ref x), l1] st h = xf 79 24 [some (.ref x), l1] (.ref x :: st) h := xo_aload (k := 0) (by decide +kernel) rfl
set_option maxRecDepth 20000 in
theorem u_X7_next_24 (L : xL) (a : Nat) (st : List Value) (h : xH) (hc : (xob h a).1 = 7) : xf 79 24 L (.ref a :: st) h = xf 79 27 L ((xob h a).2.getD 0 .null :: st) h := xo_getf (r := 448) (by decide +kernel) (by decide) hc
set_option maxRecDepth 20000 in
theorem u_X7_next_27 (L : xL) (v0 : Nat) (b : Nat) (st : List Value) (h : xH) (hb : (xob h b).1 = 4) (hl : st.length ≤ 4) : xf 79 27 L (.ref v0 :: .ref b :: st) h = xgo 79 27 30 L st (xev 29 [.ref b, .ref v0] h) := xo_callV (as := [.ref v0]) (by decide +kernel) rfl ⟨(by decide +kernel : xna 29 = 1), Nat.le_of_ble_eq_true rfl, rfl, by decide⟩ hb hl
set_option maxRecDepth 20000 in
theorem u_X7_next_30 (l1 : Option Value) (x : Nat) (st : List Value) (h : xH) : xf 79 30 [some (.ref x), l1] st h = xf 79 31 [some (.ref x), l1] (.ref x :: st) h := xo_aload (k := 0) (by decide +kernel) rfl
set_option maxRecDepth 20000 in
theorem u_X7_next_31 (L : xL) (a : Nat) (st : List Value) (h : xH) (hc : (xob h a).1 = 7) : xf 79 31 L (.ref a :: st) h = xf 79 34 L ((xob h a).2.getD 3 .null :: st) h := xo_getf (r := 451) (by decide +kernel) (by decide) hc
set_option maxRecDepth 20000 in
theorem u_X7_next_34 (l0 : Option Value) (x : Int32) (st : List Value) (h : xH) : xf 79 34 [l0, some (.int x)] st h = xf 79 35 [l0, some (.int x)] (.int x :: st) h := xo_iload (k := 1) (by decide +kernel) rfl
set_option maxRecDepth 20000 in
theorem u_X7_next_35 (L : xL) (v0 : Int32) (b : Nat) (st : List Value) (h : xH) (hb : (xob h b).1 = 4) (hl : st.length ≤ 4) : xf 79 35 L (.int v0 :: .ref b :: st) h = xgo 79 35 38 L st (xev 32 [.ref b, .int v0] h) := xo_callV (as := [.int v0]) (by decide +kernel) rfl ⟨(by decide +kernel : xna 32 = 1), Nat.le_of_ble_eq_true rfl, rfl, by decide⟩ hb hl
set_option maxRecDepth 20000 in
theorem u_X7_next_38 (L : xL) (x : Int32) (h : xH) : xf 79 38 L [.int x] h = some (.inl (some (.int x)), h) := xo_ireturn (n := 39) (by decide +kernel) rfl
set_option maxRecDepth 20000 in
theorem e_X7_next (v0 : Nat) (v1 : Int32) (h : xH) : xev 79 [.ref v0, .int v1] h = xf 79 0 [some (.ref v0), some (.int v1)] [] h := rfl
set_option maxRecDepth 20000 in
theorem u_X7_count_0 (l0 : Option Value) (x : Int32) (st : List Value) (h : xH) : xf 80 0 [l0, some (.int x)] st h = xf 80 1 [l0, some (.int x)] (.int x :: st) h := xo_iload (k := 1) (by decide +kernel) rfl
set_option maxRecDepth 20000 in
theorem u_X7_count_1 (L : xL) (a : Int32) (st : List Value) (h : xH) : xf 80 1 L (.int a :: st) h = if a < 0 then xf 80 10 L st h else xf 80 4 L st h := xo_if_lt (t := 10) (by decide +kernel) rfl
set_option maxRecDepth 20000 in
theorem u_X7_count_4 (l0 : Option Value) (x : Int32) (st : List Value) (h : xH) : xf 80 4 [l0, some (.int x)] st h = xf 80 5 [l0, some (.int x)] (.int x :: st) h := xo_iload (k := 1) (by decide +kernel) rfl
set_option maxRecDepth 20000 in
theorem u_X7_count_5 (L : xL) (st : List Value) (h : xH) : xf 80 5 L st h = xf 80 7 L (.int 8 :: st) h := xo_iconst (k := 8) (by decide +kernel) (by decide)
set_option maxRecDepth 20000 in
theorem u_X7_count_7 (L : xL) (a b : Int32) (st : List Value) (h : xH) : xf 80 7 L (.int b :: .int a :: st) h = if b < a then xf 80 10 L st h else xf 80 20 L st h := xo_icmp_le (t := 20) (by decide +kernel) rfl
set_option maxRecDepth 20000 in
theorem u_X7_count_10 (L : xL) (st : List Value) (h : xH) (hl : st.length ≤ 4) : xf 80 10 L st h = some (.inr 0, xdead h) := xo_throw (n := 13) (e := 0) (by decide +kernel) hl
set_option maxRecDepth 20000 in
theorem u_X7_count_20 (l0 : Option Value) (x : Int32) (st : List Value) (h : xH) : xf 80 20 [l0, some (.int x)] st h = xf 80 21 [l0, some (.int x)] (.int x :: st) h := xo_iload (k := 1) (by decide +kernel) rfl
set_option maxRecDepth 20000 in
theorem u_X7_count_21 (L : xL) (st : List Value) (h : xH) : xf 80 21 L st h = xf 80 23 L (.int 8 :: st) h := xo_iconst (k := 8) (by decide +kernel) (by decide)
set_option maxRecDepth 20000 in
theorem u_X7_count_23 (L : xL) (a b : Int32) (st : List Value) (h : xH) : xf 80 23 L (.int b :: .int a :: st) h = if a = b then xf 80 26 L st h else xf 80 36 L st h := xo_icmp_ne (t := 36) (by decide +kernel) rfl
set_option maxRecDepth 20000 in
theorem u_X7_count_26 (l1 : Option Value) (x : Nat) (st : List Value) (h : xH) : xf 80 26 [some (.ref x), l1] st h = xf 80 27 [some (.ref x), l1] (.ref x :: st) h := xo_aload (k := 0) (by decide +kernel) rfl
set_option maxRecDepth 20000 in
theorem u_X7_count_27 (L : xL) (a : Nat) (st : List Value) (h : xH) (hc : (xob h a).1 = 7) : xf 80 27 L (.ref a :: st) h = xf 80 30 L ((xob h a).2.getD 1 .null :: st) h := xo_getf (r := 449) (by decide +kernel) (by decide) hc
set_option maxRecDepth 20000 in
theorem u_X7_count_30 (L : xL) (a : Nat) (st : List Value) (h : xH) (hc : (xob h a).1 = 2) : xf 80 30 L (.ref a :: st) h = xf 80 33 L ((xob h a).2.getD 1 .null :: st) h := xo_getf (r := 129) (by decide +kernel) (by decide) hc
set_option maxRecDepth 20000 in
theorem u_X7_count_33 (L : xL) (st : List Value) (h : xH) : xf 80 33 L st h = xf 80 44 L st h := xo_goto (n := 36) (t := 44) (by decide +kernel) rfl
set_option maxRecDepth 20000 in
theorem u_X7_count_36 (l1 : Option Value) (x : Nat) (st : List Value) (h : xH) : xf 80 36 [some (.ref x), l1] st h = xf 80 37 [some (.ref x), l1] (.ref x :: st) h := xo_aload (k := 0) (by decide +kernel) rfl
set_option maxRecDepth 20000 in
theorem u_X7_count_37 (L : xL) (a : Nat) (st : List Value) (h : xH) (hc : (xob h a).1 = 7) : xf 80 37 L (.ref a :: st) h = xf 80 40 L ((xob h a).2.getD 0 .null :: st) h := xo_getf (r := 448) (by decide +kernel) (by decide) hc
set_option maxRecDepth 20000 in
theorem u_X7_count_40 (l0 : Option Value) (x : Int32) (st : List Value) (h : xH) : xf 80 40 [l0, some (.int x)] st h = xf 80 41 [l0, some (.int x)] (.int x :: st) h := xo_iload (k := 1) (by decide +kernel) rfl
set_option maxRecDepth 20000 in
theorem u_X7_count_41 (L : xL) (v0 : Int32) (b : Nat) (st : List Value) (h : xH) (hb : (xob h b).1 = 6) (hl : st.length ≤ 4) : xf 80 41 L (.int v0 :: .ref b :: st) h = xgo 80 41 44 L st (xev 56 [.ref b, .int v0] h) := xo_callV (as := [.int v0]) (by decide +kernel) rfl ⟨(by decide +kernel : xna 56 = 1), Nat.le_of_ble_eq_true rfl, rfl, by decide⟩ hb hl
set_option maxRecDepth 20000 in
theorem u_X7_count_44 (L : xL) (x : Int32) (h : xH) : xf 80 44 L [.int x] h = some (.inl (some (.int x)), h) := xo_ireturn (n := 45) (by decide +kernel) rfl
set_option maxRecDepth 20000 in
theorem e_X7_count (v0 : Nat) (v1 : Int32) (h : xH) : xev 80 [.ref v0, .int v1] h = xf 80 0 [some (.ref v0), some (.int v1)] [] h := rfl
set_option maxRecDepth 20000 in
theorem u_X7_times_0 (l0 : Option Value) (x : Int32) (st : List Value) (h : xH) : xf 81 0 [l0, some (.int x)] st h = xf 81 1 [l0, some (.int x)] (.int x :: st) h := xo_iload (k := 1) (by decide +kernel) rfl
set_option maxRecDepth 20000 in
theorem u_X7_times_1 (L : xL) (a : Int32) (st : List Value) (h : xH) : xf 81 1 L (.int a :: st) h = if a < 0 then xf 81 10 L st h else xf 81 4 L st h := xo_if_lt (t := 10) (by decide +kernel) rfl
set_option maxRecDepth 20000 in
theorem u_X7_times_4 (l0 : Option Value) (x : Int32) (st : List Value) (h : xH) : xf 81 4 [l0, some (.int x)] st h = xf 81 5 [l0, some (.int x)] (.int x :: st) h := xo_iload (k := 1) (by decide +kernel) rfl
set_option maxRecDepth 20000 in
theorem u_X7_times_5 (L : xL) (st : List Value) (h : xH) : xf 81 5 L st h = xf 81 7 L (.int 8 :: st) h := xo_iconst (k := 8) (by decide +kernel) (by decide)
set_option maxRecDepth 20000 in
theorem u_X7_times_7 (L : xL) (a b : Int32) (st : List Value) (h : xH) : xf 81 7 L (.int b :: .int a :: st) h = if a < b then xf 81 20 L st h else xf 81 10 L st h := xo_icmp_lt (t := 20) (by decide +kernel) rfl
set_option maxRecDepth 20000 in
theorem u_X7_times_10 (L : xL) (st : List Value) (h : xH) (hl : st.length ≤ 4) : xf 81 10 L st h = some (.inr 2, xdead h) := xo_throw (n := 13) (e := 2) (by decide +kernel) hl
set_option maxRecDepth 20000 in
theorem u_X7_times_20 (l1 : Option Value) (x : Nat) (st : List Value) (h : xH) : xf 81 20 [some (.ref x), l1] st h = xf 81 21 [some (.ref x), l1] (.ref x :: st) h := xo_aload (k := 0) (by decide +kernel) rfl
set_option maxRecDepth 20000 in
theorem u_X7_times_21 (L : xL) (a : Nat) (st : List Value) (h : xH) (hc : (xob h a).1 = 7) : xf 81 21 L (.ref a :: st) h = xf 81 24 L ((xob h a).2.getD 0 .null :: st) h := xo_getf (r := 448) (by decide +kernel) (by decide) hc
set_option maxRecDepth 20000 in
theorem u_X7_times_24 (l0 : Option Value) (x : Int32) (st : List Value) (h : xH) : xf 81 24 [l0, some (.int x)] st h = xf 81 25 [l0, some (.int x)] (.int x :: st) h := xo_iload (k := 1) (by decide +kernel) rfl
set_option maxRecDepth 20000 in
theorem u_X7_times_25 (L : xL) (v0 : Int32) (b : Nat) (st : List Value) (h : xH) (hb : (xob h b).1 = 6) (hl : st.length ≤ 4) : xf 81 25 L (.int v0 :: .ref b :: st) h = xgo 81 25 28 L st (xev 54 [.ref b, .int v0] h) := xo_callV (as := [.int v0]) (by decide +kernel) rfl ⟨(by decide +kernel : xna 54 = 1), Nat.le_of_ble_eq_true rfl, rfl, by decide⟩ hb hl
set_option maxRecDepth 20000 in
theorem u_X7_times_28 (L : xL) (x : Int32) (h : xH) : xf 81 28 L [.int x] h = some (.inl (some (.int x)), h) := xo_ireturn (n := 29) (by decide +kernel) rfl
set_option maxRecDepth 20000 in
theorem e_X7_times (v0 : Nat) (v1 : Int32) (h : xH) : xev 81 [.ref v0, .int v1] h = xf 81 0 [some (.ref v0), some (.int v1)] [] h := rfl
set_option maxRecDepth 20000 in
theorem u_X7_setting_0 (l0 : Option Value) (x : Int32) (st : List Value) (h : xH) : xf 82 0 [l0, some (.int x)] st h = xf 82 1 [l0, some (.int x)] (.int x :: st) h := xo_iload (k := 1) (by decide +kernel) rfl
set_option maxRecDepth 20000 in
theorem u_X7_setting_1 (L : xL) (v0 : Int32) (st : List Value) (h : xH) (hl : st.length ≤ 4) : xf 82 1 L (.int v0 :: st) h = xgo 82 1 4 L st (xev 85 [.int v0] h) := xo_callS (as := [.int v0]) (by decide +kernel) rfl ⟨(by decide +kernel : xna 85 = 1), Nat.le_of_ble_eq_true rfl, by decide⟩ hl
set_option maxRecDepth 20000 in
theorem u_X7_setting_4 (L : xL) (a : Int32) (st : List Value) (h : xH) : xf 82 4 L (.int a :: st) h = if a = 0 then xf 82 7 L st h else xf 82 17 L st h := xo_if_ne (t := 17) (by decide +kernel) rfl
set_option maxRecDepth 20000 in
theorem u_X7_setting_7 (L : xL) (st : List Value) (h : xH) (hl : st.length ≤ 4) : xf 82 7 L st h = some (.inr 2, xdead h) := xo_throw (n := 10) (e := 2) (by decide +kernel) hl
set_option maxRecDepth 20000 in
theorem u_X7_setting_17 (l1 : Option Value) (x : Nat) (st : List Value) (h : xH) : xf 82 17 [some (.ref x), l1] st h = xf 82 18 [some (.ref x), l1] (.ref x :: st) h := xo_aload (k := 0) (by decide +kernel) rfl
set_option maxRecDepth 20000 in
theorem u_X7_setting_18 (L : xL) (a : Nat) (st : List Value) (h : xH) (hc : (xob h a).1 = 7) : xf 82 18 L (.ref a :: st) h = xf 82 21 L ((xob h a).2.getD 0 .null :: st) h := xo_getf (r := 448) (by decide +kernel) (by decide) hc
set_option maxRecDepth 20000 in
theorem u_X7_setting_21 (L : xL) (a : Nat) (st : List Value) (h : xH) (hc : (xob h a).1 = 6) : xf 82 21 L (.ref a :: st) h = xf 82 24 L ((xob h a).2.getD 2 .null :: st) h := xo_getf (r := 386) (by decide +kernel) (by decide) hc
set_option maxRecDepth 20000 in
theorem u_X7_setting_24 (l0 : Option Value) (x : Int32) (st : List Value) (h : xH) : xf 82 24 [l0, some (.int x)] st h = xf 82 25 [l0, some (.int x)] (.int x :: st) h := xo_iload (k := 1) (by decide +kernel) rfl
set_option maxRecDepth 20000 in
theorem u_X7_setting_25 (L : xL) (v0 : Int32) (b : Nat) (st : List Value) (h : xH) (hb : (xob h b).1 = 1) (hl : st.length ≤ 4) : xf 82 25 L (.int v0 :: .ref b :: st) h = xgo 82 25 28 L st (xev 12 [.ref b, .int v0] h) := xo_callV (as := [.int v0]) (by decide +kernel) rfl ⟨(by decide +kernel : xna 12 = 1), Nat.le_of_ble_eq_true rfl, rfl, by decide⟩ hb hl
set_option maxRecDepth 20000 in
theorem u_X7_setting_28 (L : xL) (x : Int32) (h : xH) : xf 82 28 L [.int x] h = some (.inl (some (.int x)), h) := xo_ireturn (n := 29) (by decide +kernel) rfl
set_option maxRecDepth 20000 in
theorem e_X7_setting (v0 : Nat) (v1 : Int32) (h : xH) : xev 82 [.ref v0, .int v1] h = xf 82 0 [some (.ref v0), some (.int v1)] [] h := rfl
set_option maxRecDepth 20000 in
theorem u_X7_ifNamed_0 (l0 : Option Value) (x : Int32) (st : List Value) (h : xH) : xf 83 0 [l0, some (.int x)] st h = xf 83 1 [l0, some (.int x)] (.int x :: st) h := xo_iload (k := 1) (by decide +kernel) rfl
set_option maxRecDepth 20000 in
theorem u_X7_ifNamed_1 (L : xL) (a : Int32) (st : List Value) (h : xH) : xf 83 1 L (.int a :: st) h = if a < 0 then xf 83 9 L st h else xf 83 4 L st h := xo_if_lt (t := 9) (by decide +kernel) rfl
set_option maxRecDepth 20000 in
theorem u_X7_ifNamed_4 (l0 : Option Value) (x : Int32) (st : List Value) (h : xH) : xf 83 4 [l0, some (.int x)] st h = xf 83 5 [l0, some (.int x)] (.int x :: st) h := xo_iload (k := 1) (by decide +kernel) rfl
set_option maxRecDepth 20000 in
theorem u_X7_ifNamed_5 (L : xL) (st : List Value) (h : xH) : xf 83 5 L st h = xf 83 6 L (.int 3 :: st) h := xo_iconst (k := 3) (by decide +kernel) (by decide)
set_option maxRecDepth 20000 in
theorem u_X7_ifNamed_6 (L : xL) (a b : Int32) (st : List Value) (h : xH) : xf 83 6 L (.int b :: .int a :: st) h = if b < a then xf 83 9 L st h else xf 83 19 L st h := xo_icmp_le (t := 19) (by decide +kernel) rfl
set_option maxRecDepth 20000 in
theorem u_X7_ifNamed_9 (L : xL) (st : List Value) (h : xH) (hl : st.length ≤ 4) : xf 83 9 L st h = some (.inr 0, xdead h) := xo_throw (n := 12) (e := 0) (by decide +kernel) hl
set_option maxRecDepth 20000 in
theorem u_X7_ifNamed_19 (l1 : Option Value) (x : Nat) (st : List Value) (h : xH) : xf 83 19 [some (.ref x), l1] st h = xf 83 20 [some (.ref x), l1] (.ref x :: st) h := xo_aload (k := 0) (by decide +kernel) rfl
set_option maxRecDepth 20000 in
theorem u_X7_ifNamed_20 (l1 : Option Value) (x : Nat) (st : List Value) (h : xH) : xf 83 20 [some (.ref x), l1] st h = xf 83 21 [some (.ref x), l1] (.ref x :: st) h := xo_aload (k := 0) (by decide +kernel) rfl
set_option maxRecDepth 20000 in
theorem u_X7_ifNamed_21 (L : xL) (a : Nat) (st : List Value) (h : xH) (hc : (xob h a).1 = 7) : xf 83 21 L (.ref a :: st) h = xf 83 24 L ((xob h a).2.getD 0 .null :: st) h := xo_getf (r := 448) (by decide +kernel) (by decide) hc
set_option maxRecDepth 20000 in
theorem u_X7_ifNamed_24 (L : xL) (a : Nat) (st : List Value) (h : xH) (hc : (xob h a).1 = 6) : xf 83 24 L (.ref a :: st) h = xf 83 27 L ((xob h a).2.getD 2 .null :: st) h := xo_getf (r := 386) (by decide +kernel) (by decide) hc
set_option maxRecDepth 20000 in
theorem u_X7_ifNamed_27 (L : xL) (st : List Value) (h : xH) : xf 83 27 L st h = xf 83 28 L (.int 0 :: st) h := xo_iconst (k := 0) (by decide +kernel) (by decide)
set_option maxRecDepth 20000 in
theorem u_X7_ifNamed_28 (L : xL) (v0 : Int32) (b : Nat) (st : List Value) (h : xH) (hb : (xob h b).1 = 1) (hl : st.length ≤ 4) : xf 83 28 L (.int v0 :: .ref b :: st) h = xgo 83 28 31 L st (xev 12 [.ref b, .int v0] h) := xo_callV (as := [.int v0]) (by decide +kernel) rfl ⟨(by decide +kernel : xna 12 = 1), Nat.le_of_ble_eq_true rfl, rfl, by decide⟩ hb hl
set_option maxRecDepth 20000 in
theorem u_X7_ifNamed_31 (L : xL) (v0 : Int32) (b : Nat) (st : List Value) (h : xH) (hb : (xob h b).1 = 7) (hl : st.length ≤ 4) : xf 83 31 L (.int v0 :: .ref b :: st) h = xgo 83 31 34 L st (xev 87 [.ref b, .int v0] h) := xo_callV (as := [.int v0]) (by decide +kernel) rfl ⟨(by decide +kernel : xna 87 = 1), Nat.le_of_ble_eq_true rfl, rfl, by decide⟩ hb hl
set_option maxRecDepth 20000 in
theorem u_X7_ifNamed_34 (l1 : Option Value) (x : Nat) (st : List Value) (h : xH) : xf 83 34 [some (.ref x), l1] st h = xf 83 35 [some (.ref x), l1] (.ref x :: st) h := xo_aload (k := 0) (by decide +kernel) rfl
set_option maxRecDepth 20000 in
theorem u_X7_ifNamed_35 (l0 : Option Value) (x : Int32) (st : List Value) (h : xH) : xf 83 35 [l0, some (.int x)] st h = xf 83 36 [l0, some (.int x)] (.int x :: st) h := xo_iload (k := 1) (by decide +kernel) rfl
set_option maxRecDepth 20000 in
theorem u_X7_ifNamed_36 (L : xL) (v0 : Int32) (b : Nat) (st : List Value) (h : xH) (hb : (xob h b).1 = 7) (hl : st.length ≤ 4) : xf 83 36 L (.int v0 :: .ref b :: st) h = xgo 83 36 39 L st (xev 88 [.ref b, .int v0] h) := xo_callV (as := [.int v0]) (by decide +kernel) rfl ⟨(by decide +kernel : xna 88 = 1), Nat.le_of_ble_eq_true rfl, rfl, by decide⟩ hb hl
set_option maxRecDepth 20000 in
theorem u_X7_ifNamed_39 (L : xL) (x : Int32) (h : xH) : xf 83 39 L [.int x] h = some (.inl (some (.int x)), h) := xo_ireturn (n := 40) (by decide +kernel) rfl
set_option maxRecDepth 20000 in
theorem e_X7_ifNamed (v0 : Nat) (v1 : Int32) (h : xH) : xev 83 [.ref v0, .int v1] h = xf 83 0 [some (.ref v0), some (.int v1)] [] h := rfl
set_option maxRecDepth 20000 in
theorem u_X7_bestOften_0 (L : xL) (st : List Value) (h : xH) : xf 84 0 L st h = xf 84 1 L (.int 2 :: st) h := xo_iconst (k := 2) (by decide +kernel) (by decide)
set_option maxRecDepth 20000 in
theorem u_X7_bestOften_1 (l0 l1 l2 l3 l4 : Option Value) (x : Int32) (st : List Value) (h : xH) : xf 84 1 [l0, l1, l2, l3, l4] (.int x :: st) h = xf 84 2 [xcat l0, some (.int x), l2, l3, l4] st h := xo_istore (k := 1) (by decide +kernel) (Nat.le_of_ble_eq_true rfl) rfl
set_option maxRecDepth 20000 in
theorem u_X7_bestOften_2 (L : xL) (st : List Value) (h : xH) : xf 84 2 L st h = xf 84 4 L (.int 97 :: st) h := xo_iconst (k := 97) (by decide +kernel) (by decide)
set_option maxRecDepth 20000 in
theorem u_X7_bestOften_4 (l0 l1 l2 l3 l4 : Option Value) (x : Int32) (st : List Value) (h : xH) : xf 84 4 [l0, l1, l2, l3, l4] (.int x :: st) h = xf 84 5 [l0, xcat l1, some (.int x), l3, l4] st h := xo_istore (k := 2) (by decide +kernel) (Nat.le_of_ble_eq_true rfl) rfl
set_option maxRecDepth 20000 in
theorem u_X7_bestOften_5 (L : xL) (st : List Value) (h : xH) : xf 84 5 L st h = xf 84 6 L (.int 2 :: st) h := xo_iconst (k := 2) (by decide +kernel) (by decide)
set_option maxRecDepth 20000 in
theorem u_X7_bestOften_6 (l0 l1 l2 l3 l4 : Option Value) (x : Int32) (st : List Value) (h : xH) : xf 84 6 [l0, l1, l2, l3, l4] (.int x :: st) h = xf 84 7 [l0, l1, xcat l2, some (.int x), l4] st h := xo_istore (k := 3) (by decide +kernel) (Nat.le_of_ble_eq_true rfl) rfl
set_option maxRecDepth 20000 in
theorem u_X7_bestOften_7 (l0 l1 l2 l4 : Option Value) (x : Int32) (st : List Value) (h : xH) : xf 84 7 [l0, l1, l2, some (.int x), l4] st h = xf 84 8 [l0, l1, l2, some (.int x), l4] (.int x :: st) h := xo_iload (k := 3) (by decide +kernel) rfl
set_option maxRecDepth 20000 in
theorem u_X7_bestOften_8 (L : xL) (st : List Value) (h : xH) : xf 84 8 L st h = xf 84 10 L (.int 9 :: st) h := xo_iconst (k := 9) (by decide +kernel) (by decide)
set_option maxRecDepth 20000 in
theorem u_X7_bestOften_10 (L : xL) (a b : Int32) (st : List Value) (h : xH) : xf 84 10 L (.int b :: .int a :: st) h = if b < a then xf 84 44 L st h else xf 84 13 L st h := xo_icmp_gt (t := 44) (by decide +kernel) rfl
set_option maxRecDepth 20000 in
theorem u_X7_bestOften_13 (l1 l2 l3 l4 : Option Value) (x : Nat) (st : List Value) (h : xH) : xf 84 13 [some (.ref x), l1, l2, l3, l4] st h = xf 84 14 [some (.ref x), l1, l2, l3, l4] (.ref x :: st) h := xo_aload (k := 0) (by decide +kernel) rfl
set_option maxRecDepth 20000 in
theorem u_X7_bestOften_14 (l0 l1 l2 l4 : Option Value) (x : Int32) (st : List Value) (h : xH) : xf 84 14 [l0, l1, l2, some (.int x), l4] st h = xf 84 15 [l0, l1, l2, some (.int x), l4] (.int x :: st) h := xo_iload (k := 3) (by decide +kernel) rfl
set_option maxRecDepth 20000 in
theorem u_X7_bestOften_15 (L : xL) (v0 : Int32) (b : Nat) (st : List Value) (h : xH) (hb : (xob h b).1 = 7) (hl : st.length ≤ 4) : xf 84 15 L (.int v0 :: .ref b :: st) h = xgo 84 15 18 L st (xev 87 [.ref b, .int v0] h) := xo_callV (as := [.int v0]) (by decide +kernel) rfl ⟨(by decide +kernel : xna 87 = 1), Nat.le_of_ble_eq_true rfl, rfl, by decide⟩ hb hl
set_option maxRecDepth 20000 in
theorem u_X7_bestOften_18 (l1 l2 l3 l4 : Option Value) (x : Nat) (st : List Value) (h : xH) : xf 84 18 [some (.ref x), l1, l2, l3, l4] st h = xf 84 19 [some (.ref x), l1, l2, l3, l4] (.ref x :: st) h := xo_aload (k := 0) (by decide +kernel) rfl
set_option maxRecDepth 20000 in
theorem u_X7_bestOften_19 (L : xL) (a : Nat) (st : List Value) (h : xH) (hc : (xob h a).1 = 7) : xf 84 19 L (.ref a :: st) h = xf 84 22 L ((xob h a).2.getD 4 .null :: st) h := xo_getf (r := 452) (by decide +kernel) (by decide) hc
set_option maxRecDepth 20000 in
theorem u_X7_bestOften_22 (L : xL) (b : Nat) (st : List Value) (h : xH) (hb : (xob h b).1 = 6) (hl : st.length ≤ 4) : xf 84 22 L (.ref b :: st) h = xgo 84 22 25 L st (xev 50 [.ref b] h) := xo_callV (as := []) (by decide +kernel) rfl ⟨(by decide +kernel : xna 50 = 0), Nat.le_of_ble_eq_true rfl, rfl, by decide⟩ hb hl
set_option maxRecDepth 20000 in
theorem u_X7_bestOften_25 (l0 l1 l2 l3 l4 : Option Value) (x : Int32) (st : List Value) (h : xH) : xf 84 25 [l0, l1, l2, l3, l4] (.int x :: st) h = xf 84 27 [l0, l1, l2, xcat l3, some (.int x)] st h := xo_istore (k := 4) (by decide +kernel) (Nat.le_of_ble_eq_true rfl) rfl
set_option maxRecDepth 20000 in
theorem u_X7_bestOften_27 (l0 l1 l2 l3 : Option Value) (x : Int32) (st : List Value) (h : xH) : xf 84 27 [l0, l1, l2, l3, some (.int x)] st h = xf 84 29 [l0, l1, l2, l3, some (.int x)] (.int x :: st) h := xo_iload (k := 4) (by decide +kernel) rfl
set_option maxRecDepth 20000 in
theorem u_X7_bestOften_29 (l0 l1 l3 l4 : Option Value) (x : Int32) (st : List Value) (h : xH) : xf 84 29 [l0, l1, some (.int x), l3, l4] st h = xf 84 30 [l0, l1, some (.int x), l3, l4] (.int x :: st) h := xo_iload (k := 2) (by decide +kernel) rfl
set_option maxRecDepth 20000 in
theorem u_X7_bestOften_30 (L : xL) (a b : Int32) (st : List Value) (h : xH) : xf 84 30 L (.int b :: .int a :: st) h = if a < b then xf 84 33 L st h else xf 84 38 L st h := xo_icmp_ge (t := 38) (by decide +kernel) rfl
set_option maxRecDepth 20000 in
theorem u_X7_bestOften_33 (l0 l1 l2 l3 : Option Value) (x : Int32) (st : List Value) (h : xH) : xf 84 33 [l0, l1, l2, l3, some (.int x)] st h = xf 84 35 [l0, l1, l2, l3, some (.int x)] (.int x :: st) h := xo_iload (k := 4) (by decide +kernel) rfl
set_option maxRecDepth 20000 in
theorem u_X7_bestOften_35 (l0 l1 l2 l3 l4 : Option Value) (x : Int32) (st : List Value) (h : xH) : xf 84 35 [l0, l1, l2, l3, l4] (.int x :: st) h = xf 84 36 [l0, xcat l1, some (.int x), l3, l4] st h := xo_istore (k := 2) (by decide +kernel) (Nat.le_of_ble_eq_true rfl) rfl
set_option maxRecDepth 20000 in
theorem u_X7_bestOften_36 (l0 l1 l2 l4 : Option Value) (x : Int32) (st : List Value) (h : xH) : xf 84 36 [l0, l1, l2, some (.int x), l4] st h = xf 84 37 [l0, l1, l2, some (.int x), l4] (.int x :: st) h := xo_iload (k := 3) (by decide +kernel) rfl
set_option maxRecDepth 20000 in
theorem u_X7_bestOften_37 (l0 l1 l2 l3 l4 : Option Value) (x : Int32) (st : List Value) (h : xH) : xf 84 37 [l0, l1, l2, l3, l4] (.int x :: st) h = xf 84 38 [xcat l0, some (.int x), l2, l3, l4] st h := xo_istore (k := 1) (by decide +kernel) (Nat.le_of_ble_eq_true rfl) rfl
set_option maxRecDepth 20000 in
theorem u_X7_bestOften_38 (l0 l1 l2 l4 : Option Value) (x : Int32) (st : List Value) (h : xH) : xf 84 38 [l0, l1, l2, some (.int x), l4] st h = xf 84 41 [l0, l1, xcat l2, some (.int (x + 1)), l4] st h := xo_iinc (k := 3) (c := 1) (by decide +kernel) rfl (by decide) rfl
set_option maxRecDepth 20000 in
theorem u_X7_bestOften_41 (L : xL) (st : List Value) (h : xH) : xf 84 41 L st h = xf 84 7 L st h := xo_goto (n := 44) (t := 7) (by decide +kernel) rfl
set_option maxRecDepth 20000 in
theorem u_X7_bestOften_44 (l0 l2 l3 l4 : Option Value) (x : Int32) (st : List Value) (h : xH) : xf 84 44 [l0, some (.int x), l2, l3, l4] st h = xf 84 45 [l0, some (.int x), l2, l3, l4] (.int x :: st) h := xo_iload (k := 1) (by decide +kernel) rfl
set_option maxRecDepth 20000 in
theorem u_X7_bestOften_45 (L : xL) (x : Int32) (h : xH) : xf 84 45 L [.int x] h = some (.inl (some (.int x)), h) := xo_ireturn (n := 46) (by decide +kernel) rfl
set_option maxRecDepth 20000 in
theorem e_X7_bestOften (v0 : Nat) (h : xH) : xev 84 [.ref v0] h = xf 84 0 [some (.ref v0), none, none, none, none] [] h := rfl
set_option maxRecDepth 20000 in
theorem u_X7_isSetting_0 (x : Int32) (st : List Value) (h : xH) : xf 85 0 [some (.int x)] st h = xf 85 1 [some (.int x)] (.int x :: st) h := xo_iload (k := 0) (by decide +kernel) rfl
set_option maxRecDepth 20000 in
theorem u_X7_isSetting_1 (L : xL) (a : Int32) (st : List Value) (h : xH) : xf 85 1 L (.int a :: st) h = if a < 0 then xf 85 13 L st h else xf 85 4 L st h := xo_if_lt (t := 13) (by decide +kernel) rfl
set_option maxRecDepth 20000 in
theorem u_X7_isSetting_4 (x : Int32) (st : List Value) (h : xH) : xf 85 4 [some (.int x)] st h = xf 85 5 [some (.int x)] (.int x :: st) h := xo_iload (k := 0) (by decide +kernel) rfl
set_option maxRecDepth 20000 in
theorem u_X7_isSetting_5 (L : xL) (st : List Value) (h : xH) : xf 85 5 L st h = xf 85 6 L (.int 2 :: st) h := xo_iconst (k := 2) (by decide +kernel) (by decide)
set_option maxRecDepth 20000 in
theorem u_X7_isSetting_6 (L : xL) (a b : Int32) (st : List Value) (h : xH) : xf 85 6 L (.int b :: .int a :: st) h = if a < b then xf 85 9 L st h else xf 85 13 L st h := xo_icmp_ge (t := 13) (by decide +kernel) rfl
set_option maxRecDepth 20000 in
theorem u_X7_isSetting_9 (L : xL) (st : List Value) (h : xH) : xf 85 9 L st h = xf 85 10 L (.int 1 :: st) h := xo_iconst (k := 1) (by decide +kernel) (by decide)
set_option maxRecDepth 20000 in
theorem u_X7_isSetting_10 (L : xL) (st : List Value) (h : xH) : xf 85 10 L st h = xf 85 14 L st h := xo_goto (n := 13) (t := 14) (by decide +kernel) rfl
set_option maxRecDepth 20000 in
theorem u_X7_isSetting_13 (L : xL) (st : List Value) (h : xH) : xf 85 13 L st h = xf 85 14 L (.int 0 :: st) h := xo_iconst (k := 0) (by decide +kernel) (by decide)
set_option maxRecDepth 20000 in
theorem u_X7_isSetting_14 (L : xL) (x : Int32) (h : xH) (hv : x = 0 ∨ x = 1) : xf 85 14 L [.int x] h = some (.inl (some (.int x)), h) := xo_ireturn (n := 15) (by decide +kernel) (by rcases hv with rfl | rfl <;> rfl)
set_option maxRecDepth 20000 in
theorem e_X7_isSetting (v0 : Int32) (h : xH) : xev 85 [.int v0] h = xf 85 0 [some (.int v0)] [] h := rfl
set_option maxRecDepth 20000 in
theorem u_X7_leastValue_0 (x : Int32) (st : List Value) (h : xH) : xf 86 0 [some (.int x)] st h = xf 86 1 [some (.int x)] (.int x :: st) h := xo_iload (k := 0) (by decide +kernel) rfl
set_option maxRecDepth 20000 in
theorem u_X7_leastValue_1 (L : xL) (a : Int32) (st : List Value) (h : xH) : xf 86 1 L (.int a :: st) h = if a = 0 then xf 86 4 L st h else xf 86 8 L st h := xo_if_ne (t := 8) (by decide +kernel) rfl
set_option maxRecDepth 20000 in
theorem u_X7_leastValue_4 (L : xL) (st : List Value) (h : xH) : xf 86 4 L st h = xf 86 5 L (.int 2 :: st) h := xo_iconst (k := 2) (by decide +kernel) (by decide)
set_option maxRecDepth 20000 in
theorem u_X7_leastValue_5 (L : xL) (st : List Value) (h : xH) : xf 86 5 L st h = xf 86 9 L st h := xo_goto (n := 8) (t := 9) (by decide +kernel) rfl
set_option maxRecDepth 20000 in
theorem u_X7_leastValue_8 (L : xL) (st : List Value) (h : xH) : xf 86 8 L st h = xf 86 9 L (.int 1 :: st) h := xo_iconst (k := 1) (by decide +kernel) (by decide)
set_option maxRecDepth 20000 in
theorem u_X7_leastValue_9 (L : xL) (x : Int32) (h : xH) : xf 86 9 L [.int x] h = some (.inl (some (.int x)), h) := xo_ireturn (n := 10) (by decide +kernel) rfl
set_option maxRecDepth 20000 in
theorem e_X7_leastValue (v0 : Int32) (h : xH) : xev 86 [.int v0] h = xf 86 0 [some (.int v0)] [] h := rfl
set_option maxRecDepth 20000 in
theorem u_X7_tryNaming_0 (l1 : Option Value) (x : Nat) (st : List Value) (h : xH) : xf 87 0 [some (.ref x), l1] st h = xf 87 1 [some (.ref x), l1] (.ref x :: st) h := xo_aload (k := 0) (by decide +kernel) rfl
set_option maxRecDepth 20000 in
theorem u_X7_tryNaming_1 (L : xL) (a : Nat) (st : List Value) (h : xH) (hc : (xob h a).1 = 7) : xf 87 1 L (.ref a :: st) h = xf 87 4 L ((xob h a).2.getD 4 .null :: st) h := xo_getf (r := 452) (by decide +kernel) (by decide) hc
set_option maxRecDepth 20000 in
theorem u_X7_tryNaming_4 (l1 : Option Value) (x : Nat) (st : List Value) (h : xH) : xf 87 4 [some (.ref x), l1] st h = xf 87 5 [some (.ref x), l1] (.ref x :: st) h := xo_aload (k := 0) (by decide +kernel) rfl
set_option maxRecDepth 20000 in
theorem u_X7_tryNaming_5 (L : xL) (a : Nat) (st : List Value) (h : xH) (hc : (xob h a).1 = 7) : xf 87 5 L (.ref a :: st) h = xf 87 8 L ((xob h a).2.getD 0 .null :: st) h := xo_getf (r := 448) (by decide +kernel) (by decide) hc
set_option maxRecDepth 20000 in
theorem u_X7_tryNaming_8 (L : xL) (v0 : Nat) (b : Nat) (st : List Value) (h : xH) (hb : (xob h b).1 = 6) (hl : st.length ≤ 4) : xf 87 8 L (.ref v0 :: .ref b :: st) h = xgo 87 8 11 L st (xev 48 [.ref b, .ref v0] h) := xo_callV (as := [.ref v0]) (by decide +kernel) rfl ⟨(by decide +kernel : xna 48 = 1), Nat.le_of_ble_eq_true rfl, rfl, by decide⟩ hb hl
set_option maxRecDepth 20000 in
theorem u_X7_tryNaming_11 (l1 : Option Value) (x : Nat) (st : List Value) (h : xH) : xf 87 11 [some (.ref x), l1] st h = xf 87 12 [some (.ref x), l1] (.ref x :: st) h := xo_aload (k := 0) (by decide +kernel) rfl
set_option maxRecDepth 20000 in
theorem u_X7_tryNaming_12 (L : xL) (a : Nat) (st : List Value) (h : xH) (hc : (xob h a).1 = 7) : xf 87 12 L (.ref a :: st) h = xf 87 15 L ((xob h a).2.getD 4 .null :: st) h := xo_getf (r := 452) (by decide +kernel) (by decide) hc
set_option maxRecDepth 20000 in
theorem u_X7_tryNaming_15 (L : xL) (a : Nat) (st : List Value) (h : xH) (hc : (xob h a).1 = 6) : xf 87 15 L (.ref a :: st) h = xf 87 18 L ((xob h a).2.getD 2 .null :: st) h := xo_getf (r := 386) (by decide +kernel) (by decide) hc
set_option maxRecDepth 20000 in
theorem u_X7_tryNaming_18 (L : xL) (st : List Value) (h : xH) : xf 87 18 L st h = xf 87 19 L (.int 0 :: st) h := xo_iconst (k := 0) (by decide +kernel) (by decide)
set_option maxRecDepth 20000 in
theorem u_X7_tryNaming_19 (l0 : Option Value) (x : Int32) (st : List Value) (h : xH) : xf 87 19 [l0, some (.int x)] st h = xf 87 20 [l0, some (.int x)] (.int x :: st) h := xo_iload (k := 1) (by decide +kernel) rfl
set_option maxRecDepth 20000 in
theorem u_X7_tryNaming_20 (L : xL) (v0 : Int32) (v1 : Int32) (b : Nat) (st : List Value) (h : xH) (hb : (xob h b).1 = 1) (hl : st.length ≤ 4) : xf 87 20 L (.int v1 :: .int v0 :: .ref b :: st) h = xgo 87 20 23 L st (xev 13 [.ref b, .int v0, .int v1] h) := xo_callV (as := [.int v0, .int v1]) (by decide +kernel) rfl ⟨(by decide +kernel : xna 13 = 2), Nat.le_of_ble_eq_true rfl, rfl, by decide⟩ hb hl
set_option maxRecDepth 20000 in
theorem u_X7_tryNaming_23 (l1 : Option Value) (x : Nat) (st : List Value) (h : xH) : xf 87 23 [some (.ref x), l1] st h = xf 87 24 [some (.ref x), l1] (.ref x :: st) h := xo_aload (k := 0) (by decide +kernel) rfl
set_option maxRecDepth 20000 in
theorem u_X7_tryNaming_24 (L : xL) (a : Nat) (st : List Value) (h : xH) (hc : (xob h a).1 = 7) : xf 87 24 L (.ref a :: st) h = xf 87 27 L ((xob h a).2.getD 3 .null :: st) h := xo_getf (r := 451) (by decide +kernel) (by decide) hc
set_option maxRecDepth 20000 in
theorem u_X7_tryNaming_27 (l1 : Option Value) (x : Nat) (st : List Value) (h : xH) : xf 87 27 [some (.ref x), l1] st h = xf 87 28 [some (.ref x), l1] (.ref x :: st) h := xo_aload (k := 0) (by decide +kernel) rfl
set_option maxRecDepth 20000 in
theorem u_X7_tryNaming_28 (L : xL) (a : Nat) (st : List Value) (h : xH) (hc : (xob h a).1 = 7) : xf 87 28 L (.ref a :: st) h = xf 87 31 L ((xob h a).2.getD 4 .null :: st) h := xo_getf (r := 452) (by decide +kernel) (by decide) hc
set_option maxRecDepth 20000 in
theorem u_X7_tryNaming_31 (L : xL) (v0 : Nat) (b : Nat) (st : List Value) (h : xH) (hb : (xob h b).1 = 4) (hl : st.length ≤ 4) : xf 87 31 L (.ref v0 :: .ref b :: st) h = xgo 87 31 34 L st (xev 34 [.ref b, .ref v0] h) := xo_callV (as := [.ref v0]) (by decide +kernel) rfl ⟨(by decide +kernel : xna 34 = 1), Nat.le_of_ble_eq_true rfl, rfl, by decide⟩ hb hl
set_option maxRecDepth 20000 in
theorem u_X7_tryNaming_34 (L : xL) (a : Int32) (st : List Value) (h : xH) : xf 87 34 L (.int a :: st) h = xf 87 35 L st h := xo_pop (by decide +kernel)
set_option maxRecDepth 20000 in
theorem u_X7_tryNaming_35 (L : xL) (h : xH) : xf 87 35 L [] h = some (.inl none, h) := xo_return (n := 36) (by decide +kernel) rfl
set_option maxRecDepth 20000 in
theorem e_X7_tryNaming (v0 : Nat) (v1 : Int32) (h : xH) : xev 87 [.ref v0, .int v1] h = xf 87 0 [some (.ref v0), some (.int v1)] [] h := rfl
set_option maxRecDepth 20000 in
theorem u_X7_trialNumber_0 (l0 : Option Value) (x : Int32) (st : List Value) (h : xH) : xf 88 0 [l0, some (.int x)] st h = xf 88 1 [l0, some (.int x)] (.int x :: st) h := xo_iload (k := 1) (by decide +kernel) rfl
set_option maxRecDepth 20000 in
theorem u_X7_trialNumber_1 (L : xL) (a : Int32) (st : List Value) (h : xH) : xf 88 1 L (.int a :: st) h = if a = 0 then xf 88 28 L st h else if a = 1 then xf 88 44 L st h else if a = 2 then xf 88 55 L st h else xf 88 63 L st h := by
  have ho : xop 88 1 = some (.tableswitch 63 0 2 #[28, 44, 55], 1) := by decide +kernel
  by_cases h0 : a = 0
  · subst h0
    rw [if_pos rfl]
    exact xo_tsw (t := 28) ho (by decide) (by decide) rfl
  rw [if_neg h0]
  by_cases h1 : a = 1
  · subst h1
    rw [if_pos rfl]
    exact xo_tsw (t := 44) ho (by decide) (by decide) rfl
  rw [if_neg h1]
  by_cases h2 : a = 2
  · subst h2
    rw [if_pos rfl]
    exact xo_tsw (t := 55) ho (by decide) (by decide) rfl
  rw [if_neg h2]
  refine xo_tswO ho rfl ?_
  have g0 := xi_ne h0
  rw [show (0 : Int32).toInt = 0 by decide] at g0
  have g1 := xi_ne h1
  rw [show (1 : Int32).toInt = 1 by decide] at g1
  have g2 := xi_ne h2
  rw [show (2 : Int32).toInt = 2 by decide] at g2
  omega
set_option maxRecDepth 20000 in
theorem u_X7_trialNumber_28 (l1 : Option Value) (x : Nat) (st : List Value) (h : xH) : xf 88 28 [some (.ref x), l1] st h = xf 88 29 [some (.ref x), l1] (.ref x :: st) h := xo_aload (k := 0) (by decide +kernel) rfl
set_option maxRecDepth 20000 in
theorem u_X7_trialNumber_29 (L : xL) (a : Nat) (st : List Value) (h : xH) (hc : (xob h a).1 = 7) : xf 88 29 L (.ref a :: st) h = xf 88 32 L ((xob h a).2.getD 4 .null :: st) h := xo_getf (r := 452) (by decide +kernel) (by decide) hc
set_option maxRecDepth 20000 in
theorem u_X7_trialNumber_32 (L : xL) (a : Nat) (st : List Value) (h : xH) (hc : (xob h a).1 = 6) : xf 88 32 L (.ref a :: st) h = xf 88 35 L ((xob h a).2.getD 3 .null :: st) h := xo_getf (r := 387) (by decide +kernel) (by decide) hc
set_option maxRecDepth 20000 in
theorem u_X7_trialNumber_35 (l1 : Option Value) (x : Nat) (st : List Value) (h : xH) : xf 88 35 [some (.ref x), l1] st h = xf 88 36 [some (.ref x), l1] (.ref x :: st) h := xo_aload (k := 0) (by decide +kernel) rfl
set_option maxRecDepth 20000 in
theorem u_X7_trialNumber_36 (L : xL) (a : Nat) (st : List Value) (h : xH) (hc : (xob h a).1 = 7) : xf 88 36 L (.ref a :: st) h = xf 88 39 L ((xob h a).2.getD 0 .null :: st) h := xo_getf (r := 448) (by decide +kernel) (by decide) hc
set_option maxRecDepth 20000 in
theorem u_X7_trialNumber_39 (L : xL) (a : Nat) (st : List Value) (h : xH) (hc : (xob h a).1 = 6) : xf 88 39 L (.ref a :: st) h = xf 88 42 L ((xob h a).2.getD 3 .null :: st) h := xo_getf (r := 387) (by decide +kernel) (by decide) hc
set_option maxRecDepth 20000 in
theorem u_X7_trialNumber_42 (L : xL) (a b : Int32) (st : List Value) (h : xH) : xf 88 42 L (.int b :: .int a :: st) h = xf 88 43 L (.int (a - b) :: st) h := xo_isub (by decide +kernel)
set_option maxRecDepth 20000 in
theorem u_X7_trialNumber_43 (L : xL) (x : Int32) (h : xH) : xf 88 43 L [.int x] h = some (.inl (some (.int x)), h) := xo_ireturn (n := 44) (by decide +kernel) rfl
set_option maxRecDepth 20000 in
theorem u_X7_trialNumber_44 (l1 : Option Value) (x : Nat) (st : List Value) (h : xH) : xf 88 44 [some (.ref x), l1] st h = xf 88 45 [some (.ref x), l1] (.ref x :: st) h := xo_aload (k := 0) (by decide +kernel) rfl
set_option maxRecDepth 20000 in
theorem u_X7_trialNumber_45 (L : xL) (a : Nat) (st : List Value) (h : xH) (hc : (xob h a).1 = 7) : xf 88 45 L (.ref a :: st) h = xf 88 48 L ((xob h a).2.getD 4 .null :: st) h := xo_getf (r := 452) (by decide +kernel) (by decide) hc
set_option maxRecDepth 20000 in
theorem u_X7_trialNumber_48 (L : xL) (a : Nat) (st : List Value) (h : xH) (hc : (xob h a).1 = 6) : xf 88 48 L (.ref a :: st) h = xf 88 51 L ((xob h a).2.getD 0 .null :: st) h := xo_getf (r := 384) (by decide +kernel) (by decide) hc
set_option maxRecDepth 20000 in
theorem u_X7_trialNumber_51 (L : xL) (a : Nat) (st : List Value) (h : xH) (hc : (xob h a).1 = 5) : xf 88 51 L (.ref a :: st) h = xf 88 54 L ((xob h a).2.getD 1 .null :: st) h := xo_getf (r := 321) (by decide +kernel) (by decide) hc
set_option maxRecDepth 20000 in
theorem u_X7_trialNumber_54 (L : xL) (x : Int32) (h : xH) : xf 88 54 L [.int x] h = some (.inl (some (.int x)), h) := xo_ireturn (n := 55) (by decide +kernel) rfl
set_option maxRecDepth 20000 in
theorem u_X7_trialNumber_55 (l1 : Option Value) (x : Nat) (st : List Value) (h : xH) : xf 88 55 [some (.ref x), l1] st h = xf 88 56 [some (.ref x), l1] (.ref x :: st) h := xo_aload (k := 0) (by decide +kernel) rfl
set_option maxRecDepth 20000 in
theorem u_X7_trialNumber_56 (L : xL) (a : Nat) (st : List Value) (h : xH) (hc : (xob h a).1 = 7) : xf 88 56 L (.ref a :: st) h = xf 88 59 L ((xob h a).2.getD 4 .null :: st) h := xo_getf (r := 452) (by decide +kernel) (by decide) hc
set_option maxRecDepth 20000 in
theorem u_X7_trialNumber_59 (L : xL) (b : Nat) (st : List Value) (h : xH) (hb : (xob h b).1 = 6) (hl : st.length ≤ 4) : xf 88 59 L (.ref b :: st) h = xgo 88 59 62 L st (xev 50 [.ref b] h) := xo_callV (as := []) (by decide +kernel) rfl ⟨(by decide +kernel : xna 50 = 0), Nat.le_of_ble_eq_true rfl, rfl, by decide⟩ hb hl
set_option maxRecDepth 20000 in
theorem u_X7_trialNumber_62 (L : xL) (x : Int32) (h : xH) : xf 88 62 L [.int x] h = some (.inl (some (.int x)), h) := xo_ireturn (n := 63) (by decide +kernel) rfl
set_option maxRecDepth 20000 in
theorem u_X7_trialNumber_63 (l1 : Option Value) (x : Nat) (st : List Value) (h : xH) : xf 88 63 [some (.ref x), l1] st h = xf 88 64 [some (.ref x), l1] (.ref x :: st) h := xo_aload (k := 0) (by decide +kernel) rfl
set_option maxRecDepth 20000 in
theorem u_X7_trialNumber_64 (L : xL) (a : Nat) (st : List Value) (h : xH) (hc : (xob h a).1 = 7) : xf 88 64 L (.ref a :: st) h = xf 88 67 L ((xob h a).2.getD 4 .null :: st) h := xo_getf (r := 452) (by decide +kernel) (by decide) hc
set_option maxRecDepth 20000 in
theorem u_X7_trialNumber_67 (L : xL) (b : Nat) (st : List Value) (h : xH) (hb : (xob h b).1 = 6) (hl : st.length ≤ 4) : xf 88 67 L (.ref b :: st) h = xgo 88 67 70 L st (xev 52 [.ref b] h) := xo_callV (as := []) (by decide +kernel) rfl ⟨(by decide +kernel : xna 52 = 0), Nat.le_of_ble_eq_true rfl, rfl, by decide⟩ hb hl
set_option maxRecDepth 20000 in
theorem u_X7_trialNumber_70 (L : xL) (x : Int32) (h : xH) : xf 88 70 L [.int x] h = some (.inl (some (.int x)), h) := xo_ireturn (n := 71) (by decide +kernel) rfl
set_option maxRecDepth 20000 in
theorem e_X7_trialNumber (v0 : Nat) (v1 : Int32) (h : xH) : xev 88 [.ref v0, .int v1] h = xf 88 0 [some (.ref v0), some (.int v1)] [] h := rfl
