/-! Instructions as equations: written by gen_u.py. -/
set_option maxRecDepth 20000 in
theorem u_X6_init_0 (x : Nat) (st : List Value) (h : xH) : xf 47 0 [some (.ref x)] st h = xf 47 1 [some (.ref x)] (.ref x :: st) h := xo_aload (k := 0) (by decide +kernel) rfl
set_option maxRecDepth 20000 in
theorem u_X6_init_1 (L : xL) (a : Nat) (st : List Value) (h : xH) (hl : st.length ≤ 4) : xf 47 1 L (.ref a :: st) h = xf 47 4 L st h := xo_objinit (by decide +kernel) hl
set_option maxRecDepth 20000 in
theorem u_X6_init_4 (x : Nat) (st : List Value) (h : xH) : xf 47 4 [some (.ref x)] st h = xf 47 5 [some (.ref x)] (.ref x :: st) h := xo_aload (k := 0) (by decide +kernel) rfl
set_option maxRecDepth 20000 in
theorem u_X6_init_5 (L : xL) (st : List Value) (h : xH) (hn : h.2.1 ≠ 0) : xf 47 5 L st h = xf 47 8 L (.ref h.2.1 :: st) (xnew h (.inr (5, xdef 5)) 2) := xo_new (c := 5) (by decide +kernel) (by decide) hn
set_option maxRecDepth 20000 in
theorem u_X6_init_8 (L : xL) (a : Nat) (st : List Value) (h : xH) : xf 47 8 L (.ref a :: st) h = xf 47 9 L (.ref a :: .ref a :: st) h := xo_dupR (by decide +kernel)
set_option maxRecDepth 20000 in
theorem u_X6_init_9 (L : xL) (b : Nat) (st : List Value) (h : xH) (hl : st.length ≤ 4) : xf 47 9 L (.ref b :: st) h = xgoI 47 9 12 L st (xev 35 [.ref b] h) := xo_callI (as := []) (by decide +kernel) rfl ⟨(by decide +kernel : xna 35 = 0), Nat.le_of_ble_eq_true rfl, by decide⟩ hl
set_option maxRecDepth 20000 in
theorem u_X6_init_12 (L : xL) (v : Nat) (a : Nat) (st : List Value) (h : xH) (hc : (xob h a).1 = 6) : xf 47 12 L (.ref v :: .ref a :: st) h = xf 47 15 L st (xso h a 0 (.ref v)) := xo_putf (r := 384) (by decide +kernel) (by decide) rfl hc
set_option maxRecDepth 20000 in
theorem u_X6_init_15 (x : Nat) (st : List Value) (h : xH) : xf 47 15 [some (.ref x)] st h = xf 47 16 [some (.ref x)] (.ref x :: st) h := xo_aload (k := 0) (by decide +kernel) rfl
set_option maxRecDepth 20000 in
theorem u_X6_init_16 (L : xL) (st : List Value) (h : xH) (hn : h.2.1 ≠ 0) : xf 47 16 L st h = xf 47 19 L (.ref h.2.1 :: st) (xnew h (.inr (3, xdef 3)) 4) := xo_new (c := 3) (by decide +kernel) (by decide) hn
set_option maxRecDepth 20000 in
theorem u_X6_init_19 (L : xL) (a : Nat) (st : List Value) (h : xH) : xf 47 19 L (.ref a :: st) h = xf 47 20 L (.ref a :: .ref a :: st) h := xo_dupR (by decide +kernel)
set_option maxRecDepth 20000 in
theorem u_X6_init_20 (L : xL) (b : Nat) (st : List Value) (h : xH) (hl : st.length ≤ 4) : xf 47 20 L (.ref b :: st) h = xgoI 47 20 23 L st (xev 19 [.ref b] h) := xo_callI (as := []) (by decide +kernel) rfl ⟨(by decide +kernel : xna 19 = 0), Nat.le_of_ble_eq_true rfl, by decide⟩ hl
set_option maxRecDepth 20000 in
theorem u_X6_init_23 (L : xL) (v : Nat) (a : Nat) (st : List Value) (h : xH) (hc : (xob h a).1 = 6) : xf 47 23 L (.ref v :: .ref a :: st) h = xf 47 26 L st (xso h a 1 (.ref v)) := xo_putf (r := 385) (by decide +kernel) (by decide) rfl hc
set_option maxRecDepth 20000 in
theorem u_X6_init_26 (x : Nat) (st : List Value) (h : xH) : xf 47 26 [some (.ref x)] st h = xf 47 27 [some (.ref x)] (.ref x :: st) h := xo_aload (k := 0) (by decide +kernel) rfl
set_option maxRecDepth 20000 in
theorem u_X6_init_27 (L : xL) (st : List Value) (h : xH) (hn : h.2.1 ≠ 0) : xf 47 27 L st h = xf 47 30 L (.ref h.2.1 :: st) (xnew h (.inr (1, xdef 1)) 1) := xo_new (c := 1) (by decide +kernel) (by decide) hn
set_option maxRecDepth 20000 in
theorem u_X6_init_30 (L : xL) (a : Nat) (st : List Value) (h : xH) : xf 47 30 L (.ref a :: st) h = xf 47 31 L (.ref a :: .ref a :: st) h := xo_dupR (by decide +kernel)
set_option maxRecDepth 20000 in
theorem u_X6_init_31 (L : xL) (st : List Value) (h : xH) : xf 47 31 L st h = xf 47 32 L (.int 2 :: st) h := xo_iconst (k := 2) (by decide +kernel) (by decide)
set_option maxRecDepth 20000 in
theorem u_X6_init_32 (L : xL) (v0 : Int32) (b : Nat) (st : List Value) (h : xH) (hl : st.length ≤ 4) : xf 47 32 L (.int v0 :: .ref b :: st) h = xgoI 47 32 35 L st (xev 11 [.ref b, .int v0] h) := xo_callI (as := [.int v0]) (by decide +kernel) rfl ⟨(by decide +kernel : xna 11 = 1), Nat.le_of_ble_eq_true rfl, by decide⟩ hl
set_option maxRecDepth 20000 in
theorem u_X6_init_35 (L : xL) (v : Nat) (a : Nat) (st : List Value) (h : xH) (hc : (xob h a).1 = 6) : xf 47 35 L (.ref v :: .ref a :: st) h = xf 47 38 L st (xso h a 2 (.ref v)) := xo_putf (r := 386) (by decide +kernel) (by decide) rfl hc
set_option maxRecDepth 20000 in
theorem u_X6_init_38 (x : Nat) (st : List Value) (h : xH) : xf 47 38 [some (.ref x)] st h = xf 47 39 [some (.ref x)] (.ref x :: st) h := xo_aload (k := 0) (by decide +kernel) rfl
set_option maxRecDepth 20000 in
theorem u_X6_init_39 (L : xL) (st : List Value) (h : xH) (hn : h.2.1 ≠ 0) : xf 47 39 L st h = xf 47 42 L (.ref h.2.1 :: st) (xnew h (.inr (1, xdef 1)) 1) := xo_new (c := 1) (by decide +kernel) (by decide) hn
set_option maxRecDepth 20000 in
theorem u_X6_init_42 (L : xL) (a : Nat) (st : List Value) (h : xH) : xf 47 42 L (.ref a :: st) h = xf 47 43 L (.ref a :: .ref a :: st) h := xo_dupR (by decide +kernel)
set_option maxRecDepth 20000 in
theorem u_X6_init_43 (L : xL) (st : List Value) (h : xH) : xf 47 43 L st h = xf 47 45 L (.int 24 :: st) h := xo_iconst (k := 24) (by decide +kernel) (by decide)
set_option maxRecDepth 20000 in
theorem u_X6_init_45 (L : xL) (v0 : Int32) (b : Nat) (st : List Value) (h : xH) (hl : st.length ≤ 4) : xf 47 45 L (.int v0 :: .ref b :: st) h = xgoI 47 45 48 L st (xev 11 [.ref b, .int v0] h) := xo_callI (as := [.int v0]) (by decide +kernel) rfl ⟨(by decide +kernel : xna 11 = 1), Nat.le_of_ble_eq_true rfl, by decide⟩ hl
set_option maxRecDepth 20000 in
theorem u_X6_init_48 (L : xL) (v : Nat) (a : Nat) (st : List Value) (h : xH) (hc : (xob h a).1 = 6) : xf 47 48 L (.ref v :: .ref a :: st) h = xf 47 51 L st (xso h a 5 (.ref v)) := xo_putf (r := 389) (by decide +kernel) (by decide) rfl hc
set_option maxRecDepth 20000 in
theorem u_X6_init_51 (x : Nat) (st : List Value) (h : xH) : xf 47 51 [some (.ref x)] st h = xf 47 52 [some (.ref x)] (.ref x :: st) h := xo_aload (k := 0) (by decide +kernel) rfl
set_option maxRecDepth 20000 in
theorem u_X6_init_52 (L : xL) (a : Nat) (st : List Value) (h : xH) (hc : (xob h a).1 = 6) : xf 47 52 L (.ref a :: st) h = xf 47 55 L ((xob h a).2.getD 2 .null :: st) h := xo_getf (r := 386) (by decide +kernel) (by decide) hc
set_option maxRecDepth 20000 in
theorem u_X6_init_55 (L : xL) (st : List Value) (h : xH) : xf 47 55 L st h = xf 47 56 L (.int 0 :: st) h := xo_iconst (k := 0) (by decide +kernel) (by decide)
set_option maxRecDepth 20000 in
theorem u_X6_init_56 (L : xL) (st : List Value) (h : xH) : xf 47 56 L st h = xf 47 57 L (.int 2 :: st) h := xo_iconst (k := 2) (by decide +kernel) (by decide)
set_option maxRecDepth 20000 in
theorem u_X6_init_57 (L : xL) (v0 : Int32) (v1 : Int32) (b : Nat) (st : List Value) (h : xH) (hb : (xob h b).1 = 1) (hl : st.length ≤ 4) : xf 47 57 L (.int v1 :: .int v0 :: .ref b :: st) h = xgo 47 57 60 L st (xev 13 [.ref b, .int v0, .int v1] h) := xo_callV (as := [.int v0, .int v1]) (by decide +kernel) rfl ⟨(by decide +kernel : xna 13 = 2), Nat.le_of_ble_eq_true rfl, rfl, by decide⟩ hb hl
set_option maxRecDepth 20000 in
theorem u_X6_init_60 (x : Nat) (st : List Value) (h : xH) : xf 47 60 [some (.ref x)] st h = xf 47 61 [some (.ref x)] (.ref x :: st) h := xo_aload (k := 0) (by decide +kernel) rfl
set_option maxRecDepth 20000 in
theorem u_X6_init_61 (L : xL) (a : Nat) (st : List Value) (h : xH) (hc : (xob h a).1 = 6) : xf 47 61 L (.ref a :: st) h = xf 47 64 L ((xob h a).2.getD 2 .null :: st) h := xo_getf (r := 386) (by decide +kernel) (by decide) hc
set_option maxRecDepth 20000 in
theorem u_X6_init_64 (L : xL) (st : List Value) (h : xH) : xf 47 64 L st h = xf 47 65 L (.int 1 :: st) h := xo_iconst (k := 1) (by decide +kernel) (by decide)
set_option maxRecDepth 20000 in
theorem u_X6_init_65 (L : xL) (st : List Value) (h : xH) : xf 47 65 L st h = xf 47 66 L (.int 2 :: st) h := xo_iconst (k := 2) (by decide +kernel) (by decide)
set_option maxRecDepth 20000 in
theorem u_X6_init_66 (L : xL) (v0 : Int32) (v1 : Int32) (b : Nat) (st : List Value) (h : xH) (hb : (xob h b).1 = 1) (hl : st.length ≤ 4) : xf 47 66 L (.int v1 :: .int v0 :: .ref b :: st) h = xgo 47 66 69 L st (xev 13 [.ref b, .int v0, .int v1] h) := xo_callV (as := [.int v0, .int v1]) (by decide +kernel) rfl ⟨(by decide +kernel : xna 13 = 2), Nat.le_of_ble_eq_true rfl, rfl, by decide⟩ hb hl
set_option maxRecDepth 20000 in
theorem u_X6_init_69 (L : xL) (h : xH) : xf 47 69 L [] h = some (.inl none, h) := xo_return (n := 70) (by decide +kernel) rfl
set_option maxRecDepth 20000 in
theorem e_X6_init (v0 : Nat) (h : xH) : xev 47 [.ref v0] h = xf 47 0 [some (.ref v0)] [] h := rfl
set_option maxRecDepth 20000 in
theorem u_X6_copyFrom_0 (l1 : Option Value) (x : Nat) (st : List Value) (h : xH) : xf 48 0 [some (.ref x), l1] st h = xf 48 1 [some (.ref x), l1] (.ref x :: st) h := xo_aload (k := 0) (by decide +kernel) rfl
set_option maxRecDepth 20000 in
theorem u_X6_copyFrom_1 (L : xL) (a : Nat) (st : List Value) (h : xH) (hc : (xob h a).1 = 6) : xf 48 1 L (.ref a :: st) h = xf 48 4 L ((xob h a).2.getD 0 .null :: st) h := xo_getf (r := 384) (by decide +kernel) (by decide) hc
set_option maxRecDepth 20000 in
theorem u_X6_copyFrom_4 (l0 : Option Value) (x : Nat) (st : List Value) (h : xH) : xf 48 4 [l0, some (.ref x)] st h = xf 48 5 [l0, some (.ref x)] (.ref x :: st) h := xo_aload (k := 1) (by decide +kernel) rfl
set_option maxRecDepth 20000 in
theorem u_X6_copyFrom_5 (L : xL) (a : Nat) (st : List Value) (h : xH) (hc : (xob h a).1 = 6) : xf 48 5 L (.ref a :: st) h = xf 48 8 L ((xob h a).2.getD 0 .null :: st) h := xo_getf (r := 384) (by decide +kernel) (by decide) hc
set_option maxRecDepth 20000 in
theorem u_X6_copyFrom_8 (L : xL) (v0 : Nat) (b : Nat) (st : List Value) (h : xH) (hb : (xob h b).1 = 5) (hl : st.length ≤ 4) : xf 48 8 L (.ref v0 :: .ref b :: st) h = xgo 48 8 11 L st (xev 40 [.ref b, .ref v0] h) := xo_callV (as := [.ref v0]) (by decide +kernel) rfl ⟨(by decide +kernel : xna 40 = 1), Nat.le_of_ble_eq_true rfl, rfl, by decide⟩ hb hl
set_option maxRecDepth 20000 in
theorem u_X6_copyFrom_11 (l1 : Option Value) (x : Nat) (st : List Value) (h : xH) : xf 48 11 [some (.ref x), l1] st h = xf 48 12 [some (.ref x), l1] (.ref x :: st) h := xo_aload (k := 0) (by decide +kernel) rfl
set_option maxRecDepth 20000 in
theorem u_X6_copyFrom_12 (L : xL) (a : Nat) (st : List Value) (h : xH) (hc : (xob h a).1 = 6) : xf 48 12 L (.ref a :: st) h = xf 48 15 L ((xob h a).2.getD 1 .null :: st) h := xo_getf (r := 385) (by decide +kernel) (by decide) hc
set_option maxRecDepth 20000 in
theorem u_X6_copyFrom_15 (l0 : Option Value) (x : Nat) (st : List Value) (h : xH) : xf 48 15 [l0, some (.ref x)] st h = xf 48 16 [l0, some (.ref x)] (.ref x :: st) h := xo_aload (k := 1) (by decide +kernel) rfl
set_option maxRecDepth 20000 in
theorem u_X6_copyFrom_16 (L : xL) (a : Nat) (st : List Value) (h : xH) (hc : (xob h a).1 = 6) : xf 48 16 L (.ref a :: st) h = xf 48 19 L ((xob h a).2.getD 1 .null :: st) h := xo_getf (r := 385) (by decide +kernel) (by decide) hc
set_option maxRecDepth 20000 in
theorem u_X6_copyFrom_19 (L : xL) (v0 : Nat) (b : Nat) (st : List Value) (h : xH) (hb : (xob h b).1 = 3) (hl : st.length ≤ 4) : xf 48 19 L (.ref v0 :: .ref b :: st) h = xgo 48 19 22 L st (xev 20 [.ref b, .ref v0] h) := xo_callV (as := [.ref v0]) (by decide +kernel) rfl ⟨(by decide +kernel : xna 20 = 1), Nat.le_of_ble_eq_true rfl, rfl, by decide⟩ hb hl
set_option maxRecDepth 20000 in
theorem u_X6_copyFrom_22 (l1 : Option Value) (x : Nat) (st : List Value) (h : xH) : xf 48 22 [some (.ref x), l1] st h = xf 48 23 [some (.ref x), l1] (.ref x :: st) h := xo_aload (k := 0) (by decide +kernel) rfl
set_option maxRecDepth 20000 in
theorem u_X6_copyFrom_23 (L : xL) (a : Nat) (st : List Value) (h : xH) (hc : (xob h a).1 = 6) : xf 48 23 L (.ref a :: st) h = xf 48 26 L ((xob h a).2.getD 2 .null :: st) h := xo_getf (r := 386) (by decide +kernel) (by decide) hc
set_option maxRecDepth 20000 in
theorem u_X6_copyFrom_26 (l0 : Option Value) (x : Nat) (st : List Value) (h : xH) : xf 48 26 [l0, some (.ref x)] st h = xf 48 27 [l0, some (.ref x)] (.ref x :: st) h := xo_aload (k := 1) (by decide +kernel) rfl
set_option maxRecDepth 20000 in
theorem u_X6_copyFrom_27 (L : xL) (a : Nat) (st : List Value) (h : xH) (hc : (xob h a).1 = 6) : xf 48 27 L (.ref a :: st) h = xf 48 30 L ((xob h a).2.getD 2 .null :: st) h := xo_getf (r := 386) (by decide +kernel) (by decide) hc
set_option maxRecDepth 20000 in
theorem u_X6_copyFrom_30 (L : xL) (v0 : Nat) (b : Nat) (st : List Value) (h : xH) (hb : (xob h b).1 = 1) (hl : st.length ≤ 4) : xf 48 30 L (.ref v0 :: .ref b :: st) h = xgo 48 30 33 L st (xev 15 [.ref b, .ref v0] h) := xo_callV (as := [.ref v0]) (by decide +kernel) rfl ⟨(by decide +kernel : xna 15 = 1), Nat.le_of_ble_eq_true rfl, rfl, by decide⟩ hb hl
set_option maxRecDepth 20000 in
theorem u_X6_copyFrom_33 (l1 : Option Value) (x : Nat) (st : List Value) (h : xH) : xf 48 33 [some (.ref x), l1] st h = xf 48 34 [some (.ref x), l1] (.ref x :: st) h := xo_aload (k := 0) (by decide +kernel) rfl
set_option maxRecDepth 20000 in
theorem u_X6_copyFrom_34 (l0 : Option Value) (x : Nat) (st : List Value) (h : xH) : xf 48 34 [l0, some (.ref x)] st h = xf 48 35 [l0, some (.ref x)] (.ref x :: st) h := xo_aload (k := 1) (by decide +kernel) rfl
set_option maxRecDepth 20000 in
theorem u_X6_copyFrom_35 (L : xL) (a : Nat) (st : List Value) (h : xH) (hc : (xob h a).1 = 6) : xf 48 35 L (.ref a :: st) h = xf 48 38 L ((xob h a).2.getD 3 .null :: st) h := xo_getf (r := 387) (by decide +kernel) (by decide) hc
set_option maxRecDepth 20000 in
theorem u_X6_copyFrom_38 (L : xL) (v : Int32) (a : Nat) (st : List Value) (h : xH) (hc : (xob h a).1 = 6) : xf 48 38 L (.int v :: .ref a :: st) h = xf 48 41 L st (xso h a 3 (.int v)) := xo_putf (r := 387) (by decide +kernel) (by decide) rfl hc
set_option maxRecDepth 20000 in
theorem u_X6_copyFrom_41 (l1 : Option Value) (x : Nat) (st : List Value) (h : xH) : xf 48 41 [some (.ref x), l1] st h = xf 48 42 [some (.ref x), l1] (.ref x :: st) h := xo_aload (k := 0) (by decide +kernel) rfl
set_option maxRecDepth 20000 in
theorem u_X6_copyFrom_42 (l0 : Option Value) (x : Nat) (st : List Value) (h : xH) : xf 48 42 [l0, some (.ref x)] st h = xf 48 43 [l0, some (.ref x)] (.ref x :: st) h := xo_aload (k := 1) (by decide +kernel) rfl
set_option maxRecDepth 20000 in
theorem u_X6_copyFrom_43 (L : xL) (a : Nat) (st : List Value) (h : xH) (hc : (xob h a).1 = 6) : xf 48 43 L (.ref a :: st) h = xf 48 46 L ((xob h a).2.getD 4 .null :: st) h := xo_getf (r := 388) (by decide +kernel) (by decide) hc
set_option maxRecDepth 20000 in
theorem u_X6_copyFrom_46 (L : xL) (v : Int32) (a : Nat) (st : List Value) (h : xH) (hc : (xob h a).1 = 6) : xf 48 46 L (.int v :: .ref a :: st) h = xf 48 49 L st (xso h a 4 (.int v)) := xo_putf (r := 388) (by decide +kernel) (by decide) rfl hc
set_option maxRecDepth 20000 in
theorem u_X6_copyFrom_49 (L : xL) (h : xH) : xf 48 49 L [] h = some (.inl none, h) := xo_return (n := 50) (by decide +kernel) rfl
set_option maxRecDepth 20000 in
theorem e_X6_copyFrom (v0 : Nat) (v1 : Nat) (h : xH) : xev 48 [.ref v0, .ref v1] h = xf 48 0 [some (.ref v0), some (.ref v1)] [] h := rfl
set_option maxRecDepth 20000 in
theorem u_X6_usesOf_0 (l1 : Option Value) (x : Nat) (st : List Value) (h : xH) : xf 49 0 [some (.ref x), l1] st h = xf 49 1 [some (.ref x), l1] (.ref x :: st) h := xo_aload (k := 0) (by decide +kernel) rfl
set_option maxRecDepth 20000 in
theorem u_X6_usesOf_1 (L : xL) (a : Nat) (st : List Value) (h : xH) (hc : (xob h a).1 = 6) : xf 49 1 L (.ref a :: st) h = xf 49 4 L ((xob h a).2.getD 0 .null :: st) h := xo_getf (r := 384) (by decide +kernel) (by decide) hc
set_option maxRecDepth 20000 in
theorem u_X6_usesOf_4 (l0 : Option Value) (x : Int32) (st : List Value) (h : xH) : xf 49 4 [l0, some (.int x)] st h = xf 49 5 [l0, some (.int x)] (.int x :: st) h := xo_iload (k := 1) (by decide +kernel) rfl
set_option maxRecDepth 20000 in
theorem u_X6_usesOf_5 (L : xL) (v0 : Int32) (b : Nat) (st : List Value) (h : xH) (hb : (xob h b).1 = 5) (hl : st.length ≤ 4) : xf 49 5 L (.int v0 :: .ref b :: st) h = xgo 49 5 8 L st (xev 45 [.ref b, .int v0] h) := xo_callV (as := [.int v0]) (by decide +kernel) rfl ⟨(by decide +kernel : xna 45 = 1), Nat.le_of_ble_eq_true rfl, rfl, by decide⟩ hb hl
set_option maxRecDepth 20000 in
theorem u_X6_usesOf_8 (l1 : Option Value) (x : Nat) (st : List Value) (h : xH) : xf 49 8 [some (.ref x), l1] st h = xf 49 9 [some (.ref x), l1] (.ref x :: st) h := xo_aload (k := 0) (by decide +kernel) rfl
set_option maxRecDepth 20000 in
theorem u_X6_usesOf_9 (L : xL) (a : Nat) (st : List Value) (h : xH) (hc : (xob h a).1 = 6) : xf 49 9 L (.ref a :: st) h = xf 49 12 L ((xob h a).2.getD 1 .null :: st) h := xo_getf (r := 385) (by decide +kernel) (by decide) hc
set_option maxRecDepth 20000 in
theorem u_X6_usesOf_12 (l0 : Option Value) (x : Int32) (st : List Value) (h : xH) : xf 49 12 [l0, some (.int x)] st h = xf 49 13 [l0, some (.int x)] (.int x :: st) h := xo_iload (k := 1) (by decide +kernel) rfl
set_option maxRecDepth 20000 in
theorem u_X6_usesOf_13 (L : xL) (v0 : Int32) (b : Nat) (st : List Value) (h : xH) (hb : (xob h b).1 = 3) (hl : st.length ≤ 4) : xf 49 13 L (.int v0 :: .ref b :: st) h = xgo 49 13 16 L st (xev 26 [.ref b, .int v0] h) := xo_callV (as := [.int v0]) (by decide +kernel) rfl ⟨(by decide +kernel : xna 26 = 1), Nat.le_of_ble_eq_true rfl, rfl, by decide⟩ hb hl
set_option maxRecDepth 20000 in
theorem u_X6_usesOf_16 (L : xL) (a b : Int32) (st : List Value) (h : xH) : xf 49 16 L (.int b :: .int a :: st) h = xf 49 17 L (.int (a + b) :: st) h := xo_iadd (by decide +kernel)
set_option maxRecDepth 20000 in
theorem u_X6_usesOf_17 (L : xL) (x : Int32) (h : xH) : xf 49 17 L [.int x] h = some (.inl (some (.int x)), h) := xo_ireturn (n := 18) (by decide +kernel) rfl
set_option maxRecDepth 20000 in
theorem e_X6_usesOf (v0 : Nat) (v1 : Int32) (h : xH) : xev 49 [.ref v0, .int v1] h = xf 49 0 [some (.ref v0), some (.int v1)] [] h := rfl
set_option maxRecDepth 20000 in
theorem u_X6_size_0 (x : Nat) (st : List Value) (h : xH) : xf 50 0 [some (.ref x)] st h = xf 50 1 [some (.ref x)] (.ref x :: st) h := xo_aload (k := 0) (by decide +kernel) rfl
set_option maxRecDepth 20000 in
theorem u_X6_size_1 (L : xL) (a : Nat) (st : List Value) (h : xH) (hc : (xob h a).1 = 6) : xf 50 1 L (.ref a :: st) h = xf 50 4 L ((xob h a).2.getD 0 .null :: st) h := xo_getf (r := 384) (by decide +kernel) (by decide) hc
set_option maxRecDepth 20000 in
theorem u_X6_size_4 (L : xL) (a : Nat) (st : List Value) (h : xH) (hc : (xob h a).1 = 5) : xf 50 4 L (.ref a :: st) h = xf 50 7 L ((xob h a).2.getD 1 .null :: st) h := xo_getf (r := 321) (by decide +kernel) (by decide) hc
set_option maxRecDepth 20000 in
theorem u_X6_size_7 (L : xL) (st : List Value) (h : xH) : xf 50 7 L st h = xf 50 8 L (.int 2 :: st) h := xo_iconst (k := 2) (by decide +kernel) (by decide)
set_option maxRecDepth 20000 in
theorem u_X6_size_8 (x : Nat) (st : List Value) (h : xH) : xf 50 8 [some (.ref x)] st h = xf 50 9 [some (.ref x)] (.ref x :: st) h := xo_aload (k := 0) (by decide +kernel) rfl
set_option maxRecDepth 20000 in
theorem u_X6_size_9 (L : xL) (a : Nat) (st : List Value) (h : xH) (hc : (xob h a).1 = 6) : xf 50 9 L (.ref a :: st) h = xf 50 12 L ((xob h a).2.getD 1 .null :: st) h := xo_getf (r := 385) (by decide +kernel) (by decide) hc
set_option maxRecDepth 20000 in
theorem u_X6_size_12 (L : xL) (b : Nat) (st : List Value) (h : xH) (hb : (xob h b).1 = 3) (hl : st.length ≤ 4) : xf 50 12 L (.ref b :: st) h = xgo 50 12 15 L st (xev 22 [.ref b] h) := xo_callV (as := []) (by decide +kernel) rfl ⟨(by decide +kernel : xna 22 = 0), Nat.le_of_ble_eq_true rfl, rfl, by decide⟩ hb hl
set_option maxRecDepth 20000 in
theorem u_X6_size_15 (L : xL) (a b : Int32) (st : List Value) (h : xH) : xf 50 15 L (.int b :: .int a :: st) h = xf 50 16 L (.int (a * b) :: st) h := xo_imul (by decide +kernel)
set_option maxRecDepth 20000 in
theorem u_X6_size_16 (L : xL) (a b : Int32) (st : List Value) (h : xH) : xf 50 16 L (.int b :: .int a :: st) h = xf 50 17 L (.int (a + b) :: st) h := xo_iadd (by decide +kernel)
set_option maxRecDepth 20000 in
theorem u_X6_size_17 (L : xL) (x : Int32) (h : xH) : xf 50 17 L [.int x] h = some (.inl (some (.int x)), h) := xo_ireturn (n := 18) (by decide +kernel) rfl
set_option maxRecDepth 20000 in
theorem e_X6_size (v0 : Nat) (h : xH) : xev 50 [.ref v0] h = xf 50 0 [some (.ref v0)] [] h := rfl
set_option maxRecDepth 20000 in
theorem u_X6_textLength_0 (L : xL) (st : List Value) (h : xH) : xf 51 0 L st h = xf 51 1 L (.int 0 :: st) h := xo_iconst (k := 0) (by decide +kernel) (by decide)
set_option maxRecDepth 20000 in
theorem u_X6_textLength_1 (l0 l1 l2 : Option Value) (x : Int32) (st : List Value) (h : xH) : xf 51 1 [l0, l1, l2] (.int x :: st) h = xf 51 2 [xcat l0, some (.int x), l2] st h := xo_istore (k := 1) (by decide +kernel) (Nat.le_of_ble_eq_true rfl) rfl
set_option maxRecDepth 20000 in
theorem u_X6_textLength_2 (L : xL) (st : List Value) (h : xH) : xf 51 2 L st h = xf 51 3 L (.int 0 :: st) h := xo_iconst (k := 0) (by decide +kernel) (by decide)
set_option maxRecDepth 20000 in
theorem u_X6_textLength_3 (l0 l1 l2 : Option Value) (x : Int32) (st : List Value) (h : xH) : xf 51 3 [l0, l1, l2] (.int x :: st) h = xf 51 4 [l0, xcat l1, some (.int x)] st h := xo_istore (k := 2) (by decide +kernel) (Nat.le_of_ble_eq_true rfl) rfl
set_option maxRecDepth 20000 in
theorem u_X6_textLength_4 (l0 l1 : Option Value) (x : Int32) (st : List Value) (h : xH) : xf 51 4 [l0, l1, some (.int x)] st h = xf 51 5 [l0, l1, some (.int x)] (.int x :: st) h := xo_iload (k := 2) (by decide +kernel) rfl
set_option maxRecDepth 20000 in
theorem u_X6_textLength_5 (l1 l2 : Option Value) (x : Nat) (st : List Value) (h : xH) : xf 51 5 [some (.ref x), l1, l2] st h = xf 51 6 [some (.ref x), l1, l2] (.ref x :: st) h := xo_aload (k := 0) (by decide +kernel) rfl
set_option maxRecDepth 20000 in
theorem u_X6_textLength_6 (L : xL) (a : Nat) (st : List Value) (h : xH) (hc : (xob h a).1 = 6) : xf 51 6 L (.ref a :: st) h = xf 51 9 L ((xob h a).2.getD 0 .null :: st) h := xo_getf (r := 384) (by decide +kernel) (by decide) hc
set_option maxRecDepth 20000 in
theorem u_X6_textLength_9 (L : xL) (a : Nat) (st : List Value) (h : xH) (hc : (xob h a).1 = 5) : xf 51 9 L (.ref a :: st) h = xf 51 12 L ((xob h a).2.getD 1 .null :: st) h := xo_getf (r := 321) (by decide +kernel) (by decide) hc
set_option maxRecDepth 20000 in
theorem u_X6_textLength_12 (L : xL) (a b : Int32) (st : List Value) (h : xH) : xf 51 12 L (.int b :: .int a :: st) h = if a < b then xf 51 15 L st h else xf 51 42 L st h := xo_icmp_ge (t := 42) (by decide +kernel) rfl
set_option maxRecDepth 20000 in
theorem u_X6_textLength_15 (l0 l2 : Option Value) (x : Int32) (st : List Value) (h : xH) : xf 51 15 [l0, some (.int x), l2] st h = xf 51 16 [l0, some (.int x), l2] (.int x :: st) h := xo_iload (k := 1) (by decide +kernel) rfl
set_option maxRecDepth 20000 in
theorem u_X6_textLength_16 (l1 l2 : Option Value) (x : Nat) (st : List Value) (h : xH) : xf 51 16 [some (.ref x), l1, l2] st h = xf 51 17 [some (.ref x), l1, l2] (.ref x :: st) h := xo_aload (k := 0) (by decide +kernel) rfl
set_option maxRecDepth 20000 in
theorem u_X6_textLength_17 (L : xL) (a : Nat) (st : List Value) (h : xH) (hc : (xob h a).1 = 6) : xf 51 17 L (.ref a :: st) h = xf 51 20 L ((xob h a).2.getD 1 .null :: st) h := xo_getf (r := 385) (by decide +kernel) (by decide) hc
set_option maxRecDepth 20000 in
theorem u_X6_textLength_20 (L : xL) (a : Nat) (st : List Value) (h : xH) (hc : (xob h a).1 = 3) : xf 51 20 L (.ref a :: st) h = xf 51 23 L ((xob h a).2.getD 3 .null :: st) h := xo_getf (r := 195) (by decide +kernel) (by decide) hc
set_option maxRecDepth 20000 in
theorem u_X6_textLength_23 (l1 l2 : Option Value) (x : Nat) (st : List Value) (h : xH) : xf 51 23 [some (.ref x), l1, l2] st h = xf 51 24 [some (.ref x), l1, l2] (.ref x :: st) h := xo_aload (k := 0) (by decide +kernel) rfl
set_option maxRecDepth 20000 in
theorem u_X6_textLength_24 (L : xL) (a : Nat) (st : List Value) (h : xH) (hc : (xob h a).1 = 6) : xf 51 24 L (.ref a :: st) h = xf 51 27 L ((xob h a).2.getD 0 .null :: st) h := xo_getf (r := 384) (by decide +kernel) (by decide) hc
set_option maxRecDepth 20000 in
theorem u_X6_textLength_27 (l0 l1 : Option Value) (x : Int32) (st : List Value) (h : xH) : xf 51 27 [l0, l1, some (.int x)] st h = xf 51 28 [l0, l1, some (.int x)] (.int x :: st) h := xo_iload (k := 2) (by decide +kernel) rfl
set_option maxRecDepth 20000 in
theorem u_X6_textLength_28 (L : xL) (v0 : Int32) (b : Nat) (st : List Value) (h : xH) (hb : (xob h b).1 = 5) (hl : st.length ≤ 4) : xf 51 28 L (.int v0 :: .ref b :: st) h = xgo 51 28 31 L st (xev 36 [.ref b, .int v0] h) := xo_callV (as := [.int v0]) (by decide +kernel) rfl ⟨(by decide +kernel : xna 36 = 1), Nat.le_of_ble_eq_true rfl, rfl, by decide⟩ hb hl
set_option maxRecDepth 20000 in
theorem u_X6_textLength_31 (L : xL) (v0 : Int32) (b : Nat) (st : List Value) (h : xH) (hb : (xob h b).1 = 1) (hl : st.length ≤ 4) : xf 51 31 L (.int v0 :: .ref b :: st) h = xgo 51 31 34 L st (xev 12 [.ref b, .int v0] h) := xo_callV (as := [.int v0]) (by decide +kernel) rfl ⟨(by decide +kernel : xna 12 = 1), Nat.le_of_ble_eq_true rfl, rfl, by decide⟩ hb hl
set_option maxRecDepth 20000 in
theorem u_X6_textLength_34 (L : xL) (a b : Int32) (st : List Value) (h : xH) : xf 51 34 L (.int b :: .int a :: st) h = xf 51 35 L (.int (a + b) :: st) h := xo_iadd (by decide +kernel)
set_option maxRecDepth 20000 in
theorem u_X6_textLength_35 (l0 l1 l2 : Option Value) (x : Int32) (st : List Value) (h : xH) : xf 51 35 [l0, l1, l2] (.int x :: st) h = xf 51 36 [xcat l0, some (.int x), l2] st h := xo_istore (k := 1) (by decide +kernel) (Nat.le_of_ble_eq_true rfl) rfl
set_option maxRecDepth 20000 in
theorem u_X6_textLength_36 (l0 l1 : Option Value) (x : Int32) (st : List Value) (h : xH) : xf 51 36 [l0, l1, some (.int x)] st h = xf 51 39 [l0, xcat l1, some (.int (x + 1))] st h := xo_iinc (k := 2) (c := 1) (by decide +kernel) rfl (by decide) rfl
set_option maxRecDepth 20000 in
theorem u_X6_textLength_39 (L : xL) (st : List Value) (h : xH) : xf 51 39 L st h = xf 51 4 L st h := xo_goto (n := 42) (t := 4) (by decide +kernel) rfl
set_option maxRecDepth 20000 in
theorem u_X6_textLength_42 (l0 l2 : Option Value) (x : Int32) (st : List Value) (h : xH) : xf 51 42 [l0, some (.int x), l2] st h = xf 51 43 [l0, some (.int x), l2] (.int x :: st) h := xo_iload (k := 1) (by decide +kernel) rfl
set_option maxRecDepth 20000 in
theorem u_X6_textLength_43 (L : xL) (x : Int32) (h : xH) : xf 51 43 L [.int x] h = some (.inl (some (.int x)), h) := xo_ireturn (n := 44) (by decide +kernel) rfl
set_option maxRecDepth 20000 in
theorem e_X6_textLength (v0 : Nat) (h : xH) : xev 51 [.ref v0] h = xf 51 0 [some (.ref v0), none, none] [] h := rfl
set_option maxRecDepth 20000 in
theorem u_X6_greatestDepth_0 (L : xL) (st : List Value) (h : xH) : xf 52 0 L st h = xf 52 1 L (.int 0 :: st) h := xo_iconst (k := 0) (by decide +kernel) (by decide)
set_option maxRecDepth 20000 in
theorem u_X6_greatestDepth_1 (l0 l1 l2 : Option Value) (x : Int32) (st : List Value) (h : xH) : xf 52 1 [l0, l1, l2] (.int x :: st) h = xf 52 2 [xcat l0, some (.int x), l2] st h := xo_istore (k := 1) (by decide +kernel) (Nat.le_of_ble_eq_true rfl) rfl
set_option maxRecDepth 20000 in
theorem u_X6_greatestDepth_2 (L : xL) (st : List Value) (h : xH) : xf 52 2 L st h = xf 52 3 L (.int 0 :: st) h := xo_iconst (k := 0) (by decide +kernel) (by decide)
set_option maxRecDepth 20000 in
theorem u_X6_greatestDepth_3 (l0 l1 l2 : Option Value) (x : Int32) (st : List Value) (h : xH) : xf 52 3 [l0, l1, l2] (.int x :: st) h = xf 52 4 [l0, xcat l1, some (.int x)] st h := xo_istore (k := 2) (by decide +kernel) (Nat.le_of_ble_eq_true rfl) rfl
set_option maxRecDepth 20000 in
theorem u_X6_greatestDepth_4 (l0 l1 : Option Value) (x : Int32) (st : List Value) (h : xH) : xf 52 4 [l0, l1, some (.int x)] st h = xf 52 5 [l0, l1, some (.int x)] (.int x :: st) h := xo_iload (k := 2) (by decide +kernel) rfl
set_option maxRecDepth 20000 in
theorem u_X6_greatestDepth_5 (l1 l2 : Option Value) (x : Nat) (st : List Value) (h : xH) : xf 52 5 [some (.ref x), l1, l2] st h = xf 52 6 [some (.ref x), l1, l2] (.ref x :: st) h := xo_aload (k := 0) (by decide +kernel) rfl
set_option maxRecDepth 20000 in
theorem u_X6_greatestDepth_6 (L : xL) (a : Nat) (st : List Value) (h : xH) (hc : (xob h a).1 = 6) : xf 52 6 L (.ref a :: st) h = xf 52 9 L ((xob h a).2.getD 0 .null :: st) h := xo_getf (r := 384) (by decide +kernel) (by decide) hc
set_option maxRecDepth 20000 in
theorem u_X6_greatestDepth_9 (L : xL) (a : Nat) (st : List Value) (h : xH) (hc : (xob h a).1 = 5) : xf 52 9 L (.ref a :: st) h = xf 52 12 L ((xob h a).2.getD 1 .null :: st) h := xo_getf (r := 321) (by decide +kernel) (by decide) hc
set_option maxRecDepth 20000 in
theorem u_X6_greatestDepth_12 (L : xL) (a b : Int32) (st : List Value) (h : xH) : xf 52 12 L (.int b :: .int a :: st) h = if a < b then xf 52 15 L st h else xf 52 44 L st h := xo_icmp_ge (t := 44) (by decide +kernel) rfl
set_option maxRecDepth 20000 in
theorem u_X6_greatestDepth_15 (l0 l2 : Option Value) (x : Int32) (st : List Value) (h : xH) : xf 52 15 [l0, some (.int x), l2] st h = xf 52 16 [l0, some (.int x), l2] (.int x :: st) h := xo_iload (k := 1) (by decide +kernel) rfl
set_option maxRecDepth 20000 in
theorem u_X6_greatestDepth_16 (l1 l2 : Option Value) (x : Nat) (st : List Value) (h : xH) : xf 52 16 [some (.ref x), l1, l2] st h = xf 52 17 [some (.ref x), l1, l2] (.ref x :: st) h := xo_aload (k := 0) (by decide +kernel) rfl
set_option maxRecDepth 20000 in
theorem u_X6_greatestDepth_17 (L : xL) (a : Nat) (st : List Value) (h : xH) (hc : (xob h a).1 = 6) : xf 52 17 L (.ref a :: st) h = xf 52 20 L ((xob h a).2.getD 1 .null :: st) h := xo_getf (r := 385) (by decide +kernel) (by decide) hc
set_option maxRecDepth 20000 in
theorem u_X6_greatestDepth_20 (L : xL) (a : Nat) (st : List Value) (h : xH) (hc : (xob h a).1 = 3) : xf 52 20 L (.ref a :: st) h = xf 52 23 L ((xob h a).2.getD 2 .null :: st) h := xo_getf (r := 194) (by decide +kernel) (by decide) hc
set_option maxRecDepth 20000 in
theorem u_X6_greatestDepth_23 (l1 l2 : Option Value) (x : Nat) (st : List Value) (h : xH) : xf 52 23 [some (.ref x), l1, l2] st h = xf 52 24 [some (.ref x), l1, l2] (.ref x :: st) h := xo_aload (k := 0) (by decide +kernel) rfl
set_option maxRecDepth 20000 in
theorem u_X6_greatestDepth_24 (L : xL) (a : Nat) (st : List Value) (h : xH) (hc : (xob h a).1 = 6) : xf 52 24 L (.ref a :: st) h = xf 52 27 L ((xob h a).2.getD 0 .null :: st) h := xo_getf (r := 384) (by decide +kernel) (by decide) hc
set_option maxRecDepth 20000 in
theorem u_X6_greatestDepth_27 (l0 l1 : Option Value) (x : Int32) (st : List Value) (h : xH) : xf 52 27 [l0, l1, some (.int x)] st h = xf 52 28 [l0, l1, some (.int x)] (.int x :: st) h := xo_iload (k := 2) (by decide +kernel) rfl
set_option maxRecDepth 20000 in
theorem u_X6_greatestDepth_28 (L : xL) (v0 : Int32) (b : Nat) (st : List Value) (h : xH) (hb : (xob h b).1 = 5) (hl : st.length ≤ 4) : xf 52 28 L (.int v0 :: .ref b :: st) h = xgo 52 28 31 L st (xev 36 [.ref b, .int v0] h) := xo_callV (as := [.int v0]) (by decide +kernel) rfl ⟨(by decide +kernel : xna 36 = 1), Nat.le_of_ble_eq_true rfl, rfl, by decide⟩ hb hl
set_option maxRecDepth 20000 in
theorem u_X6_greatestDepth_31 (L : xL) (v0 : Int32) (b : Nat) (st : List Value) (h : xH) (hb : (xob h b).1 = 1) (hl : st.length ≤ 4) : xf 52 31 L (.int v0 :: .ref b :: st) h = xgo 52 31 34 L st (xev 12 [.ref b, .int v0] h) := xo_callV (as := [.int v0]) (by decide +kernel) rfl ⟨(by decide +kernel : xna 12 = 1), Nat.le_of_ble_eq_true rfl, rfl, by decide⟩ hb hl
set_option maxRecDepth 20000 in
theorem u_X6_greatestDepth_34 (L : xL) (a b : Int32) (st : List Value) (h : xH) (hl : st.length ≤ 4) : xf 52 34 L (.int b :: .int a :: st) h = xf 52 37 L (.int (if a < b then b else a) :: st) h := xo_max (by decide +kernel) hl
set_option maxRecDepth 20000 in
theorem u_X6_greatestDepth_37 (l0 l1 l2 : Option Value) (x : Int32) (st : List Value) (h : xH) : xf 52 37 [l0, l1, l2] (.int x :: st) h = xf 52 38 [xcat l0, some (.int x), l2] st h := xo_istore (k := 1) (by decide +kernel) (Nat.le_of_ble_eq_true rfl) rfl
set_option maxRecDepth 20000 in
theorem u_X6_greatestDepth_38 (l0 l1 : Option Value) (x : Int32) (st : List Value) (h : xH) : xf 52 38 [l0, l1, some (.int x)] st h = xf 52 41 [l0, xcat l1, some (.int (x + 1))] st h := xo_iinc (k := 2) (c := 1) (by decide +kernel) rfl (by decide) rfl
set_option maxRecDepth 20000 in
theorem u_X6_greatestDepth_41 (L : xL) (st : List Value) (h : xH) : xf 52 41 L st h = xf 52 4 L st h := xo_goto (n := 44) (t := 4) (by decide +kernel) rfl
set_option maxRecDepth 20000 in
theorem u_X6_greatestDepth_44 (l0 l2 : Option Value) (x : Int32) (st : List Value) (h : xH) : xf 52 44 [l0, some (.int x), l2] st h = xf 52 45 [l0, some (.int x), l2] (.int x :: st) h := xo_iload (k := 1) (by decide +kernel) rfl
set_option maxRecDepth 20000 in
theorem u_X6_greatestDepth_45 (L : xL) (x : Int32) (h : xH) : xf 52 45 L [.int x] h = some (.inl (some (.int x)), h) := xo_ireturn (n := 46) (by decide +kernel) rfl
set_option maxRecDepth 20000 in
theorem e_X6_greatestDepth (v0 : Nat) (h : xH) : xev 52 [.ref v0] h = xf 52 0 [some (.ref v0), none, none] [] h := rfl
set_option maxRecDepth 20000 in
theorem u_X6_signAt_0 (l0 l2 l3 l4 l5 : Option Value) (x : Int32) (st : List Value) (h : xH) : xf 53 0 [l0, some (.int x), l2, l3, l4, l5] st h = xf 53 1 [l0, some (.int x), l2, l3, l4, l5] (.int x :: st) h := xo_iload (k := 1) (by decide +kernel) rfl
set_option maxRecDepth 20000 in
theorem u_X6_signAt_1 (l0 l1 l2 l3 l4 l5 : Option Value) (x : Int32) (st : List Value) (h : xH) : xf 53 1 [l0, l1, l2, l3, l4, l5] (.int x :: st) h = xf 53 2 [l0, xcat l1, some (.int x), l3, l4, l5] st h := xo_istore (k := 2) (by decide +kernel) (Nat.le_of_ble_eq_true rfl) rfl
set_option maxRecDepth 20000 in
theorem u_X6_signAt_2 (L : xL) (st : List Value) (h : xH) : xf 53 2 L st h = xf 53 3 L (.int 0 :: st) h := xo_iconst (k := 0) (by decide +kernel) (by decide)
set_option maxRecDepth 20000 in
theorem u_X6_signAt_3 (l0 l1 l2 l3 l4 l5 : Option Value) (x : Int32) (st : List Value) (h : xH) : xf 53 3 [l0, l1, l2, l3, l4, l5] (.int x :: st) h = xf 53 4 [l0, l1, xcat l2, some (.int x), l4, l5] st h := xo_istore (k := 3) (by decide +kernel) (Nat.le_of_ble_eq_true rfl) rfl
set_option maxRecDepth 20000 in
theorem u_X6_signAt_4 (l0 l1 l2 l4 l5 : Option Value) (x : Int32) (st : List Value) (h : xH) : xf 53 4 [l0, l1, l2, some (.int x), l4, l5] st h = xf 53 5 [l0, l1, l2, some (.int x), l4, l5] (.int x :: st) h := xo_iload (k := 3) (by decide +kernel) rfl
set_option maxRecDepth 20000 in
theorem u_X6_signAt_5 (l1 l2 l3 l4 l5 : Option Value) (x : Nat) (st : List Value) (h : xH) : xf 53 5 [some (.ref x), l1, l2, l3, l4, l5] st h = xf 53 6 [some (.ref x), l1, l2, l3, l4, l5] (.ref x :: st) h := xo_aload (k := 0) (by decide +kernel) rfl
set_option maxRecDepth 20000 in
theorem u_X6_signAt_6 (L : xL) (a : Nat) (st : List Value) (h : xH) (hc : (xob h a).1 = 6) : xf 53 6 L (.ref a :: st) h = xf 53 9 L ((xob h a).2.getD 0 .null :: st) h := xo_getf (r := 384) (by decide +kernel) (by decide) hc
set_option maxRecDepth 20000 in
theorem u_X6_signAt_9 (L : xL) (a : Nat) (st : List Value) (h : xH) (hc : (xob h a).1 = 5) : xf 53 9 L (.ref a :: st) h = xf 53 12 L ((xob h a).2.getD 1 .null :: st) h := xo_getf (r := 321) (by decide +kernel) (by decide) hc
set_option maxRecDepth 20000 in
theorem u_X6_signAt_12 (L : xL) (a b : Int32) (st : List Value) (h : xH) : xf 53 12 L (.int b :: .int a :: st) h = if a < b then xf 53 15 L st h else xf 53 67 L st h := xo_icmp_ge (t := 67) (by decide +kernel) rfl
set_option maxRecDepth 20000 in
theorem u_X6_signAt_15 (l1 l2 l3 l4 l5 : Option Value) (x : Nat) (st : List Value) (h : xH) : xf 53 15 [some (.ref x), l1, l2, l3, l4, l5] st h = xf 53 16 [some (.ref x), l1, l2, l3, l4, l5] (.ref x :: st) h := xo_aload (k := 0) (by decide +kernel) rfl
set_option maxRecDepth 20000 in
theorem u_X6_signAt_16 (L : xL) (a : Nat) (st : List Value) (h : xH) (hc : (xob h a).1 = 6) : xf 53 16 L (.ref a :: st) h = xf 53 19 L ((xob h a).2.getD 0 .null :: st) h := xo_getf (r := 384) (by decide +kernel) (by decide) hc
set_option maxRecDepth 20000 in
theorem u_X6_signAt_19 (l0 l1 l2 l4 l5 : Option Value) (x : Int32) (st : List Value) (h : xH) : xf 53 19 [l0, l1, l2, some (.int x), l4, l5] st h = xf 53 20 [l0, l1, l2, some (.int x), l4, l5] (.int x :: st) h := xo_iload (k := 3) (by decide +kernel) rfl
set_option maxRecDepth 20000 in
theorem u_X6_signAt_20 (L : xL) (v0 : Int32) (b : Nat) (st : List Value) (h : xH) (hb : (xob h b).1 = 5) (hl : st.length ≤ 4) : xf 53 20 L (.int v0 :: .ref b :: st) h = xgo 53 20 23 L st (xev 36 [.ref b, .int v0] h) := xo_callV (as := [.int v0]) (by decide +kernel) rfl ⟨(by decide +kernel : xna 36 = 1), Nat.le_of_ble_eq_true rfl, rfl, by decide⟩ hb hl
set_option maxRecDepth 20000 in
theorem u_X6_signAt_23 (l0 l1 l2 l3 l4 l5 : Option Value) (x : Int32) (st : List Value) (h : xH) : xf 53 23 [l0, l1, l2, l3, l4, l5] (.int x :: st) h = xf 53 25 [l0, l1, l2, xcat l3, some (.int x), l5] st h := xo_istore (k := 4) (by decide +kernel) (Nat.le_of_ble_eq_true rfl) rfl
set_option maxRecDepth 20000 in
theorem u_X6_signAt_25 (l1 l2 l3 l4 l5 : Option Value) (x : Nat) (st : List Value) (h : xH) : xf 53 25 [some (.ref x), l1, l2, l3, l4, l5] st h = xf 53 26 [some (.ref x), l1, l2, l3, l4, l5] (.ref x :: st) h := xo_aload (k := 0) (by decide +kernel) rfl
set_option maxRecDepth 20000 in
theorem u_X6_signAt_26 (L : xL) (a : Nat) (st : List Value) (h : xH) (hc : (xob h a).1 = 6) : xf 53 26 L (.ref a :: st) h = xf 53 29 L ((xob h a).2.getD 1 .null :: st) h := xo_getf (r := 385) (by decide +kernel) (by decide) hc
set_option maxRecDepth 20000 in
theorem u_X6_signAt_29 (L : xL) (a : Nat) (st : List Value) (h : xH) (hc : (xob h a).1 = 3) : xf 53 29 L (.ref a :: st) h = xf 53 32 L ((xob h a).2.getD 3 .null :: st) h := xo_getf (r := 195) (by decide +kernel) (by decide) hc
set_option maxRecDepth 20000 in
theorem u_X6_signAt_32 (l0 l1 l2 l3 l5 : Option Value) (x : Int32) (st : List Value) (h : xH) : xf 53 32 [l0, l1, l2, l3, some (.int x), l5] st h = xf 53 34 [l0, l1, l2, l3, some (.int x), l5] (.int x :: st) h := xo_iload (k := 4) (by decide +kernel) rfl
set_option maxRecDepth 20000 in
theorem u_X6_signAt_34 (L : xL) (v0 : Int32) (b : Nat) (st : List Value) (h : xH) (hb : (xob h b).1 = 1) (hl : st.length ≤ 4) : xf 53 34 L (.int v0 :: .ref b :: st) h = xgo 53 34 37 L st (xev 12 [.ref b, .int v0] h) := xo_callV (as := [.int v0]) (by decide +kernel) rfl ⟨(by decide +kernel : xna 12 = 1), Nat.le_of_ble_eq_true rfl, rfl, by decide⟩ hb hl
set_option maxRecDepth 20000 in
theorem u_X6_signAt_37 (l0 l1 l2 l3 l4 l5 : Option Value) (x : Int32) (st : List Value) (h : xH) : xf 53 37 [l0, l1, l2, l3, l4, l5] (.int x :: st) h = xf 53 39 [l0, l1, l2, l3, xcat l4, some (.int x)] st h := xo_istore (k := 5) (by decide +kernel) (Nat.le_of_ble_eq_true rfl) rfl
set_option maxRecDepth 20000 in
theorem u_X6_signAt_39 (l0 l1 l3 l4 l5 : Option Value) (x : Int32) (st : List Value) (h : xH) : xf 53 39 [l0, l1, some (.int x), l3, l4, l5] st h = xf 53 40 [l0, l1, some (.int x), l3, l4, l5] (.int x :: st) h := xo_iload (k := 2) (by decide +kernel) rfl
set_option maxRecDepth 20000 in
theorem u_X6_signAt_40 (l0 l1 l2 l3 l4 : Option Value) (x : Int32) (st : List Value) (h : xH) : xf 53 40 [l0, l1, l2, l3, l4, some (.int x)] st h = xf 53 42 [l0, l1, l2, l3, l4, some (.int x)] (.int x :: st) h := xo_iload (k := 5) (by decide +kernel) rfl
set_option maxRecDepth 20000 in
theorem u_X6_signAt_42 (L : xL) (a b : Int32) (st : List Value) (h : xH) : xf 53 42 L (.int b :: .int a :: st) h = if a < b then xf 53 45 L st h else xf 53 56 L st h := xo_icmp_ge (t := 56) (by decide +kernel) rfl
set_option maxRecDepth 20000 in
theorem u_X6_signAt_45 (l1 l2 l3 l4 l5 : Option Value) (x : Nat) (st : List Value) (h : xH) : xf 53 45 [some (.ref x), l1, l2, l3, l4, l5] st h = xf 53 46 [some (.ref x), l1, l2, l3, l4, l5] (.ref x :: st) h := xo_aload (k := 0) (by decide +kernel) rfl
set_option maxRecDepth 20000 in
theorem u_X6_signAt_46 (L : xL) (a : Nat) (st : List Value) (h : xH) (hc : (xob h a).1 = 6) : xf 53 46 L (.ref a :: st) h = xf 53 49 L ((xob h a).2.getD 1 .null :: st) h := xo_getf (r := 385) (by decide +kernel) (by decide) hc
set_option maxRecDepth 20000 in
theorem u_X6_signAt_49 (l0 l1 l2 l3 l5 : Option Value) (x : Int32) (st : List Value) (h : xH) : xf 53 49 [l0, l1, l2, l3, some (.int x), l5] st h = xf 53 51 [l0, l1, l2, l3, some (.int x), l5] (.int x :: st) h := xo_iload (k := 4) (by decide +kernel) rfl
set_option maxRecDepth 20000 in
theorem u_X6_signAt_51 (l0 l1 l3 l4 l5 : Option Value) (x : Int32) (st : List Value) (h : xH) : xf 53 51 [l0, l1, some (.int x), l3, l4, l5] st h = xf 53 52 [l0, l1, some (.int x), l3, l4, l5] (.int x :: st) h := xo_iload (k := 2) (by decide +kernel) rfl
set_option maxRecDepth 20000 in
theorem u_X6_signAt_52 (L : xL) (v0 : Int32) (v1 : Int32) (b : Nat) (st : List Value) (h : xH) (hb : (xob h b).1 = 3) (hl : st.length ≤ 4) : xf 53 52 L (.int v1 :: .int v0 :: .ref b :: st) h = xgo 53 52 55 L st (xev 27 [.ref b, .int v0, .int v1] h) := xo_callV (as := [.int v0, .int v1]) (by decide +kernel) rfl ⟨(by decide +kernel : xna 27 = 2), Nat.le_of_ble_eq_true rfl, rfl, by decide⟩ hb hl
set_option maxRecDepth 20000 in
theorem u_X6_signAt_55 (L : xL) (x : Int32) (h : xH) : xf 53 55 L [.int x] h = some (.inl (some (.int x)), h) := xo_ireturn (n := 56) (by decide +kernel) rfl
set_option maxRecDepth 20000 in
theorem u_X6_signAt_56 (l0 l1 l3 l4 l5 : Option Value) (x : Int32) (st : List Value) (h : xH) : xf 53 56 [l0, l1, some (.int x), l3, l4, l5] st h = xf 53 57 [l0, l1, some (.int x), l3, l4, l5] (.int x :: st) h := xo_iload (k := 2) (by decide +kernel) rfl
set_option maxRecDepth 20000 in
theorem u_X6_signAt_57 (l0 l1 l2 l3 l4 : Option Value) (x : Int32) (st : List Value) (h : xH) : xf 53 57 [l0, l1, l2, l3, l4, some (.int x)] st h = xf 53 59 [l0, l1, l2, l3, l4, some (.int x)] (.int x :: st) h := xo_iload (k := 5) (by decide +kernel) rfl
set_option maxRecDepth 20000 in
theorem u_X6_signAt_59 (L : xL) (a b : Int32) (st : List Value) (h : xH) : xf 53 59 L (.int b :: .int a :: st) h = xf 53 60 L (.int (a - b) :: st) h := xo_isub (by decide +kernel)
set_option maxRecDepth 20000 in
theorem u_X6_signAt_60 (l0 l1 l2 l3 l4 l5 : Option Value) (x : Int32) (st : List Value) (h : xH) : xf 53 60 [l0, l1, l2, l3, l4, l5] (.int x :: st) h = xf 53 61 [l0, xcat l1, some (.int x), l3, l4, l5] st h := xo_istore (k := 2) (by decide +kernel) (Nat.le_of_ble_eq_true rfl) rfl
set_option maxRecDepth 20000 in
theorem u_X6_signAt_61 (l0 l1 l2 l4 l5 : Option Value) (x : Int32) (st : List Value) (h : xH) : xf 53 61 [l0, l1, l2, some (.int x), l4, l5] st h = xf 53 64 [l0, l1, xcat l2, some (.int (x + 1)), l4, l5] st h := xo_iinc (k := 3) (c := 1) (by decide +kernel) rfl (by decide) rfl
set_option maxRecDepth 20000 in
theorem u_X6_signAt_64 (L : xL) (st : List Value) (h : xH) : xf 53 64 L st h = xf 53 4 L st h := xo_goto (n := 67) (t := 4) (by decide +kernel) rfl
set_option maxRecDepth 20000 in
theorem u_X6_signAt_67 (L : xL) (st : List Value) (h : xH) : xf 53 67 L st h = xf 53 68 L (.int (-1) :: st) h := xo_iconst (k := (-1)) (by decide +kernel) (by decide)
set_option maxRecDepth 20000 in
theorem u_X6_signAt_68 (L : xL) (x : Int32) (h : xH) : xf 53 68 L [.int x] h = some (.inl (some (.int x)), h) := xo_ireturn (n := 69) (by decide +kernel) rfl
set_option maxRecDepth 20000 in
theorem e_X6_signAt (v0 : Nat) (v1 : Int32) (h : xH) : xev 53 [.ref v0, .int v1] h = xf 53 0 [some (.ref v0), some (.int v1), none, none, none, none] [] h := rfl
set_option maxRecDepth 20000 in
theorem u_X6_timesInText_0 (l1 l2 l3 l4 : Option Value) (x : Nat) (st : List Value) (h : xH) : xf 54 0 [some (.ref x), l1, l2, l3, l4] st h = xf 54 1 [some (.ref x), l1, l2, l3, l4] (.ref x :: st) h := xo_aload (k := 0) (by decide +kernel) rfl
set_option maxRecDepth 20000 in
theorem u_X6_timesInText_1 (L : xL) (a : Nat) (st : List Value) (h : xH) (hc : (xob h a).1 = 6) : xf 54 1 L (.ref a :: st) h = xf 54 4 L ((xob h a).2.getD 5 .null :: st) h := xo_getf (r := 389) (by decide +kernel) (by decide) hc
set_option maxRecDepth 20000 in
theorem u_X6_timesInText_4 (L : xL) (st : List Value) (h : xH) : xf 54 4 L st h = xf 54 5 L (.int 0 :: st) h := xo_iconst (k := 0) (by decide +kernel) (by decide)
set_option maxRecDepth 20000 in
theorem u_X6_timesInText_5 (L : xL) (v0 : Int32) (b : Nat) (st : List Value) (h : xH) (hb : (xob h b).1 = 1) (hl : st.length ≤ 4) : xf 54 5 L (.int v0 :: .ref b :: st) h = xgo 54 5 8 L st (xev 14 [.ref b, .int v0] h) := xo_callV (as := [.int v0]) (by decide +kernel) rfl ⟨(by decide +kernel : xna 14 = 1), Nat.le_of_ble_eq_true rfl, rfl, by decide⟩ hb hl
set_option maxRecDepth 20000 in
theorem u_X6_timesInText_8 (l1 l2 l3 l4 : Option Value) (x : Nat) (st : List Value) (h : xH) : xf 54 8 [some (.ref x), l1, l2, l3, l4] st h = xf 54 9 [some (.ref x), l1, l2, l3, l4] (.ref x :: st) h := xo_aload (k := 0) (by decide +kernel) rfl
set_option maxRecDepth 20000 in
theorem u_X6_timesInText_9 (L : xL) (a : Nat) (st : List Value) (h : xH) (hc : (xob h a).1 = 6) : xf 54 9 L (.ref a :: st) h = xf 54 12 L ((xob h a).2.getD 5 .null :: st) h := xo_getf (r := 389) (by decide +kernel) (by decide) hc
set_option maxRecDepth 20000 in
theorem u_X6_timesInText_12 (l0 l2 l3 l4 : Option Value) (x : Int32) (st : List Value) (h : xH) : xf 54 12 [l0, some (.int x), l2, l3, l4] st h = xf 54 13 [l0, some (.int x), l2, l3, l4] (.int x :: st) h := xo_iload (k := 1) (by decide +kernel) rfl
set_option maxRecDepth 20000 in
theorem u_X6_timesInText_13 (L : xL) (st : List Value) (h : xH) : xf 54 13 L st h = xf 54 14 L (.int 1 :: st) h := xo_iconst (k := 1) (by decide +kernel) (by decide)
set_option maxRecDepth 20000 in
theorem u_X6_timesInText_14 (L : xL) (v0 : Int32) (v1 : Int32) (b : Nat) (st : List Value) (h : xH) (hb : (xob h b).1 = 1) (hl : st.length ≤ 4) : xf 54 14 L (.int v1 :: .int v0 :: .ref b :: st) h = xgo 54 14 17 L st (xev 13 [.ref b, .int v0, .int v1] h) := xo_callV (as := [.int v0, .int v1]) (by decide +kernel) rfl ⟨(by decide +kernel : xna 13 = 2), Nat.le_of_ble_eq_true rfl, rfl, by decide⟩ hb hl
set_option maxRecDepth 20000 in
theorem u_X6_timesInText_17 (L : xL) (st : List Value) (h : xH) : xf 54 17 L st h = xf 54 18 L (.int 1 :: st) h := xo_iconst (k := 1) (by decide +kernel) (by decide)
set_option maxRecDepth 20000 in
theorem u_X6_timesInText_18 (l0 l1 l2 l3 l4 : Option Value) (x : Int32) (st : List Value) (h : xH) : xf 54 18 [l0, l1, l2, l3, l4] (.int x :: st) h = xf 54 19 [l0, xcat l1, some (.int x), l3, l4] st h := xo_istore (k := 2) (by decide +kernel) (Nat.le_of_ble_eq_true rfl) rfl
set_option maxRecDepth 20000 in
theorem u_X6_timesInText_19 (l0 l1 l3 l4 : Option Value) (x : Int32) (st : List Value) (h : xH) : xf 54 19 [l0, l1, some (.int x), l3, l4] st h = xf 54 20 [l0, l1, some (.int x), l3, l4] (.int x :: st) h := xo_iload (k := 2) (by decide +kernel) rfl
set_option maxRecDepth 20000 in
theorem u_X6_timesInText_20 (L : xL) (st : List Value) (h : xH) : xf 54 20 L st h = xf 54 22 L (.int 16 :: st) h := xo_iconst (k := 16) (by decide +kernel) (by decide)
set_option maxRecDepth 20000 in
theorem u_X6_timesInText_22 (L : xL) (a b : Int32) (st : List Value) (h : xH) : xf 54 22 L (.int b :: .int a :: st) h = if b < a then xf 54 110 L st h else xf 54 25 L st h := xo_icmp_gt (t := 110) (by decide +kernel) rfl
set_option maxRecDepth 20000 in
theorem u_X6_timesInText_25 (L : xL) (st : List Value) (h : xH) : xf 54 25 L st h = xf 54 27 L (.int 8 :: st) h := xo_iconst (k := 8) (by decide +kernel) (by decide)
set_option maxRecDepth 20000 in
theorem u_X6_timesInText_27 (l0 l1 l2 l3 l4 : Option Value) (x : Int32) (st : List Value) (h : xH) : xf 54 27 [l0, l1, l2, l3, l4] (.int x :: st) h = xf 54 28 [l0, l1, xcat l2, some (.int x), l4] st h := xo_istore (k := 3) (by decide +kernel) (Nat.le_of_ble_eq_true rfl) rfl
set_option maxRecDepth 20000 in
theorem u_X6_timesInText_28 (l0 l1 l2 l4 : Option Value) (x : Int32) (st : List Value) (h : xH) : xf 54 28 [l0, l1, l2, some (.int x), l4] st h = xf 54 29 [l0, l1, l2, some (.int x), l4] (.int x :: st) h := xo_iload (k := 3) (by decide +kernel) rfl
set_option maxRecDepth 20000 in
theorem u_X6_timesInText_29 (L : xL) (st : List Value) (h : xH) : xf 54 29 L st h = xf 54 31 L (.int 24 :: st) h := xo_iconst (k := 24) (by decide +kernel) (by decide)
set_option maxRecDepth 20000 in
theorem u_X6_timesInText_31 (L : xL) (a b : Int32) (st : List Value) (h : xH) : xf 54 31 L (.int b :: .int a :: st) h = if a < b then xf 54 34 L st h else xf 54 104 L st h := xo_icmp_ge (t := 104) (by decide +kernel) rfl
set_option maxRecDepth 20000 in
theorem u_X6_timesInText_34 (l1 l2 l3 l4 : Option Value) (x : Nat) (st : List Value) (h : xH) : xf 54 34 [some (.ref x), l1, l2, l3, l4] st h = xf 54 35 [some (.ref x), l1, l2, l3, l4] (.ref x :: st) h := xo_aload (k := 0) (by decide +kernel) rfl
set_option maxRecDepth 20000 in
theorem u_X6_timesInText_35 (L : xL) (a : Nat) (st : List Value) (h : xH) (hc : (xob h a).1 = 6) : xf 54 35 L (.ref a :: st) h = xf 54 38 L ((xob h a).2.getD 1 .null :: st) h := xo_getf (r := 385) (by decide +kernel) (by decide) hc
set_option maxRecDepth 20000 in
theorem u_X6_timesInText_38 (L : xL) (a : Nat) (st : List Value) (h : xH) (hc : (xob h a).1 = 3) : xf 54 38 L (.ref a :: st) h = xf 54 41 L ((xob h a).2.getD 2 .null :: st) h := xo_getf (r := 194) (by decide +kernel) (by decide) hc
set_option maxRecDepth 20000 in
theorem u_X6_timesInText_41 (l0 l1 l2 l4 : Option Value) (x : Int32) (st : List Value) (h : xH) : xf 54 41 [l0, l1, l2, some (.int x), l4] st h = xf 54 42 [l0, l1, l2, some (.int x), l4] (.int x :: st) h := xo_iload (k := 3) (by decide +kernel) rfl
set_option maxRecDepth 20000 in
theorem u_X6_timesInText_42 (L : xL) (v0 : Int32) (b : Nat) (st : List Value) (h : xH) (hb : (xob h b).1 = 1) (hl : st.length ≤ 4) : xf 54 42 L (.int v0 :: .ref b :: st) h = xgo 54 42 45 L st (xev 12 [.ref b, .int v0] h) := xo_callV (as := [.int v0]) (by decide +kernel) rfl ⟨(by decide +kernel : xna 12 = 1), Nat.le_of_ble_eq_true rfl, rfl, by decide⟩ hb hl
set_option maxRecDepth 20000 in
theorem u_X6_timesInText_45 (l0 l1 l3 l4 : Option Value) (x : Int32) (st : List Value) (h : xH) : xf 54 45 [l0, l1, some (.int x), l3, l4] st h = xf 54 46 [l0, l1, some (.int x), l3, l4] (.int x :: st) h := xo_iload (k := 2) (by decide +kernel) rfl
set_option maxRecDepth 20000 in
theorem u_X6_timesInText_46 (L : xL) (a b : Int32) (st : List Value) (h : xH) : xf 54 46 L (.int b :: .int a :: st) h = if a = b then xf 54 49 L st h else xf 54 98 L st h := xo_icmp_ne (t := 98) (by decide +kernel) rfl
set_option maxRecDepth 20000 in
theorem u_X6_timesInText_49 (l1 l2 l3 l4 : Option Value) (x : Nat) (st : List Value) (h : xH) : xf 54 49 [some (.ref x), l1, l2, l3, l4] st h = xf 54 50 [some (.ref x), l1, l2, l3, l4] (.ref x :: st) h := xo_aload (k := 0) (by decide +kernel) rfl
set_option maxRecDepth 20000 in
theorem u_X6_timesInText_50 (L : xL) (a : Nat) (st : List Value) (h : xH) (hc : (xob h a).1 = 6) : xf 54 50 L (.ref a :: st) h = xf 54 53 L ((xob h a).2.getD 5 .null :: st) h := xo_getf (r := 389) (by decide +kernel) (by decide) hc
set_option maxRecDepth 20000 in
theorem u_X6_timesInText_53 (l1 l2 l3 l4 : Option Value) (x : Nat) (st : List Value) (h : xH) : xf 54 53 [some (.ref x), l1, l2, l3, l4] st h = xf 54 54 [some (.ref x), l1, l2, l3, l4] (.ref x :: st) h := xo_aload (k := 0) (by decide +kernel) rfl
set_option maxRecDepth 20000 in
theorem u_X6_timesInText_54 (L : xL) (a : Nat) (st : List Value) (h : xH) (hc : (xob h a).1 = 6) : xf 54 54 L (.ref a :: st) h = xf 54 57 L ((xob h a).2.getD 1 .null :: st) h := xo_getf (r := 385) (by decide +kernel) (by decide) hc
set_option maxRecDepth 20000 in
theorem u_X6_timesInText_57 (L : xL) (a : Nat) (st : List Value) (h : xH) (hc : (xob h a).1 = 3) : xf 54 57 L (.ref a :: st) h = xf 54 60 L ((xob h a).2.getD 0 .null :: st) h := xo_getf (r := 192) (by decide +kernel) (by decide) hc
set_option maxRecDepth 20000 in
theorem u_X6_timesInText_60 (l0 l1 l2 l4 : Option Value) (x : Int32) (st : List Value) (h : xH) : xf 54 60 [l0, l1, l2, some (.int x), l4] st h = xf 54 61 [l0, l1, l2, some (.int x), l4] (.int x :: st) h := xo_iload (k := 3) (by decide +kernel) rfl
set_option maxRecDepth 20000 in
theorem u_X6_timesInText_61 (L : xL) (v0 : Int32) (b : Nat) (st : List Value) (h : xH) (hb : (xob h b).1 = 1) (hl : st.length ≤ 4) : xf 54 61 L (.int v0 :: .ref b :: st) h = xgo 54 61 64 L st (xev 12 [.ref b, .int v0] h) := xo_callV (as := [.int v0]) (by decide +kernel) rfl ⟨(by decide +kernel : xna 12 = 1), Nat.le_of_ble_eq_true rfl, rfl, by decide⟩ hb hl
set_option maxRecDepth 20000 in
theorem u_X6_timesInText_64 (L : xL) (v0 : Int32) (b : Nat) (st : List Value) (h : xH) (hb : (xob h b).1 = 1) (hl : st.length ≤ 4) : xf 54 64 L (.int v0 :: .ref b :: st) h = xgo 54 64 67 L st (xev 12 [.ref b, .int v0] h) := xo_callV (as := [.int v0]) (by decide +kernel) rfl ⟨(by decide +kernel : xna 12 = 1), Nat.le_of_ble_eq_true rfl, rfl, by decide⟩ hb hl
set_option maxRecDepth 20000 in
theorem u_X6_timesInText_67 (l0 l1 l2 l3 l4 : Option Value) (x : Int32) (st : List Value) (h : xH) : xf 54 67 [l0, l1, l2, l3, l4] (.int x :: st) h = xf 54 69 [l0, l1, l2, xcat l3, some (.int x)] st h := xo_istore (k := 4) (by decide +kernel) (Nat.le_of_ble_eq_true rfl) rfl
set_option maxRecDepth 20000 in
theorem u_X6_timesInText_69 (l1 l2 l3 l4 : Option Value) (x : Nat) (st : List Value) (h : xH) : xf 54 69 [some (.ref x), l1, l2, l3, l4] st h = xf 54 70 [some (.ref x), l1, l2, l3, l4] (.ref x :: st) h := xo_aload (k := 0) (by decide +kernel) rfl
set_option maxRecDepth 20000 in
theorem u_X6_timesInText_70 (L : xL) (a : Nat) (st : List Value) (h : xH) (hc : (xob h a).1 = 6) : xf 54 70 L (.ref a :: st) h = xf 54 73 L ((xob h a).2.getD 5 .null :: st) h := xo_getf (r := 389) (by decide +kernel) (by decide) hc
set_option maxRecDepth 20000 in
theorem u_X6_timesInText_73 (l0 l1 l2 l4 : Option Value) (x : Int32) (st : List Value) (h : xH) : xf 54 73 [l0, l1, l2, some (.int x), l4] st h = xf 54 74 [l0, l1, l2, some (.int x), l4] (.int x :: st) h := xo_iload (k := 3) (by decide +kernel) rfl
set_option maxRecDepth 20000 in
theorem u_X6_timesInText_74 (l0 l1 l2 l3 : Option Value) (x : Int32) (st : List Value) (h : xH) : xf 54 74 [l0, l1, l2, l3, some (.int x)] st h = xf 54 76 [l0, l1, l2, l3, some (.int x)] (.int x :: st) h := xo_iload (k := 4) (by decide +kernel) rfl
set_option maxRecDepth 20000 in
theorem u_X6_timesInText_76 (l1 l2 l3 l4 : Option Value) (x : Nat) (st : List Value) (h : xH) : xf 54 76 [some (.ref x), l1, l2, l3, l4] st h = xf 54 77 [some (.ref x), l1, l2, l3, l4] (.ref x :: st) h := xo_aload (k := 0) (by decide +kernel) rfl
set_option maxRecDepth 20000 in
theorem u_X6_timesInText_77 (L : xL) (a : Nat) (st : List Value) (h : xH) (hc : (xob h a).1 = 6) : xf 54 77 L (.ref a :: st) h = xf 54 80 L ((xob h a).2.getD 5 .null :: st) h := xo_getf (r := 389) (by decide +kernel) (by decide) hc
set_option maxRecDepth 20000 in
theorem u_X6_timesInText_80 (l1 l2 l3 l4 : Option Value) (x : Nat) (st : List Value) (h : xH) : xf 54 80 [some (.ref x), l1, l2, l3, l4] st h = xf 54 81 [some (.ref x), l1, l2, l3, l4] (.ref x :: st) h := xo_aload (k := 0) (by decide +kernel) rfl
set_option maxRecDepth 20000 in
theorem u_X6_timesInText_81 (L : xL) (a : Nat) (st : List Value) (h : xH) (hc : (xob h a).1 = 6) : xf 54 81 L (.ref a :: st) h = xf 54 84 L ((xob h a).2.getD 1 .null :: st) h := xo_getf (r := 385) (by decide +kernel) (by decide) hc
set_option maxRecDepth 20000 in
theorem u_X6_timesInText_84 (L : xL) (a : Nat) (st : List Value) (h : xH) (hc : (xob h a).1 = 3) : xf 54 84 L (.ref a :: st) h = xf 54 87 L ((xob h a).2.getD 1 .null :: st) h := xo_getf (r := 193) (by decide +kernel) (by decide) hc
set_option maxRecDepth 20000 in
theorem u_X6_timesInText_87 (l0 l1 l2 l4 : Option Value) (x : Int32) (st : List Value) (h : xH) : xf 54 87 [l0, l1, l2, some (.int x), l4] st h = xf 54 88 [l0, l1, l2, some (.int x), l4] (.int x :: st) h := xo_iload (k := 3) (by decide +kernel) rfl
set_option maxRecDepth 20000 in
theorem u_X6_timesInText_88 (L : xL) (v0 : Int32) (b : Nat) (st : List Value) (h : xH) (hb : (xob h b).1 = 1) (hl : st.length ≤ 4) : xf 54 88 L (.int v0 :: .ref b :: st) h = xgo 54 88 91 L st (xev 12 [.ref b, .int v0] h) := xo_callV (as := [.int v0]) (by decide +kernel) rfl ⟨(by decide +kernel : xna 12 = 1), Nat.le_of_ble_eq_true rfl, rfl, by decide⟩ hb hl
set_option maxRecDepth 20000 in
theorem u_X6_timesInText_91 (L : xL) (v0 : Int32) (b : Nat) (st : List Value) (h : xH) (hb : (xob h b).1 = 1) (hl : st.length ≤ 4) : xf 54 91 L (.int v0 :: .ref b :: st) h = xgo 54 91 94 L st (xev 12 [.ref b, .int v0] h) := xo_callV (as := [.int v0]) (by decide +kernel) rfl ⟨(by decide +kernel : xna 12 = 1), Nat.le_of_ble_eq_true rfl, rfl, by decide⟩ hb hl
set_option maxRecDepth 20000 in
theorem u_X6_timesInText_94 (L : xL) (a b : Int32) (st : List Value) (h : xH) : xf 54 94 L (.int b :: .int a :: st) h = xf 54 95 L (.int (a + b) :: st) h := xo_iadd (by decide +kernel)
set_option maxRecDepth 20000 in
theorem u_X6_timesInText_95 (L : xL) (v0 : Int32) (v1 : Int32) (b : Nat) (st : List Value) (h : xH) (hb : (xob h b).1 = 1) (hl : st.length ≤ 4) : xf 54 95 L (.int v1 :: .int v0 :: .ref b :: st) h = xgo 54 95 98 L st (xev 13 [.ref b, .int v0, .int v1] h) := xo_callV (as := [.int v0, .int v1]) (by decide +kernel) rfl ⟨(by decide +kernel : xna 13 = 2), Nat.le_of_ble_eq_true rfl, rfl, by decide⟩ hb hl
set_option maxRecDepth 20000 in
theorem u_X6_timesInText_98 (l0 l1 l2 l4 : Option Value) (x : Int32) (st : List Value) (h : xH) : xf 54 98 [l0, l1, l2, some (.int x), l4] st h = xf 54 101 [l0, l1, xcat l2, some (.int (x + 1)), l4] st h := xo_iinc (k := 3) (c := 1) (by decide +kernel) rfl (by decide) rfl
set_option maxRecDepth 20000 in
theorem u_X6_timesInText_101 (L : xL) (st : List Value) (h : xH) : xf 54 101 L st h = xf 54 28 L st h := xo_goto (n := 104) (t := 28) (by decide +kernel) rfl
set_option maxRecDepth 20000 in
theorem u_X6_timesInText_104 (l0 l1 l3 l4 : Option Value) (x : Int32) (st : List Value) (h : xH) : xf 54 104 [l0, l1, some (.int x), l3, l4] st h = xf 54 107 [l0, xcat l1, some (.int (x + 1)), l3, l4] st h := xo_iinc (k := 2) (c := 1) (by decide +kernel) rfl (by decide) rfl
set_option maxRecDepth 20000 in
theorem u_X6_timesInText_107 (L : xL) (st : List Value) (h : xH) : xf 54 107 L st h = xf 54 19 L st h := xo_goto (n := 110) (t := 19) (by decide +kernel) rfl
set_option maxRecDepth 20000 in
theorem u_X6_timesInText_110 (L : xL) (st : List Value) (h : xH) : xf 54 110 L st h = xf 54 111 L (.int 0 :: st) h := xo_iconst (k := 0) (by decide +kernel) (by decide)
set_option maxRecDepth 20000 in
theorem u_X6_timesInText_111 (l0 l1 l2 l3 l4 : Option Value) (x : Int32) (st : List Value) (h : xH) : xf 54 111 [l0, l1, l2, l3, l4] (.int x :: st) h = xf 54 112 [l0, xcat l1, some (.int x), l3, l4] st h := xo_istore (k := 2) (by decide +kernel) (Nat.le_of_ble_eq_true rfl) rfl
set_option maxRecDepth 20000 in
theorem u_X6_timesInText_112 (L : xL) (st : List Value) (h : xH) : xf 54 112 L st h = xf 54 113 L (.int 0 :: st) h := xo_iconst (k := 0) (by decide +kernel) (by decide)
set_option maxRecDepth 20000 in
theorem u_X6_timesInText_113 (l0 l1 l2 l3 l4 : Option Value) (x : Int32) (st : List Value) (h : xH) : xf 54 113 [l0, l1, l2, l3, l4] (.int x :: st) h = xf 54 114 [l0, l1, xcat l2, some (.int x), l4] st h := xo_istore (k := 3) (by decide +kernel) (Nat.le_of_ble_eq_true rfl) rfl
set_option maxRecDepth 20000 in
theorem u_X6_timesInText_114 (l0 l1 l2 l4 : Option Value) (x : Int32) (st : List Value) (h : xH) : xf 54 114 [l0, l1, l2, some (.int x), l4] st h = xf 54 115 [l0, l1, l2, some (.int x), l4] (.int x :: st) h := xo_iload (k := 3) (by decide +kernel) rfl
set_option maxRecDepth 20000 in
theorem u_X6_timesInText_115 (l1 l2 l3 l4 : Option Value) (x : Nat) (st : List Value) (h : xH) : xf 54 115 [some (.ref x), l1, l2, l3, l4] st h = xf 54 116 [some (.ref x), l1, l2, l3, l4] (.ref x :: st) h := xo_aload (k := 0) (by decide +kernel) rfl
set_option maxRecDepth 20000 in
theorem u_X6_timesInText_116 (L : xL) (a : Nat) (st : List Value) (h : xH) (hc : (xob h a).1 = 6) : xf 54 116 L (.ref a :: st) h = xf 54 119 L ((xob h a).2.getD 0 .null :: st) h := xo_getf (r := 384) (by decide +kernel) (by decide) hc
set_option maxRecDepth 20000 in
theorem u_X6_timesInText_119 (L : xL) (a : Nat) (st : List Value) (h : xH) (hc : (xob h a).1 = 5) : xf 54 119 L (.ref a :: st) h = xf 54 122 L ((xob h a).2.getD 1 .null :: st) h := xo_getf (r := 321) (by decide +kernel) (by decide) hc
set_option maxRecDepth 20000 in
theorem u_X6_timesInText_122 (L : xL) (a b : Int32) (st : List Value) (h : xH) : xf 54 122 L (.int b :: .int a :: st) h = if a < b then xf 54 125 L st h else xf 54 149 L st h := xo_icmp_ge (t := 149) (by decide +kernel) rfl
set_option maxRecDepth 20000 in
theorem u_X6_timesInText_125 (l0 l1 l3 l4 : Option Value) (x : Int32) (st : List Value) (h : xH) : xf 54 125 [l0, l1, some (.int x), l3, l4] st h = xf 54 126 [l0, l1, some (.int x), l3, l4] (.int x :: st) h := xo_iload (k := 2) (by decide +kernel) rfl
set_option maxRecDepth 20000 in
theorem u_X6_timesInText_126 (l1 l2 l3 l4 : Option Value) (x : Nat) (st : List Value) (h : xH) : xf 54 126 [some (.ref x), l1, l2, l3, l4] st h = xf 54 127 [some (.ref x), l1, l2, l3, l4] (.ref x :: st) h := xo_aload (k := 0) (by decide +kernel) rfl
set_option maxRecDepth 20000 in
theorem u_X6_timesInText_127 (L : xL) (a : Nat) (st : List Value) (h : xH) (hc : (xob h a).1 = 6) : xf 54 127 L (.ref a :: st) h = xf 54 130 L ((xob h a).2.getD 5 .null :: st) h := xo_getf (r := 389) (by decide +kernel) (by decide) hc
set_option maxRecDepth 20000 in
theorem u_X6_timesInText_130 (l1 l2 l3 l4 : Option Value) (x : Nat) (st : List Value) (h : xH) : xf 54 130 [some (.ref x), l1, l2, l3, l4] st h = xf 54 131 [some (.ref x), l1, l2, l3, l4] (.ref x :: st) h := xo_aload (k := 0) (by decide +kernel) rfl
set_option maxRecDepth 20000 in
theorem u_X6_timesInText_131 (L : xL) (a : Nat) (st : List Value) (h : xH) (hc : (xob h a).1 = 6) : xf 54 131 L (.ref a :: st) h = xf 54 134 L ((xob h a).2.getD 0 .null :: st) h := xo_getf (r := 384) (by decide +kernel) (by decide) hc
set_option maxRecDepth 20000 in
theorem u_X6_timesInText_134 (l0 l1 l2 l4 : Option Value) (x : Int32) (st : List Value) (h : xH) : xf 54 134 [l0, l1, l2, some (.int x), l4] st h = xf 54 135 [l0, l1, l2, some (.int x), l4] (.int x :: st) h := xo_iload (k := 3) (by decide +kernel) rfl
set_option maxRecDepth 20000 in
theorem u_X6_timesInText_135 (L : xL) (v0 : Int32) (b : Nat) (st : List Value) (h : xH) (hb : (xob h b).1 = 5) (hl : st.length ≤ 4) : xf 54 135 L (.int v0 :: .ref b :: st) h = xgo 54 135 138 L st (xev 36 [.ref b, .int v0] h) := xo_callV (as := [.int v0]) (by decide +kernel) rfl ⟨(by decide +kernel : xna 36 = 1), Nat.le_of_ble_eq_true rfl, rfl, by decide⟩ hb hl
set_option maxRecDepth 20000 in
theorem u_X6_timesInText_138 (L : xL) (v0 : Int32) (b : Nat) (st : List Value) (h : xH) (hb : (xob h b).1 = 1) (hl : st.length ≤ 4) : xf 54 138 L (.int v0 :: .ref b :: st) h = xgo 54 138 141 L st (xev 12 [.ref b, .int v0] h) := xo_callV (as := [.int v0]) (by decide +kernel) rfl ⟨(by decide +kernel : xna 12 = 1), Nat.le_of_ble_eq_true rfl, rfl, by decide⟩ hb hl
set_option maxRecDepth 20000 in
theorem u_X6_timesInText_141 (L : xL) (a b : Int32) (st : List Value) (h : xH) : xf 54 141 L (.int b :: .int a :: st) h = xf 54 142 L (.int (a + b) :: st) h := xo_iadd (by decide +kernel)
set_option maxRecDepth 20000 in
theorem u_X6_timesInText_142 (l0 l1 l2 l3 l4 : Option Value) (x : Int32) (st : List Value) (h : xH) : xf 54 142 [l0, l1, l2, l3, l4] (.int x :: st) h = xf 54 143 [l0, xcat l1, some (.int x), l3, l4] st h := xo_istore (k := 2) (by decide +kernel) (Nat.le_of_ble_eq_true rfl) rfl
set_option maxRecDepth 20000 in
theorem u_X6_timesInText_143 (l0 l1 l2 l4 : Option Value) (x : Int32) (st : List Value) (h : xH) : xf 54 143 [l0, l1, l2, some (.int x), l4] st h = xf 54 146 [l0, l1, xcat l2, some (.int (x + 1)), l4] st h := xo_iinc (k := 3) (c := 1) (by decide +kernel) rfl (by decide) rfl
set_option maxRecDepth 20000 in
theorem u_X6_timesInText_146 (L : xL) (st : List Value) (h : xH) : xf 54 146 L st h = xf 54 114 L st h := xo_goto (n := 149) (t := 114) (by decide +kernel) rfl
set_option maxRecDepth 20000 in
theorem u_X6_timesInText_149 (l0 l1 l3 l4 : Option Value) (x : Int32) (st : List Value) (h : xH) : xf 54 149 [l0, l1, some (.int x), l3, l4] st h = xf 54 150 [l0, l1, some (.int x), l3, l4] (.int x :: st) h := xo_iload (k := 2) (by decide +kernel) rfl
set_option maxRecDepth 20000 in
theorem u_X6_timesInText_150 (L : xL) (x : Int32) (h : xH) : xf 54 150 L [.int x] h = some (.inl (some (.int x)), h) := xo_ireturn (n := 151) (by decide +kernel) rfl
set_option maxRecDepth 20000 in
theorem e_X6_timesInText (v0 : Nat) (v1 : Int32) (h : xH) : xev 54 [.ref v0, .int v1] h = xf 54 0 [some (.ref v0), some (.int v1), none, none, none] [] h := rfl
set_option maxRecDepth 20000 in
theorem u_X6_property_0 (l0 l1 : Option Value) (x : Int32) (st : List Value) (h : xH) : xf 55 0 [l0, l1, some (.int x)] st h = xf 55 1 [l0, l1, some (.int x)] (.int x :: st) h := xo_iload (k := 2) (by decide +kernel) rfl
set_option maxRecDepth 20000 in
theorem u_X6_property_1 (L : xL) (a : Int32) (st : List Value) (h : xH) : xf 55 1 L (.int a :: st) h = if a = 0 then xf 55 44 L st h else if a = 1 then xf 55 56 L st h else if a = 2 then xf 55 68 L st h else if a = 3 then xf 55 74 L st h else if a = 4 then xf 55 83 L st h else if a = 5 then xf 55 95 L st h else if a = 6 then xf 55 107 L st h else xf 55 117 L st h := by
  have ho : xop 55 1 = some (.tableswitch 117 0 6 #[44, 56, 68, 74, 83, 95, 107], 1) := by decide +kernel
  by_cases h0 : a = 0
  · subst h0
    rw [if_pos rfl]
    exact xo_tsw (t := 44) ho (by decide) (by decide) rfl
  rw [if_neg h0]
  by_cases h1 : a = 1
  · subst h1
    rw [if_pos rfl]
    exact xo_tsw (t := 56) ho (by decide) (by decide) rfl
  rw [if_neg h1]
  by_cases h2 : a = 2
  · subst h2
    rw [if_pos rfl]
    exact xo_tsw (t := 68) ho (by decide) (by decide) rfl
  rw [if_neg h2]
  by_cases h3 : a = 3
  · subst h3
    rw [if_pos rfl]
    exact xo_tsw (t := 74) ho (by decide) (by decide) rfl
  rw [if_neg h3]
  by_cases h4 : a = 4
  · subst h4
    rw [if_pos rfl]
    exact xo_tsw (t := 83) ho (by decide) (by decide) rfl
  rw [if_neg h4]
  by_cases h5 : a = 5
  · subst h5
    rw [if_pos rfl]
    exact xo_tsw (t := 95) ho (by decide) (by decide) rfl
  rw [if_neg h5]
  by_cases h6 : a = 6
  · subst h6
    rw [if_pos rfl]
    exact xo_tsw (t := 107) ho (by decide) (by decide) rfl
  rw [if_neg h6]
  refine xo_tswO ho rfl ?_
  have g0 := xi_ne h0
  rw [show (0 : Int32).toInt = 0 by decide] at g0
  have g1 := xi_ne h1
  rw [show (1 : Int32).toInt = 1 by decide] at g1
  have g2 := xi_ne h2
  rw [show (2 : Int32).toInt = 2 by decide] at g2
  have g3 := xi_ne h3
  rw [show (3 : Int32).toInt = 3 by decide] at g3
  have g4 := xi_ne h4
  rw [show (4 : Int32).toInt = 4 by decide] at g4
  have g5 := xi_ne h5
  rw [show (5 : Int32).toInt = 5 by decide] at g5
  have g6 := xi_ne h6
  rw [show (6 : Int32).toInt = 6 by decide] at g6
  omega
set_option maxRecDepth 20000 in
theorem u_X6_property_44 (l1 l2 : Option Value) (x : Nat) (st : List Value) (h : xH) : xf 55 44 [some (.ref x), l1, l2] st h = xf 55 45 [some (.ref x), l1, l2] (.ref x :: st) h := xo_aload (k := 0) (by decide +kernel) rfl
set_option maxRecDepth 20000 in
theorem u_X6_property_45 (L : xL) (a : Nat) (st : List Value) (h : xH) (hc : (xob h a).1 = 6) : xf 55 45 L (.ref a :: st) h = xf 55 48 L ((xob h a).2.getD 1 .null :: st) h := xo_getf (r := 385) (by decide +kernel) (by decide) hc
set_option maxRecDepth 20000 in
theorem u_X6_property_48 (L : xL) (a : Nat) (st : List Value) (h : xH) (hc : (xob h a).1 = 3) : xf 55 48 L (.ref a :: st) h = xf 55 51 L ((xob h a).2.getD 0 .null :: st) h := xo_getf (r := 192) (by decide +kernel) (by decide) hc
set_option maxRecDepth 20000 in
theorem u_X6_property_51 (l0 l2 : Option Value) (x : Int32) (st : List Value) (h : xH) : xf 55 51 [l0, some (.int x), l2] st h = xf 55 52 [l0, some (.int x), l2] (.int x :: st) h := xo_iload (k := 1) (by decide +kernel) rfl
set_option maxRecDepth 20000 in
theorem u_X6_property_52 (L : xL) (v0 : Int32) (b : Nat) (st : List Value) (h : xH) (hb : (xob h b).1 = 1) (hl : st.length ≤ 4) : xf 55 52 L (.int v0 :: .ref b :: st) h = xgo 55 52 55 L st (xev 12 [.ref b, .int v0] h) := xo_callV (as := [.int v0]) (by decide +kernel) rfl ⟨(by decide +kernel : xna 12 = 1), Nat.le_of_ble_eq_true rfl, rfl, by decide⟩ hb hl
set_option maxRecDepth 20000 in
theorem u_X6_property_55 (L : xL) (x : Int32) (h : xH) : xf 55 55 L [.int x] h = some (.inl (some (.int x)), h) := xo_ireturn (n := 56) (by decide +kernel) rfl
set_option maxRecDepth 20000 in
theorem u_X6_property_56 (l1 l2 : Option Value) (x : Nat) (st : List Value) (h : xH) : xf 55 56 [some (.ref x), l1, l2] st h = xf 55 57 [some (.ref x), l1, l2] (.ref x :: st) h := xo_aload (k := 0) (by decide +kernel) rfl
set_option maxRecDepth 20000 in
theorem u_X6_property_57 (L : xL) (a : Nat) (st : List Value) (h : xH) (hc : (xob h a).1 = 6) : xf 55 57 L (.ref a :: st) h = xf 55 60 L ((xob h a).2.getD 1 .null :: st) h := xo_getf (r := 385) (by decide +kernel) (by decide) hc
set_option maxRecDepth 20000 in
theorem u_X6_property_60 (L : xL) (a : Nat) (st : List Value) (h : xH) (hc : (xob h a).1 = 3) : xf 55 60 L (.ref a :: st) h = xf 55 63 L ((xob h a).2.getD 1 .null :: st) h := xo_getf (r := 193) (by decide +kernel) (by decide) hc
set_option maxRecDepth 20000 in
theorem u_X6_property_63 (l0 l2 : Option Value) (x : Int32) (st : List Value) (h : xH) : xf 55 63 [l0, some (.int x), l2] st h = xf 55 64 [l0, some (.int x), l2] (.int x :: st) h := xo_iload (k := 1) (by decide +kernel) rfl
set_option maxRecDepth 20000 in
theorem u_X6_property_64 (L : xL) (v0 : Int32) (b : Nat) (st : List Value) (h : xH) (hb : (xob h b).1 = 1) (hl : st.length ≤ 4) : xf 55 64 L (.int v0 :: .ref b :: st) h = xgo 55 64 67 L st (xev 12 [.ref b, .int v0] h) := xo_callV (as := [.int v0]) (by decide +kernel) rfl ⟨(by decide +kernel : xna 12 = 1), Nat.le_of_ble_eq_true rfl, rfl, by decide⟩ hb hl
set_option maxRecDepth 20000 in
theorem u_X6_property_67 (L : xL) (x : Int32) (h : xH) : xf 55 67 L [.int x] h = some (.inl (some (.int x)), h) := xo_ireturn (n := 68) (by decide +kernel) rfl
set_option maxRecDepth 20000 in
theorem u_X6_property_68 (l1 l2 : Option Value) (x : Nat) (st : List Value) (h : xH) : xf 55 68 [some (.ref x), l1, l2] st h = xf 55 69 [some (.ref x), l1, l2] (.ref x :: st) h := xo_aload (k := 0) (by decide +kernel) rfl
set_option maxRecDepth 20000 in
theorem u_X6_property_69 (l0 l2 : Option Value) (x : Int32) (st : List Value) (h : xH) : xf 55 69 [l0, some (.int x), l2] st h = xf 55 70 [l0, some (.int x), l2] (.int x :: st) h := xo_iload (k := 1) (by decide +kernel) rfl
set_option maxRecDepth 20000 in
theorem u_X6_property_70 (L : xL) (v0 : Int32) (b : Nat) (st : List Value) (h : xH) (hb : (xob h b).1 = 6) (hl : st.length ≤ 4) : xf 55 70 L (.int v0 :: .ref b :: st) h = xgo 55 70 73 L st (xev 49 [.ref b, .int v0] h) := xo_callV (as := [.int v0]) (by decide +kernel) rfl ⟨(by decide +kernel : xna 49 = 1), Nat.le_of_ble_eq_true rfl, rfl, by decide⟩ hb hl
set_option maxRecDepth 20000 in
theorem u_X6_property_73 (L : xL) (x : Int32) (h : xH) : xf 55 73 L [.int x] h = some (.inl (some (.int x)), h) := xo_ireturn (n := 74) (by decide +kernel) rfl
set_option maxRecDepth 20000 in
theorem u_X6_property_74 (l1 l2 : Option Value) (x : Nat) (st : List Value) (h : xH) : xf 55 74 [some (.ref x), l1, l2] st h = xf 55 75 [some (.ref x), l1, l2] (.ref x :: st) h := xo_aload (k := 0) (by decide +kernel) rfl
set_option maxRecDepth 20000 in
theorem u_X6_property_75 (L : xL) (a : Nat) (st : List Value) (h : xH) (hc : (xob h a).1 = 6) : xf 55 75 L (.ref a :: st) h = xf 55 78 L ((xob h a).2.getD 0 .null :: st) h := xo_getf (r := 384) (by decide +kernel) (by decide) hc
set_option maxRecDepth 20000 in
theorem u_X6_property_78 (l0 l2 : Option Value) (x : Int32) (st : List Value) (h : xH) : xf 55 78 [l0, some (.int x), l2] st h = xf 55 79 [l0, some (.int x), l2] (.int x :: st) h := xo_iload (k := 1) (by decide +kernel) rfl
set_option maxRecDepth 20000 in
theorem u_X6_property_79 (L : xL) (v0 : Int32) (b : Nat) (st : List Value) (h : xH) (hb : (xob h b).1 = 5) (hl : st.length ≤ 4) : xf 55 79 L (.int v0 :: .ref b :: st) h = xgo 55 79 82 L st (xev 45 [.ref b, .int v0] h) := xo_callV (as := [.int v0]) (by decide +kernel) rfl ⟨(by decide +kernel : xna 45 = 1), Nat.le_of_ble_eq_true rfl, rfl, by decide⟩ hb hl
set_option maxRecDepth 20000 in
theorem u_X6_property_82 (L : xL) (x : Int32) (h : xH) : xf 55 82 L [.int x] h = some (.inl (some (.int x)), h) := xo_ireturn (n := 83) (by decide +kernel) rfl
set_option maxRecDepth 20000 in
theorem u_X6_property_83 (l1 l2 : Option Value) (x : Nat) (st : List Value) (h : xH) : xf 55 83 [some (.ref x), l1, l2] st h = xf 55 84 [some (.ref x), l1, l2] (.ref x :: st) h := xo_aload (k := 0) (by decide +kernel) rfl
set_option maxRecDepth 20000 in
theorem u_X6_property_84 (L : xL) (a : Nat) (st : List Value) (h : xH) (hc : (xob h a).1 = 6) : xf 55 84 L (.ref a :: st) h = xf 55 87 L ((xob h a).2.getD 1 .null :: st) h := xo_getf (r := 385) (by decide +kernel) (by decide) hc
set_option maxRecDepth 20000 in
theorem u_X6_property_87 (L : xL) (a : Nat) (st : List Value) (h : xH) (hc : (xob h a).1 = 3) : xf 55 87 L (.ref a :: st) h = xf 55 90 L ((xob h a).2.getD 2 .null :: st) h := xo_getf (r := 194) (by decide +kernel) (by decide) hc
set_option maxRecDepth 20000 in
theorem u_X6_property_90 (l0 l2 : Option Value) (x : Int32) (st : List Value) (h : xH) : xf 55 90 [l0, some (.int x), l2] st h = xf 55 91 [l0, some (.int x), l2] (.int x :: st) h := xo_iload (k := 1) (by decide +kernel) rfl
set_option maxRecDepth 20000 in
theorem u_X6_property_91 (L : xL) (v0 : Int32) (b : Nat) (st : List Value) (h : xH) (hb : (xob h b).1 = 1) (hl : st.length ≤ 4) : xf 55 91 L (.int v0 :: .ref b :: st) h = xgo 55 91 94 L st (xev 12 [.ref b, .int v0] h) := xo_callV (as := [.int v0]) (by decide +kernel) rfl ⟨(by decide +kernel : xna 12 = 1), Nat.le_of_ble_eq_true rfl, rfl, by decide⟩ hb hl
set_option maxRecDepth 20000 in
theorem u_X6_property_94 (L : xL) (x : Int32) (h : xH) : xf 55 94 L [.int x] h = some (.inl (some (.int x)), h) := xo_ireturn (n := 95) (by decide +kernel) rfl
set_option maxRecDepth 20000 in
theorem u_X6_property_95 (l1 l2 : Option Value) (x : Nat) (st : List Value) (h : xH) : xf 55 95 [some (.ref x), l1, l2] st h = xf 55 96 [some (.ref x), l1, l2] (.ref x :: st) h := xo_aload (k := 0) (by decide +kernel) rfl
set_option maxRecDepth 20000 in
theorem u_X6_property_96 (L : xL) (a : Nat) (st : List Value) (h : xH) (hc : (xob h a).1 = 6) : xf 55 96 L (.ref a :: st) h = xf 55 99 L ((xob h a).2.getD 1 .null :: st) h := xo_getf (r := 385) (by decide +kernel) (by decide) hc
set_option maxRecDepth 20000 in
theorem u_X6_property_99 (L : xL) (a : Nat) (st : List Value) (h : xH) (hc : (xob h a).1 = 3) : xf 55 99 L (.ref a :: st) h = xf 55 102 L ((xob h a).2.getD 3 .null :: st) h := xo_getf (r := 195) (by decide +kernel) (by decide) hc
set_option maxRecDepth 20000 in
theorem u_X6_property_102 (l0 l2 : Option Value) (x : Int32) (st : List Value) (h : xH) : xf 55 102 [l0, some (.int x), l2] st h = xf 55 103 [l0, some (.int x), l2] (.int x :: st) h := xo_iload (k := 1) (by decide +kernel) rfl
set_option maxRecDepth 20000 in
theorem u_X6_property_103 (L : xL) (v0 : Int32) (b : Nat) (st : List Value) (h : xH) (hb : (xob h b).1 = 1) (hl : st.length ≤ 4) : xf 55 103 L (.int v0 :: .ref b :: st) h = xgo 55 103 106 L st (xev 12 [.ref b, .int v0] h) := xo_callV (as := [.int v0]) (by decide +kernel) rfl ⟨(by decide +kernel : xna 12 = 1), Nat.le_of_ble_eq_true rfl, rfl, by decide⟩ hb hl
set_option maxRecDepth 20000 in
theorem u_X6_property_106 (L : xL) (x : Int32) (h : xH) : xf 55 106 L [.int x] h = some (.inl (some (.int x)), h) := xo_ireturn (n := 107) (by decide +kernel) rfl
set_option maxRecDepth 20000 in
theorem u_X6_property_107 (l1 l2 : Option Value) (x : Nat) (st : List Value) (h : xH) : xf 55 107 [some (.ref x), l1, l2] st h = xf 55 108 [some (.ref x), l1, l2] (.ref x :: st) h := xo_aload (k := 0) (by decide +kernel) rfl
set_option maxRecDepth 20000 in
theorem u_X6_property_108 (L : xL) (a : Nat) (st : List Value) (h : xH) (hc : (xob h a).1 = 6) : xf 55 108 L (.ref a :: st) h = xf 55 111 L ((xob h a).2.getD 1 .null :: st) h := xo_getf (r := 385) (by decide +kernel) (by decide) hc
set_option maxRecDepth 20000 in
theorem u_X6_property_111 (l0 l2 : Option Value) (x : Int32) (st : List Value) (h : xH) : xf 55 111 [l0, some (.int x), l2] st h = xf 55 112 [l0, some (.int x), l2] (.int x :: st) h := xo_iload (k := 1) (by decide +kernel) rfl
set_option maxRecDepth 20000 in
theorem u_X6_property_112 (L : xL) (st : List Value) (h : xH) : xf 55 112 L st h = xf 55 113 L (.int 0 :: st) h := xo_iconst (k := 0) (by decide +kernel) (by decide)
set_option maxRecDepth 20000 in
theorem u_X6_property_113 (L : xL) (v0 : Int32) (v1 : Int32) (b : Nat) (st : List Value) (h : xH) (hb : (xob h b).1 = 3) (hl : st.length ≤ 4) : xf 55 113 L (.int v1 :: .int v0 :: .ref b :: st) h = xgo 55 113 116 L st (xev 27 [.ref b, .int v0, .int v1] h) := xo_callV (as := [.int v0, .int v1]) (by decide +kernel) rfl ⟨(by decide +kernel : xna 27 = 2), Nat.le_of_ble_eq_true rfl, rfl, by decide⟩ hb hl
set_option maxRecDepth 20000 in
theorem u_X6_property_116 (L : xL) (x : Int32) (h : xH) : xf 55 116 L [.int x] h = some (.inl (some (.int x)), h) := xo_ireturn (n := 117) (by decide +kernel) rfl
set_option maxRecDepth 20000 in
theorem u_X6_property_117 (l1 l2 : Option Value) (x : Nat) (st : List Value) (h : xH) : xf 55 117 [some (.ref x), l1, l2] st h = xf 55 118 [some (.ref x), l1, l2] (.ref x :: st) h := xo_aload (k := 0) (by decide +kernel) rfl
set_option maxRecDepth 20000 in
theorem u_X6_property_118 (L : xL) (a : Nat) (st : List Value) (h : xH) (hc : (xob h a).1 = 6) : xf 55 118 L (.ref a :: st) h = xf 55 121 L ((xob h a).2.getD 1 .null :: st) h := xo_getf (r := 385) (by decide +kernel) (by decide) hc
set_option maxRecDepth 20000 in
theorem u_X6_property_121 (l0 l2 : Option Value) (x : Int32) (st : List Value) (h : xH) : xf 55 121 [l0, some (.int x), l2] st h = xf 55 122 [l0, some (.int x), l2] (.int x :: st) h := xo_iload (k := 1) (by decide +kernel) rfl
set_option maxRecDepth 20000 in
theorem u_X6_property_122 (l1 l2 : Option Value) (x : Nat) (st : List Value) (h : xH) : xf 55 122 [some (.ref x), l1, l2] st h = xf 55 123 [some (.ref x), l1, l2] (.ref x :: st) h := xo_aload (k := 0) (by decide +kernel) rfl
set_option maxRecDepth 20000 in
theorem u_X6_property_123 (L : xL) (a : Nat) (st : List Value) (h : xH) (hc : (xob h a).1 = 6) : xf 55 123 L (.ref a :: st) h = xf 55 126 L ((xob h a).2.getD 1 .null :: st) h := xo_getf (r := 385) (by decide +kernel) (by decide) hc
set_option maxRecDepth 20000 in
theorem u_X6_property_126 (L : xL) (a : Nat) (st : List Value) (h : xH) (hc : (xob h a).1 = 3) : xf 55 126 L (.ref a :: st) h = xf 55 129 L ((xob h a).2.getD 3 .null :: st) h := xo_getf (r := 195) (by decide +kernel) (by decide) hc
set_option maxRecDepth 20000 in
theorem u_X6_property_129 (l0 l2 : Option Value) (x : Int32) (st : List Value) (h : xH) : xf 55 129 [l0, some (.int x), l2] st h = xf 55 130 [l0, some (.int x), l2] (.int x :: st) h := xo_iload (k := 1) (by decide +kernel) rfl
set_option maxRecDepth 20000 in
theorem u_X6_property_130 (L : xL) (v0 : Int32) (b : Nat) (st : List Value) (h : xH) (hb : (xob h b).1 = 1) (hl : st.length ≤ 4) : xf 55 130 L (.int v0 :: .ref b :: st) h = xgo 55 130 133 L st (xev 12 [.ref b, .int v0] h) := xo_callV (as := [.int v0]) (by decide +kernel) rfl ⟨(by decide +kernel : xna 12 = 1), Nat.le_of_ble_eq_true rfl, rfl, by decide⟩ hb hl
set_option maxRecDepth 20000 in
theorem u_X6_property_133 (L : xL) (st : List Value) (h : xH) : xf 55 133 L st h = xf 55 134 L (.int 1 :: st) h := xo_iconst (k := 1) (by decide +kernel) (by decide)
set_option maxRecDepth 20000 in
theorem u_X6_property_134 (L : xL) (a b : Int32) (st : List Value) (h : xH) : xf 55 134 L (.int b :: .int a :: st) h = xf 55 135 L (.int (a - b) :: st) h := xo_isub (by decide +kernel)
set_option maxRecDepth 20000 in
theorem u_X6_property_135 (L : xL) (v0 : Int32) (v1 : Int32) (b : Nat) (st : List Value) (h : xH) (hb : (xob h b).1 = 3) (hl : st.length ≤ 4) : xf 55 135 L (.int v1 :: .int v0 :: .ref b :: st) h = xgo 55 135 138 L st (xev 27 [.ref b, .int v0, .int v1] h) := xo_callV (as := [.int v0, .int v1]) (by decide +kernel) rfl ⟨(by decide +kernel : xna 27 = 2), Nat.le_of_ble_eq_true rfl, rfl, by decide⟩ hb hl
set_option maxRecDepth 20000 in
theorem u_X6_property_138 (L : xL) (x : Int32) (h : xH) : xf 55 138 L [.int x] h = some (.inl (some (.int x)), h) := xo_ireturn (n := 139) (by decide +kernel) rfl
set_option maxRecDepth 20000 in
theorem e_X6_property (v0 : Nat) (v1 : Int32) (v2 : Int32) (h : xH) : xev 55 [.ref v0, .int v1, .int v2] h = xf 55 0 [some (.ref v0), some (.int v1), some (.int v2)] [] h := rfl
set_option maxRecDepth 20000 in
theorem u_X6_total_0 (l0 : Option Value) (x : Int32) (st : List Value) (h : xH) : xf 56 0 [l0, some (.int x)] st h = xf 56 1 [l0, some (.int x)] (.int x :: st) h := xo_iload (k := 1) (by decide +kernel) rfl
set_option maxRecDepth 20000 in
theorem u_X6_total_1 (L : xL) (a : Int32) (st : List Value) (h : xH) : xf 56 1 L (.int a :: st) h = if a = 0 then xf 56 44 L st h else if a = 1 then xf 56 52 L st h else if a = 2 then xf 56 60 L st h else if a = 3 then xf 56 65 L st h else if a = 4 then xf 56 73 L st h else if a = 5 then xf 56 78 L st h else if a = 6 then xf 56 83 L st h else xf 56 88 L st h := by
  have ho : xop 56 1 = some (.tableswitch 88 0 6 #[44, 52, 60, 65, 73, 78, 83], 1) := by decide +kernel
  by_cases h0 : a = 0
  · subst h0
    rw [if_pos rfl]
    exact xo_tsw (t := 44) ho (by decide) (by decide) rfl
  rw [if_neg h0]
  by_cases h1 : a = 1
  · subst h1
    rw [if_pos rfl]
    exact xo_tsw (t := 52) ho (by decide) (by decide) rfl
  rw [if_neg h1]
  by_cases h2 : a = 2
  · subst h2
    rw [if_pos rfl]
    exact xo_tsw (t := 60) ho (by decide) (by decide) rfl
  rw [if_neg h2]
  by_cases h3 : a = 3
  · subst h3
    rw [if_pos rfl]
    exact xo_tsw (t := 65) ho (by decide) (by decide) rfl
  rw [if_neg h3]
  by_cases h4 : a = 4
  · subst h4
    rw [if_pos rfl]
    exact xo_tsw (t := 73) ho (by decide) (by decide) rfl
  rw [if_neg h4]
  by_cases h5 : a = 5
  · subst h5
    rw [if_pos rfl]
    exact xo_tsw (t := 78) ho (by decide) (by decide) rfl
  rw [if_neg h5]
  by_cases h6 : a = 6
  · subst h6
    rw [if_pos rfl]
    exact xo_tsw (t := 83) ho (by decide) (by decide) rfl
  rw [if_neg h6]
  refine xo_tswO ho rfl ?_
  have g0 := xi_ne h0
  rw [show (0 : Int32).toInt = 0 by decide] at g0
  have g1 := xi_ne h1
  rw [show (1 : Int32).toInt = 1 by decide] at g1
  have g2 := xi_ne h2
  rw [show (2 : Int32).toInt = 2 by decide] at g2
  have g3 := xi_ne h3
  rw [show (3 : Int32).toInt = 3 by decide] at g3
  have g4 := xi_ne h4
  rw [show (4 : Int32).toInt = 4 by decide] at g4
  have g5 := xi_ne h5
  rw [show (5 : Int32).toInt = 5 by decide] at g5
  have g6 := xi_ne h6
  rw [show (6 : Int32).toInt = 6 by decide] at g6
  omega
set_option maxRecDepth 20000 in
theorem u_X6_total_44 (l1 : Option Value) (x : Nat) (st : List Value) (h : xH) : xf 56 44 [some (.ref x), l1] st h = xf 56 45 [some (.ref x), l1] (.ref x :: st) h := xo_aload (k := 0) (by decide +kernel) rfl
set_option maxRecDepth 20000 in
theorem u_X6_total_45 (L : xL) (a : Nat) (st : List Value) (h : xH) (hc : (xob h a).1 = 6) : xf 56 45 L (.ref a :: st) h = xf 56 48 L ((xob h a).2.getD 0 .null :: st) h := xo_getf (r := 384) (by decide +kernel) (by decide) hc
set_option maxRecDepth 20000 in
theorem u_X6_total_48 (L : xL) (a : Nat) (st : List Value) (h : xH) (hc : (xob h a).1 = 5) : xf 56 48 L (.ref a :: st) h = xf 56 51 L ((xob h a).2.getD 1 .null :: st) h := xo_getf (r := 321) (by decide +kernel) (by decide) hc
set_option maxRecDepth 20000 in
theorem u_X6_total_51 (L : xL) (x : Int32) (h : xH) : xf 56 51 L [.int x] h = some (.inl (some (.int x)), h) := xo_ireturn (n := 52) (by decide +kernel) rfl
set_option maxRecDepth 20000 in
theorem u_X6_total_52 (l1 : Option Value) (x : Nat) (st : List Value) (h : xH) : xf 56 52 [some (.ref x), l1] st h = xf 56 53 [some (.ref x), l1] (.ref x :: st) h := xo_aload (k := 0) (by decide +kernel) rfl
set_option maxRecDepth 20000 in
theorem u_X6_total_53 (L : xL) (a : Nat) (st : List Value) (h : xH) (hc : (xob h a).1 = 6) : xf 56 53 L (.ref a :: st) h = xf 56 56 L ((xob h a).2.getD 1 .null :: st) h := xo_getf (r := 385) (by decide +kernel) (by decide) hc
set_option maxRecDepth 20000 in
theorem u_X6_total_56 (L : xL) (b : Nat) (st : List Value) (h : xH) (hb : (xob h b).1 = 3) (hl : st.length ≤ 4) : xf 56 56 L (.ref b :: st) h = xgo 56 56 59 L st (xev 22 [.ref b] h) := xo_callV (as := []) (by decide +kernel) rfl ⟨(by decide +kernel : xna 22 = 0), Nat.le_of_ble_eq_true rfl, rfl, by decide⟩ hb hl
set_option maxRecDepth 20000 in
theorem u_X6_total_59 (L : xL) (x : Int32) (h : xH) : xf 56 59 L [.int x] h = some (.inl (some (.int x)), h) := xo_ireturn (n := 60) (by decide +kernel) rfl
set_option maxRecDepth 20000 in
theorem u_X6_total_60 (l1 : Option Value) (x : Nat) (st : List Value) (h : xH) : xf 56 60 [some (.ref x), l1] st h = xf 56 61 [some (.ref x), l1] (.ref x :: st) h := xo_aload (k := 0) (by decide +kernel) rfl
set_option maxRecDepth 20000 in
theorem u_X6_total_61 (L : xL) (b : Nat) (st : List Value) (h : xH) (hb : (xob h b).1 = 6) (hl : st.length ≤ 4) : xf 56 61 L (.ref b :: st) h = xgo 56 61 64 L st (xev 51 [.ref b] h) := xo_callV (as := []) (by decide +kernel) rfl ⟨(by decide +kernel : xna 51 = 0), Nat.le_of_ble_eq_true rfl, rfl, by decide⟩ hb hl
set_option maxRecDepth 20000 in
theorem u_X6_total_64 (L : xL) (x : Int32) (h : xH) : xf 56 64 L [.int x] h = some (.inl (some (.int x)), h) := xo_ireturn (n := 65) (by decide +kernel) rfl
set_option maxRecDepth 20000 in
theorem u_X6_total_65 (l1 : Option Value) (x : Nat) (st : List Value) (h : xH) : xf 56 65 [some (.ref x), l1] st h = xf 56 66 [some (.ref x), l1] (.ref x :: st) h := xo_aload (k := 0) (by decide +kernel) rfl
set_option maxRecDepth 20000 in
theorem u_X6_total_66 (L : xL) (a : Nat) (st : List Value) (h : xH) (hc : (xob h a).1 = 6) : xf 56 66 L (.ref a :: st) h = xf 56 69 L ((xob h a).2.getD 0 .null :: st) h := xo_getf (r := 384) (by decide +kernel) (by decide) hc
set_option maxRecDepth 20000 in
theorem u_X6_total_69 (L : xL) (b : Nat) (st : List Value) (h : xH) (hb : (xob h b).1 = 5) (hl : st.length ≤ 4) : xf 56 69 L (.ref b :: st) h = xgo 56 69 72 L st (xev 46 [.ref b] h) := xo_callV (as := []) (by decide +kernel) rfl ⟨(by decide +kernel : xna 46 = 0), Nat.le_of_ble_eq_true rfl, rfl, by decide⟩ hb hl
set_option maxRecDepth 20000 in
theorem u_X6_total_72 (L : xL) (x : Int32) (h : xH) : xf 56 72 L [.int x] h = some (.inl (some (.int x)), h) := xo_ireturn (n := 73) (by decide +kernel) rfl
set_option maxRecDepth 20000 in
theorem u_X6_total_73 (l1 : Option Value) (x : Nat) (st : List Value) (h : xH) : xf 56 73 [some (.ref x), l1] st h = xf 56 74 [some (.ref x), l1] (.ref x :: st) h := xo_aload (k := 0) (by decide +kernel) rfl
set_option maxRecDepth 20000 in
theorem u_X6_total_74 (L : xL) (b : Nat) (st : List Value) (h : xH) (hb : (xob h b).1 = 6) (hl : st.length ≤ 4) : xf 56 74 L (.ref b :: st) h = xgo 56 74 77 L st (xev 52 [.ref b] h) := xo_callV (as := []) (by decide +kernel) rfl ⟨(by decide +kernel : xna 52 = 0), Nat.le_of_ble_eq_true rfl, rfl, by decide⟩ hb hl
set_option maxRecDepth 20000 in
theorem u_X6_total_77 (L : xL) (x : Int32) (h : xH) : xf 56 77 L [.int x] h = some (.inl (some (.int x)), h) := xo_ireturn (n := 78) (by decide +kernel) rfl
set_option maxRecDepth 20000 in
theorem u_X6_total_78 (l1 : Option Value) (x : Nat) (st : List Value) (h : xH) : xf 56 78 [some (.ref x), l1] st h = xf 56 79 [some (.ref x), l1] (.ref x :: st) h := xo_aload (k := 0) (by decide +kernel) rfl
set_option maxRecDepth 20000 in
theorem u_X6_total_79 (L : xL) (b : Nat) (st : List Value) (h : xH) (hb : (xob h b).1 = 6) (hl : st.length ≤ 4) : xf 56 79 L (.ref b :: st) h = xgo 56 79 82 L st (xev 50 [.ref b] h) := xo_callV (as := []) (by decide +kernel) rfl ⟨(by decide +kernel : xna 50 = 0), Nat.le_of_ble_eq_true rfl, rfl, by decide⟩ hb hl
set_option maxRecDepth 20000 in
theorem u_X6_total_82 (L : xL) (x : Int32) (h : xH) : xf 56 82 L [.int x] h = some (.inl (some (.int x)), h) := xo_ireturn (n := 83) (by decide +kernel) rfl
set_option maxRecDepth 20000 in
theorem u_X6_total_83 (l1 : Option Value) (x : Nat) (st : List Value) (h : xH) : xf 56 83 [some (.ref x), l1] st h = xf 56 84 [some (.ref x), l1] (.ref x :: st) h := xo_aload (k := 0) (by decide +kernel) rfl
set_option maxRecDepth 20000 in
theorem u_X6_total_84 (L : xL) (a : Nat) (st : List Value) (h : xH) (hc : (xob h a).1 = 6) : xf 56 84 L (.ref a :: st) h = xf 56 87 L ((xob h a).2.getD 3 .null :: st) h := xo_getf (r := 387) (by decide +kernel) (by decide) hc
set_option maxRecDepth 20000 in
theorem u_X6_total_87 (L : xL) (x : Int32) (h : xH) : xf 56 87 L [.int x] h = some (.inl (some (.int x)), h) := xo_ireturn (n := 88) (by decide +kernel) rfl
set_option maxRecDepth 20000 in
theorem u_X6_total_88 (l1 : Option Value) (x : Nat) (st : List Value) (h : xH) : xf 56 88 [some (.ref x), l1] st h = xf 56 89 [some (.ref x), l1] (.ref x :: st) h := xo_aload (k := 0) (by decide +kernel) rfl
set_option maxRecDepth 20000 in
theorem u_X6_total_89 (L : xL) (a : Nat) (st : List Value) (h : xH) (hc : (xob h a).1 = 6) : xf 56 89 L (.ref a :: st) h = xf 56 92 L ((xob h a).2.getD 4 .null :: st) h := xo_getf (r := 388) (by decide +kernel) (by decide) hc
set_option maxRecDepth 20000 in
theorem u_X6_total_92 (L : xL) (x : Int32) (h : xH) : xf 56 92 L [.int x] h = some (.inl (some (.int x)), h) := xo_ireturn (n := 93) (by decide +kernel) rfl
set_option maxRecDepth 20000 in
theorem e_X6_total (v0 : Nat) (v1 : Int32) (h : xH) : xev 56 [.ref v0, .int v1] h = xf 56 0 [some (.ref v0), some (.int v1)] [] h := rfl
set_option maxRecDepth 20000 in
theorem u_X6_openAt_0 (l1 l2 : Option Value) (x : Nat) (st : List Value) (h : xH) : xf 57 0 [some (.ref x), l1, l2] st h = xf 57 1 [some (.ref x), l1, l2] (.ref x :: st) h := xo_aload (k := 0) (by decide +kernel) rfl
set_option maxRecDepth 20000 in
theorem u_X6_openAt_1 (L : xL) (a : Nat) (st : List Value) (h : xH) (hc : (xob h a).1 = 6) : xf 57 1 L (.ref a :: st) h = xf 57 4 L ((xob h a).2.getD 0 .null :: st) h := xo_getf (r := 384) (by decide +kernel) (by decide) hc
set_option maxRecDepth 20000 in
theorem u_X6_openAt_4 (l0 l2 : Option Value) (x : Int32) (st : List Value) (h : xH) : xf 57 4 [l0, some (.int x), l2] st h = xf 57 5 [l0, some (.int x), l2] (.int x :: st) h := xo_iload (k := 1) (by decide +kernel) rfl
set_option maxRecDepth 20000 in
theorem u_X6_openAt_5 (L : xL) (v0 : Int32) (b : Nat) (st : List Value) (h : xH) (hb : (xob h b).1 = 5) (hl : st.length ≤ 4) : xf 57 5 L (.int v0 :: .ref b :: st) h = xgo 57 5 8 L st (xev 36 [.ref b, .int v0] h) := xo_callV (as := [.int v0]) (by decide +kernel) rfl ⟨(by decide +kernel : xna 36 = 1), Nat.le_of_ble_eq_true rfl, rfl, by decide⟩ hb hl
set_option maxRecDepth 20000 in
theorem u_X6_openAt_8 (l0 l1 l2 : Option Value) (x : Int32) (st : List Value) (h : xH) : xf 57 8 [l0, l1, l2] (.int x :: st) h = xf 57 9 [l0, xcat l1, some (.int x)] st h := xo_istore (k := 2) (by decide +kernel) (Nat.le_of_ble_eq_true rfl) rfl
set_option maxRecDepth 20000 in
theorem u_X6_openAt_9 (l1 l2 : Option Value) (x : Nat) (st : List Value) (h : xH) : xf 57 9 [some (.ref x), l1, l2] st h = xf 57 10 [some (.ref x), l1, l2] (.ref x :: st) h := xo_aload (k := 0) (by decide +kernel) rfl
set_option maxRecDepth 20000 in
theorem u_X6_openAt_10 (L : xL) (a : Nat) (st : List Value) (h : xH) (hc : (xob h a).1 = 6) : xf 57 10 L (.ref a :: st) h = xf 57 13 L ((xob h a).2.getD 0 .null :: st) h := xo_getf (r := 384) (by decide +kernel) (by decide) hc
set_option maxRecDepth 20000 in
theorem u_X6_openAt_13 (l0 l2 : Option Value) (x : Int32) (st : List Value) (h : xH) : xf 57 13 [l0, some (.int x), l2] st h = xf 57 14 [l0, some (.int x), l2] (.int x :: st) h := xo_iload (k := 1) (by decide +kernel) rfl
set_option maxRecDepth 20000 in
theorem u_X6_openAt_14 (l1 l2 : Option Value) (x : Nat) (st : List Value) (h : xH) : xf 57 14 [some (.ref x), l1, l2] st h = xf 57 15 [some (.ref x), l1, l2] (.ref x :: st) h := xo_aload (k := 0) (by decide +kernel) rfl
set_option maxRecDepth 20000 in
theorem u_X6_openAt_15 (L : xL) (a : Nat) (st : List Value) (h : xH) (hc : (xob h a).1 = 6) : xf 57 15 L (.ref a :: st) h = xf 57 18 L ((xob h a).2.getD 1 .null :: st) h := xo_getf (r := 385) (by decide +kernel) (by decide) hc
set_option maxRecDepth 20000 in
theorem u_X6_openAt_18 (L : xL) (a : Nat) (st : List Value) (h : xH) (hc : (xob h a).1 = 3) : xf 57 18 L (.ref a :: st) h = xf 57 21 L ((xob h a).2.getD 0 .null :: st) h := xo_getf (r := 192) (by decide +kernel) (by decide) hc
set_option maxRecDepth 20000 in
theorem u_X6_openAt_21 (l0 l1 : Option Value) (x : Int32) (st : List Value) (h : xH) : xf 57 21 [l0, l1, some (.int x)] st h = xf 57 22 [l0, l1, some (.int x)] (.int x :: st) h := xo_iload (k := 2) (by decide +kernel) rfl
set_option maxRecDepth 20000 in
theorem u_X6_openAt_22 (L : xL) (v0 : Int32) (b : Nat) (st : List Value) (h : xH) (hb : (xob h b).1 = 1) (hl : st.length ≤ 4) : xf 57 22 L (.int v0 :: .ref b :: st) h = xgo 57 22 25 L st (xev 12 [.ref b, .int v0] h) := xo_callV (as := [.int v0]) (by decide +kernel) rfl ⟨(by decide +kernel : xna 12 = 1), Nat.le_of_ble_eq_true rfl, rfl, by decide⟩ hb hl
set_option maxRecDepth 20000 in
theorem u_X6_openAt_25 (l1 l2 : Option Value) (x : Nat) (st : List Value) (h : xH) : xf 57 25 [some (.ref x), l1, l2] st h = xf 57 26 [some (.ref x), l1, l2] (.ref x :: st) h := xo_aload (k := 0) (by decide +kernel) rfl
set_option maxRecDepth 20000 in
theorem u_X6_openAt_26 (L : xL) (a : Nat) (st : List Value) (h : xH) (hc : (xob h a).1 = 6) : xf 57 26 L (.ref a :: st) h = xf 57 29 L ((xob h a).2.getD 1 .null :: st) h := xo_getf (r := 385) (by decide +kernel) (by decide) hc
set_option maxRecDepth 20000 in
theorem u_X6_openAt_29 (L : xL) (a : Nat) (st : List Value) (h : xH) (hc : (xob h a).1 = 3) : xf 57 29 L (.ref a :: st) h = xf 57 32 L ((xob h a).2.getD 1 .null :: st) h := xo_getf (r := 193) (by decide +kernel) (by decide) hc
set_option maxRecDepth 20000 in
theorem u_X6_openAt_32 (l0 l1 : Option Value) (x : Int32) (st : List Value) (h : xH) : xf 57 32 [l0, l1, some (.int x)] st h = xf 57 33 [l0, l1, some (.int x)] (.int x :: st) h := xo_iload (k := 2) (by decide +kernel) rfl
set_option maxRecDepth 20000 in
theorem u_X6_openAt_33 (L : xL) (v0 : Int32) (b : Nat) (st : List Value) (h : xH) (hb : (xob h b).1 = 1) (hl : st.length ≤ 4) : xf 57 33 L (.int v0 :: .ref b :: st) h = xgo 57 33 36 L st (xev 12 [.ref b, .int v0] h) := xo_callV (as := [.int v0]) (by decide +kernel) rfl ⟨(by decide +kernel : xna 12 = 1), Nat.le_of_ble_eq_true rfl, rfl, by decide⟩ hb hl
set_option maxRecDepth 20000 in
theorem u_X6_openAt_36 (L : xL) (v0 : Int32) (v1 : Int32) (v2 : Int32) (b : Nat) (st : List Value) (h : xH) (hb : (xob h b).1 = 5) (hl : st.length ≤ 4) : xf 57 36 L (.int v2 :: .int v1 :: .int v0 :: .ref b :: st) h = xgo 57 36 39 L st (xev 42 [.ref b, .int v0, .int v1, .int v2] h) := xo_callV (as := [.int v0, .int v1, .int v2]) (by decide +kernel) rfl ⟨(by decide +kernel : xna 42 = 3), Nat.le_of_ble_eq_true rfl, rfl, by decide⟩ hb hl
set_option maxRecDepth 20000 in
theorem u_X6_openAt_39 (L : xL) (h : xH) : xf 57 39 L [] h = some (.inl none, h) := xo_return (n := 40) (by decide +kernel) rfl
set_option maxRecDepth 20000 in
theorem e_X6_openAt (v0 : Nat) (v1 : Int32) (h : xH) : xev 57 [.ref v0, .int v1] h = xf 57 0 [some (.ref v0), some (.int v1), none] [] h := rfl
set_option maxRecDepth 20000 in
theorem u_X6_forgetUnused_0 (L : xL) (st : List Value) (h : xH) : xf 58 0 L st h = xf 58 2 L (.int 16 :: st) h := xo_iconst (k := 16) (by decide +kernel) (by decide)
set_option maxRecDepth 20000 in
theorem u_X6_forgetUnused_2 (l0 l1 l2 : Option Value) (x : Int32) (st : List Value) (h : xH) : xf 58 2 [l0, l1, l2] (.int x :: st) h = xf 58 3 [xcat l0, some (.int x), l2] st h := xo_istore (k := 1) (by decide +kernel) (Nat.le_of_ble_eq_true rfl) rfl
set_option maxRecDepth 20000 in
theorem u_X6_forgetUnused_3 (l0 l2 : Option Value) (x : Int32) (st : List Value) (h : xH) : xf 58 3 [l0, some (.int x), l2] st h = xf 58 4 [l0, some (.int x), l2] (.int x :: st) h := xo_iload (k := 1) (by decide +kernel) rfl
set_option maxRecDepth 20000 in
theorem u_X6_forgetUnused_4 (L : xL) (st : List Value) (h : xH) : xf 58 4 L st h = xf 58 5 L (.int 1 :: st) h := xo_iconst (k := 1) (by decide +kernel) (by decide)
set_option maxRecDepth 20000 in
theorem u_X6_forgetUnused_5 (L : xL) (a b : Int32) (st : List Value) (h : xH) : xf 58 5 L (.int b :: .int a :: st) h = if a < b then xf 58 60 L st h else xf 58 8 L st h := xo_icmp_lt (t := 60) (by decide +kernel) rfl
set_option maxRecDepth 20000 in
theorem u_X6_forgetUnused_8 (L : xL) (st : List Value) (h : xH) : xf 58 8 L st h = xf 58 10 L (.int 8 :: st) h := xo_iconst (k := 8) (by decide +kernel) (by decide)
set_option maxRecDepth 20000 in
theorem u_X6_forgetUnused_10 (l0 l1 l2 : Option Value) (x : Int32) (st : List Value) (h : xH) : xf 58 10 [l0, l1, l2] (.int x :: st) h = xf 58 11 [l0, xcat l1, some (.int x)] st h := xo_istore (k := 2) (by decide +kernel) (Nat.le_of_ble_eq_true rfl) rfl
set_option maxRecDepth 20000 in
theorem u_X6_forgetUnused_11 (l0 l1 : Option Value) (x : Int32) (st : List Value) (h : xH) : xf 58 11 [l0, l1, some (.int x)] st h = xf 58 12 [l0, l1, some (.int x)] (.int x :: st) h := xo_iload (k := 2) (by decide +kernel) rfl
set_option maxRecDepth 20000 in
theorem u_X6_forgetUnused_12 (L : xL) (st : List Value) (h : xH) : xf 58 12 L st h = xf 58 14 L (.int 24 :: st) h := xo_iconst (k := 24) (by decide +kernel) (by decide)
set_option maxRecDepth 20000 in
theorem u_X6_forgetUnused_14 (L : xL) (a b : Int32) (st : List Value) (h : xH) : xf 58 14 L (.int b :: .int a :: st) h = if a < b then xf 58 17 L st h else xf 58 54 L st h := xo_icmp_ge (t := 54) (by decide +kernel) rfl
set_option maxRecDepth 20000 in
theorem u_X6_forgetUnused_17 (l1 l2 : Option Value) (x : Nat) (st : List Value) (h : xH) : xf 58 17 [some (.ref x), l1, l2] st h = xf 58 18 [some (.ref x), l1, l2] (.ref x :: st) h := xo_aload (k := 0) (by decide +kernel) rfl
set_option maxRecDepth 20000 in
theorem u_X6_forgetUnused_18 (L : xL) (a : Nat) (st : List Value) (h : xH) (hc : (xob h a).1 = 6) : xf 58 18 L (.ref a :: st) h = xf 58 21 L ((xob h a).2.getD 1 .null :: st) h := xo_getf (r := 385) (by decide +kernel) (by decide) hc
set_option maxRecDepth 20000 in
theorem u_X6_forgetUnused_21 (L : xL) (a : Nat) (st : List Value) (h : xH) (hc : (xob h a).1 = 3) : xf 58 21 L (.ref a :: st) h = xf 58 24 L ((xob h a).2.getD 2 .null :: st) h := xo_getf (r := 194) (by decide +kernel) (by decide) hc
set_option maxRecDepth 20000 in
theorem u_X6_forgetUnused_24 (l0 l1 : Option Value) (x : Int32) (st : List Value) (h : xH) : xf 58 24 [l0, l1, some (.int x)] st h = xf 58 25 [l0, l1, some (.int x)] (.int x :: st) h := xo_iload (k := 2) (by decide +kernel) rfl
set_option maxRecDepth 20000 in
theorem u_X6_forgetUnused_25 (L : xL) (v0 : Int32) (b : Nat) (st : List Value) (h : xH) (hb : (xob h b).1 = 1) (hl : st.length ≤ 4) : xf 58 25 L (.int v0 :: .ref b :: st) h = xgo 58 25 28 L st (xev 12 [.ref b, .int v0] h) := xo_callV (as := [.int v0]) (by decide +kernel) rfl ⟨(by decide +kernel : xna 12 = 1), Nat.le_of_ble_eq_true rfl, rfl, by decide⟩ hb hl
set_option maxRecDepth 20000 in
theorem u_X6_forgetUnused_28 (l0 l2 : Option Value) (x : Int32) (st : List Value) (h : xH) : xf 58 28 [l0, some (.int x), l2] st h = xf 58 29 [l0, some (.int x), l2] (.int x :: st) h := xo_iload (k := 1) (by decide +kernel) rfl
set_option maxRecDepth 20000 in
theorem u_X6_forgetUnused_29 (L : xL) (a b : Int32) (st : List Value) (h : xH) : xf 58 29 L (.int b :: .int a :: st) h = if a = b then xf 58 32 L st h else xf 58 48 L st h := xo_icmp_ne (t := 48) (by decide +kernel) rfl
set_option maxRecDepth 20000 in
theorem u_X6_forgetUnused_32 (l1 l2 : Option Value) (x : Nat) (st : List Value) (h : xH) : xf 58 32 [some (.ref x), l1, l2] st h = xf 58 33 [some (.ref x), l1, l2] (.ref x :: st) h := xo_aload (k := 0) (by decide +kernel) rfl
set_option maxRecDepth 20000 in
theorem u_X6_forgetUnused_33 (l0 l1 : Option Value) (x : Int32) (st : List Value) (h : xH) : xf 58 33 [l0, l1, some (.int x)] st h = xf 58 34 [l0, l1, some (.int x)] (.int x :: st) h := xo_iload (k := 2) (by decide +kernel) rfl
set_option maxRecDepth 20000 in
theorem u_X6_forgetUnused_34 (L : xL) (v0 : Int32) (b : Nat) (st : List Value) (h : xH) (hb : (xob h b).1 = 6) (hl : st.length ≤ 4) : xf 58 34 L (.int v0 :: .ref b :: st) h = xgo 58 34 37 L st (xev 49 [.ref b, .int v0] h) := xo_callV (as := [.int v0]) (by decide +kernel) rfl ⟨(by decide +kernel : xna 49 = 1), Nat.le_of_ble_eq_true rfl, rfl, by decide⟩ hb hl
set_option maxRecDepth 20000 in
theorem u_X6_forgetUnused_37 (L : xL) (a : Int32) (st : List Value) (h : xH) : xf 58 37 L (.int a :: st) h = if a = 0 then xf 58 40 L st h else xf 58 48 L st h := xo_if_ne (t := 48) (by decide +kernel) rfl
set_option maxRecDepth 20000 in
theorem u_X6_forgetUnused_40 (l1 l2 : Option Value) (x : Nat) (st : List Value) (h : xH) : xf 58 40 [some (.ref x), l1, l2] st h = xf 58 41 [some (.ref x), l1, l2] (.ref x :: st) h := xo_aload (k := 0) (by decide +kernel) rfl
set_option maxRecDepth 20000 in
theorem u_X6_forgetUnused_41 (L : xL) (a : Nat) (st : List Value) (h : xH) (hc : (xob h a).1 = 6) : xf 58 41 L (.ref a :: st) h = xf 58 44 L ((xob h a).2.getD 1 .null :: st) h := xo_getf (r := 385) (by decide +kernel) (by decide) hc
set_option maxRecDepth 20000 in
theorem u_X6_forgetUnused_44 (l0 l1 : Option Value) (x : Int32) (st : List Value) (h : xH) : xf 58 44 [l0, l1, some (.int x)] st h = xf 58 45 [l0, l1, some (.int x)] (.int x :: st) h := xo_iload (k := 2) (by decide +kernel) rfl
set_option maxRecDepth 20000 in
theorem u_X6_forgetUnused_45 (L : xL) (v0 : Int32) (b : Nat) (st : List Value) (h : xH) (hb : (xob h b).1 = 3) (hl : st.length ≤ 4) : xf 58 45 L (.int v0 :: .ref b :: st) h = xgo 58 45 48 L st (xev 24 [.ref b, .int v0] h) := xo_callV (as := [.int v0]) (by decide +kernel) rfl ⟨(by decide +kernel : xna 24 = 1), Nat.le_of_ble_eq_true rfl, rfl, by decide⟩ hb hl
set_option maxRecDepth 20000 in
theorem u_X6_forgetUnused_48 (l0 l1 : Option Value) (x : Int32) (st : List Value) (h : xH) : xf 58 48 [l0, l1, some (.int x)] st h = xf 58 51 [l0, xcat l1, some (.int (x + 1))] st h := xo_iinc (k := 2) (c := 1) (by decide +kernel) rfl (by decide) rfl
set_option maxRecDepth 20000 in
theorem u_X6_forgetUnused_51 (L : xL) (st : List Value) (h : xH) : xf 58 51 L st h = xf 58 11 L st h := xo_goto (n := 54) (t := 11) (by decide +kernel) rfl
set_option maxRecDepth 20000 in
theorem u_X6_forgetUnused_54 (l0 l2 : Option Value) (x : Int32) (st : List Value) (h : xH) : xf 58 54 [l0, some (.int x), l2] st h = xf 58 57 [xcat l0, some (.int (x + (-1))), l2] st h := xo_iinc (k := 1) (c := (-1)) (by decide +kernel) rfl (by decide) rfl
set_option maxRecDepth 20000 in
theorem u_X6_forgetUnused_57 (L : xL) (st : List Value) (h : xH) : xf 58 57 L st h = xf 58 3 L st h := xo_goto (n := 60) (t := 3) (by decide +kernel) rfl
set_option maxRecDepth 20000 in
theorem u_X6_forgetUnused_60 (L : xL) (h : xH) : xf 58 60 L [] h = some (.inl none, h) := xo_return (n := 61) (by decide +kernel) rfl
set_option maxRecDepth 20000 in
theorem e_X6_forgetUnused (v0 : Nat) (h : xH) : xev 58 [.ref v0] h = xf 58 0 [some (.ref v0), none, none] [] h := rfl
set_option maxRecDepth 20000 in
theorem u_X6_lowestToLetGo_0 (L : xL) (st : List Value) (h : xH) : xf 59 0 L st h = xf 59 2 L (.int 8 :: st) h := xo_iconst (k := 8) (by decide +kernel) (by decide)
set_option maxRecDepth 20000 in
theorem u_X6_lowestToLetGo_2 (l0 l1 : Option Value) (x : Int32) (st : List Value) (h : xH) : xf 59 2 [l0, l1] (.int x :: st) h = xf 59 3 [xcat l0, some (.int x)] st h := xo_istore (k := 1) (by decide +kernel) (Nat.le_of_ble_eq_true rfl) rfl
set_option maxRecDepth 20000 in
theorem u_X6_lowestToLetGo_3 (l0 : Option Value) (x : Int32) (st : List Value) (h : xH) : xf 59 3 [l0, some (.int x)] st h = xf 59 4 [l0, some (.int x)] (.int x :: st) h := xo_iload (k := 1) (by decide +kernel) rfl
set_option maxRecDepth 20000 in
theorem u_X6_lowestToLetGo_4 (L : xL) (st : List Value) (h : xH) : xf 59 4 L st h = xf 59 6 L (.int 24 :: st) h := xo_iconst (k := 24) (by decide +kernel) (by decide)
set_option maxRecDepth 20000 in
theorem u_X6_lowestToLetGo_6 (L : xL) (a b : Int32) (st : List Value) (h : xH) : xf 59 6 L (.int b :: .int a :: st) h = if a < b then xf 59 9 L st h else xf 59 36 L st h := xo_icmp_ge (t := 36) (by decide +kernel) rfl
set_option maxRecDepth 20000 in
theorem u_X6_lowestToLetGo_9 (l1 : Option Value) (x : Nat) (st : List Value) (h : xH) : xf 59 9 [some (.ref x), l1] st h = xf 59 10 [some (.ref x), l1] (.ref x :: st) h := xo_aload (k := 0) (by decide +kernel) rfl
set_option maxRecDepth 20000 in
theorem u_X6_lowestToLetGo_10 (L : xL) (a : Nat) (st : List Value) (h : xH) (hc : (xob h a).1 = 6) : xf 59 10 L (.ref a :: st) h = xf 59 13 L ((xob h a).2.getD 1 .null :: st) h := xo_getf (r := 385) (by decide +kernel) (by decide) hc
set_option maxRecDepth 20000 in
theorem u_X6_lowestToLetGo_13 (l0 : Option Value) (x : Int32) (st : List Value) (h : xH) : xf 59 13 [l0, some (.int x)] st h = xf 59 14 [l0, some (.int x)] (.int x :: st) h := xo_iload (k := 1) (by decide +kernel) rfl
set_option maxRecDepth 20000 in
theorem u_X6_lowestToLetGo_14 (L : xL) (v0 : Int32) (b : Nat) (st : List Value) (h : xH) (hb : (xob h b).1 = 3) (hl : st.length ≤ 4) : xf 59 14 L (.int v0 :: .ref b :: st) h = xgo 59 14 17 L st (xev 21 [.ref b, .int v0] h) := xo_callV (as := [.int v0]) (by decide +kernel) rfl ⟨(by decide +kernel : xna 21 = 1), Nat.le_of_ble_eq_true rfl, rfl, by decide⟩ hb hl
set_option maxRecDepth 20000 in
theorem u_X6_lowestToLetGo_17 (L : xL) (a : Int32) (st : List Value) (h : xH) : xf 59 17 L (.int a :: st) h = if a = 0 then xf 59 30 L st h else xf 59 20 L st h := xo_if_eq (t := 30) (by decide +kernel) rfl
set_option maxRecDepth 20000 in
theorem u_X6_lowestToLetGo_20 (l1 : Option Value) (x : Nat) (st : List Value) (h : xH) : xf 59 20 [some (.ref x), l1] st h = xf 59 21 [some (.ref x), l1] (.ref x :: st) h := xo_aload (k := 0) (by decide +kernel) rfl
set_option maxRecDepth 20000 in
theorem u_X6_lowestToLetGo_21 (l0 : Option Value) (x : Int32) (st : List Value) (h : xH) : xf 59 21 [l0, some (.int x)] st h = xf 59 22 [l0, some (.int x)] (.int x :: st) h := xo_iload (k := 1) (by decide +kernel) rfl
set_option maxRecDepth 20000 in
theorem u_X6_lowestToLetGo_22 (L : xL) (v0 : Int32) (b : Nat) (st : List Value) (h : xH) (hb : (xob h b).1 = 6) (hl : st.length ≤ 4) : xf 59 22 L (.int v0 :: .ref b :: st) h = xgo 59 22 25 L st (xev 60 [.ref b, .int v0] h) := xo_callV (as := [.int v0]) (by decide +kernel) rfl ⟨(by decide +kernel : xna 60 = 1), Nat.le_of_ble_eq_true rfl, rfl, by decide⟩ hb hl
set_option maxRecDepth 20000 in
theorem u_X6_lowestToLetGo_25 (L : xL) (a : Int32) (st : List Value) (h : xH) : xf 59 25 L (.int a :: st) h = if a = 0 then xf 59 30 L st h else xf 59 28 L st h := xo_if_eq (t := 30) (by decide +kernel) rfl
set_option maxRecDepth 20000 in
theorem u_X6_lowestToLetGo_28 (l0 : Option Value) (x : Int32) (st : List Value) (h : xH) : xf 59 28 [l0, some (.int x)] st h = xf 59 29 [l0, some (.int x)] (.int x :: st) h := xo_iload (k := 1) (by decide +kernel) rfl
set_option maxRecDepth 20000 in
theorem u_X6_lowestToLetGo_29 (L : xL) (x : Int32) (h : xH) : xf 59 29 L [.int x] h = some (.inl (some (.int x)), h) := xo_ireturn (n := 30) (by decide +kernel) rfl
set_option maxRecDepth 20000 in
theorem u_X6_lowestToLetGo_30 (l0 : Option Value) (x : Int32) (st : List Value) (h : xH) : xf 59 30 [l0, some (.int x)] st h = xf 59 33 [xcat l0, some (.int (x + 1))] st h := xo_iinc (k := 1) (c := 1) (by decide +kernel) rfl (by decide) rfl
set_option maxRecDepth 20000 in
theorem u_X6_lowestToLetGo_33 (L : xL) (st : List Value) (h : xH) : xf 59 33 L st h = xf 59 3 L st h := xo_goto (n := 36) (t := 3) (by decide +kernel) rfl
set_option maxRecDepth 20000 in
theorem u_X6_lowestToLetGo_36 (L : xL) (st : List Value) (h : xH) : xf 59 36 L st h = xf 59 37 L (.int (-1) :: st) h := xo_iconst (k := (-1)) (by decide +kernel) (by decide)
set_option maxRecDepth 20000 in
theorem u_X6_lowestToLetGo_37 (L : xL) (x : Int32) (h : xH) : xf 59 37 L [.int x] h = some (.inl (some (.int x)), h) := xo_ireturn (n := 38) (by decide +kernel) rfl
set_option maxRecDepth 20000 in
theorem e_X6_lowestToLetGo (v0 : Nat) (h : xH) : xev 59 [.ref v0] h = xf 59 0 [some (.ref v0), none] [] h := rfl
set_option maxRecDepth 20000 in
theorem u_X6_canLetGo_0 (l1 l2 : Option Value) (x : Nat) (st : List Value) (h : xH) : xf 60 0 [some (.ref x), l1, l2] st h = xf 60 1 [some (.ref x), l1, l2] (.ref x :: st) h := xo_aload (k := 0) (by decide +kernel) rfl
set_option maxRecDepth 20000 in
theorem u_X6_canLetGo_1 (L : xL) (a : Nat) (st : List Value) (h : xH) (hc : (xob h a).1 = 6) : xf 60 1 L (.ref a :: st) h = xf 60 4 L ((xob h a).2.getD 0 .null :: st) h := xo_getf (r := 384) (by decide +kernel) (by decide) hc
set_option maxRecDepth 20000 in
theorem u_X6_canLetGo_4 (l0 l2 : Option Value) (x : Int32) (st : List Value) (h : xH) : xf 60 4 [l0, some (.int x), l2] st h = xf 60 5 [l0, some (.int x), l2] (.int x :: st) h := xo_iload (k := 1) (by decide +kernel) rfl
set_option maxRecDepth 20000 in
theorem u_X6_canLetGo_5 (L : xL) (v0 : Int32) (b : Nat) (st : List Value) (h : xH) (hb : (xob h b).1 = 5) (hl : st.length ≤ 4) : xf 60 5 L (.int v0 :: .ref b :: st) h = xgo 60 5 8 L st (xev 45 [.ref b, .int v0] h) := xo_callV (as := [.int v0]) (by decide +kernel) rfl ⟨(by decide +kernel : xna 45 = 1), Nat.le_of_ble_eq_true rfl, rfl, by decide⟩ hb hl
set_option maxRecDepth 20000 in
theorem u_X6_canLetGo_8 (l0 l1 l2 : Option Value) (x : Int32) (st : List Value) (h : xH) : xf 60 8 [l0, l1, l2] (.int x :: st) h = xf 60 9 [l0, xcat l1, some (.int x)] st h := xo_istore (k := 2) (by decide +kernel) (Nat.le_of_ble_eq_true rfl) rfl
set_option maxRecDepth 20000 in
theorem u_X6_canLetGo_9 (l0 l1 : Option Value) (x : Int32) (st : List Value) (h : xH) : xf 60 9 [l0, l1, some (.int x)] st h = xf 60 10 [l0, l1, some (.int x)] (.int x :: st) h := xo_iload (k := 2) (by decide +kernel) rfl
set_option maxRecDepth 20000 in
theorem u_X6_canLetGo_10 (l1 l2 : Option Value) (x : Nat) (st : List Value) (h : xH) : xf 60 10 [some (.ref x), l1, l2] st h = xf 60 11 [some (.ref x), l1, l2] (.ref x :: st) h := xo_aload (k := 0) (by decide +kernel) rfl
set_option maxRecDepth 20000 in
theorem u_X6_canLetGo_11 (L : xL) (a : Nat) (st : List Value) (h : xH) (hc : (xob h a).1 = 6) : xf 60 11 L (.ref a :: st) h = xf 60 14 L ((xob h a).2.getD 2 .null :: st) h := xo_getf (r := 386) (by decide +kernel) (by decide) hc
set_option maxRecDepth 20000 in
theorem u_X6_canLetGo_14 (L : xL) (st : List Value) (h : xH) : xf 60 14 L st h = xf 60 15 L (.int 1 :: st) h := xo_iconst (k := 1) (by decide +kernel) (by decide)
set_option maxRecDepth 20000 in
theorem u_X6_canLetGo_15 (L : xL) (v0 : Int32) (b : Nat) (st : List Value) (h : xH) (hb : (xob h b).1 = 1) (hl : st.length ≤ 4) : xf 60 15 L (.int v0 :: .ref b :: st) h = xgo 60 15 18 L st (xev 12 [.ref b, .int v0] h) := xo_callV (as := [.int v0]) (by decide +kernel) rfl ⟨(by decide +kernel : xna 12 = 1), Nat.le_of_ble_eq_true rfl, rfl, by decide⟩ hb hl
set_option maxRecDepth 20000 in
theorem u_X6_canLetGo_18 (L : xL) (a b : Int32) (st : List Value) (h : xH) : xf 60 18 L (.int b :: .int a :: st) h = if a < b then xf 60 21 L st h else xf 60 47 L st h := xo_icmp_ge (t := 47) (by decide +kernel) rfl
set_option maxRecDepth 20000 in
theorem u_X6_canLetGo_21 (l1 l2 : Option Value) (x : Nat) (st : List Value) (h : xH) : xf 60 21 [some (.ref x), l1, l2] st h = xf 60 22 [some (.ref x), l1, l2] (.ref x :: st) h := xo_aload (k := 0) (by decide +kernel) rfl
set_option maxRecDepth 20000 in
theorem u_X6_canLetGo_22 (L : xL) (a : Nat) (st : List Value) (h : xH) (hc : (xob h a).1 = 6) : xf 60 22 L (.ref a :: st) h = xf 60 25 L ((xob h a).2.getD 1 .null :: st) h := xo_getf (r := 385) (by decide +kernel) (by decide) hc
set_option maxRecDepth 20000 in
theorem u_X6_canLetGo_25 (l0 l2 : Option Value) (x : Int32) (st : List Value) (h : xH) : xf 60 25 [l0, some (.int x), l2] st h = xf 60 26 [l0, some (.int x), l2] (.int x :: st) h := xo_iload (k := 1) (by decide +kernel) rfl
set_option maxRecDepth 20000 in
theorem u_X6_canLetGo_26 (L : xL) (v0 : Int32) (b : Nat) (st : List Value) (h : xH) (hb : (xob h b).1 = 3) (hl : st.length ≤ 4) : xf 60 26 L (.int v0 :: .ref b :: st) h = xgo 60 26 29 L st (xev 26 [.ref b, .int v0] h) := xo_callV (as := [.int v0]) (by decide +kernel) rfl ⟨(by decide +kernel : xna 26 = 1), Nat.le_of_ble_eq_true rfl, rfl, by decide⟩ hb hl
set_option maxRecDepth 20000 in
theorem u_X6_canLetGo_29 (L : xL) (a : Int32) (st : List Value) (h : xH) : xf 60 29 L (.int a :: st) h = if a = 0 then xf 60 32 L st h else xf 60 47 L st h := xo_if_ne (t := 47) (by decide +kernel) rfl
set_option maxRecDepth 20000 in
theorem u_X6_canLetGo_32 (l1 l2 : Option Value) (x : Nat) (st : List Value) (h : xH) : xf 60 32 [some (.ref x), l1, l2] st h = xf 60 33 [some (.ref x), l1, l2] (.ref x :: st) h := xo_aload (k := 0) (by decide +kernel) rfl
set_option maxRecDepth 20000 in
theorem u_X6_canLetGo_33 (L : xL) (a : Nat) (st : List Value) (h : xH) (hc : (xob h a).1 = 6) : xf 60 33 L (.ref a :: st) h = xf 60 36 L ((xob h a).2.getD 0 .null :: st) h := xo_getf (r := 384) (by decide +kernel) (by decide) hc
set_option maxRecDepth 20000 in
theorem u_X6_canLetGo_36 (l0 l1 : Option Value) (x : Int32) (st : List Value) (h : xH) : xf 60 36 [l0, l1, some (.int x)] st h = xf 60 37 [l0, l1, some (.int x)] (.int x :: st) h := xo_iload (k := 2) (by decide +kernel) rfl
set_option maxRecDepth 20000 in
theorem u_X6_canLetGo_37 (L : xL) (v0 : Int32) (b : Nat) (st : List Value) (h : xH) (hb : (xob h b).1 = 5) (hl : st.length ≤ 4) : xf 60 37 L (.int v0 :: .ref b :: st) h = xgo 60 37 40 L st (xev 37 [.ref b, .int v0] h) := xo_callV (as := [.int v0]) (by decide +kernel) rfl ⟨(by decide +kernel : xna 37 = 1), Nat.le_of_ble_eq_true rfl, rfl, by decide⟩ hb hl
set_option maxRecDepth 20000 in
theorem u_X6_canLetGo_40 (L : xL) (a : Int32) (st : List Value) (h : xH) : xf 60 40 L (.int a :: st) h = if a = 0 then xf 60 47 L st h else xf 60 43 L st h := xo_if_eq (t := 47) (by decide +kernel) rfl
set_option maxRecDepth 20000 in
theorem u_X6_canLetGo_43 (L : xL) (st : List Value) (h : xH) : xf 60 43 L st h = xf 60 44 L (.int 1 :: st) h := xo_iconst (k := 1) (by decide +kernel) (by decide)
set_option maxRecDepth 20000 in
theorem u_X6_canLetGo_44 (L : xL) (st : List Value) (h : xH) : xf 60 44 L st h = xf 60 48 L st h := xo_goto (n := 47) (t := 48) (by decide +kernel) rfl
set_option maxRecDepth 20000 in
theorem u_X6_canLetGo_47 (L : xL) (st : List Value) (h : xH) : xf 60 47 L st h = xf 60 48 L (.int 0 :: st) h := xo_iconst (k := 0) (by decide +kernel) (by decide)
set_option maxRecDepth 20000 in
theorem u_X6_canLetGo_48 (L : xL) (x : Int32) (h : xH) (hv : x = 0 ∨ x = 1) : xf 60 48 L [.int x] h = some (.inl (some (.int x)), h) := xo_ireturn (n := 49) (by decide +kernel) (by rcases hv with rfl | rfl <;> rfl)
set_option maxRecDepth 20000 in
theorem e_X6_canLetGo (v0 : Nat) (v1 : Int32) (h : xH) : xev 60 [.ref v0, .int v1] h = xf 60 0 [some (.ref v0), some (.int v1), none] [] h := rfl
set_option maxRecDepth 20000 in
theorem u_X6_release_0 (L : xL) (st : List Value) (h : xH) : xf 61 0 L st h = xf 61 1 L (.int 0 :: st) h := xo_iconst (k := 0) (by decide +kernel) (by decide)
set_option maxRecDepth 20000 in
theorem u_X6_release_1 (l0 l1 l2 : Option Value) (x : Int32) (st : List Value) (h : xH) : xf 61 1 [l0, l1, l2] (.int x :: st) h = xf 61 2 [l0, xcat l1, some (.int x)] st h := xo_istore (k := 2) (by decide +kernel) (Nat.le_of_ble_eq_true rfl) rfl
set_option maxRecDepth 20000 in
theorem u_X6_release_2 (l0 l1 : Option Value) (x : Int32) (st : List Value) (h : xH) : xf 61 2 [l0, l1, some (.int x)] st h = xf 61 3 [l0, l1, some (.int x)] (.int x :: st) h := xo_iload (k := 2) (by decide +kernel) rfl
set_option maxRecDepth 20000 in
theorem u_X6_release_3 (L : xL) (st : List Value) (h : xH) : xf 61 3 L st h = xf 61 5 L (.int 64 :: st) h := xo_iconst (k := 64) (by decide +kernel) (by decide)
set_option maxRecDepth 20000 in
theorem u_X6_release_5 (L : xL) (a b : Int32) (st : List Value) (h : xH) : xf 61 5 L (.int b :: .int a :: st) h = if a < b then xf 61 8 L st h else xf 61 31 L st h := xo_icmp_ge (t := 31) (by decide +kernel) rfl
set_option maxRecDepth 20000 in
theorem u_X6_release_8 (l1 l2 : Option Value) (x : Nat) (st : List Value) (h : xH) : xf 61 8 [some (.ref x), l1, l2] st h = xf 61 9 [some (.ref x), l1, l2] (.ref x :: st) h := xo_aload (k := 0) (by decide +kernel) rfl
set_option maxRecDepth 20000 in
theorem u_X6_release_9 (L : xL) (a : Nat) (st : List Value) (h : xH) (hc : (xob h a).1 = 6) : xf 61 9 L (.ref a :: st) h = xf 61 12 L ((xob h a).2.getD 0 .null :: st) h := xo_getf (r := 384) (by decide +kernel) (by decide) hc
set_option maxRecDepth 20000 in
theorem u_X6_release_12 (l0 l1 : Option Value) (x : Int32) (st : List Value) (h : xH) : xf 61 12 [l0, l1, some (.int x)] st h = xf 61 13 [l0, l1, some (.int x)] (.int x :: st) h := xo_iload (k := 2) (by decide +kernel) rfl
set_option maxRecDepth 20000 in
theorem u_X6_release_13 (L : xL) (v0 : Int32) (b : Nat) (st : List Value) (h : xH) (hb : (xob h b).1 = 5) (hl : st.length ≤ 4) : xf 61 13 L (.int v0 :: .ref b :: st) h = xgo 61 13 16 L st (xev 36 [.ref b, .int v0] h) := xo_callV (as := [.int v0]) (by decide +kernel) rfl ⟨(by decide +kernel : xna 36 = 1), Nat.le_of_ble_eq_true rfl, rfl, by decide⟩ hb hl
set_option maxRecDepth 20000 in
theorem u_X6_release_16 (l0 l2 : Option Value) (x : Int32) (st : List Value) (h : xH) : xf 61 16 [l0, some (.int x), l2] st h = xf 61 17 [l0, some (.int x), l2] (.int x :: st) h := xo_iload (k := 1) (by decide +kernel) rfl
set_option maxRecDepth 20000 in
theorem u_X6_release_17 (L : xL) (a b : Int32) (st : List Value) (h : xH) : xf 61 17 L (.int b :: .int a :: st) h = if a = b then xf 61 20 L st h else xf 61 25 L st h := xo_icmp_ne (t := 25) (by decide +kernel) rfl
set_option maxRecDepth 20000 in
theorem u_X6_release_20 (l1 l2 : Option Value) (x : Nat) (st : List Value) (h : xH) : xf 61 20 [some (.ref x), l1, l2] st h = xf 61 21 [some (.ref x), l1, l2] (.ref x :: st) h := xo_aload (k := 0) (by decide +kernel) rfl
set_option maxRecDepth 20000 in
theorem u_X6_release_21 (l0 l1 : Option Value) (x : Int32) (st : List Value) (h : xH) : xf 61 21 [l0, l1, some (.int x)] st h = xf 61 22 [l0, l1, some (.int x)] (.int x :: st) h := xo_iload (k := 2) (by decide +kernel) rfl
set_option maxRecDepth 20000 in
theorem u_X6_release_22 (L : xL) (v0 : Int32) (b : Nat) (st : List Value) (h : xH) (hb : (xob h b).1 = 6) (hl : st.length ≤ 4) : xf 61 22 L (.int v0 :: .ref b :: st) h = xgo 61 22 25 L st (xev 57 [.ref b, .int v0] h) := xo_callV (as := [.int v0]) (by decide +kernel) rfl ⟨(by decide +kernel : xna 57 = 1), Nat.le_of_ble_eq_true rfl, rfl, by decide⟩ hb hl
set_option maxRecDepth 20000 in
theorem u_X6_release_25 (l0 l1 : Option Value) (x : Int32) (st : List Value) (h : xH) : xf 61 25 [l0, l1, some (.int x)] st h = xf 61 28 [l0, xcat l1, some (.int (x + 1))] st h := xo_iinc (k := 2) (c := 1) (by decide +kernel) rfl (by decide) rfl
set_option maxRecDepth 20000 in
theorem u_X6_release_28 (L : xL) (st : List Value) (h : xH) : xf 61 28 L st h = xf 61 2 L st h := xo_goto (n := 31) (t := 2) (by decide +kernel) rfl
set_option maxRecDepth 20000 in
theorem u_X6_release_31 (l1 l2 : Option Value) (x : Nat) (st : List Value) (h : xH) : xf 61 31 [some (.ref x), l1, l2] st h = xf 61 32 [some (.ref x), l1, l2] (.ref x :: st) h := xo_aload (k := 0) (by decide +kernel) rfl
set_option maxRecDepth 20000 in
theorem u_X6_release_32 (L : xL) (a : Nat) (st : List Value) (h : xH) (hc : (xob h a).1 = 6) : xf 61 32 L (.ref a :: st) h = xf 61 35 L ((xob h a).2.getD 1 .null :: st) h := xo_getf (r := 385) (by decide +kernel) (by decide) hc
set_option maxRecDepth 20000 in
theorem u_X6_release_35 (l0 l2 : Option Value) (x : Int32) (st : List Value) (h : xH) : xf 61 35 [l0, some (.int x), l2] st h = xf 61 36 [l0, some (.int x), l2] (.int x :: st) h := xo_iload (k := 1) (by decide +kernel) rfl
set_option maxRecDepth 20000 in
theorem u_X6_release_36 (L : xL) (v0 : Int32) (b : Nat) (st : List Value) (h : xH) (hb : (xob h b).1 = 3) (hl : st.length ≤ 4) : xf 61 36 L (.int v0 :: .ref b :: st) h = xgo 61 36 39 L st (xev 24 [.ref b, .int v0] h) := xo_callV (as := [.int v0]) (by decide +kernel) rfl ⟨(by decide +kernel : xna 24 = 1), Nat.le_of_ble_eq_true rfl, rfl, by decide⟩ hb hl
set_option maxRecDepth 20000 in
theorem u_X6_release_39 (l1 l2 : Option Value) (x : Nat) (st : List Value) (h : xH) : xf 61 39 [some (.ref x), l1, l2] st h = xf 61 40 [some (.ref x), l1, l2] (.ref x :: st) h := xo_aload (k := 0) (by decide +kernel) rfl
set_option maxRecDepth 20000 in
theorem u_X6_release_40 (L : xL) (a : Nat) (st : List Value) (h : xH) : xf 61 40 L (.ref a :: st) h = xf 61 41 L (.ref a :: .ref a :: st) h := xo_dupR (by decide +kernel)
set_option maxRecDepth 20000 in
theorem u_X6_release_41 (L : xL) (a : Nat) (st : List Value) (h : xH) (hc : (xob h a).1 = 6) : xf 61 41 L (.ref a :: st) h = xf 61 44 L ((xob h a).2.getD 4 .null :: st) h := xo_getf (r := 388) (by decide +kernel) (by decide) hc
set_option maxRecDepth 20000 in
theorem u_X6_release_44 (L : xL) (st : List Value) (h : xH) : xf 61 44 L st h = xf 61 45 L (.int 1 :: st) h := xo_iconst (k := 1) (by decide +kernel) (by decide)
set_option maxRecDepth 20000 in
theorem u_X6_release_45 (L : xL) (a b : Int32) (st : List Value) (h : xH) : xf 61 45 L (.int b :: .int a :: st) h = xf 61 46 L (.int (a + b) :: st) h := xo_iadd (by decide +kernel)
set_option maxRecDepth 20000 in
theorem u_X6_release_46 (L : xL) (v : Int32) (a : Nat) (st : List Value) (h : xH) (hc : (xob h a).1 = 6) : xf 61 46 L (.int v :: .ref a :: st) h = xf 61 49 L st (xso h a 4 (.int v)) := xo_putf (r := 388) (by decide +kernel) (by decide) rfl hc
set_option maxRecDepth 20000 in
theorem u_X6_release_49 (L : xL) (h : xH) : xf 61 49 L [] h = some (.inl none, h) := xo_return (n := 50) (by decide +kernel) rfl
set_option maxRecDepth 20000 in
theorem e_X6_release (v0 : Nat) (v1 : Int32) (h : xH) : xev 61 [.ref v0, .int v1] h = xf 61 0 [some (.ref v0), some (.int v1), none] [] h := rfl
