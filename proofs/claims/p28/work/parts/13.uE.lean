/-! Instructions as equations: written by gen_u.py. -/
set_option maxRecDepth 20000 in
theorem u_L_cell_0 (l0 : Option Value) (x : Int32) (st : List Value) (h : xH) : xf 91 0 [l0, some (.int x)] st h = xf 91 1 [l0, some (.int x)] (.int x :: st) h := xo_iload (k := 1) (by decide +kernel) rfl
set_option maxRecDepth 20000 in
theorem u_L_cell_1 (l1 : Option Value) (x : Nat) (st : List Value) (h : xH) : xf 91 1 [some (.ref x), l1] st h = xf 91 2 [some (.ref x), l1] (.ref x :: st) h := xo_aload (k := 0) (by decide +kernel) rfl
set_option maxRecDepth 20000 in
theorem u_L_cell_2 (L : xL) (a : Nat) (st : List Value) (h : xH) (hx : xk3 h a = true) : xf 91 2 L (.ref a :: st) h = xf 91 3 L (.int (Int32.ofNat (xa3 h a).1) :: st) h := xo_alen3 (by decide +kernel) hx
set_option maxRecDepth 20000 in
theorem u_L_cell_3 (L : xL) (a b : Int32) (st : List Value) (h : xH) : xf 91 3 L (.int b :: .int a :: st) h = if a < b then xf 91 6 L st h else xf 91 12 L st h := xo_icmp_ge (t := 12) (by decide +kernel) rfl
set_option maxRecDepth 20000 in
theorem u_L_cell_6 (l1 : Option Value) (x : Nat) (st : List Value) (h : xH) : xf 91 6 [some (.ref x), l1] st h = xf 91 7 [some (.ref x), l1] (.ref x :: st) h := xo_aload (k := 0) (by decide +kernel) rfl
set_option maxRecDepth 20000 in
theorem u_L_cell_7 (l0 : Option Value) (x : Int32) (st : List Value) (h : xH) : xf 91 7 [l0, some (.int x)] st h = xf 91 8 [l0, some (.int x)] (.int x :: st) h := xo_iload (k := 1) (by decide +kernel) rfl
set_option maxRecDepth 20000 in
theorem u_L_cell_8 (L : xL) (i : Int32) (a : Nat) (st : List Value) (h : xH) (hx : xix i (xa3 h a).1) : xf 91 8 L (.int i :: .ref a :: st) h = xf 91 9 L (.int ((xa3 h a).2 i.toNatClampNeg) :: st) h := xo_iaload3 (by decide +kernel) hx
set_option maxRecDepth 20000 in
theorem u_L_cell_9 (L : xL) (st : List Value) (h : xH) : xf 91 9 L st h = xf 91 24 L st h := xo_goto (n := 12) (t := 24) (by decide +kernel) rfl
set_option maxRecDepth 20000 in
theorem u_L_cell_12 (L : xL) (st : List Value) (h : xH) : xf 91 12 L st h = xf 91 15 L (.int 7919 :: st) h := xo_iconst (k := 7919) (by decide +kernel) (by decide)
set_option maxRecDepth 20000 in
theorem u_L_cell_15 (l0 : Option Value) (x : Int32) (st : List Value) (h : xH) : xf 91 15 [l0, some (.int x)] st h = xf 91 16 [l0, some (.int x)] (.int x :: st) h := xo_iload (k := 1) (by decide +kernel) rfl
set_option maxRecDepth 20000 in
theorem u_L_cell_16 (L : xL) (st : List Value) (h : xH) : xf 91 16 L st h = xf 91 17 L (.int 3 :: st) h := xo_iconst (k := 3) (by decide +kernel) (by decide)
set_option maxRecDepth 20000 in
theorem u_L_cell_17 (L : xL) (a b : Int32) (st : List Value) (h : xH) : xf 91 17 L (.int b :: .int a :: st) h = xf 91 18 L (.int (a + b) :: st) h := xo_iadd (by decide +kernel)
set_option maxRecDepth 20000 in
theorem u_L_cell_18 (L : xL) (a b : Int32) (st : List Value) (h : xH) : xf 91 18 L (.int b :: .int a :: st) h = xf 91 19 L (.int (a * b) :: st) h := xo_imul (by decide +kernel)
set_option maxRecDepth 20000 in
theorem u_L_cell_19 (l0 : Option Value) (x : Int32) (st : List Value) (h : xH) : xf 91 19 [l0, some (.int x)] st h = xf 91 20 [l0, some (.int x)] (.int x :: st) h := xo_iload (k := 1) (by decide +kernel) rfl
set_option maxRecDepth 20000 in
theorem u_L_cell_20 (L : xL) (st : List Value) (h : xH) : xf 91 20 L st h = xf 91 22 L (.int 11 :: st) h := xo_iconst (k := 11) (by decide +kernel) (by decide)
set_option maxRecDepth 20000 in
theorem u_L_cell_22 (L : xL) (a b : Int32) (st : List Value) (h : xH) : xf 91 22 L (.int b :: .int a :: st) h = xf 91 23 L (.int (a + b) :: st) h := xo_iadd (by decide +kernel)
set_option maxRecDepth 20000 in
theorem u_L_cell_23 (L : xL) (a b : Int32) (st : List Value) (h : xH) : xf 91 23 L (.int b :: .int a :: st) h = xf 91 24 L (.int (a * b) :: st) h := xo_imul (by decide +kernel)
set_option maxRecDepth 20000 in
theorem u_L_cell_24 (L : xL) (x : Int32) (h : xH) : xf 91 24 L [.int x] h = some (.inl (some (.int x)), h) := xo_ireturn (n := 25) (by decide +kernel) rfl
set_option maxRecDepth 20000 in
theorem e_L_cell (v0 : Nat) (v1 : Int32) (h : xH) : xev 91 [.ref v0, .int v1] h = xf 91 0 [some (.ref v0), some (.int v1)] [] h := rfl
set_option maxRecDepth 20000 in
theorem u_L_low_0 (l1 : Option Value) (x : Int32) (st : List Value) (h : xH) : xf 92 0 [some (.int x), l1] st h = xf 92 1 [some (.int x), l1] (.int x :: st) h := xo_iload (k := 0) (by decide +kernel) rfl
set_option maxRecDepth 20000 in
theorem u_L_low_1 (L : xL) (st : List Value) (h : xH) : xf 92 1 L st h = xf 92 3 L (.int 2147483647 :: st) h := xo_ldc (k := 0) (by decide +kernel) (by decide)
set_option maxRecDepth 20000 in
theorem u_L_low_3 (L : xL) (a b : Int32) (st : List Value) (h : xH) : xf 92 3 L (.int b :: .int a :: st) h = xf 92 4 L (.int (a &&& b) :: st) h := xo_iand (by decide +kernel)
set_option maxRecDepth 20000 in
theorem u_L_low_4 (l0 : Option Value) (x : Int32) (st : List Value) (h : xH) : xf 92 4 [l0, some (.int x)] st h = xf 92 5 [l0, some (.int x)] (.int x :: st) h := xo_iload (k := 1) (by decide +kernel) rfl
set_option maxRecDepth 20000 in
theorem u_L_low_5 (L : xL) (a b : Int32) (st : List Value) (h : xH) (hb : ¬ b = 0) : xf 92 5 L (.int b :: .int a :: st) h = xf 92 6 L (.int (a - a / b * b) :: st) h := xo_irem (by decide +kernel) hb
set_option maxRecDepth 20000 in
theorem u_L_low_6 (L : xL) (x : Int32) (h : xH) : xf 92 6 L [.int x] h = some (.inl (some (.int x)), h) := xo_ireturn (n := 7) (by decide +kernel) rfl
set_option maxRecDepth 20000 in
theorem e_L_low (v0 : Int32) (v1 : Int32) (h : xH) : xev 92 [.int v0, .int v1] h = xf 92 0 [some (.int v0), some (.int v1)] [] h := rfl
set_option maxRecDepth 20000 in
theorem u_L_isName_0 (L : xL) (st : List Value) (h : xH) : xf 93 0 L st h = xf 93 1 L (.int 0 :: st) h := xo_iconst (k := 0) (by decide +kernel) (by decide)
set_option maxRecDepth 20000 in
theorem u_L_isName_1 (l0 l1 l2 l3 : Option Value) (x : Int32) (st : List Value) (h : xH) : xf 93 1 [l0, l1, l2, l3] (.int x :: st) h = xf 93 2 [l0, xcat l1, some (.int x), l3] st h := xo_istore (k := 2) (by decide +kernel) (Nat.le_of_ble_eq_true rfl) rfl
set_option maxRecDepth 20000 in
theorem u_L_isName_2 (L : xL) (st : List Value) (h : xH) : xf 93 2 L st h = xf 93 3 L (.int 0 :: st) h := xo_iconst (k := 0) (by decide +kernel) (by decide)
set_option maxRecDepth 20000 in
theorem u_L_isName_3 (l0 l1 l2 l3 : Option Value) (x : Int32) (st : List Value) (h : xH) : xf 93 3 [l0, l1, l2, l3] (.int x :: st) h = xf 93 4 [l0, l1, xcat l2, some (.int x)] st h := xo_istore (k := 3) (by decide +kernel) (Nat.le_of_ble_eq_true rfl) rfl
set_option maxRecDepth 20000 in
theorem u_L_isName_4 (l0 l1 l2 : Option Value) (x : Int32) (st : List Value) (h : xH) : xf 93 4 [l0, l1, l2, some (.int x)] st h = xf 93 5 [l0, l1, l2, some (.int x)] (.int x :: st) h := xo_iload (k := 3) (by decide +kernel) rfl
set_option maxRecDepth 20000 in
theorem u_L_isName_5 (l1 l2 l3 : Option Value) (x : Nat) (st : List Value) (h : xH) : xf 93 5 [some (.ref x), l1, l2, l3] st h = xf 93 6 [some (.ref x), l1, l2, l3] (.ref x :: st) h := xo_aload (k := 0) (by decide +kernel) rfl
set_option maxRecDepth 20000 in
theorem u_L_isName_6 (L : xL) (st : List Value) (h : xH) : xf 93 6 L st h = xf 93 7 L (.int 0 :: st) h := xo_iconst (k := 0) (by decide +kernel) (by decide)
set_option maxRecDepth 20000 in
theorem u_L_isName_7 (L : xL) (v0 : Int32) (b : Nat) (st : List Value) (h : xH) (hb : (xob h b).1 = 7) (hl : st.length ≤ 4) : xf 93 7 L (.int v0 :: .ref b :: st) h = xgo 93 7 10 L st (xev 80 [.ref b, .int v0] h) := xo_callV (as := [.int v0]) (by decide +kernel) rfl ⟨(by decide +kernel : xna 80 = 1), Nat.le_of_ble_eq_true rfl, rfl, by decide⟩ hb hl
set_option maxRecDepth 20000 in
theorem u_L_isName_10 (L : xL) (a b : Int32) (st : List Value) (h : xH) : xf 93 10 L (.int b :: .int a :: st) h = if a < b then xf 93 13 L st h else xf 93 42 L st h := xo_icmp_ge (t := 42) (by decide +kernel) rfl
set_option maxRecDepth 20000 in
theorem u_L_isName_13 (l0 l1 l3 : Option Value) (x : Int32) (st : List Value) (h : xH) : xf 93 13 [l0, l1, some (.int x), l3] st h = xf 93 14 [l0, l1, some (.int x), l3] (.int x :: st) h := xo_iload (k := 2) (by decide +kernel) rfl
set_option maxRecDepth 20000 in
theorem u_L_isName_14 (L : xL) (a : Int32) (st : List Value) (h : xH) : xf 93 14 L (.int a :: st) h = if a = 0 then xf 93 17 L st h else xf 93 30 L st h := xo_if_ne (t := 30) (by decide +kernel) rfl
set_option maxRecDepth 20000 in
theorem u_L_isName_17 (l1 l2 l3 : Option Value) (x : Nat) (st : List Value) (h : xH) : xf 93 17 [some (.ref x), l1, l2, l3] st h = xf 93 18 [some (.ref x), l1, l2, l3] (.ref x :: st) h := xo_aload (k := 0) (by decide +kernel) rfl
set_option maxRecDepth 20000 in
theorem u_L_isName_18 (l1 l2 l3 : Option Value) (x : Nat) (st : List Value) (h : xH) : xf 93 18 [some (.ref x), l1, l2, l3] st h = xf 93 19 [some (.ref x), l1, l2, l3] (.ref x :: st) h := xo_aload (k := 0) (by decide +kernel) rfl
set_option maxRecDepth 20000 in
theorem u_L_isName_19 (l0 l1 l2 : Option Value) (x : Int32) (st : List Value) (h : xH) : xf 93 19 [l0, l1, l2, some (.int x)] st h = xf 93 20 [l0, l1, l2, some (.int x)] (.int x :: st) h := xo_iload (k := 3) (by decide +kernel) rfl
set_option maxRecDepth 20000 in
theorem u_L_isName_20 (L : xL) (v0 : Int32) (b : Nat) (st : List Value) (h : xH) (hb : (xob h b).1 = 7) (hl : st.length ≤ 4) : xf 93 20 L (.int v0 :: .ref b :: st) h = xgo 93 20 23 L st (xev 75 [.ref b, .int v0] h) := xo_callV (as := [.int v0]) (by decide +kernel) rfl ⟨(by decide +kernel : xna 75 = 1), Nat.le_of_ble_eq_true rfl, rfl, by decide⟩ hb hl
set_option maxRecDepth 20000 in
theorem u_L_isName_23 (l0 l2 l3 : Option Value) (x : Int32) (st : List Value) (h : xH) : xf 93 23 [l0, some (.int x), l2, l3] st h = xf 93 24 [l0, some (.int x), l2, l3] (.int x :: st) h := xo_iload (k := 1) (by decide +kernel) rfl
set_option maxRecDepth 20000 in
theorem u_L_isName_24 (L : xL) (v0 : Nat) (v1 : Int32) (v2 : Int32) (st : List Value) (h : xH) (hl : st.length ≤ 4) : xf 93 24 L (.int v2 :: .int v1 :: .ref v0 :: st) h = xgo 93 24 27 L st (xev 94 [.ref v0, .int v1, .int v2] h) := xo_callS (as := [.ref v0, .int v1, .int v2]) (by decide +kernel) rfl ⟨(by decide +kernel : xna 94 = 3), Nat.le_of_ble_eq_true rfl, by decide⟩ hl
set_option maxRecDepth 20000 in
theorem u_L_isName_27 (L : xL) (a : Int32) (st : List Value) (h : xH) : xf 93 27 L (.int a :: st) h = if a = 0 then xf 93 34 L st h else xf 93 30 L st h := xo_if_eq (t := 34) (by decide +kernel) rfl
set_option maxRecDepth 20000 in
theorem u_L_isName_30 (L : xL) (st : List Value) (h : xH) : xf 93 30 L st h = xf 93 31 L (.int 1 :: st) h := xo_iconst (k := 1) (by decide +kernel) (by decide)
set_option maxRecDepth 20000 in
theorem u_L_isName_31 (L : xL) (st : List Value) (h : xH) : xf 93 31 L st h = xf 93 35 L st h := xo_goto (n := 34) (t := 35) (by decide +kernel) rfl
set_option maxRecDepth 20000 in
theorem u_L_isName_34 (L : xL) (st : List Value) (h : xH) : xf 93 34 L st h = xf 93 35 L (.int 0 :: st) h := xo_iconst (k := 0) (by decide +kernel) (by decide)
set_option maxRecDepth 20000 in
theorem u_L_isName_35 (l0 l1 l2 l3 : Option Value) (x : Int32) (st : List Value) (h : xH) : xf 93 35 [l0, l1, l2, l3] (.int x :: st) h = xf 93 36 [l0, xcat l1, some (.int x), l3] st h := xo_istore (k := 2) (by decide +kernel) (Nat.le_of_ble_eq_true rfl) rfl
set_option maxRecDepth 20000 in
theorem u_L_isName_36 (l0 l1 l2 : Option Value) (x : Int32) (st : List Value) (h : xH) : xf 93 36 [l0, l1, l2, some (.int x)] st h = xf 93 39 [l0, l1, xcat l2, some (.int (x + 1))] st h := xo_iinc (k := 3) (c := 1) (by decide +kernel) rfl (by decide) rfl
set_option maxRecDepth 20000 in
theorem u_L_isName_39 (L : xL) (st : List Value) (h : xH) : xf 93 39 L st h = xf 93 4 L st h := xo_goto (n := 42) (t := 4) (by decide +kernel) rfl
set_option maxRecDepth 20000 in
theorem u_L_isName_42 (l0 l1 l3 : Option Value) (x : Int32) (st : List Value) (h : xH) : xf 93 42 [l0, l1, some (.int x), l3] st h = xf 93 43 [l0, l1, some (.int x), l3] (.int x :: st) h := xo_iload (k := 2) (by decide +kernel) rfl
set_option maxRecDepth 20000 in
theorem u_L_isName_43 (L : xL) (x : Int32) (h : xH) (hv : x = 0 ∨ x = 1) : xf 93 43 L [.int x] h = some (.inl (some (.int x)), h) := xo_ireturn (n := 44) (by decide +kernel) (by rcases hv with rfl | rfl <;> rfl)
set_option maxRecDepth 20000 in
theorem e_L_isName (v0 : Nat) (v1 : Int32) (h : xH) : xev 93 [.ref v0, .int v1] h = xf 93 0 [some (.ref v0), some (.int v1), none, none] [] h := rfl
set_option maxRecDepth 20000 in
theorem u_L_reaches_0 (L : xL) (st : List Value) (h : xH) : xf 94 0 L st h = xf 94 1 L (.int 1 :: st) h := xo_iconst (k := 1) (by decide +kernel) (by decide)
set_option maxRecDepth 20000 in
theorem u_L_reaches_1 (l0 l2 l3 l4 l5 : Option Value) (x : Int32) (st : List Value) (h : xH) : xf 94 1 [l0, some (.int x), l2, l3, l4, l5] st h = xf 94 2 [l0, some (.int x), l2, l3, l4, l5] (.int x :: st) h := xo_iload (k := 1) (by decide +kernel) rfl
set_option maxRecDepth 20000 in
theorem u_L_reaches_2 (L : xL) (a b : Int32) (st : List Value) (h : xH) : xf 94 2 L (.int b :: .int a :: st) h = xf 94 3 L (.int (a <<< (b &&& 31)) :: st) h := xo_ishl (by decide +kernel)
set_option maxRecDepth 20000 in
theorem u_L_reaches_3 (l0 l1 l2 l3 l4 l5 : Option Value) (x : Int32) (st : List Value) (h : xH) : xf 94 3 [l0, l1, l2, l3, l4, l5] (.int x :: st) h = xf 94 4 [l0, l1, xcat l2, some (.int x), l4, l5] st h := xo_istore (k := 3) (by decide +kernel) (Nat.le_of_ble_eq_true rfl) rfl
set_option maxRecDepth 20000 in
theorem u_L_reaches_4 (L : xL) (st : List Value) (h : xH) : xf 94 4 L st h = xf 94 5 L (.int 0 :: st) h := xo_iconst (k := 0) (by decide +kernel) (by decide)
set_option maxRecDepth 20000 in
theorem u_L_reaches_5 (l0 l1 l2 l3 l4 l5 : Option Value) (x : Int32) (st : List Value) (h : xH) : xf 94 5 [l0, l1, l2, l3, l4, l5] (.int x :: st) h = xf 94 7 [l0, l1, l2, xcat l3, some (.int x), l5] st h := xo_istore (k := 4) (by decide +kernel) (Nat.le_of_ble_eq_true rfl) rfl
set_option maxRecDepth 20000 in
theorem u_L_reaches_7 (l0 l1 l2 l4 l5 : Option Value) (x : Int32) (st : List Value) (h : xH) : xf 94 7 [l0, l1, l2, some (.int x), l4, l5] st h = xf 94 8 [l0, l1, l2, some (.int x), l4, l5] (.int x :: st) h := xo_iload (k := 3) (by decide +kernel) rfl
set_option maxRecDepth 20000 in
theorem u_L_reaches_8 (l0 l1 l2 l3 l5 : Option Value) (x : Int32) (st : List Value) (h : xH) : xf 94 8 [l0, l1, l2, l3, some (.int x), l5] st h = xf 94 10 [l0, l1, l2, l3, some (.int x), l5] (.int x :: st) h := xo_iload (k := 4) (by decide +kernel) rfl
set_option maxRecDepth 20000 in
theorem u_L_reaches_10 (L : xL) (a b : Int32) (st : List Value) (h : xH) : xf 94 10 L (.int b :: .int a :: st) h = if a = b then xf 94 91 L st h else xf 94 13 L st h := xo_icmp_eq (t := 91) (by decide +kernel) rfl
set_option maxRecDepth 20000 in
theorem u_L_reaches_13 (L : xL) (st : List Value) (h : xH) : xf 94 13 L st h = xf 94 15 L (.int 8 :: st) h := xo_iconst (k := 8) (by decide +kernel) (by decide)
set_option maxRecDepth 20000 in
theorem u_L_reaches_15 (l0 l1 l2 l3 l4 l5 : Option Value) (x : Int32) (st : List Value) (h : xH) : xf 94 15 [l0, l1, l2, l3, l4, l5] (.int x :: st) h = xf 94 17 [l0, l1, l2, l3, xcat l4, some (.int x)] st h := xo_istore (k := 5) (by decide +kernel) (Nat.le_of_ble_eq_true rfl) rfl
set_option maxRecDepth 20000 in
theorem u_L_reaches_17 (l0 l1 l2 l3 l4 : Option Value) (x : Int32) (st : List Value) (h : xH) : xf 94 17 [l0, l1, l2, l3, l4, some (.int x)] st h = xf 94 19 [l0, l1, l2, l3, l4, some (.int x)] (.int x :: st) h := xo_iload (k := 5) (by decide +kernel) rfl
set_option maxRecDepth 20000 in
theorem u_L_reaches_19 (L : xL) (st : List Value) (h : xH) : xf 94 19 L st h = xf 94 21 L (.int 24 :: st) h := xo_iconst (k := 24) (by decide +kernel) (by decide)
set_option maxRecDepth 20000 in
theorem u_L_reaches_21 (L : xL) (a b : Int32) (st : List Value) (h : xH) : xf 94 21 L (.int b :: .int a :: st) h = if a < b then xf 94 24 L st h else xf 94 44 L st h := xo_icmp_ge (t := 44) (by decide +kernel) rfl
set_option maxRecDepth 20000 in
theorem u_L_reaches_24 (l0 l1 l2 l4 l5 : Option Value) (x : Int32) (st : List Value) (h : xH) : xf 94 24 [l0, l1, l2, some (.int x), l4, l5] st h = xf 94 25 [l0, l1, l2, some (.int x), l4, l5] (.int x :: st) h := xo_iload (k := 3) (by decide +kernel) rfl
set_option maxRecDepth 20000 in
theorem u_L_reaches_25 (l0 l1 l2 l3 l5 : Option Value) (x : Int32) (st : List Value) (h : xH) : xf 94 25 [l0, l1, l2, l3, some (.int x), l5] st h = xf 94 27 [l0, l1, l2, l3, some (.int x), l5] (.int x :: st) h := xo_iload (k := 4) (by decide +kernel) rfl
set_option maxRecDepth 20000 in
theorem u_L_reaches_27 (L : xL) (st : List Value) (h : xH) : xf 94 27 L st h = xf 94 28 L (.int (-1) :: st) h := xo_iconst (k := (-1)) (by decide +kernel) (by decide)
set_option maxRecDepth 20000 in
theorem u_L_reaches_28 (L : xL) (a b : Int32) (st : List Value) (h : xH) : xf 94 28 L (.int b :: .int a :: st) h = xf 94 29 L (.int (a ^^^ b) :: st) h := xo_ixor (by decide +kernel)
set_option maxRecDepth 20000 in
theorem u_L_reaches_29 (L : xL) (a b : Int32) (st : List Value) (h : xH) : xf 94 29 L (.int b :: .int a :: st) h = xf 94 30 L (.int (a &&& b) :: st) h := xo_iand (by decide +kernel)
set_option maxRecDepth 20000 in
theorem u_L_reaches_30 (l0 l1 l2 l3 l4 : Option Value) (x : Int32) (st : List Value) (h : xH) : xf 94 30 [l0, l1, l2, l3, l4, some (.int x)] st h = xf 94 32 [l0, l1, l2, l3, l4, some (.int x)] (.int x :: st) h := xo_iload (k := 5) (by decide +kernel) rfl
set_option maxRecDepth 20000 in
theorem u_L_reaches_32 (L : xL) (a b : Int32) (st : List Value) (h : xH) : xf 94 32 L (.int b :: .int a :: st) h = xf 94 33 L (.int (a >>> (b &&& 31)) :: st) h := xo_ishr (by decide +kernel)
set_option maxRecDepth 20000 in
theorem u_L_reaches_33 (L : xL) (st : List Value) (h : xH) : xf 94 33 L st h = xf 94 34 L (.int 1 :: st) h := xo_iconst (k := 1) (by decide +kernel) (by decide)
set_option maxRecDepth 20000 in
theorem u_L_reaches_34 (L : xL) (a b : Int32) (st : List Value) (h : xH) : xf 94 34 L (.int b :: .int a :: st) h = xf 94 35 L (.int (a &&& b) :: st) h := xo_iand (by decide +kernel)
set_option maxRecDepth 20000 in
theorem u_L_reaches_35 (L : xL) (a : Int32) (st : List Value) (h : xH) : xf 94 35 L (.int a :: st) h = if a = 0 then xf 94 38 L st h else xf 94 44 L st h := xo_if_ne (t := 44) (by decide +kernel) rfl
set_option maxRecDepth 20000 in
theorem u_L_reaches_38 (l0 l1 l2 l3 l4 : Option Value) (x : Int32) (st : List Value) (h : xH) : xf 94 38 [l0, l1, l2, l3, l4, some (.int x)] st h = xf 94 41 [l0, l1, l2, l3, xcat l4, some (.int (x + 1))] st h := xo_iinc (k := 5) (c := 1) (by decide +kernel) rfl (by decide) rfl
set_option maxRecDepth 20000 in
theorem u_L_reaches_41 (L : xL) (st : List Value) (h : xH) : xf 94 41 L st h = xf 94 17 L st h := xo_goto (n := 44) (t := 17) (by decide +kernel) rfl
set_option maxRecDepth 20000 in
theorem u_L_reaches_44 (l0 l1 l2 l3 l4 : Option Value) (x : Int32) (st : List Value) (h : xH) : xf 94 44 [l0, l1, l2, l3, l4, some (.int x)] st h = xf 94 46 [l0, l1, l2, l3, l4, some (.int x)] (.int x :: st) h := xo_iload (k := 5) (by decide +kernel) rfl
set_option maxRecDepth 20000 in
theorem u_L_reaches_46 (L : xL) (st : List Value) (h : xH) : xf 94 46 L st h = xf 94 48 L (.int 24 :: st) h := xo_iconst (k := 24) (by decide +kernel) (by decide)
set_option maxRecDepth 20000 in
theorem u_L_reaches_48 (L : xL) (a b : Int32) (st : List Value) (h : xH) : xf 94 48 L (.int b :: .int a :: st) h = if a = b then xf 94 51 L st h else xf 94 57 L st h := xo_icmp_ne (t := 57) (by decide +kernel) rfl
set_option maxRecDepth 20000 in
theorem u_L_reaches_51 (l0 l1 l2 l4 l5 : Option Value) (x : Int32) (st : List Value) (h : xH) : xf 94 51 [l0, l1, l2, some (.int x), l4, l5] st h = xf 94 52 [l0, l1, l2, some (.int x), l4, l5] (.int x :: st) h := xo_iload (k := 3) (by decide +kernel) rfl
set_option maxRecDepth 20000 in
theorem u_L_reaches_52 (l0 l1 l2 l3 l4 l5 : Option Value) (x : Int32) (st : List Value) (h : xH) : xf 94 52 [l0, l1, l2, l3, l4, l5] (.int x :: st) h = xf 94 54 [l0, l1, l2, xcat l3, some (.int x), l5] st h := xo_istore (k := 4) (by decide +kernel) (Nat.le_of_ble_eq_true rfl) rfl
set_option maxRecDepth 20000 in
theorem u_L_reaches_54 (L : xL) (st : List Value) (h : xH) : xf 94 54 L st h = xf 94 88 L st h := xo_goto (n := 57) (t := 88) (by decide +kernel) rfl
set_option maxRecDepth 20000 in
theorem u_L_reaches_57 (l0 l1 l2 l3 l5 : Option Value) (x : Int32) (st : List Value) (h : xH) : xf 94 57 [l0, l1, l2, l3, some (.int x), l5] st h = xf 94 59 [l0, l1, l2, l3, some (.int x), l5] (.int x :: st) h := xo_iload (k := 4) (by decide +kernel) rfl
set_option maxRecDepth 20000 in
theorem u_L_reaches_59 (L : xL) (st : List Value) (h : xH) : xf 94 59 L st h = xf 94 60 L (.int 1 :: st) h := xo_iconst (k := 1) (by decide +kernel) (by decide)
set_option maxRecDepth 20000 in
theorem u_L_reaches_60 (l0 l1 l2 l3 l4 : Option Value) (x : Int32) (st : List Value) (h : xH) : xf 94 60 [l0, l1, l2, l3, l4, some (.int x)] st h = xf 94 62 [l0, l1, l2, l3, l4, some (.int x)] (.int x :: st) h := xo_iload (k := 5) (by decide +kernel) rfl
set_option maxRecDepth 20000 in
theorem u_L_reaches_62 (L : xL) (a b : Int32) (st : List Value) (h : xH) : xf 94 62 L (.int b :: .int a :: st) h = xf 94 63 L (.int (a <<< (b &&& 31)) :: st) h := xo_ishl (by decide +kernel)
set_option maxRecDepth 20000 in
theorem u_L_reaches_63 (L : xL) (a b : Int32) (st : List Value) (h : xH) : xf 94 63 L (.int b :: .int a :: st) h = xf 94 64 L (.int (a ||| b) :: st) h := xo_ior (by decide +kernel)
set_option maxRecDepth 20000 in
theorem u_L_reaches_64 (l0 l1 l2 l3 l4 l5 : Option Value) (x : Int32) (st : List Value) (h : xH) : xf 94 64 [l0, l1, l2, l3, l4, l5] (.int x :: st) h = xf 94 66 [l0, l1, l2, xcat l3, some (.int x), l5] st h := xo_istore (k := 4) (by decide +kernel) (Nat.le_of_ble_eq_true rfl) rfl
set_option maxRecDepth 20000 in
theorem u_L_reaches_66 (l0 l1 l2 l4 l5 : Option Value) (x : Int32) (st : List Value) (h : xH) : xf 94 66 [l0, l1, l2, some (.int x), l4, l5] st h = xf 94 67 [l0, l1, l2, some (.int x), l4, l5] (.int x :: st) h := xo_iload (k := 3) (by decide +kernel) rfl
set_option maxRecDepth 20000 in
theorem u_L_reaches_67 (L : xL) (st : List Value) (h : xH) : xf 94 67 L st h = xf 94 68 L (.int 1 :: st) h := xo_iconst (k := 1) (by decide +kernel) (by decide)
set_option maxRecDepth 20000 in
theorem u_L_reaches_68 (l1 l2 l3 l4 l5 : Option Value) (x : Nat) (st : List Value) (h : xH) : xf 94 68 [some (.ref x), l1, l2, l3, l4, l5] st h = xf 94 69 [some (.ref x), l1, l2, l3, l4, l5] (.ref x :: st) h := xo_aload (k := 0) (by decide +kernel) rfl
set_option maxRecDepth 20000 in
theorem u_L_reaches_69 (l0 l1 l2 l3 l4 : Option Value) (x : Int32) (st : List Value) (h : xH) : xf 94 69 [l0, l1, l2, l3, l4, some (.int x)] st h = xf 94 71 [l0, l1, l2, l3, l4, some (.int x)] (.int x :: st) h := xo_iload (k := 5) (by decide +kernel) rfl
set_option maxRecDepth 20000 in
theorem u_L_reaches_71 (L : xL) (st : List Value) (h : xH) : xf 94 71 L st h = xf 94 72 L (.int 0 :: st) h := xo_iconst (k := 0) (by decide +kernel) (by decide)
set_option maxRecDepth 20000 in
theorem u_L_reaches_72 (L : xL) (v0 : Int32) (v1 : Int32) (b : Nat) (st : List Value) (h : xH) (hb : (xob h b).1 = 7) (hl : st.length ≤ 4) : xf 94 72 L (.int v1 :: .int v0 :: .ref b :: st) h = xgo 94 72 75 L st (xev 77 [.ref b, .int v0, .int v1] h) := xo_callV (as := [.int v0, .int v1]) (by decide +kernel) rfl ⟨(by decide +kernel : xna 77 = 2), Nat.le_of_ble_eq_true rfl, rfl, by decide⟩ hb hl
set_option maxRecDepth 20000 in
theorem u_L_reaches_75 (L : xL) (a b : Int32) (st : List Value) (h : xH) : xf 94 75 L (.int b :: .int a :: st) h = xf 94 76 L (.int (a <<< (b &&& 31)) :: st) h := xo_ishl (by decide +kernel)
set_option maxRecDepth 20000 in
theorem u_L_reaches_76 (L : xL) (st : List Value) (h : xH) : xf 94 76 L st h = xf 94 77 L (.int 1 :: st) h := xo_iconst (k := 1) (by decide +kernel) (by decide)
set_option maxRecDepth 20000 in
theorem u_L_reaches_77 (l1 l2 l3 l4 l5 : Option Value) (x : Nat) (st : List Value) (h : xH) : xf 94 77 [some (.ref x), l1, l2, l3, l4, l5] st h = xf 94 78 [some (.ref x), l1, l2, l3, l4, l5] (.ref x :: st) h := xo_aload (k := 0) (by decide +kernel) rfl
set_option maxRecDepth 20000 in
theorem u_L_reaches_78 (l0 l1 l2 l3 l4 : Option Value) (x : Int32) (st : List Value) (h : xH) : xf 94 78 [l0, l1, l2, l3, l4, some (.int x)] st h = xf 94 80 [l0, l1, l2, l3, l4, some (.int x)] (.int x :: st) h := xo_iload (k := 5) (by decide +kernel) rfl
set_option maxRecDepth 20000 in
theorem u_L_reaches_80 (L : xL) (st : List Value) (h : xH) : xf 94 80 L st h = xf 94 81 L (.int 1 :: st) h := xo_iconst (k := 1) (by decide +kernel) (by decide)
set_option maxRecDepth 20000 in
theorem u_L_reaches_81 (L : xL) (v0 : Int32) (v1 : Int32) (b : Nat) (st : List Value) (h : xH) (hb : (xob h b).1 = 7) (hl : st.length ≤ 4) : xf 94 81 L (.int v1 :: .int v0 :: .ref b :: st) h = xgo 94 81 84 L st (xev 77 [.ref b, .int v0, .int v1] h) := xo_callV (as := [.int v0, .int v1]) (by decide +kernel) rfl ⟨(by decide +kernel : xna 77 = 2), Nat.le_of_ble_eq_true rfl, rfl, by decide⟩ hb hl
set_option maxRecDepth 20000 in
theorem u_L_reaches_84 (L : xL) (a b : Int32) (st : List Value) (h : xH) : xf 94 84 L (.int b :: .int a :: st) h = xf 94 85 L (.int (a <<< (b &&& 31)) :: st) h := xo_ishl (by decide +kernel)
set_option maxRecDepth 20000 in
theorem u_L_reaches_85 (L : xL) (a b : Int32) (st : List Value) (h : xH) : xf 94 85 L (.int b :: .int a :: st) h = xf 94 86 L (.int (a ||| b) :: st) h := xo_ior (by decide +kernel)
set_option maxRecDepth 20000 in
theorem u_L_reaches_86 (L : xL) (a b : Int32) (st : List Value) (h : xH) : xf 94 86 L (.int b :: .int a :: st) h = xf 94 87 L (.int (a ||| b) :: st) h := xo_ior (by decide +kernel)
set_option maxRecDepth 20000 in
theorem u_L_reaches_87 (l0 l1 l2 l3 l4 l5 : Option Value) (x : Int32) (st : List Value) (h : xH) : xf 94 87 [l0, l1, l2, l3, l4, l5] (.int x :: st) h = xf 94 88 [l0, l1, xcat l2, some (.int x), l4, l5] st h := xo_istore (k := 3) (by decide +kernel) (Nat.le_of_ble_eq_true rfl) rfl
set_option maxRecDepth 20000 in
theorem u_L_reaches_88 (L : xL) (st : List Value) (h : xH) : xf 94 88 L st h = xf 94 7 L st h := xo_goto (n := 91) (t := 7) (by decide +kernel) rfl
set_option maxRecDepth 20000 in
theorem u_L_reaches_91 (l0 l1 l2 l4 l5 : Option Value) (x : Int32) (st : List Value) (h : xH) : xf 94 91 [l0, l1, l2, some (.int x), l4, l5] st h = xf 94 92 [l0, l1, l2, some (.int x), l4, l5] (.int x :: st) h := xo_iload (k := 3) (by decide +kernel) rfl
set_option maxRecDepth 20000 in
theorem u_L_reaches_92 (l0 l1 l3 l4 l5 : Option Value) (x : Int32) (st : List Value) (h : xH) : xf 94 92 [l0, l1, some (.int x), l3, l4, l5] st h = xf 94 93 [l0, l1, some (.int x), l3, l4, l5] (.int x :: st) h := xo_iload (k := 2) (by decide +kernel) rfl
set_option maxRecDepth 20000 in
theorem u_L_reaches_93 (L : xL) (a b : Int32) (st : List Value) (h : xH) : xf 94 93 L (.int b :: .int a :: st) h = xf 94 94 L (.int (a >>> (b &&& 31)) :: st) h := xo_ishr (by decide +kernel)
set_option maxRecDepth 20000 in
theorem u_L_reaches_94 (L : xL) (st : List Value) (h : xH) : xf 94 94 L st h = xf 94 95 L (.int 1 :: st) h := xo_iconst (k := 1) (by decide +kernel) (by decide)
set_option maxRecDepth 20000 in
theorem u_L_reaches_95 (L : xL) (a b : Int32) (st : List Value) (h : xH) : xf 94 95 L (.int b :: .int a :: st) h = xf 94 96 L (.int (a &&& b) :: st) h := xo_iand (by decide +kernel)
set_option maxRecDepth 20000 in
theorem u_L_reaches_96 (L : xL) (st : List Value) (h : xH) : xf 94 96 L st h = xf 94 97 L (.int 1 :: st) h := xo_iconst (k := 1) (by decide +kernel) (by decide)
set_option maxRecDepth 20000 in
theorem u_L_reaches_97 (L : xL) (a b : Int32) (st : List Value) (h : xH) : xf 94 97 L (.int b :: .int a :: st) h = if a = b then xf 94 100 L st h else xf 94 104 L st h := xo_icmp_ne (t := 104) (by decide +kernel) rfl
set_option maxRecDepth 20000 in
theorem u_L_reaches_100 (L : xL) (st : List Value) (h : xH) : xf 94 100 L st h = xf 94 101 L (.int 1 :: st) h := xo_iconst (k := 1) (by decide +kernel) (by decide)
set_option maxRecDepth 20000 in
theorem u_L_reaches_101 (L : xL) (st : List Value) (h : xH) : xf 94 101 L st h = xf 94 105 L st h := xo_goto (n := 104) (t := 105) (by decide +kernel) rfl
set_option maxRecDepth 20000 in
theorem u_L_reaches_104 (L : xL) (st : List Value) (h : xH) : xf 94 104 L st h = xf 94 105 L (.int 0 :: st) h := xo_iconst (k := 0) (by decide +kernel) (by decide)
set_option maxRecDepth 20000 in
theorem u_L_reaches_105 (L : xL) (x : Int32) (h : xH) (hv : x = 0 ∨ x = 1) : xf 94 105 L [.int x] h = some (.inl (some (.int x)), h) := xo_ireturn (n := 106) (by decide +kernel) (by rcases hv with rfl | rfl <;> rfl)
set_option maxRecDepth 20000 in
theorem e_L_reaches (v0 : Nat) (v1 : Int32) (v2 : Int32) (h : xH) : xev 94 [.ref v0, .int v1, .int v2] h = xf 94 0 [some (.ref v0), some (.int v1), some (.int v2), none, none, none] [] h := rfl
set_option maxRecDepth 20000 in
theorem u_L_grow_0 (l1 l2 l3 l4 : Option Value) (x : Nat) (st : List Value) (h : xH) : xf 95 0 [some (.ref x), l1, l2, l3, l4] st h = xf 95 1 [some (.ref x), l1, l2, l3, l4] (.ref x :: st) h := xo_aload (k := 0) (by decide +kernel) rfl
set_option maxRecDepth 20000 in
theorem u_L_grow_1 (L : xL) (b : Nat) (st : List Value) (h : xH) (hb : (xob h b).1 = 7) (hl : st.length ≤ 4) : xf 95 1 L (.ref b :: st) h = xgo 95 1 4 L st (xev 73 [.ref b] h) := xo_callV (as := []) (by decide +kernel) rfl ⟨(by decide +kernel : xna 73 = 0), Nat.le_of_ble_eq_true rfl, rfl, by decide⟩ hb hl
set_option maxRecDepth 20000 in
theorem u_L_grow_4 (l0 l1 l2 l3 l4 : Option Value) (x : Int32) (st : List Value) (h : xH) : xf 95 4 [l0, l1, l2, l3, l4] (.int x :: st) h = xf 95 5 [l0, l1, xcat l2, some (.int x), l4] st h := xo_istore (k := 3) (by decide +kernel) (Nat.le_of_ble_eq_true rfl) rfl
set_option maxRecDepth 20000 in
theorem u_L_grow_5 (L : xL) (st : List Value) (h : xH) : xf 95 5 L st h = xf 95 6 L (.int 0 :: st) h := xo_iconst (k := 0) (by decide +kernel) (by decide)
set_option maxRecDepth 20000 in
theorem u_L_grow_6 (l0 l1 l2 l3 l4 : Option Value) (x : Int32) (st : List Value) (h : xH) : xf 95 6 [l0, l1, l2, l3, l4] (.int x :: st) h = xf 95 8 [l0, l1, l2, xcat l3, some (.int x)] st h := xo_istore (k := 4) (by decide +kernel) (Nat.le_of_ble_eq_true rfl) rfl
set_option maxRecDepth 20000 in
theorem u_L_grow_8 (l0 l1 l2 l3 : Option Value) (x : Int32) (st : List Value) (h : xH) : xf 95 8 [l0, l1, l2, l3, some (.int x)] st h = xf 95 10 [l0, l1, l2, l3, some (.int x)] (.int x :: st) h := xo_iload (k := 4) (by decide +kernel) rfl
set_option maxRecDepth 20000 in
theorem u_L_grow_10 (l0 l1 l3 l4 : Option Value) (x : Int32) (st : List Value) (h : xH) : xf 95 10 [l0, l1, some (.int x), l3, l4] st h = xf 95 11 [l0, l1, some (.int x), l3, l4] (.int x :: st) h := xo_iload (k := 2) (by decide +kernel) rfl
set_option maxRecDepth 20000 in
theorem u_L_grow_11 (L : xL) (a b : Int32) (st : List Value) (h : xH) : xf 95 11 L (.int b :: .int a :: st) h = if a < b then xf 95 14 L st h else xf 95 38 L st h := xo_icmp_ge (t := 38) (by decide +kernel) rfl
set_option maxRecDepth 20000 in
theorem u_L_grow_14 (l1 l2 l3 l4 : Option Value) (x : Nat) (st : List Value) (h : xH) : xf 95 14 [some (.ref x), l1, l2, l3, l4] st h = xf 95 15 [some (.ref x), l1, l2, l3, l4] (.ref x :: st) h := xo_aload (k := 0) (by decide +kernel) rfl
set_option maxRecDepth 20000 in
theorem u_L_grow_15 (L : xL) (st : List Value) (h : xH) : xf 95 15 L st h = xf 95 17 L (.int 97 :: st) h := xo_iconst (k := 97) (by decide +kernel) (by decide)
set_option maxRecDepth 20000 in
theorem u_L_grow_17 (l0 l2 l3 l4 : Option Value) (x : Int32) (st : List Value) (h : xH) : xf 95 17 [l0, some (.int x), l2, l3, l4] st h = xf 95 18 [l0, some (.int x), l2, l3, l4] (.int x :: st) h := xo_iload (k := 1) (by decide +kernel) rfl
set_option maxRecDepth 20000 in
theorem u_L_grow_18 (L : xL) (st : List Value) (h : xH) : xf 95 18 L st h = xf 95 19 L (.int 2 :: st) h := xo_iconst (k := 2) (by decide +kernel) (by decide)
set_option maxRecDepth 20000 in
theorem u_L_grow_19 (l0 l1 l2 l3 : Option Value) (x : Int32) (st : List Value) (h : xH) : xf 95 19 [l0, l1, l2, l3, some (.int x)] st h = xf 95 21 [l0, l1, l2, l3, some (.int x)] (.int x :: st) h := xo_iload (k := 4) (by decide +kernel) rfl
set_option maxRecDepth 20000 in
theorem u_L_grow_21 (L : xL) (a b : Int32) (st : List Value) (h : xH) : xf 95 21 L (.int b :: .int a :: st) h = xf 95 22 L (.int (a * b) :: st) h := xo_imul (by decide +kernel)
set_option maxRecDepth 20000 in
theorem u_L_grow_22 (L : xL) (a b : Int32) (st : List Value) (h : xH) : xf 95 22 L (.int b :: .int a :: st) h = xf 95 23 L (.int (a >>> (b &&& 31)) :: st) h := xo_ishr (by decide +kernel)
set_option maxRecDepth 20000 in
theorem u_L_grow_23 (L : xL) (st : List Value) (h : xH) : xf 95 23 L st h = xf 95 24 L (.int 4 :: st) h := xo_iconst (k := 4) (by decide +kernel) (by decide)
set_option maxRecDepth 20000 in
theorem u_L_grow_24 (L : xL) (v0 : Int32) (v1 : Int32) (st : List Value) (h : xH) (hl : st.length ≤ 4) : xf 95 24 L (.int v1 :: .int v0 :: st) h = xgo 95 24 27 L st (xev 92 [.int v0, .int v1] h) := xo_callS (as := [.int v0, .int v1]) (by decide +kernel) rfl ⟨(by decide +kernel : xna 92 = 2), Nat.le_of_ble_eq_true rfl, by decide⟩ hl
set_option maxRecDepth 20000 in
theorem u_L_grow_27 (L : xL) (a b : Int32) (st : List Value) (h : xH) : xf 95 27 L (.int b :: .int a :: st) h = xf 95 28 L (.int (a + b) :: st) h := xo_iadd (by decide +kernel)
set_option maxRecDepth 20000 in
theorem u_L_grow_28 (L : xL) (v0 : Int32) (b : Nat) (st : List Value) (h : xH) (hb : (xob h b).1 = 7) (hl : st.length ≤ 4) : xf 95 28 L (.int v0 :: .ref b :: st) h = xgo 95 28 31 L st (xev 72 [.ref b, .int v0] h) := xo_callV (as := [.int v0]) (by decide +kernel) rfl ⟨(by decide +kernel : xna 72 = 1), Nat.le_of_ble_eq_true rfl, rfl, by decide⟩ hb hl
set_option maxRecDepth 20000 in
theorem u_L_grow_31 (l0 l1 l2 l3 l4 : Option Value) (x : Int32) (st : List Value) (h : xH) : xf 95 31 [l0, l1, l2, l3, l4] (.int x :: st) h = xf 95 32 [l0, l1, xcat l2, some (.int x), l4] st h := xo_istore (k := 3) (by decide +kernel) (Nat.le_of_ble_eq_true rfl) rfl
set_option maxRecDepth 20000 in
theorem u_L_grow_32 (l0 l1 l2 l3 : Option Value) (x : Int32) (st : List Value) (h : xH) : xf 95 32 [l0, l1, l2, l3, some (.int x)] st h = xf 95 35 [l0, l1, l2, xcat l3, some (.int (x + 1))] st h := xo_iinc (k := 4) (c := 1) (by decide +kernel) rfl (by decide) rfl
set_option maxRecDepth 20000 in
theorem u_L_grow_35 (L : xL) (st : List Value) (h : xH) : xf 95 35 L st h = xf 95 8 L st h := xo_goto (n := 38) (t := 8) (by decide +kernel) rfl
set_option maxRecDepth 20000 in
theorem u_L_grow_38 (l1 l2 l3 l4 : Option Value) (x : Nat) (st : List Value) (h : xH) : xf 95 38 [some (.ref x), l1, l2, l3, l4] st h = xf 95 39 [some (.ref x), l1, l2, l3, l4] (.ref x :: st) h := xo_aload (k := 0) (by decide +kernel) rfl
set_option maxRecDepth 20000 in
theorem u_L_grow_39 (L : xL) (st : List Value) (h : xH) : xf 95 39 L st h = xf 95 40 L (.int 0 :: st) h := xo_iconst (k := 0) (by decide +kernel) (by decide)
set_option maxRecDepth 20000 in
theorem u_L_grow_40 (L : xL) (v0 : Int32) (b : Nat) (st : List Value) (h : xH) (hb : (xob h b).1 = 7) (hl : st.length ≤ 4) : xf 95 40 L (.int v0 :: .ref b :: st) h = xgo 95 40 43 L st (xev 80 [.ref b, .int v0] h) := xo_callV (as := [.int v0]) (by decide +kernel) rfl ⟨(by decide +kernel : xna 80 = 1), Nat.le_of_ble_eq_true rfl, rfl, by decide⟩ hb hl
set_option maxRecDepth 20000 in
theorem u_L_grow_43 (l0 l1 l3 l4 : Option Value) (x : Int32) (st : List Value) (h : xH) : xf 95 43 [l0, l1, some (.int x), l3, l4] st h = xf 95 44 [l0, l1, some (.int x), l3, l4] (.int x :: st) h := xo_iload (k := 2) (by decide +kernel) rfl
set_option maxRecDepth 20000 in
theorem u_L_grow_44 (L : xL) (a b : Int32) (st : List Value) (h : xH) : xf 95 44 L (.int b :: .int a :: st) h = xf 95 45 L (.int (a + b) :: st) h := xo_iadd (by decide +kernel)
set_option maxRecDepth 20000 in
theorem u_L_grow_45 (L : xL) (st : List Value) (h : xH) : xf 95 45 L st h = xf 95 47 L (.int 64 :: st) h := xo_iconst (k := 64) (by decide +kernel) (by decide)
set_option maxRecDepth 20000 in
theorem u_L_grow_47 (L : xL) (a b : Int32) (st : List Value) (h : xH) : xf 95 47 L (.int b :: .int a :: st) h = if b < a then xf 95 55 L st h else xf 95 50 L st h := xo_icmp_gt (t := 55) (by decide +kernel) rfl
set_option maxRecDepth 20000 in
theorem u_L_grow_50 (l1 l2 l3 l4 : Option Value) (x : Nat) (st : List Value) (h : xH) : xf 95 50 [some (.ref x), l1, l2, l3, l4] st h = xf 95 51 [some (.ref x), l1, l2, l3, l4] (.ref x :: st) h := xo_aload (k := 0) (by decide +kernel) rfl
set_option maxRecDepth 20000 in
theorem u_L_grow_51 (L : xL) (b : Nat) (st : List Value) (h : xH) (hb : (xob h b).1 = 7) (hl : st.length ≤ 4) : xf 95 51 L (.ref b :: st) h = xgo 95 51 54 L st (xev 63 [.ref b] h) := xo_callV (as := []) (by decide +kernel) rfl ⟨(by decide +kernel : xna 63 = 0), Nat.le_of_ble_eq_true rfl, rfl, by decide⟩ hb hl
set_option maxRecDepth 20000 in
theorem u_L_grow_54 (l0 l1 l2 l3 l4 : Option Value) (x : Int32) (st : List Value) (h : xH) : xf 95 54 [l0, l1, l2, l3, l4] (.int x :: st) h = xf 95 55 [l0, l1, xcat l2, some (.int x), l4] st h := xo_istore (k := 3) (by decide +kernel) (Nat.le_of_ble_eq_true rfl) rfl
set_option maxRecDepth 20000 in
theorem u_L_grow_55 (L : xL) (h : xH) : xf 95 55 L [] h = some (.inl none, h) := xo_return (n := 56) (by decide +kernel) rfl
set_option maxRecDepth 20000 in
theorem e_L_grow (v0 : Nat) (v1 : Int32) (v2 : Int32) (h : xH) : xev 95 [.ref v0, .int v1, .int v2] h = xf 95 0 [some (.ref v0), some (.int v1), some (.int v2), none, none] [] h := rfl
set_option maxRecDepth 20000 in
theorem u_L_does_0 (l1 l2 l3 l4 : Option Value) (x : Nat) (st : List Value) (h : xH) : xf 96 0 [some (.ref x), l1, l2, l3, l4] st h = xf 96 1 [some (.ref x), l1, l2, l3, l4] (.ref x :: st) h := xo_aload (k := 0) (by decide +kernel) rfl
set_option maxRecDepth 20000 in
theorem u_L_does_1 (L : xL) (st : List Value) (h : xH) : xf 96 1 L st h = xf 96 2 L (.int 0 :: st) h := xo_iconst (k := 0) (by decide +kernel) (by decide)
set_option maxRecDepth 20000 in
theorem u_L_does_2 (L : xL) (v0 : Int32) (b : Nat) (st : List Value) (h : xH) (hb : (xob h b).1 = 7) (hl : st.length ≤ 4) : xf 96 2 L (.int v0 :: .ref b :: st) h = xgo 96 2 5 L st (xev 80 [.ref b, .int v0] h) := xo_callV (as := [.int v0]) (by decide +kernel) rfl ⟨(by decide +kernel : xna 80 = 1), Nat.le_of_ble_eq_true rfl, rfl, by decide⟩ hb hl
set_option maxRecDepth 20000 in
theorem u_L_does_5 (l0 l1 l2 l3 l4 : Option Value) (x : Int32) (st : List Value) (h : xH) : xf 96 5 [l0, l1, l2, l3, l4] (.int x :: st) h = xf 96 6 [l0, xcat l1, some (.int x), l3, l4] st h := xo_istore (k := 2) (by decide +kernel) (Nat.le_of_ble_eq_true rfl) rfl
set_option maxRecDepth 20000 in
theorem u_L_does_6 (L : xL) (st : List Value) (h : xH) : xf 96 6 L st h = xf 96 7 L (.int 0 :: st) h := xo_iconst (k := 0) (by decide +kernel) (by decide)
set_option maxRecDepth 20000 in
theorem u_L_does_7 (l0 l1 l2 l3 l4 : Option Value) (x : Int32) (st : List Value) (h : xH) : xf 96 7 [l0, l1, l2, l3, l4] (.int x :: st) h = xf 96 8 [l0, l1, xcat l2, some (.int x), l4] st h := xo_istore (k := 3) (by decide +kernel) (Nat.le_of_ble_eq_true rfl) rfl
set_option maxRecDepth 20000 in
theorem u_L_does_8 (l0 l2 l3 l4 : Option Value) (x : Int32) (st : List Value) (h : xH) : xf 96 8 [l0, some (.int x), l2, l3, l4] st h = xf 96 9 [l0, some (.int x), l2, l3, l4] (.int x :: st) h := xo_iload (k := 1) (by decide +kernel) rfl
set_option maxRecDepth 20000 in
theorem u_L_does_9 (L : xL) (st : List Value) (h : xH) : xf 96 9 L st h = xf 96 11 L (.int 15 :: st) h := xo_iconst (k := 15) (by decide +kernel) (by decide)
set_option maxRecDepth 20000 in
theorem u_L_does_11 (L : xL) (a b : Int32) (st : List Value) (h : xH) : xf 96 11 L (.int b :: .int a :: st) h = xf 96 12 L (.int (a &&& b) :: st) h := xo_iand (by decide +kernel)
set_option maxRecDepth 20000 in
theorem u_L_does_12 (L : xL) (a : Int32) (st : List Value) (h : xH) : xf 96 12 L (.int a :: st) h = if a = 0 then xf 96 76 L st h else if a = 1 then xf 96 76 L st h else if a = 2 then xf 96 76 L st h else if a = 3 then xf 96 76 L st h else if a = 4 then xf 96 96 L st h else if a = 5 then xf 96 121 L st h else if a = 6 then xf 96 153 L st h else if a = 7 then xf 96 182 L st h else if a = 8 then xf 96 233 L st h else if a = 9 then xf 96 240 L st h else if a = 10 then xf 96 261 L st h else if a = 11 then xf 96 305 L st h else xf 96 312 L st h := by
  have ho : xop 96 12 = some (.tableswitch 312 0 11 #[76, 76, 76, 76, 96, 121, 153, 182, 233, 240, 261, 305], 12) := by decide +kernel
  by_cases h0 : a = 0
  · subst h0
    rw [if_pos rfl]
    exact xo_tsw (t := 76) ho (by decide) (by decide) rfl
  rw [if_neg h0]
  by_cases h1 : a = 1
  · subst h1
    rw [if_pos rfl]
    exact xo_tsw (t := 76) ho (by decide) (by decide) rfl
  rw [if_neg h1]
  by_cases h2 : a = 2
  · subst h2
    rw [if_pos rfl]
    exact xo_tsw (t := 76) ho (by decide) (by decide) rfl
  rw [if_neg h2]
  by_cases h3 : a = 3
  · subst h3
    rw [if_pos rfl]
    exact xo_tsw (t := 76) ho (by decide) (by decide) rfl
  rw [if_neg h3]
  by_cases h4 : a = 4
  · subst h4
    rw [if_pos rfl]
    exact xo_tsw (t := 96) ho (by decide) (by decide) rfl
  rw [if_neg h4]
  by_cases h5 : a = 5
  · subst h5
    rw [if_pos rfl]
    exact xo_tsw (t := 121) ho (by decide) (by decide) rfl
  rw [if_neg h5]
  by_cases h6 : a = 6
  · subst h6
    rw [if_pos rfl]
    exact xo_tsw (t := 153) ho (by decide) (by decide) rfl
  rw [if_neg h6]
  by_cases h7 : a = 7
  · subst h7
    rw [if_pos rfl]
    exact xo_tsw (t := 182) ho (by decide) (by decide) rfl
  rw [if_neg h7]
  by_cases h8 : a = 8
  · subst h8
    rw [if_pos rfl]
    exact xo_tsw (t := 233) ho (by decide) (by decide) rfl
  rw [if_neg h8]
  by_cases h9 : a = 9
  · subst h9
    rw [if_pos rfl]
    exact xo_tsw (t := 240) ho (by decide) (by decide) rfl
  rw [if_neg h9]
  by_cases h10 : a = 10
  · subst h10
    rw [if_pos rfl]
    exact xo_tsw (t := 261) ho (by decide) (by decide) rfl
  rw [if_neg h10]
  by_cases h11 : a = 11
  · subst h11
    rw [if_pos rfl]
    exact xo_tsw (t := 305) ho (by decide) (by decide) rfl
  rw [if_neg h11]
  refine xo_tswO ho rfl ?_
  have g0 := xi_ne h0
  rw [show (0 : Int32).toInt = 0 by decide] at g0
  have g1 := xi_ne h1
  rw [show (1 : Int32).toInt = 1 by decide] at g1
  have g2 := xi_ne h2
  rw [show (2 : Int32).toInt = 2 by decide] at g2
  have g3 := xi_ne h3
  rw [show (3 : Int32).toInt = 3 by decide] at g3
  have g4 := xi_ne h4
  rw [show (4 : Int32).toInt = 4 by decide] at g4
  have g5 := xi_ne h5
  rw [show (5 : Int32).toInt = 5 by decide] at g5
  have g6 := xi_ne h6
  rw [show (6 : Int32).toInt = 6 by decide] at g6
  have g7 := xi_ne h7
  rw [show (7 : Int32).toInt = 7 by decide] at g7
  have g8 := xi_ne h8
  rw [show (8 : Int32).toInt = 8 by decide] at g8
  have g9 := xi_ne h9
  rw [show (9 : Int32).toInt = 9 by decide] at g9
  have g10 := xi_ne h10
  rw [show (10 : Int32).toInt = 10 by decide] at g10
  have g11 := xi_ne h11
  rw [show (11 : Int32).toInt = 11 by decide] at g11
  omega
set_option maxRecDepth 20000 in
theorem u_L_does_76 (l1 l2 l3 l4 : Option Value) (x : Nat) (st : List Value) (h : xH) : xf 96 76 [some (.ref x), l1, l2, l3, l4] st h = xf 96 77 [some (.ref x), l1, l2, l3, l4] (.ref x :: st) h := xo_aload (k := 0) (by decide +kernel) rfl
set_option maxRecDepth 20000 in
theorem u_L_does_77 (l0 l2 l3 l4 : Option Value) (x : Int32) (st : List Value) (h : xH) : xf 96 77 [l0, some (.int x), l2, l3, l4] st h = xf 96 78 [l0, some (.int x), l2, l3, l4] (.int x :: st) h := xo_iload (k := 1) (by decide +kernel) rfl
set_option maxRecDepth 20000 in
theorem u_L_does_78 (L : xL) (st : List Value) (h : xH) : xf 96 78 L st h = xf 96 79 L (.int 4 :: st) h := xo_iconst (k := 4) (by decide +kernel) (by decide)
set_option maxRecDepth 20000 in
theorem u_L_does_79 (L : xL) (a b : Int32) (st : List Value) (h : xH) : xf 96 79 L (.int b :: .int a :: st) h = xf 96 80 L (.int (a >>> (b &&& 31)) :: st) h := xo_ishr (by decide +kernel)
set_option maxRecDepth 20000 in
theorem u_L_does_80 (L : xL) (st : List Value) (h : xH) : xf 96 80 L st h = xf 96 81 L (.int 4 :: st) h := xo_iconst (k := 4) (by decide +kernel) (by decide)
set_option maxRecDepth 20000 in
theorem u_L_does_81 (l0 l2 l3 l4 : Option Value) (x : Int32) (st : List Value) (h : xH) : xf 96 81 [l0, some (.int x), l2, l3, l4] st h = xf 96 82 [l0, some (.int x), l2, l3, l4] (.int x :: st) h := xo_iload (k := 1) (by decide +kernel) rfl
set_option maxRecDepth 20000 in
theorem u_L_does_82 (L : xL) (st : List Value) (h : xH) : xf 96 82 L st h = xf 96 84 L (.int 20 :: st) h := xo_iconst (k := 20) (by decide +kernel) (by decide)
set_option maxRecDepth 20000 in
theorem u_L_does_84 (L : xL) (a b : Int32) (st : List Value) (h : xH) : xf 96 84 L (.int b :: .int a :: st) h = xf 96 85 L (.int (a >>> (b &&& 31)) :: st) h := xo_ishr (by decide +kernel)
set_option maxRecDepth 20000 in
theorem u_L_does_85 (L : xL) (st : List Value) (h : xH) : xf 96 85 L st h = xf 96 87 L (.int 9 :: st) h := xo_iconst (k := 9) (by decide +kernel) (by decide)
set_option maxRecDepth 20000 in
theorem u_L_does_87 (L : xL) (v0 : Int32) (v1 : Int32) (st : List Value) (h : xH) (hl : st.length ≤ 4) : xf 96 87 L (.int v1 :: .int v0 :: st) h = xgo 96 87 90 L st (xev 92 [.int v0, .int v1] h) := xo_callS (as := [.int v0, .int v1]) (by decide +kernel) rfl ⟨(by decide +kernel : xna 92 = 2), Nat.le_of_ble_eq_true rfl, by decide⟩ hl
set_option maxRecDepth 20000 in
theorem u_L_does_90 (L : xL) (a b : Int32) (st : List Value) (h : xH) : xf 96 90 L (.int b :: .int a :: st) h = xf 96 91 L (.int (a + b) :: st) h := xo_iadd (by decide +kernel)
set_option maxRecDepth 20000 in
theorem u_L_does_91 (L : xL) (v0 : Nat) (v1 : Int32) (v2 : Int32) (st : List Value) (h : xH) (hl : st.length ≤ 4) : xf 96 91 L (.int v2 :: .int v1 :: .ref v0 :: st) h = xgo 96 91 94 L st (xev 95 [.ref v0, .int v1, .int v2] h) := xo_callS (as := [.ref v0, .int v1, .int v2]) (by decide +kernel) rfl ⟨(by decide +kernel : xna 95 = 3), Nat.le_of_ble_eq_true rfl, by decide⟩ hl
set_option maxRecDepth 20000 in
theorem u_L_does_94 (L : xL) (st : List Value) (h : xH) : xf 96 94 L st h = xf 96 95 L (.int 0 :: st) h := xo_iconst (k := 0) (by decide +kernel) (by decide)
set_option maxRecDepth 20000 in
theorem u_L_does_95 (L : xL) (x : Int32) (h : xH) (hv : x = 0 ∨ x = 1) : xf 96 95 L [.int x] h = some (.inl (some (.int x)), h) := xo_ireturn (n := 96) (by decide +kernel) (by rcases hv with rfl | rfl <;> rfl)
set_option maxRecDepth 20000 in
theorem u_L_does_96 (l0 l1 l3 l4 : Option Value) (x : Int32) (st : List Value) (h : xH) : xf 96 96 [l0, l1, some (.int x), l3, l4] st h = xf 96 97 [l0, l1, some (.int x), l3, l4] (.int x :: st) h := xo_iload (k := 2) (by decide +kernel) rfl
set_option maxRecDepth 20000 in
theorem u_L_does_97 (L : xL) (st : List Value) (h : xH) : xf 96 97 L st h = xf 96 99 L (.int 64 :: st) h := xo_iconst (k := 64) (by decide +kernel) (by decide)
set_option maxRecDepth 20000 in
theorem u_L_does_99 (L : xL) (a b : Int32) (st : List Value) (h : xH) : xf 96 99 L (.int b :: .int a :: st) h = if a < b then xf 96 102 L st h else xf 96 117 L st h := xo_icmp_ge (t := 117) (by decide +kernel) rfl
set_option maxRecDepth 20000 in
theorem u_L_does_102 (l1 l2 l3 l4 : Option Value) (x : Nat) (st : List Value) (h : xH) : xf 96 102 [some (.ref x), l1, l2, l3, l4] st h = xf 96 103 [some (.ref x), l1, l2, l3, l4] (.ref x :: st) h := xo_aload (k := 0) (by decide +kernel) rfl
set_option maxRecDepth 20000 in
theorem u_L_does_103 (l0 l2 l3 l4 : Option Value) (x : Int32) (st : List Value) (h : xH) : xf 96 103 [l0, some (.int x), l2, l3, l4] st h = xf 96 104 [l0, some (.int x), l2, l3, l4] (.int x :: st) h := xo_iload (k := 1) (by decide +kernel) rfl
set_option maxRecDepth 20000 in
theorem u_L_does_104 (L : xL) (st : List Value) (h : xH) : xf 96 104 L st h = xf 96 105 L (.int 4 :: st) h := xo_iconst (k := 4) (by decide +kernel) (by decide)
set_option maxRecDepth 20000 in
theorem u_L_does_105 (L : xL) (a b : Int32) (st : List Value) (h : xH) : xf 96 105 L (.int b :: .int a :: st) h = xf 96 106 L (.int (a >>> (b &&& 31)) :: st) h := xo_ishr (by decide +kernel)
set_option maxRecDepth 20000 in
theorem u_L_does_106 (L : xL) (st : List Value) (h : xH) : xf 96 106 L st h = xf 96 108 L (.int 8 :: st) h := xo_iconst (k := 8) (by decide +kernel) (by decide)
set_option maxRecDepth 20000 in
theorem u_L_does_108 (L : xL) (v0 : Int32) (v1 : Int32) (st : List Value) (h : xH) (hl : st.length ≤ 4) : xf 96 108 L (.int v1 :: .int v0 :: st) h = xgo 96 108 111 L st (xev 92 [.int v0, .int v1] h) := xo_callS (as := [.int v0, .int v1]) (by decide +kernel) rfl ⟨(by decide +kernel : xna 92 = 2), Nat.le_of_ble_eq_true rfl, by decide⟩ hl
set_option maxRecDepth 20000 in
theorem u_L_does_111 (L : xL) (v0 : Int32) (b : Nat) (st : List Value) (h : xH) (hb : (xob h b).1 = 7) (hl : st.length ≤ 4) : xf 96 111 L (.int v0 :: .ref b :: st) h = xgo 96 111 114 L st (xev 64 [.ref b, .int v0] h) := xo_callV (as := [.int v0]) (by decide +kernel) rfl ⟨(by decide +kernel : xna 64 = 1), Nat.le_of_ble_eq_true rfl, rfl, by decide⟩ hb hl
set_option maxRecDepth 20000 in
theorem u_L_does_114 (L : xL) (st : List Value) (h : xH) : xf 96 114 L st h = xf 96 118 L st h := xo_goto (n := 117) (t := 118) (by decide +kernel) rfl
set_option maxRecDepth 20000 in
theorem u_L_does_117 (L : xL) (st : List Value) (h : xH) : xf 96 117 L st h = xf 96 118 L (.int 0 :: st) h := xo_iconst (k := 0) (by decide +kernel) (by decide)
set_option maxRecDepth 20000 in
theorem u_L_does_118 (l0 l1 l2 l3 l4 : Option Value) (x : Int32) (st : List Value) (h : xH) : xf 96 118 [l0, l1, l2, l3, l4] (.int x :: st) h = xf 96 119 [l0, l1, xcat l2, some (.int x), l4] st h := xo_istore (k := 3) (by decide +kernel) (Nat.le_of_ble_eq_true rfl) rfl
set_option maxRecDepth 20000 in
theorem u_L_does_119 (L : xL) (st : List Value) (h : xH) : xf 96 119 L st h = xf 96 120 L (.int 0 :: st) h := xo_iconst (k := 0) (by decide +kernel) (by decide)
set_option maxRecDepth 20000 in
theorem u_L_does_120 (L : xL) (x : Int32) (h : xH) (hv : x = 0 ∨ x = 1) : xf 96 120 L [.int x] h = some (.inl (some (.int x)), h) := xo_ireturn (n := 121) (by decide +kernel) (by rcases hv with rfl | rfl <;> rfl)
set_option maxRecDepth 20000 in
theorem u_L_does_121 (l0 l1 l3 l4 : Option Value) (x : Int32) (st : List Value) (h : xH) : xf 96 121 [l0, l1, some (.int x), l3, l4] st h = xf 96 122 [l0, l1, some (.int x), l3, l4] (.int x :: st) h := xo_iload (k := 2) (by decide +kernel) rfl
set_option maxRecDepth 20000 in
theorem u_L_does_122 (L : xL) (a : Int32) (st : List Value) (h : xH) : xf 96 122 L (.int a :: st) h = if 0 < a then xf 96 125 L st h else xf 96 149 L st h := xo_if_le (t := 149) (by decide +kernel) rfl
set_option maxRecDepth 20000 in
theorem u_L_does_125 (l0 l1 l3 l4 : Option Value) (x : Int32) (st : List Value) (h : xH) : xf 96 125 [l0, l1, some (.int x), l3, l4] st h = xf 96 126 [l0, l1, some (.int x), l3, l4] (.int x :: st) h := xo_iload (k := 2) (by decide +kernel) rfl
set_option maxRecDepth 20000 in
theorem u_L_does_126 (L : xL) (st : List Value) (h : xH) : xf 96 126 L st h = xf 96 128 L (.int 64 :: st) h := xo_iconst (k := 64) (by decide +kernel) (by decide)
set_option maxRecDepth 20000 in
theorem u_L_does_128 (L : xL) (a b : Int32) (st : List Value) (h : xH) : xf 96 128 L (.int b :: .int a :: st) h = if a < b then xf 96 131 L st h else xf 96 149 L st h := xo_icmp_ge (t := 149) (by decide +kernel) rfl
set_option maxRecDepth 20000 in
theorem u_L_does_131 (l1 l2 l3 l4 : Option Value) (x : Nat) (st : List Value) (h : xH) : xf 96 131 [some (.ref x), l1, l2, l3, l4] st h = xf 96 132 [some (.ref x), l1, l2, l3, l4] (.ref x :: st) h := xo_aload (k := 0) (by decide +kernel) rfl
set_option maxRecDepth 20000 in
theorem u_L_does_132 (l1 l2 l3 l4 : Option Value) (x : Nat) (st : List Value) (h : xH) : xf 96 132 [some (.ref x), l1, l2, l3, l4] st h = xf 96 133 [some (.ref x), l1, l2, l3, l4] (.ref x :: st) h := xo_aload (k := 0) (by decide +kernel) rfl
set_option maxRecDepth 20000 in
theorem u_L_does_133 (l0 l2 l3 l4 : Option Value) (x : Int32) (st : List Value) (h : xH) : xf 96 133 [l0, some (.int x), l2, l3, l4] st h = xf 96 134 [l0, some (.int x), l2, l3, l4] (.int x :: st) h := xo_iload (k := 1) (by decide +kernel) rfl
set_option maxRecDepth 20000 in
theorem u_L_does_134 (L : xL) (st : List Value) (h : xH) : xf 96 134 L st h = xf 96 135 L (.int 4 :: st) h := xo_iconst (k := 4) (by decide +kernel) (by decide)
set_option maxRecDepth 20000 in
theorem u_L_does_135 (L : xL) (a b : Int32) (st : List Value) (h : xH) : xf 96 135 L (.int b :: .int a :: st) h = xf 96 136 L (.int (a >>> (b &&& 31)) :: st) h := xo_ishr (by decide +kernel)
set_option maxRecDepth 20000 in
theorem u_L_does_136 (l0 l1 l3 l4 : Option Value) (x : Int32) (st : List Value) (h : xH) : xf 96 136 [l0, l1, some (.int x), l3, l4] st h = xf 96 137 [l0, l1, some (.int x), l3, l4] (.int x :: st) h := xo_iload (k := 2) (by decide +kernel) rfl
set_option maxRecDepth 20000 in
theorem u_L_does_137 (L : xL) (v0 : Int32) (v1 : Int32) (st : List Value) (h : xH) (hl : st.length ≤ 4) : xf 96 137 L (.int v1 :: .int v0 :: st) h = xgo 96 137 140 L st (xev 92 [.int v0, .int v1] h) := xo_callS (as := [.int v0, .int v1]) (by decide +kernel) rfl ⟨(by decide +kernel : xna 92 = 2), Nat.le_of_ble_eq_true rfl, by decide⟩ hl
set_option maxRecDepth 20000 in
theorem u_L_does_140 (L : xL) (v0 : Int32) (b : Nat) (st : List Value) (h : xH) (hb : (xob h b).1 = 7) (hl : st.length ≤ 4) : xf 96 140 L (.int v0 :: .ref b :: st) h = xgo 96 140 143 L st (xev 75 [.ref b, .int v0] h) := xo_callV (as := [.int v0]) (by decide +kernel) rfl ⟨(by decide +kernel : xna 75 = 1), Nat.le_of_ble_eq_true rfl, rfl, by decide⟩ hb hl
set_option maxRecDepth 20000 in
theorem u_L_does_143 (L : xL) (v0 : Int32) (b : Nat) (st : List Value) (h : xH) (hb : (xob h b).1 = 7) (hl : st.length ≤ 4) : xf 96 143 L (.int v0 :: .ref b :: st) h = xgo 96 143 146 L st (xev 64 [.ref b, .int v0] h) := xo_callV (as := [.int v0]) (by decide +kernel) rfl ⟨(by decide +kernel : xna 64 = 1), Nat.le_of_ble_eq_true rfl, rfl, by decide⟩ hb hl
set_option maxRecDepth 20000 in
theorem u_L_does_146 (L : xL) (st : List Value) (h : xH) : xf 96 146 L st h = xf 96 150 L st h := xo_goto (n := 149) (t := 150) (by decide +kernel) rfl
set_option maxRecDepth 20000 in
theorem u_L_does_149 (L : xL) (st : List Value) (h : xH) : xf 96 149 L st h = xf 96 150 L (.int 0 :: st) h := xo_iconst (k := 0) (by decide +kernel) (by decide)
set_option maxRecDepth 20000 in
theorem u_L_does_150 (l0 l1 l2 l3 l4 : Option Value) (x : Int32) (st : List Value) (h : xH) : xf 96 150 [l0, l1, l2, l3, l4] (.int x :: st) h = xf 96 151 [l0, l1, xcat l2, some (.int x), l4] st h := xo_istore (k := 3) (by decide +kernel) (Nat.le_of_ble_eq_true rfl) rfl
set_option maxRecDepth 20000 in
theorem u_L_does_151 (L : xL) (st : List Value) (h : xH) : xf 96 151 L st h = xf 96 152 L (.int 0 :: st) h := xo_iconst (k := 0) (by decide +kernel) (by decide)
set_option maxRecDepth 20000 in
theorem u_L_does_152 (L : xL) (x : Int32) (h : xH) (hv : x = 0 ∨ x = 1) : xf 96 152 L [.int x] h = some (.inl (some (.int x)), h) := xo_ireturn (n := 153) (by decide +kernel) (by rcases hv with rfl | rfl <;> rfl)
set_option maxRecDepth 20000 in
theorem u_L_does_153 (l0 l2 l3 l4 : Option Value) (x : Int32) (st : List Value) (h : xH) : xf 96 153 [l0, some (.int x), l2, l3, l4] st h = xf 96 154 [l0, some (.int x), l2, l3, l4] (.int x :: st) h := xo_iload (k := 1) (by decide +kernel) rfl
set_option maxRecDepth 20000 in
theorem u_L_does_154 (L : xL) (st : List Value) (h : xH) : xf 96 154 L st h = xf 96 155 L (.int 4 :: st) h := xo_iconst (k := 4) (by decide +kernel) (by decide)
set_option maxRecDepth 20000 in
theorem u_L_does_155 (L : xL) (a b : Int32) (st : List Value) (h : xH) : xf 96 155 L (.int b :: .int a :: st) h = xf 96 156 L (.int (a >>> (b &&& 31)) :: st) h := xo_ishr (by decide +kernel)
set_option maxRecDepth 20000 in
theorem u_L_does_156 (L : xL) (st : List Value) (h : xH) : xf 96 156 L st h = xf 96 157 L (.int 3 :: st) h := xo_iconst (k := 3) (by decide +kernel) (by decide)
set_option maxRecDepth 20000 in
theorem u_L_does_157 (L : xL) (a b : Int32) (st : List Value) (h : xH) : xf 96 157 L (.int b :: .int a :: st) h = xf 96 158 L (.int (a &&& b) :: st) h := xo_iand (by decide +kernel)
set_option maxRecDepth 20000 in
theorem u_L_does_158 (L : xL) (a : Int32) (st : List Value) (h : xH) : xf 96 158 L (.int a :: st) h = if a = 0 then xf 96 161 L st h else xf 96 178 L st h := xo_if_ne (t := 178) (by decide +kernel) rfl
set_option maxRecDepth 20000 in
theorem u_L_does_161 (l1 l2 l3 l4 : Option Value) (x : Nat) (st : List Value) (h : xH) : xf 96 161 [some (.ref x), l1, l2, l3, l4] st h = xf 96 162 [some (.ref x), l1, l2, l3, l4] (.ref x :: st) h := xo_aload (k := 0) (by decide +kernel) rfl
set_option maxRecDepth 20000 in
theorem u_L_does_162 (l0 l2 l3 l4 : Option Value) (x : Int32) (st : List Value) (h : xH) : xf 96 162 [l0, some (.int x), l2, l3, l4] st h = xf 96 163 [l0, some (.int x), l2, l3, l4] (.int x :: st) h := xo_iload (k := 1) (by decide +kernel) rfl
set_option maxRecDepth 20000 in
theorem u_L_does_163 (L : xL) (st : List Value) (h : xH) : xf 96 163 L st h = xf 96 165 L (.int 6 :: st) h := xo_iconst (k := 6) (by decide +kernel) (by decide)
set_option maxRecDepth 20000 in
theorem u_L_does_165 (L : xL) (a b : Int32) (st : List Value) (h : xH) : xf 96 165 L (.int b :: .int a :: st) h = xf 96 166 L (.int (a >>> (b &&& 31)) :: st) h := xo_ishr (by decide +kernel)
set_option maxRecDepth 20000 in
theorem u_L_does_166 (l0 l1 l3 l4 : Option Value) (x : Int32) (st : List Value) (h : xH) : xf 96 166 [l0, l1, some (.int x), l3, l4] st h = xf 96 167 [l0, l1, some (.int x), l3, l4] (.int x :: st) h := xo_iload (k := 2) (by decide +kernel) rfl
set_option maxRecDepth 20000 in
theorem u_L_does_167 (L : xL) (st : List Value) (h : xH) : xf 96 167 L st h = xf 96 168 L (.int 1 :: st) h := xo_iconst (k := 1) (by decide +kernel) (by decide)
set_option maxRecDepth 20000 in
theorem u_L_does_168 (L : xL) (a b : Int32) (st : List Value) (h : xH) : xf 96 168 L (.int b :: .int a :: st) h = xf 96 169 L (.int (a + b) :: st) h := xo_iadd (by decide +kernel)
set_option maxRecDepth 20000 in
theorem u_L_does_169 (L : xL) (v0 : Int32) (v1 : Int32) (st : List Value) (h : xH) (hl : st.length ≤ 4) : xf 96 169 L (.int v1 :: .int v0 :: st) h = xgo 96 169 172 L st (xev 92 [.int v0, .int v1] h) := xo_callS (as := [.int v0, .int v1]) (by decide +kernel) rfl ⟨(by decide +kernel : xna 92 = 2), Nat.le_of_ble_eq_true rfl, by decide⟩ hl
set_option maxRecDepth 20000 in
theorem u_L_does_172 (L : xL) (v0 : Int32) (b : Nat) (st : List Value) (h : xH) (hb : (xob h b).1 = 7) (hl : st.length ≤ 4) : xf 96 172 L (.int v0 :: .ref b :: st) h = xgo 96 172 175 L st (xev 65 [.ref b, .int v0] h) := xo_callV (as := [.int v0]) (by decide +kernel) rfl ⟨(by decide +kernel : xna 65 = 1), Nat.le_of_ble_eq_true rfl, rfl, by decide⟩ hb hl
set_option maxRecDepth 20000 in
theorem u_L_does_175 (L : xL) (st : List Value) (h : xH) : xf 96 175 L st h = xf 96 179 L st h := xo_goto (n := 178) (t := 179) (by decide +kernel) rfl
set_option maxRecDepth 20000 in
theorem u_L_does_178 (L : xL) (st : List Value) (h : xH) : xf 96 178 L st h = xf 96 179 L (.int 0 :: st) h := xo_iconst (k := 0) (by decide +kernel) (by decide)
set_option maxRecDepth 20000 in
theorem u_L_does_179 (l0 l1 l2 l3 l4 : Option Value) (x : Int32) (st : List Value) (h : xH) : xf 96 179 [l0, l1, l2, l3, l4] (.int x :: st) h = xf 96 180 [l0, l1, xcat l2, some (.int x), l4] st h := xo_istore (k := 3) (by decide +kernel) (Nat.le_of_ble_eq_true rfl) rfl
set_option maxRecDepth 20000 in
theorem u_L_does_180 (L : xL) (st : List Value) (h : xH) : xf 96 180 L st h = xf 96 181 L (.int 0 :: st) h := xo_iconst (k := 0) (by decide +kernel) (by decide)
set_option maxRecDepth 20000 in
theorem u_L_does_181 (L : xL) (x : Int32) (h : xH) (hv : x = 0 ∨ x = 1) : xf 96 181 L [.int x] h = some (.inl (some (.int x)), h) := xo_ireturn (n := 182) (by decide +kernel) (by rcases hv with rfl | rfl <;> rfl)
set_option maxRecDepth 20000 in
theorem u_L_does_182 (l0 l1 l3 l4 : Option Value) (x : Int32) (st : List Value) (h : xH) : xf 96 182 [l0, l1, some (.int x), l3, l4] st h = xf 96 183 [l0, l1, some (.int x), l3, l4] (.int x :: st) h := xo_iload (k := 2) (by decide +kernel) rfl
set_option maxRecDepth 20000 in
theorem u_L_does_183 (L : xL) (a : Int32) (st : List Value) (h : xH) : xf 96 183 L (.int a :: st) h = if a = 0 then xf 96 186 L st h else xf 96 190 L st h := xo_if_ne (t := 190) (by decide +kernel) rfl
set_option maxRecDepth 20000 in
theorem u_L_does_186 (L : xL) (st : List Value) (h : xH) : xf 96 186 L st h = xf 96 187 L (.int 0 :: st) h := xo_iconst (k := 0) (by decide +kernel) (by decide)
set_option maxRecDepth 20000 in
theorem u_L_does_187 (L : xL) (st : List Value) (h : xH) : xf 96 187 L st h = xf 96 197 L st h := xo_goto (n := 190) (t := 197) (by decide +kernel) rfl
set_option maxRecDepth 20000 in
theorem u_L_does_190 (l0 l2 l3 l4 : Option Value) (x : Int32) (st : List Value) (h : xH) : xf 96 190 [l0, some (.int x), l2, l3, l4] st h = xf 96 191 [l0, some (.int x), l2, l3, l4] (.int x :: st) h := xo_iload (k := 1) (by decide +kernel) rfl
set_option maxRecDepth 20000 in
theorem u_L_does_191 (L : xL) (st : List Value) (h : xH) : xf 96 191 L st h = xf 96 192 L (.int 4 :: st) h := xo_iconst (k := 4) (by decide +kernel) (by decide)
set_option maxRecDepth 20000 in
theorem u_L_does_192 (L : xL) (a b : Int32) (st : List Value) (h : xH) : xf 96 192 L (.int b :: .int a :: st) h = xf 96 193 L (.int (a >>> (b &&& 31)) :: st) h := xo_ishr (by decide +kernel)
set_option maxRecDepth 20000 in
theorem u_L_does_193 (l0 l1 l3 l4 : Option Value) (x : Int32) (st : List Value) (h : xH) : xf 96 193 [l0, l1, some (.int x), l3, l4] st h = xf 96 194 [l0, l1, some (.int x), l3, l4] (.int x :: st) h := xo_iload (k := 2) (by decide +kernel) rfl
set_option maxRecDepth 20000 in
theorem u_L_does_194 (L : xL) (v0 : Int32) (v1 : Int32) (st : List Value) (h : xH) (hl : st.length ≤ 4) : xf 96 194 L (.int v1 :: .int v0 :: st) h = xgo 96 194 197 L st (xev 92 [.int v0, .int v1] h) := xo_callS (as := [.int v0, .int v1]) (by decide +kernel) rfl ⟨(by decide +kernel : xna 92 = 2), Nat.le_of_ble_eq_true rfl, by decide⟩ hl
set_option maxRecDepth 20000 in
theorem u_L_does_197 (l0 l1 l2 l3 l4 : Option Value) (x : Int32) (st : List Value) (h : xH) : xf 96 197 [l0, l1, l2, l3, l4] (.int x :: st) h = xf 96 199 [l0, l1, l2, xcat l3, some (.int x)] st h := xo_istore (k := 4) (by decide +kernel) (Nat.le_of_ble_eq_true rfl) rfl
set_option maxRecDepth 20000 in
theorem u_L_does_199 (l0 l1 l3 l4 : Option Value) (x : Int32) (st : List Value) (h : xH) : xf 96 199 [l0, l1, some (.int x), l3, l4] st h = xf 96 200 [l0, l1, some (.int x), l3, l4] (.int x :: st) h := xo_iload (k := 2) (by decide +kernel) rfl
set_option maxRecDepth 20000 in
theorem u_L_does_200 (L : xL) (a : Int32) (st : List Value) (h : xH) : xf 96 200 L (.int a :: st) h = if 0 < a then xf 96 203 L st h else xf 96 229 L st h := xo_if_le (t := 229) (by decide +kernel) rfl
set_option maxRecDepth 20000 in
theorem u_L_does_203 (l0 l1 l3 l4 : Option Value) (x : Int32) (st : List Value) (h : xH) : xf 96 203 [l0, l1, some (.int x), l3, l4] st h = xf 96 204 [l0, l1, some (.int x), l3, l4] (.int x :: st) h := xo_iload (k := 2) (by decide +kernel) rfl
set_option maxRecDepth 20000 in
theorem u_L_does_204 (L : xL) (st : List Value) (h : xH) : xf 96 204 L st h = xf 96 206 L (.int 64 :: st) h := xo_iconst (k := 64) (by decide +kernel) (by decide)
set_option maxRecDepth 20000 in
theorem u_L_does_206 (L : xL) (a b : Int32) (st : List Value) (h : xH) : xf 96 206 L (.int b :: .int a :: st) h = if a < b then xf 96 209 L st h else xf 96 229 L st h := xo_icmp_ge (t := 229) (by decide +kernel) rfl
set_option maxRecDepth 20000 in
theorem u_L_does_209 (l1 l2 l3 l4 : Option Value) (x : Nat) (st : List Value) (h : xH) : xf 96 209 [some (.ref x), l1, l2, l3, l4] st h = xf 96 210 [some (.ref x), l1, l2, l3, l4] (.ref x :: st) h := xo_aload (k := 0) (by decide +kernel) rfl
set_option maxRecDepth 20000 in
theorem u_L_does_210 (l0 l1 l2 l3 : Option Value) (x : Int32) (st : List Value) (h : xH) : xf 96 210 [l0, l1, l2, l3, some (.int x)] st h = xf 96 212 [l0, l1, l2, l3, some (.int x)] (.int x :: st) h := xo_iload (k := 4) (by decide +kernel) rfl
set_option maxRecDepth 20000 in
theorem u_L_does_212 (L : xL) (v0 : Int32) (b : Nat) (st : List Value) (h : xH) (hb : (xob h b).1 = 7) (hl : st.length ≤ 4) : xf 96 212 L (.int v0 :: .ref b :: st) h = xgo 96 212 215 L st (xev 75 [.ref b, .int v0] h) := xo_callV (as := [.int v0]) (by decide +kernel) rfl ⟨(by decide +kernel : xna 75 = 1), Nat.le_of_ble_eq_true rfl, rfl, by decide⟩ hb hl
set_option maxRecDepth 20000 in
theorem u_L_does_215 (L : xL) (st : List Value) (h : xH) : xf 96 215 L st h = xf 96 217 L (.int 7 :: st) h := xo_iconst (k := 7) (by decide +kernel) (by decide)
set_option maxRecDepth 20000 in
theorem u_L_does_217 (L : xL) (a b : Int32) (st : List Value) (h : xH) : xf 96 217 L (.int b :: .int a :: st) h = if b < a then xf 96 220 L st h else xf 96 229 L st h := xo_icmp_le (t := 229) (by decide +kernel) rfl
set_option maxRecDepth 20000 in
theorem u_L_does_220 (l1 l2 l3 l4 : Option Value) (x : Nat) (st : List Value) (h : xH) : xf 96 220 [some (.ref x), l1, l2, l3, l4] st h = xf 96 221 [some (.ref x), l1, l2, l3, l4] (.ref x :: st) h := xo_aload (k := 0) (by decide +kernel) rfl
set_option maxRecDepth 20000 in
theorem u_L_does_221 (l0 l1 l2 l3 : Option Value) (x : Int32) (st : List Value) (h : xH) : xf 96 221 [l0, l1, l2, l3, some (.int x)] st h = xf 96 223 [l0, l1, l2, l3, some (.int x)] (.int x :: st) h := xo_iload (k := 4) (by decide +kernel) rfl
set_option maxRecDepth 20000 in
theorem u_L_does_223 (L : xL) (v0 : Int32) (b : Nat) (st : List Value) (h : xH) (hb : (xob h b).1 = 7) (hl : st.length ≤ 4) : xf 96 223 L (.int v0 :: .ref b :: st) h = xgo 96 223 226 L st (xev 66 [.ref b, .int v0] h) := xo_callV (as := [.int v0]) (by decide +kernel) rfl ⟨(by decide +kernel : xna 66 = 1), Nat.le_of_ble_eq_true rfl, rfl, by decide⟩ hb hl
set_option maxRecDepth 20000 in
theorem u_L_does_226 (L : xL) (st : List Value) (h : xH) : xf 96 226 L st h = xf 96 230 L st h := xo_goto (n := 229) (t := 230) (by decide +kernel) rfl
set_option maxRecDepth 20000 in
theorem u_L_does_229 (L : xL) (st : List Value) (h : xH) : xf 96 229 L st h = xf 96 230 L (.int 0 :: st) h := xo_iconst (k := 0) (by decide +kernel) (by decide)
set_option maxRecDepth 20000 in
theorem u_L_does_230 (l0 l1 l2 l3 l4 : Option Value) (x : Int32) (st : List Value) (h : xH) : xf 96 230 [l0, l1, l2, l3, l4] (.int x :: st) h = xf 96 231 [l0, l1, xcat l2, some (.int x), l4] st h := xo_istore (k := 3) (by decide +kernel) (Nat.le_of_ble_eq_true rfl) rfl
set_option maxRecDepth 20000 in
theorem u_L_does_231 (L : xL) (st : List Value) (h : xH) : xf 96 231 L st h = xf 96 232 L (.int 1 :: st) h := xo_iconst (k := 1) (by decide +kernel) (by decide)
set_option maxRecDepth 20000 in
theorem u_L_does_232 (L : xL) (x : Int32) (h : xH) (hv : x = 0 ∨ x = 1) : xf 96 232 L [.int x] h = some (.inl (some (.int x)), h) := xo_ireturn (n := 233) (by decide +kernel) (by rcases hv with rfl | rfl <;> rfl)
set_option maxRecDepth 20000 in
theorem u_L_does_233 (l1 l2 l3 l4 : Option Value) (x : Nat) (st : List Value) (h : xH) : xf 96 233 [some (.ref x), l1, l2, l3, l4] st h = xf 96 234 [some (.ref x), l1, l2, l3, l4] (.ref x :: st) h := xo_aload (k := 0) (by decide +kernel) rfl
set_option maxRecDepth 20000 in
theorem u_L_does_234 (L : xL) (b : Nat) (st : List Value) (h : xH) (hb : (xob h b).1 = 7) (hl : st.length ≤ 4) : xf 96 234 L (.ref b :: st) h = xgo 96 234 237 L st (xev 69 [.ref b] h) := xo_callV (as := []) (by decide +kernel) rfl ⟨(by decide +kernel : xna 69 = 0), Nat.le_of_ble_eq_true rfl, rfl, by decide⟩ hb hl
set_option maxRecDepth 20000 in
theorem u_L_does_237 (l0 l1 l2 l3 l4 : Option Value) (x : Int32) (st : List Value) (h : xH) : xf 96 237 [l0, l1, l2, l3, l4] (.int x :: st) h = xf 96 238 [l0, l1, xcat l2, some (.int x), l4] st h := xo_istore (k := 3) (by decide +kernel) (Nat.le_of_ble_eq_true rfl) rfl
set_option maxRecDepth 20000 in
theorem u_L_does_238 (L : xL) (st : List Value) (h : xH) : xf 96 238 L st h = xf 96 239 L (.int 1 :: st) h := xo_iconst (k := 1) (by decide +kernel) (by decide)
set_option maxRecDepth 20000 in
theorem u_L_does_239 (L : xL) (x : Int32) (h : xH) (hv : x = 0 ∨ x = 1) : xf 96 239 L [.int x] h = some (.inl (some (.int x)), h) := xo_ireturn (n := 240) (by decide +kernel) (by rcases hv with rfl | rfl <;> rfl)
set_option maxRecDepth 20000 in
theorem u_L_does_240 (l1 l2 l3 l4 : Option Value) (x : Nat) (st : List Value) (h : xH) : xf 96 240 [some (.ref x), l1, l2, l3, l4] st h = xf 96 241 [some (.ref x), l1, l2, l3, l4] (.ref x :: st) h := xo_aload (k := 0) (by decide +kernel) rfl
set_option maxRecDepth 20000 in
theorem u_L_does_241 (L : xL) (st : List Value) (h : xH) : xf 96 241 L st h = xf 96 242 L (.int 2 :: st) h := xo_iconst (k := 2) (by decide +kernel) (by decide)
set_option maxRecDepth 20000 in
theorem u_L_does_242 (L : xL) (v0 : Int32) (b : Nat) (st : List Value) (h : xH) (hb : (xob h b).1 = 7) (hl : st.length ≤ 4) : xf 96 242 L (.int v0 :: .ref b :: st) h = xgo 96 242 245 L st (xev 80 [.ref b, .int v0] h) := xo_callV (as := [.int v0]) (by decide +kernel) rfl ⟨(by decide +kernel : xna 80 = 1), Nat.le_of_ble_eq_true rfl, rfl, by decide⟩ hb hl
set_option maxRecDepth 20000 in
theorem u_L_does_245 (L : xL) (st : List Value) (h : xH) : xf 96 245 L st h = xf 96 247 L (.int 64 :: st) h := xo_iconst (k := 64) (by decide +kernel) (by decide)
set_option maxRecDepth 20000 in
theorem u_L_does_247 (L : xL) (a b : Int32) (st : List Value) (h : xH) : xf 96 247 L (.int b :: .int a :: st) h = if b < a then xf 96 257 L st h else xf 96 250 L st h := xo_icmp_gt (t := 257) (by decide +kernel) rfl
set_option maxRecDepth 20000 in
theorem u_L_does_250 (l1 l2 l3 l4 : Option Value) (x : Nat) (st : List Value) (h : xH) : xf 96 250 [some (.ref x), l1, l2, l3, l4] st h = xf 96 251 [some (.ref x), l1, l2, l3, l4] (.ref x :: st) h := xo_aload (k := 0) (by decide +kernel) rfl
set_option maxRecDepth 20000 in
theorem u_L_does_251 (L : xL) (b : Nat) (st : List Value) (h : xH) (hb : (xob h b).1 = 7) (hl : st.length ≤ 4) : xf 96 251 L (.ref b :: st) h = xgo 96 251 254 L st (xev 70 [.ref b] h) := xo_callV (as := []) (by decide +kernel) rfl ⟨(by decide +kernel : xna 70 = 0), Nat.le_of_ble_eq_true rfl, rfl, by decide⟩ hb hl
set_option maxRecDepth 20000 in
theorem u_L_does_254 (L : xL) (st : List Value) (h : xH) : xf 96 254 L st h = xf 96 258 L st h := xo_goto (n := 257) (t := 258) (by decide +kernel) rfl
set_option maxRecDepth 20000 in
theorem u_L_does_257 (L : xL) (st : List Value) (h : xH) : xf 96 257 L st h = xf 96 258 L (.int 0 :: st) h := xo_iconst (k := 0) (by decide +kernel) (by decide)
set_option maxRecDepth 20000 in
theorem u_L_does_258 (l0 l1 l2 l3 l4 : Option Value) (x : Int32) (st : List Value) (h : xH) : xf 96 258 [l0, l1, l2, l3, l4] (.int x :: st) h = xf 96 259 [l0, l1, xcat l2, some (.int x), l4] st h := xo_istore (k := 3) (by decide +kernel) (Nat.le_of_ble_eq_true rfl) rfl
set_option maxRecDepth 20000 in
theorem u_L_does_259 (L : xL) (st : List Value) (h : xH) : xf 96 259 L st h = xf 96 260 L (.int 1 :: st) h := xo_iconst (k := 1) (by decide +kernel) (by decide)
set_option maxRecDepth 20000 in
theorem u_L_does_260 (L : xL) (x : Int32) (h : xH) (hv : x = 0 ∨ x = 1) : xf 96 260 L [.int x] h = some (.inl (some (.int x)), h) := xo_ireturn (n := 261) (by decide +kernel) (by rcases hv with rfl | rfl <;> rfl)
set_option maxRecDepth 20000 in
theorem u_L_does_261 (l0 l2 l3 l4 : Option Value) (x : Int32) (st : List Value) (h : xH) : xf 96 261 [l0, some (.int x), l2, l3, l4] st h = xf 96 262 [l0, some (.int x), l2, l3, l4] (.int x :: st) h := xo_iload (k := 1) (by decide +kernel) rfl
set_option maxRecDepth 20000 in
theorem u_L_does_262 (L : xL) (st : List Value) (h : xH) : xf 96 262 L st h = xf 96 263 L (.int 4 :: st) h := xo_iconst (k := 4) (by decide +kernel) (by decide)
set_option maxRecDepth 20000 in
theorem u_L_does_263 (L : xL) (a b : Int32) (st : List Value) (h : xH) : xf 96 263 L (.int b :: .int a :: st) h = xf 96 264 L (.int (a >>> (b &&& 31)) :: st) h := xo_ishr (by decide +kernel)
set_option maxRecDepth 20000 in
theorem u_L_does_264 (L : xL) (st : List Value) (h : xH) : xf 96 264 L st h = xf 96 265 L (.int 1 :: st) h := xo_iconst (k := 1) (by decide +kernel) (by decide)
set_option maxRecDepth 20000 in
theorem u_L_does_265 (L : xL) (a b : Int32) (st : List Value) (h : xH) : xf 96 265 L (.int b :: .int a :: st) h = xf 96 266 L (.int (a &&& b) :: st) h := xo_iand (by decide +kernel)
set_option maxRecDepth 20000 in
theorem u_L_does_266 (L : xL) (a : Int32) (st : List Value) (h : xH) : xf 96 266 L (.int a :: st) h = if a = 0 then xf 96 269 L st h else xf 96 287 L st h := xo_if_ne (t := 287) (by decide +kernel) rfl
set_option maxRecDepth 20000 in
theorem u_L_does_269 (l1 l2 l3 l4 : Option Value) (x : Nat) (st : List Value) (h : xH) : xf 96 269 [some (.ref x), l1, l2, l3, l4] st h = xf 96 270 [some (.ref x), l1, l2, l3, l4] (.ref x :: st) h := xo_aload (k := 0) (by decide +kernel) rfl
set_option maxRecDepth 20000 in
theorem u_L_does_270 (L : xL) (st : List Value) (h : xH) : xf 96 270 L st h = xf 96 271 L (.int 0 :: st) h := xo_iconst (k := 0) (by decide +kernel) (by decide)
set_option maxRecDepth 20000 in
theorem u_L_does_271 (L : xL) (st : List Value) (h : xH) : xf 96 271 L st h = xf 96 272 L (.int 2 :: st) h := xo_iconst (k := 2) (by decide +kernel) (by decide)
set_option maxRecDepth 20000 in
theorem u_L_does_272 (l0 l2 l3 l4 : Option Value) (x : Int32) (st : List Value) (h : xH) : xf 96 272 [l0, some (.int x), l2, l3, l4] st h = xf 96 273 [l0, some (.int x), l2, l3, l4] (.int x :: st) h := xo_iload (k := 1) (by decide +kernel) rfl
set_option maxRecDepth 20000 in
theorem u_L_does_273 (L : xL) (st : List Value) (h : xH) : xf 96 273 L st h = xf 96 274 L (.int 5 :: st) h := xo_iconst (k := 5) (by decide +kernel) (by decide)
set_option maxRecDepth 20000 in
theorem u_L_does_274 (L : xL) (a b : Int32) (st : List Value) (h : xH) : xf 96 274 L (.int b :: .int a :: st) h = xf 96 275 L (.int (a >>> (b &&& 31)) :: st) h := xo_ishr (by decide +kernel)
set_option maxRecDepth 20000 in
theorem u_L_does_275 (L : xL) (st : List Value) (h : xH) : xf 96 275 L st h = xf 96 277 L (.int 8 :: st) h := xo_iconst (k := 8) (by decide +kernel) (by decide)
set_option maxRecDepth 20000 in
theorem u_L_does_277 (L : xL) (v0 : Int32) (v1 : Int32) (st : List Value) (h : xH) (hl : st.length ≤ 4) : xf 96 277 L (.int v1 :: .int v0 :: st) h = xgo 96 277 280 L st (xev 92 [.int v0, .int v1] h) := xo_callS (as := [.int v0, .int v1]) (by decide +kernel) rfl ⟨(by decide +kernel : xna 92 = 2), Nat.le_of_ble_eq_true rfl, by decide⟩ hl
set_option maxRecDepth 20000 in
theorem u_L_does_280 (L : xL) (a b : Int32) (st : List Value) (h : xH) : xf 96 280 L (.int b :: .int a :: st) h = xf 96 281 L (.int (a + b) :: st) h := xo_iadd (by decide +kernel)
set_option maxRecDepth 20000 in
theorem u_L_does_281 (L : xL) (v0 : Int32) (v1 : Int32) (b : Nat) (st : List Value) (h : xH) (hb : (xob h b).1 = 7) (hl : st.length ≤ 4) : xf 96 281 L (.int v1 :: .int v0 :: .ref b :: st) h = xgo 96 281 284 L st (xev 71 [.ref b, .int v0, .int v1] h) := xo_callV (as := [.int v0, .int v1]) (by decide +kernel) rfl ⟨(by decide +kernel : xna 71 = 2), Nat.le_of_ble_eq_true rfl, rfl, by decide⟩ hb hl
set_option maxRecDepth 20000 in
theorem u_L_does_284 (L : xL) (st : List Value) (h : xH) : xf 96 284 L st h = xf 96 302 L st h := xo_goto (n := 287) (t := 302) (by decide +kernel) rfl
set_option maxRecDepth 20000 in
theorem u_L_does_287 (l1 l2 l3 l4 : Option Value) (x : Nat) (st : List Value) (h : xH) : xf 96 287 [some (.ref x), l1, l2, l3, l4] st h = xf 96 288 [some (.ref x), l1, l2, l3, l4] (.ref x :: st) h := xo_aload (k := 0) (by decide +kernel) rfl
set_option maxRecDepth 20000 in
theorem u_L_does_288 (L : xL) (st : List Value) (h : xH) : xf 96 288 L st h = xf 96 289 L (.int 1 :: st) h := xo_iconst (k := 1) (by decide +kernel) (by decide)
set_option maxRecDepth 20000 in
theorem u_L_does_289 (L : xL) (st : List Value) (h : xH) : xf 96 289 L st h = xf 96 290 L (.int 1 :: st) h := xo_iconst (k := 1) (by decide +kernel) (by decide)
set_option maxRecDepth 20000 in
theorem u_L_does_290 (l0 l2 l3 l4 : Option Value) (x : Int32) (st : List Value) (h : xH) : xf 96 290 [l0, some (.int x), l2, l3, l4] st h = xf 96 291 [l0, some (.int x), l2, l3, l4] (.int x :: st) h := xo_iload (k := 1) (by decide +kernel) rfl
set_option maxRecDepth 20000 in
theorem u_L_does_291 (L : xL) (st : List Value) (h : xH) : xf 96 291 L st h = xf 96 292 L (.int 5 :: st) h := xo_iconst (k := 5) (by decide +kernel) (by decide)
set_option maxRecDepth 20000 in
theorem u_L_does_292 (L : xL) (a b : Int32) (st : List Value) (h : xH) : xf 96 292 L (.int b :: .int a :: st) h = xf 96 293 L (.int (a >>> (b &&& 31)) :: st) h := xo_ishr (by decide +kernel)
set_option maxRecDepth 20000 in
theorem u_L_does_293 (L : xL) (st : List Value) (h : xH) : xf 96 293 L st h = xf 96 295 L (.int 9 :: st) h := xo_iconst (k := 9) (by decide +kernel) (by decide)
set_option maxRecDepth 20000 in
theorem u_L_does_295 (L : xL) (v0 : Int32) (v1 : Int32) (st : List Value) (h : xH) (hl : st.length ≤ 4) : xf 96 295 L (.int v1 :: .int v0 :: st) h = xgo 96 295 298 L st (xev 92 [.int v0, .int v1] h) := xo_callS (as := [.int v0, .int v1]) (by decide +kernel) rfl ⟨(by decide +kernel : xna 92 = 2), Nat.le_of_ble_eq_true rfl, by decide⟩ hl
set_option maxRecDepth 20000 in
theorem u_L_does_298 (L : xL) (a b : Int32) (st : List Value) (h : xH) : xf 96 298 L (.int b :: .int a :: st) h = xf 96 299 L (.int (a + b) :: st) h := xo_iadd (by decide +kernel)
set_option maxRecDepth 20000 in
theorem u_L_does_299 (L : xL) (v0 : Int32) (v1 : Int32) (b : Nat) (st : List Value) (h : xH) (hb : (xob h b).1 = 7) (hl : st.length ≤ 4) : xf 96 299 L (.int v1 :: .int v0 :: .ref b :: st) h = xgo 96 299 302 L st (xev 71 [.ref b, .int v0, .int v1] h) := xo_callV (as := [.int v0, .int v1]) (by decide +kernel) rfl ⟨(by decide +kernel : xna 71 = 2), Nat.le_of_ble_eq_true rfl, rfl, by decide⟩ hb hl
set_option maxRecDepth 20000 in
theorem u_L_does_302 (l0 l1 l2 l3 l4 : Option Value) (x : Int32) (st : List Value) (h : xH) : xf 96 302 [l0, l1, l2, l3, l4] (.int x :: st) h = xf 96 303 [l0, l1, xcat l2, some (.int x), l4] st h := xo_istore (k := 3) (by decide +kernel) (Nat.le_of_ble_eq_true rfl) rfl
set_option maxRecDepth 20000 in
theorem u_L_does_303 (L : xL) (st : List Value) (h : xH) : xf 96 303 L st h = xf 96 304 L (.int 1 :: st) h := xo_iconst (k := 1) (by decide +kernel) (by decide)
set_option maxRecDepth 20000 in
theorem u_L_does_304 (L : xL) (x : Int32) (h : xH) (hv : x = 0 ∨ x = 1) : xf 96 304 L [.int x] h = some (.inl (some (.int x)), h) := xo_ireturn (n := 305) (by decide +kernel) (by rcases hv with rfl | rfl <;> rfl)
set_option maxRecDepth 20000 in
theorem u_L_does_305 (l1 l2 l3 l4 : Option Value) (x : Nat) (st : List Value) (h : xH) : xf 96 305 [some (.ref x), l1, l2, l3, l4] st h = xf 96 306 [some (.ref x), l1, l2, l3, l4] (.ref x :: st) h := xo_aload (k := 0) (by decide +kernel) rfl
set_option maxRecDepth 20000 in
theorem u_L_does_306 (L : xL) (b : Nat) (st : List Value) (h : xH) (hb : (xob h b).1 = 7) (hl : st.length ≤ 4) : xf 96 306 L (.ref b :: st) h = xgo 96 306 309 L st (xev 68 [.ref b] h) := xo_callV (as := []) (by decide +kernel) rfl ⟨(by decide +kernel : xna 68 = 0), Nat.le_of_ble_eq_true rfl, rfl, by decide⟩ hb hl
set_option maxRecDepth 20000 in
theorem u_L_does_309 (l0 l1 l2 l3 l4 : Option Value) (x : Int32) (st : List Value) (h : xH) : xf 96 309 [l0, l1, l2, l3, l4] (.int x :: st) h = xf 96 310 [l0, l1, xcat l2, some (.int x), l4] st h := xo_istore (k := 3) (by decide +kernel) (Nat.le_of_ble_eq_true rfl) rfl
set_option maxRecDepth 20000 in
theorem u_L_does_310 (L : xL) (st : List Value) (h : xH) : xf 96 310 L st h = xf 96 311 L (.int 1 :: st) h := xo_iconst (k := 1) (by decide +kernel) (by decide)
set_option maxRecDepth 20000 in
theorem u_L_does_311 (L : xL) (x : Int32) (h : xH) (hv : x = 0 ∨ x = 1) : xf 96 311 L [.int x] h = some (.inl (some (.int x)), h) := xo_ireturn (n := 312) (by decide +kernel) (by rcases hv with rfl | rfl <;> rfl)
set_option maxRecDepth 20000 in
theorem u_L_does_312 (l1 l2 l3 l4 : Option Value) (x : Nat) (st : List Value) (h : xH) : xf 96 312 [some (.ref x), l1, l2, l3, l4] st h = xf 96 313 [some (.ref x), l1, l2, l3, l4] (.ref x :: st) h := xo_aload (k := 0) (by decide +kernel) rfl
set_option maxRecDepth 20000 in
theorem u_L_does_313 (L : xL) (b : Nat) (st : List Value) (h : xH) (hb : (xob h b).1 = 7) (hl : st.length ≤ 4) : xf 96 313 L (.ref b :: st) h = xgo 96 313 316 L st (xev 67 [.ref b] h) := xo_callV (as := []) (by decide +kernel) rfl ⟨(by decide +kernel : xna 67 = 0), Nat.le_of_ble_eq_true rfl, rfl, by decide⟩ hb hl
set_option maxRecDepth 20000 in
theorem u_L_does_316 (l0 l1 l2 l3 l4 : Option Value) (x : Int32) (st : List Value) (h : xH) : xf 96 316 [l0, l1, l2, l3, l4] (.int x :: st) h = xf 96 317 [l0, l1, xcat l2, some (.int x), l4] st h := xo_istore (k := 3) (by decide +kernel) (Nat.le_of_ble_eq_true rfl) rfl
set_option maxRecDepth 20000 in
theorem u_L_does_317 (L : xL) (st : List Value) (h : xH) : xf 96 317 L st h = xf 96 318 L (.int 1 :: st) h := xo_iconst (k := 1) (by decide +kernel) (by decide)
set_option maxRecDepth 20000 in
theorem u_L_does_318 (L : xL) (x : Int32) (h : xH) (hv : x = 0 ∨ x = 1) : xf 96 318 L [.int x] h = some (.inl (some (.int x)), h) := xo_ireturn (n := 319) (by decide +kernel) (by rcases hv with rfl | rfl <;> rfl)
set_option maxRecDepth 20000 in
theorem e_L_does (v0 : Nat) (v1 : Int32) (h : xH) : xev 96 [.ref v0, .int v1] h = xf 96 0 [some (.ref v0), some (.int v1), none, none, none] [] h := rfl
set_option maxRecDepth 20000 in
theorem u_L_tale_0 (l1 l2 l3 : Option Value) (x : Nat) (st : List Value) (h : xH) : xf 97 0 [some (.ref x), l1, l2, l3] st h = xf 97 1 [some (.ref x), l1, l2, l3] (.ref x :: st) h := xo_aload (k := 0) (by decide +kernel) rfl
set_option maxRecDepth 20000 in
theorem u_L_tale_1 (L : xL) (st : List Value) (h : xH) : xf 97 1 L st h = xf 97 2 L (.int 2 :: st) h := xo_iconst (k := 2) (by decide +kernel) (by decide)
set_option maxRecDepth 20000 in
theorem u_L_tale_2 (L : xL) (v0 : Int32) (b : Nat) (st : List Value) (h : xH) (hb : (xob h b).1 = 7) (hl : st.length ≤ 4) : xf 97 2 L (.int v0 :: .ref b :: st) h = xgo 97 2 5 L st (xev 80 [.ref b, .int v0] h) := xo_callV (as := [.int v0]) (by decide +kernel) rfl ⟨(by decide +kernel : xna 80 = 1), Nat.le_of_ble_eq_true rfl, rfl, by decide⟩ hb hl
set_option maxRecDepth 20000 in
theorem u_L_tale_5 (L : xL) (a : Int32) (st : List Value) (h : xH) : xf 97 5 L (.int a :: st) h = xf 97 6 L (.long a.toInt64 :: st) h := xo_i2l (by decide +kernel)
set_option maxRecDepth 20000 in
theorem u_L_tale_6 (l0 l1 l2 l3 : Option Value) (x : Int64) (st : List Value) (h : xH) : xf 97 6 [l0, l1, l2, l3] (.long x :: st) h = xf 97 7 [xcat l0, some (.long x), none, l3] st h := xo_lstore (k := 1) (by decide +kernel) (Nat.le_of_ble_eq_true rfl) rfl
set_option maxRecDepth 20000 in
theorem u_L_tale_7 (L : xL) (st : List Value) (h : xH) : xf 97 7 L st h = xf 97 8 L (.int 0 :: st) h := xo_iconst (k := 0) (by decide +kernel) (by decide)
set_option maxRecDepth 20000 in
theorem u_L_tale_8 (l0 l1 l2 l3 : Option Value) (x : Int32) (st : List Value) (h : xH) : xf 97 8 [l0, l1, l2, l3] (.int x :: st) h = xf 97 9 [l0, l1, xcat l2, some (.int x)] st h := xo_istore (k := 3) (by decide +kernel) (Nat.le_of_ble_eq_true rfl) rfl
set_option maxRecDepth 20000 in
theorem u_L_tale_9 (l0 l1 l2 : Option Value) (x : Int32) (st : List Value) (h : xH) : xf 97 9 [l0, l1, l2, some (.int x)] st h = xf 97 10 [l0, l1, l2, some (.int x)] (.int x :: st) h := xo_iload (k := 3) (by decide +kernel) rfl
set_option maxRecDepth 20000 in
theorem u_L_tale_10 (L : xL) (st : List Value) (h : xH) : xf 97 10 L st h = xf 97 12 L (.int 80 :: st) h := xo_iconst (k := 80) (by decide +kernel) (by decide)
set_option maxRecDepth 20000 in
theorem u_L_tale_12 (L : xL) (a b : Int32) (st : List Value) (h : xH) : xf 97 12 L (.int b :: .int a :: st) h = if a < b then xf 97 15 L st h else xf 97 34 L st h := xo_icmp_ge (t := 34) (by decide +kernel) rfl
set_option maxRecDepth 20000 in
theorem u_L_tale_15 (l0 l2 l3 : Option Value) (x : Int64) (st : List Value) (h : xH) : xf 97 15 [l0, some (.long x), l2, l3] st h = xf 97 16 [l0, some (.long x), l2, l3] (.long x :: st) h := xo_lload (k := 1) (by decide +kernel) rfl
set_option maxRecDepth 20000 in
theorem u_L_tale_16 (L : xL) (st : List Value) (h : xH) : xf 97 16 L st h = xf 97 19 L (.long 31 :: st) h := xo_ldcl (k := 0) (by decide +kernel) (by decide) (by decide)
set_option maxRecDepth 20000 in
theorem u_L_tale_19 (L : xL) (a b : Int64) (st : List Value) (h : xH) : xf 97 19 L (.long b :: .long a :: st) h = xf 97 20 L (.long (a * b) :: st) h := xo_lmul (by decide +kernel)
set_option maxRecDepth 20000 in
theorem u_L_tale_20 (l1 l2 l3 : Option Value) (x : Nat) (st : List Value) (h : xH) : xf 97 20 [some (.ref x), l1, l2, l3] st h = xf 97 21 [some (.ref x), l1, l2, l3] (.ref x :: st) h := xo_aload (k := 0) (by decide +kernel) rfl
set_option maxRecDepth 20000 in
theorem u_L_tale_21 (l0 l1 l2 : Option Value) (x : Int32) (st : List Value) (h : xH) : xf 97 21 [l0, l1, l2, some (.int x)] st h = xf 97 22 [l0, l1, l2, some (.int x)] (.int x :: st) h := xo_iload (k := 3) (by decide +kernel) rfl
set_option maxRecDepth 20000 in
theorem u_L_tale_22 (L : xL) (v0 : Int32) (b : Nat) (st : List Value) (h : xH) (hb : (xob h b).1 = 7) (hl : st.length ≤ 4) : xf 97 22 L (.int v0 :: .ref b :: st) h = xgo 97 22 25 L st (xev 76 [.ref b, .int v0] h) := xo_callV (as := [.int v0]) (by decide +kernel) rfl ⟨(by decide +kernel : xna 76 = 1), Nat.le_of_ble_eq_true rfl, rfl, by decide⟩ hb hl
set_option maxRecDepth 20000 in
theorem u_L_tale_25 (L : xL) (a : Int32) (st : List Value) (h : xH) : xf 97 25 L (.int a :: st) h = xf 97 26 L (.long a.toInt64 :: st) h := xo_i2l (by decide +kernel)
set_option maxRecDepth 20000 in
theorem u_L_tale_26 (L : xL) (a b : Int64) (st : List Value) (h : xH) : xf 97 26 L (.long b :: .long a :: st) h = xf 97 27 L (.long (a + b) :: st) h := xo_ladd (by decide +kernel)
set_option maxRecDepth 20000 in
theorem u_L_tale_27 (l0 l1 l2 l3 : Option Value) (x : Int64) (st : List Value) (h : xH) : xf 97 27 [l0, l1, l2, l3] (.long x :: st) h = xf 97 28 [xcat l0, some (.long x), none, l3] st h := xo_lstore (k := 1) (by decide +kernel) (Nat.le_of_ble_eq_true rfl) rfl
set_option maxRecDepth 20000 in
theorem u_L_tale_28 (l0 l1 l2 : Option Value) (x : Int32) (st : List Value) (h : xH) : xf 97 28 [l0, l1, l2, some (.int x)] st h = xf 97 31 [l0, l1, xcat l2, some (.int (x + 1))] st h := xo_iinc (k := 3) (c := 1) (by decide +kernel) rfl (by decide) rfl
set_option maxRecDepth 20000 in
theorem u_L_tale_31 (L : xL) (st : List Value) (h : xH) : xf 97 31 L st h = xf 97 9 L st h := xo_goto (n := 34) (t := 9) (by decide +kernel) rfl
set_option maxRecDepth 20000 in
theorem u_L_tale_34 (l0 l2 l3 : Option Value) (x : Int64) (st : List Value) (h : xH) : xf 97 34 [l0, some (.long x), l2, l3] st h = xf 97 35 [l0, some (.long x), l2, l3] (.long x :: st) h := xo_lload (k := 1) (by decide +kernel) rfl
set_option maxRecDepth 20000 in
theorem u_L_tale_35 (L : xL) (x : Int64) (h : xH) : xf 97 35 L [.long x] h = some (.inl (some (.long x)), h) := xo_lreturn (n := 36) (by decide +kernel) rfl
set_option maxRecDepth 20000 in
theorem e_L_tale (v0 : Nat) (h : xH) : xev 97 [.ref v0] h = xf 97 0 [some (.ref v0), none, none, none] [] h := rfl
set_option maxRecDepth 20000 in
theorem u_L_areCountsSo_0 (L : xL) (st : List Value) (h : xH) : xf 98 0 L st h = xf 98 1 L (.int 0 :: st) h := xo_iconst (k := 0) (by decide +kernel) (by decide)
set_option maxRecDepth 20000 in
theorem u_L_areCountsSo_1 (l0 l1 l2 l3 l4 l5 l6 l7 l8 l9 l10 l11 : Option Value) (x : Int32) (st : List Value) (h : xH) : xf 98 1 [l0, l1, l2, l3, l4, l5, l6, l7, l8, l9, l10, l11] (.int x :: st) h = xf 98 2 [xcat l0, some (.int x), l2, l3, l4, l5, l6, l7, l8, l9, l10, l11] st h := xo_istore (k := 1) (by decide +kernel) (Nat.le_of_ble_eq_true rfl) rfl
set_option maxRecDepth 20000 in
theorem u_L_areCountsSo_2 (L : xL) (st : List Value) (h : xH) : xf 98 2 L st h = xf 98 3 L (.int 0 :: st) h := xo_iconst (k := 0) (by decide +kernel) (by decide)
set_option maxRecDepth 20000 in
theorem u_L_areCountsSo_3 (l0 l1 l2 l3 l4 l5 l6 l7 l8 l9 l10 l11 : Option Value) (x : Int32) (st : List Value) (h : xH) : xf 98 3 [l0, l1, l2, l3, l4, l5, l6, l7, l8, l9, l10, l11] (.int x :: st) h = xf 98 4 [l0, xcat l1, some (.int x), l3, l4, l5, l6, l7, l8, l9, l10, l11] st h := xo_istore (k := 2) (by decide +kernel) (Nat.le_of_ble_eq_true rfl) rfl
set_option maxRecDepth 20000 in
theorem u_L_areCountsSo_4 (L : xL) (st : List Value) (h : xH) : xf 98 4 L st h = xf 98 5 L (.int 0 :: st) h := xo_iconst (k := 0) (by decide +kernel) (by decide)
set_option maxRecDepth 20000 in
theorem u_L_areCountsSo_5 (l0 l1 l2 l3 l4 l5 l6 l7 l8 l9 l10 l11 : Option Value) (x : Int32) (st : List Value) (h : xH) : xf 98 5 [l0, l1, l2, l3, l4, l5, l6, l7, l8, l9, l10, l11] (.int x :: st) h = xf 98 6 [l0, l1, xcat l2, some (.int x), l4, l5, l6, l7, l8, l9, l10, l11] st h := xo_istore (k := 3) (by decide +kernel) (Nat.le_of_ble_eq_true rfl) rfl
set_option maxRecDepth 20000 in
theorem u_L_areCountsSo_6 (L : xL) (st : List Value) (h : xH) : xf 98 6 L st h = xf 98 7 L (.int 0 :: st) h := xo_iconst (k := 0) (by decide +kernel) (by decide)
set_option maxRecDepth 20000 in
theorem u_L_areCountsSo_7 (l0 l1 l2 l3 l4 l5 l6 l7 l8 l9 l10 l11 : Option Value) (x : Int32) (st : List Value) (h : xH) : xf 98 7 [l0, l1, l2, l3, l4, l5, l6, l7, l8, l9, l10, l11] (.int x :: st) h = xf 98 9 [l0, l1, l2, xcat l3, some (.int x), l5, l6, l7, l8, l9, l10, l11] st h := xo_istore (k := 4) (by decide +kernel) (Nat.le_of_ble_eq_true rfl) rfl
set_option maxRecDepth 20000 in
theorem u_L_areCountsSo_9 (L : xL) (st : List Value) (h : xH) : xf 98 9 L st h = xf 98 10 L (.int 0 :: st) h := xo_iconst (k := 0) (by decide +kernel) (by decide)
set_option maxRecDepth 20000 in
theorem u_L_areCountsSo_10 (l0 l1 l2 l3 l4 l5 l6 l7 l8 l9 l10 l11 : Option Value) (x : Int32) (st : List Value) (h : xH) : xf 98 10 [l0, l1, l2, l3, l4, l5, l6, l7, l8, l9, l10, l11] (.int x :: st) h = xf 98 12 [l0, l1, l2, l3, xcat l4, some (.int x), l6, l7, l8, l9, l10, l11] st h := xo_istore (k := 5) (by decide +kernel) (Nat.le_of_ble_eq_true rfl) rfl
set_option maxRecDepth 20000 in
theorem u_L_areCountsSo_12 (L : xL) (st : List Value) (h : xH) : xf 98 12 L st h = xf 98 13 L (.int 0 :: st) h := xo_iconst (k := 0) (by decide +kernel) (by decide)
set_option maxRecDepth 20000 in
theorem u_L_areCountsSo_13 (l0 l1 l2 l3 l4 l5 l6 l7 l8 l9 l10 l11 : Option Value) (x : Int32) (st : List Value) (h : xH) : xf 98 13 [l0, l1, l2, l3, l4, l5, l6, l7, l8, l9, l10, l11] (.int x :: st) h = xf 98 15 [l0, l1, l2, l3, l4, xcat l5, some (.int x), l7, l8, l9, l10, l11] st h := xo_istore (k := 6) (by decide +kernel) (Nat.le_of_ble_eq_true rfl) rfl
set_option maxRecDepth 20000 in
theorem u_L_areCountsSo_15 (l0 l1 l2 l3 l4 l5 l7 l8 l9 l10 l11 : Option Value) (x : Int32) (st : List Value) (h : xH) : xf 98 15 [l0, l1, l2, l3, l4, l5, some (.int x), l7, l8, l9, l10, l11] st h = xf 98 17 [l0, l1, l2, l3, l4, l5, some (.int x), l7, l8, l9, l10, l11] (.int x :: st) h := xo_iload (k := 6) (by decide +kernel) rfl
set_option maxRecDepth 20000 in
theorem u_L_areCountsSo_17 (l1 l2 l3 l4 l5 l6 l7 l8 l9 l10 l11 : Option Value) (x : Nat) (st : List Value) (h : xH) : xf 98 17 [some (.ref x), l1, l2, l3, l4, l5, l6, l7, l8, l9, l10, l11] st h = xf 98 18 [some (.ref x), l1, l2, l3, l4, l5, l6, l7, l8, l9, l10, l11] (.ref x :: st) h := xo_aload (k := 0) (by decide +kernel) rfl
set_option maxRecDepth 20000 in
theorem u_L_areCountsSo_18 (L : xL) (st : List Value) (h : xH) : xf 98 18 L st h = xf 98 19 L (.int 0 :: st) h := xo_iconst (k := 0) (by decide +kernel) (by decide)
set_option maxRecDepth 20000 in
theorem u_L_areCountsSo_19 (L : xL) (v0 : Int32) (b : Nat) (st : List Value) (h : xH) (hb : (xob h b).1 = 7) (hl : st.length ≤ 4) : xf 98 19 L (.int v0 :: .ref b :: st) h = xgo 98 19 22 L st (xev 80 [.ref b, .int v0] h) := xo_callV (as := [.int v0]) (by decide +kernel) rfl ⟨(by decide +kernel : xna 80 = 1), Nat.le_of_ble_eq_true rfl, rfl, by decide⟩ hb hl
set_option maxRecDepth 20000 in
theorem u_L_areCountsSo_22 (L : xL) (a b : Int32) (st : List Value) (h : xH) : xf 98 22 L (.int b :: .int a :: st) h = if a < b then xf 98 25 L st h else xf 98 72 L st h := xo_icmp_ge (t := 72) (by decide +kernel) rfl
set_option maxRecDepth 20000 in
theorem u_L_areCountsSo_25 (l1 l2 l3 l4 l5 l6 l7 l8 l9 l10 l11 : Option Value) (x : Nat) (st : List Value) (h : xH) : xf 98 25 [some (.ref x), l1, l2, l3, l4, l5, l6, l7, l8, l9, l10, l11] st h = xf 98 26 [some (.ref x), l1, l2, l3, l4, l5, l6, l7, l8, l9, l10, l11] (.ref x :: st) h := xo_aload (k := 0) (by decide +kernel) rfl
set_option maxRecDepth 20000 in
theorem u_L_areCountsSo_26 (l0 l1 l2 l3 l4 l5 l7 l8 l9 l10 l11 : Option Value) (x : Int32) (st : List Value) (h : xH) : xf 98 26 [l0, l1, l2, l3, l4, l5, some (.int x), l7, l8, l9, l10, l11] st h = xf 98 28 [l0, l1, l2, l3, l4, l5, some (.int x), l7, l8, l9, l10, l11] (.int x :: st) h := xo_iload (k := 6) (by decide +kernel) rfl
set_option maxRecDepth 20000 in
theorem u_L_areCountsSo_28 (L : xL) (v0 : Int32) (b : Nat) (st : List Value) (h : xH) (hb : (xob h b).1 = 7) (hl : st.length ≤ 4) : xf 98 28 L (.int v0 :: .ref b :: st) h = xgo 98 28 31 L st (xev 75 [.ref b, .int v0] h) := xo_callV (as := [.int v0]) (by decide +kernel) rfl ⟨(by decide +kernel : xna 75 = 1), Nat.le_of_ble_eq_true rfl, rfl, by decide⟩ hb hl
set_option maxRecDepth 20000 in
theorem u_L_areCountsSo_31 (l0 l1 l2 l3 l4 l5 l6 l7 l8 l9 l10 l11 : Option Value) (x : Int32) (st : List Value) (h : xH) : xf 98 31 [l0, l1, l2, l3, l4, l5, l6, l7, l8, l9, l10, l11] (.int x :: st) h = xf 98 33 [l0, l1, l2, l3, l4, l5, xcat l6, some (.int x), l8, l9, l10, l11] st h := xo_istore (k := 7) (by decide +kernel) (Nat.le_of_ble_eq_true rfl) rfl
set_option maxRecDepth 20000 in
theorem u_L_areCountsSo_33 (l0 l2 l3 l4 l5 l6 l7 l8 l9 l10 l11 : Option Value) (x : Int32) (st : List Value) (h : xH) : xf 98 33 [l0, some (.int x), l2, l3, l4, l5, l6, l7, l8, l9, l10, l11] st h = xf 98 34 [l0, some (.int x), l2, l3, l4, l5, l6, l7, l8, l9, l10, l11] (.int x :: st) h := xo_iload (k := 1) (by decide +kernel) rfl
set_option maxRecDepth 20000 in
theorem u_L_areCountsSo_34 (l1 l2 l3 l4 l5 l6 l7 l8 l9 l10 l11 : Option Value) (x : Nat) (st : List Value) (h : xH) : xf 98 34 [some (.ref x), l1, l2, l3, l4, l5, l6, l7, l8, l9, l10, l11] st h = xf 98 35 [some (.ref x), l1, l2, l3, l4, l5, l6, l7, l8, l9, l10, l11] (.ref x :: st) h := xo_aload (k := 0) (by decide +kernel) rfl
set_option maxRecDepth 20000 in
theorem u_L_areCountsSo_35 (l0 l1 l2 l3 l4 l5 l6 l8 l9 l10 l11 : Option Value) (x : Int32) (st : List Value) (h : xH) : xf 98 35 [l0, l1, l2, l3, l4, l5, l6, some (.int x), l8, l9, l10, l11] st h = xf 98 37 [l0, l1, l2, l3, l4, l5, l6, some (.int x), l8, l9, l10, l11] (.int x :: st) h := xo_iload (k := 7) (by decide +kernel) rfl
set_option maxRecDepth 20000 in
theorem u_L_areCountsSo_37 (L : xL) (st : List Value) (h : xH) : xf 98 37 L st h = xf 98 38 L (.int 5 :: st) h := xo_iconst (k := 5) (by decide +kernel) (by decide)
set_option maxRecDepth 20000 in
theorem u_L_areCountsSo_38 (L : xL) (v0 : Int32) (v1 : Int32) (b : Nat) (st : List Value) (h : xH) (hb : (xob h b).1 = 7) (hl : st.length ≤ 4) : xf 98 38 L (.int v1 :: .int v0 :: .ref b :: st) h = xgo 98 38 41 L st (xev 77 [.ref b, .int v0, .int v1] h) := xo_callV (as := [.int v0, .int v1]) (by decide +kernel) rfl ⟨(by decide +kernel : xna 77 = 2), Nat.le_of_ble_eq_true rfl, rfl, by decide⟩ hb hl
set_option maxRecDepth 20000 in
theorem u_L_areCountsSo_41 (L : xL) (a b : Int32) (st : List Value) (h : xH) : xf 98 41 L (.int b :: .int a :: st) h = xf 98 42 L (.int (a + b) :: st) h := xo_iadd (by decide +kernel)
set_option maxRecDepth 20000 in
theorem u_L_areCountsSo_42 (l0 l1 l2 l3 l4 l5 l6 l7 l8 l9 l10 l11 : Option Value) (x : Int32) (st : List Value) (h : xH) : xf 98 42 [l0, l1, l2, l3, l4, l5, l6, l7, l8, l9, l10, l11] (.int x :: st) h = xf 98 43 [xcat l0, some (.int x), l2, l3, l4, l5, l6, l7, l8, l9, l10, l11] st h := xo_istore (k := 1) (by decide +kernel) (Nat.le_of_ble_eq_true rfl) rfl
set_option maxRecDepth 20000 in
theorem u_L_areCountsSo_43 (l1 l2 l3 l4 l5 l6 l7 l8 l9 l10 l11 : Option Value) (x : Nat) (st : List Value) (h : xH) : xf 98 43 [some (.ref x), l1, l2, l3, l4, l5, l6, l7, l8, l9, l10, l11] st h = xf 98 44 [some (.ref x), l1, l2, l3, l4, l5, l6, l7, l8, l9, l10, l11] (.ref x :: st) h := xo_aload (k := 0) (by decide +kernel) rfl
set_option maxRecDepth 20000 in
theorem u_L_areCountsSo_44 (l0 l1 l2 l3 l4 l5 l6 l8 l9 l10 l11 : Option Value) (x : Int32) (st : List Value) (h : xH) : xf 98 44 [l0, l1, l2, l3, l4, l5, l6, some (.int x), l8, l9, l10, l11] st h = xf 98 46 [l0, l1, l2, l3, l4, l5, l6, some (.int x), l8, l9, l10, l11] (.int x :: st) h := xo_iload (k := 7) (by decide +kernel) rfl
set_option maxRecDepth 20000 in
theorem u_L_areCountsSo_46 (L : xL) (st : List Value) (h : xH) : xf 98 46 L st h = xf 98 47 L (.int 4 :: st) h := xo_iconst (k := 4) (by decide +kernel) (by decide)
set_option maxRecDepth 20000 in
theorem u_L_areCountsSo_47 (L : xL) (v0 : Int32) (v1 : Int32) (b : Nat) (st : List Value) (h : xH) (hb : (xob h b).1 = 7) (hl : st.length ≤ 4) : xf 98 47 L (.int v1 :: .int v0 :: .ref b :: st) h = xgo 98 47 50 L st (xev 77 [.ref b, .int v0, .int v1] h) := xo_callV (as := [.int v0, .int v1]) (by decide +kernel) rfl ⟨(by decide +kernel : xna 77 = 2), Nat.le_of_ble_eq_true rfl, rfl, by decide⟩ hb hl
set_option maxRecDepth 20000 in
theorem u_L_areCountsSo_50 (l0 l1 l2 l4 l5 l6 l7 l8 l9 l10 l11 : Option Value) (x : Int32) (st : List Value) (h : xH) : xf 98 50 [l0, l1, l2, some (.int x), l4, l5, l6, l7, l8, l9, l10, l11] st h = xf 98 51 [l0, l1, l2, some (.int x), l4, l5, l6, l7, l8, l9, l10, l11] (.int x :: st) h := xo_iload (k := 3) (by decide +kernel) rfl
set_option maxRecDepth 20000 in
theorem u_L_areCountsSo_51 (L : xL) (a b : Int32) (st : List Value) (h : xH) : xf 98 51 L (.int b :: .int a :: st) h = if b < a then xf 98 54 L st h else xf 98 64 L st h := xo_icmp_le (t := 64) (by decide +kernel) rfl
set_option maxRecDepth 20000 in
theorem u_L_areCountsSo_54 (l1 l2 l3 l4 l5 l6 l7 l8 l9 l10 l11 : Option Value) (x : Nat) (st : List Value) (h : xH) : xf 98 54 [some (.ref x), l1, l2, l3, l4, l5, l6, l7, l8, l9, l10, l11] st h = xf 98 55 [some (.ref x), l1, l2, l3, l4, l5, l6, l7, l8, l9, l10, l11] (.ref x :: st) h := xo_aload (k := 0) (by decide +kernel) rfl
set_option maxRecDepth 20000 in
theorem u_L_areCountsSo_55 (l0 l1 l2 l3 l4 l5 l6 l8 l9 l10 l11 : Option Value) (x : Int32) (st : List Value) (h : xH) : xf 98 55 [l0, l1, l2, l3, l4, l5, l6, some (.int x), l8, l9, l10, l11] st h = xf 98 57 [l0, l1, l2, l3, l4, l5, l6, some (.int x), l8, l9, l10, l11] (.int x :: st) h := xo_iload (k := 7) (by decide +kernel) rfl
set_option maxRecDepth 20000 in
theorem u_L_areCountsSo_57 (L : xL) (st : List Value) (h : xH) : xf 98 57 L st h = xf 98 58 L (.int 4 :: st) h := xo_iconst (k := 4) (by decide +kernel) (by decide)
set_option maxRecDepth 20000 in
theorem u_L_areCountsSo_58 (L : xL) (v0 : Int32) (v1 : Int32) (b : Nat) (st : List Value) (h : xH) (hb : (xob h b).1 = 7) (hl : st.length ≤ 4) : xf 98 58 L (.int v1 :: .int v0 :: .ref b :: st) h = xgo 98 58 61 L st (xev 77 [.ref b, .int v0, .int v1] h) := xo_callV (as := [.int v0, .int v1]) (by decide +kernel) rfl ⟨(by decide +kernel : xna 77 = 2), Nat.le_of_ble_eq_true rfl, rfl, by decide⟩ hb hl
set_option maxRecDepth 20000 in
theorem u_L_areCountsSo_61 (L : xL) (st : List Value) (h : xH) : xf 98 61 L st h = xf 98 65 L st h := xo_goto (n := 64) (t := 65) (by decide +kernel) rfl
set_option maxRecDepth 20000 in
theorem u_L_areCountsSo_64 (l0 l1 l2 l4 l5 l6 l7 l8 l9 l10 l11 : Option Value) (x : Int32) (st : List Value) (h : xH) : xf 98 64 [l0, l1, l2, some (.int x), l4, l5, l6, l7, l8, l9, l10, l11] st h = xf 98 65 [l0, l1, l2, some (.int x), l4, l5, l6, l7, l8, l9, l10, l11] (.int x :: st) h := xo_iload (k := 3) (by decide +kernel) rfl
set_option maxRecDepth 20000 in
theorem u_L_areCountsSo_65 (l0 l1 l2 l3 l4 l5 l6 l7 l8 l9 l10 l11 : Option Value) (x : Int32) (st : List Value) (h : xH) : xf 98 65 [l0, l1, l2, l3, l4, l5, l6, l7, l8, l9, l10, l11] (.int x :: st) h = xf 98 66 [l0, l1, xcat l2, some (.int x), l4, l5, l6, l7, l8, l9, l10, l11] st h := xo_istore (k := 3) (by decide +kernel) (Nat.le_of_ble_eq_true rfl) rfl
set_option maxRecDepth 20000 in
theorem u_L_areCountsSo_66 (l0 l1 l2 l3 l4 l5 l7 l8 l9 l10 l11 : Option Value) (x : Int32) (st : List Value) (h : xH) : xf 98 66 [l0, l1, l2, l3, l4, l5, some (.int x), l7, l8, l9, l10, l11] st h = xf 98 69 [l0, l1, l2, l3, l4, xcat l5, some (.int (x + 1)), l7, l8, l9, l10, l11] st h := xo_iinc (k := 6) (c := 1) (by decide +kernel) rfl (by decide) rfl
set_option maxRecDepth 20000 in
theorem u_L_areCountsSo_69 (L : xL) (st : List Value) (h : xH) : xf 98 69 L st h = xf 98 15 L st h := xo_goto (n := 72) (t := 15) (by decide +kernel) rfl
set_option maxRecDepth 20000 in
theorem u_L_areCountsSo_72 (L : xL) (st : List Value) (h : xH) : xf 98 72 L st h = xf 98 73 L (.int 0 :: st) h := xo_iconst (k := 0) (by decide +kernel) (by decide)
set_option maxRecDepth 20000 in
theorem u_L_areCountsSo_73 (l0 l1 l2 l3 l4 l5 l6 l7 l8 l9 l10 l11 : Option Value) (x : Int32) (st : List Value) (h : xH) : xf 98 73 [l0, l1, l2, l3, l4, l5, l6, l7, l8, l9, l10, l11] (.int x :: st) h = xf 98 75 [l0, l1, l2, l3, l4, xcat l5, some (.int x), l7, l8, l9, l10, l11] st h := xo_istore (k := 6) (by decide +kernel) (Nat.le_of_ble_eq_true rfl) rfl
set_option maxRecDepth 20000 in
theorem u_L_areCountsSo_75 (l0 l1 l2 l3 l4 l5 l7 l8 l9 l10 l11 : Option Value) (x : Int32) (st : List Value) (h : xH) : xf 98 75 [l0, l1, l2, l3, l4, l5, some (.int x), l7, l8, l9, l10, l11] st h = xf 98 77 [l0, l1, l2, l3, l4, l5, some (.int x), l7, l8, l9, l10, l11] (.int x :: st) h := xo_iload (k := 6) (by decide +kernel) rfl
set_option maxRecDepth 20000 in
theorem u_L_areCountsSo_77 (L : xL) (st : List Value) (h : xH) : xf 98 77 L st h = xf 98 79 L (.int 8 :: st) h := xo_iconst (k := 8) (by decide +kernel) (by decide)
set_option maxRecDepth 20000 in
theorem u_L_areCountsSo_79 (L : xL) (a b : Int32) (st : List Value) (h : xH) : xf 98 79 L (.int b :: .int a :: st) h = if a < b then xf 98 82 L st h else xf 98 129 L st h := xo_icmp_ge (t := 129) (by decide +kernel) rfl
set_option maxRecDepth 20000 in
theorem u_L_areCountsSo_82 (l0 l1 l3 l4 l5 l6 l7 l8 l9 l10 l11 : Option Value) (x : Int32) (st : List Value) (h : xH) : xf 98 82 [l0, l1, some (.int x), l3, l4, l5, l6, l7, l8, l9, l10, l11] st h = xf 98 83 [l0, l1, some (.int x), l3, l4, l5, l6, l7, l8, l9, l10, l11] (.int x :: st) h := xo_iload (k := 2) (by decide +kernel) rfl
set_option maxRecDepth 20000 in
theorem u_L_areCountsSo_83 (l1 l2 l3 l4 l5 l6 l7 l8 l9 l10 l11 : Option Value) (x : Nat) (st : List Value) (h : xH) : xf 98 83 [some (.ref x), l1, l2, l3, l4, l5, l6, l7, l8, l9, l10, l11] st h = xf 98 84 [some (.ref x), l1, l2, l3, l4, l5, l6, l7, l8, l9, l10, l11] (.ref x :: st) h := xo_aload (k := 0) (by decide +kernel) rfl
set_option maxRecDepth 20000 in
theorem u_L_areCountsSo_84 (l0 l1 l2 l3 l4 l5 l7 l8 l9 l10 l11 : Option Value) (x : Int32) (st : List Value) (h : xH) : xf 98 84 [l0, l1, l2, l3, l4, l5, some (.int x), l7, l8, l9, l10, l11] st h = xf 98 86 [l0, l1, l2, l3, l4, l5, some (.int x), l7, l8, l9, l10, l11] (.int x :: st) h := xo_iload (k := 6) (by decide +kernel) rfl
set_option maxRecDepth 20000 in
theorem u_L_areCountsSo_86 (L : xL) (v0 : Int32) (b : Nat) (st : List Value) (h : xH) (hb : (xob h b).1 = 7) (hl : st.length ≤ 4) : xf 98 86 L (.int v0 :: .ref b :: st) h = xgo 98 86 89 L st (xev 81 [.ref b, .int v0] h) := xo_callV (as := [.int v0]) (by decide +kernel) rfl ⟨(by decide +kernel : xna 81 = 1), Nat.le_of_ble_eq_true rfl, rfl, by decide⟩ hb hl
set_option maxRecDepth 20000 in
theorem u_L_areCountsSo_89 (L : xL) (a b : Int32) (st : List Value) (h : xH) : xf 98 89 L (.int b :: .int a :: st) h = xf 98 90 L (.int (a + b) :: st) h := xo_iadd (by decide +kernel)
set_option maxRecDepth 20000 in
theorem u_L_areCountsSo_90 (l0 l1 l2 l3 l4 l5 l6 l7 l8 l9 l10 l11 : Option Value) (x : Int32) (st : List Value) (h : xH) : xf 98 90 [l0, l1, l2, l3, l4, l5, l6, l7, l8, l9, l10, l11] (.int x :: st) h = xf 98 91 [l0, xcat l1, some (.int x), l3, l4, l5, l6, l7, l8, l9, l10, l11] st h := xo_istore (k := 2) (by decide +kernel) (Nat.le_of_ble_eq_true rfl) rfl
set_option maxRecDepth 20000 in
theorem u_L_areCountsSo_91 (l0 l1 l2 l3 l5 l6 l7 l8 l9 l10 l11 : Option Value) (x : Int32) (st : List Value) (h : xH) : xf 98 91 [l0, l1, l2, l3, some (.int x), l5, l6, l7, l8, l9, l10, l11] st h = xf 98 93 [l0, l1, l2, l3, some (.int x), l5, l6, l7, l8, l9, l10, l11] (.int x :: st) h := xo_iload (k := 4) (by decide +kernel) rfl
set_option maxRecDepth 20000 in
theorem u_L_areCountsSo_93 (l1 l2 l3 l4 l5 l6 l7 l8 l9 l10 l11 : Option Value) (x : Nat) (st : List Value) (h : xH) : xf 98 93 [some (.ref x), l1, l2, l3, l4, l5, l6, l7, l8, l9, l10, l11] st h = xf 98 94 [some (.ref x), l1, l2, l3, l4, l5, l6, l7, l8, l9, l10, l11] (.ref x :: st) h := xo_aload (k := 0) (by decide +kernel) rfl
set_option maxRecDepth 20000 in
theorem u_L_areCountsSo_94 (l0 l1 l2 l3 l4 l5 l7 l8 l9 l10 l11 : Option Value) (x : Int32) (st : List Value) (h : xH) : xf 98 94 [l0, l1, l2, l3, l4, l5, some (.int x), l7, l8, l9, l10, l11] st h = xf 98 96 [l0, l1, l2, l3, l4, l5, some (.int x), l7, l8, l9, l10, l11] (.int x :: st) h := xo_iload (k := 6) (by decide +kernel) rfl
set_option maxRecDepth 20000 in
theorem u_L_areCountsSo_96 (L : xL) (st : List Value) (h : xH) : xf 98 96 L st h = xf 98 97 L (.int 3 :: st) h := xo_iconst (k := 3) (by decide +kernel) (by decide)
set_option maxRecDepth 20000 in
theorem u_L_areCountsSo_97 (L : xL) (v0 : Int32) (v1 : Int32) (b : Nat) (st : List Value) (h : xH) (hb : (xob h b).1 = 7) (hl : st.length ≤ 4) : xf 98 97 L (.int v1 :: .int v0 :: .ref b :: st) h = xgo 98 97 100 L st (xev 77 [.ref b, .int v0, .int v1] h) := xo_callV (as := [.int v0, .int v1]) (by decide +kernel) rfl ⟨(by decide +kernel : xna 77 = 2), Nat.le_of_ble_eq_true rfl, rfl, by decide⟩ hb hl
set_option maxRecDepth 20000 in
theorem u_L_areCountsSo_100 (L : xL) (a b : Int32) (st : List Value) (h : xH) : xf 98 100 L (.int b :: .int a :: st) h = xf 98 101 L (.int (a + b) :: st) h := xo_iadd (by decide +kernel)
set_option maxRecDepth 20000 in
theorem u_L_areCountsSo_101 (l0 l1 l2 l3 l4 l5 l6 l7 l8 l9 l10 l11 : Option Value) (x : Int32) (st : List Value) (h : xH) : xf 98 101 [l0, l1, l2, l3, l4, l5, l6, l7, l8, l9, l10, l11] (.int x :: st) h = xf 98 103 [l0, l1, l2, xcat l3, some (.int x), l5, l6, l7, l8, l9, l10, l11] st h := xo_istore (k := 4) (by decide +kernel) (Nat.le_of_ble_eq_true rfl) rfl
set_option maxRecDepth 20000 in
theorem u_L_areCountsSo_103 (l0 l1 l2 l3 l4 l6 l7 l8 l9 l10 l11 : Option Value) (x : Int32) (st : List Value) (h : xH) : xf 98 103 [l0, l1, l2, l3, l4, some (.int x), l6, l7, l8, l9, l10, l11] st h = xf 98 105 [l0, l1, l2, l3, l4, some (.int x), l6, l7, l8, l9, l10, l11] (.int x :: st) h := xo_iload (k := 5) (by decide +kernel) rfl
set_option maxRecDepth 20000 in
theorem u_L_areCountsSo_105 (l1 l2 l3 l4 l5 l6 l7 l8 l9 l10 l11 : Option Value) (x : Nat) (st : List Value) (h : xH) : xf 98 105 [some (.ref x), l1, l2, l3, l4, l5, l6, l7, l8, l9, l10, l11] st h = xf 98 106 [some (.ref x), l1, l2, l3, l4, l5, l6, l7, l8, l9, l10, l11] (.ref x :: st) h := xo_aload (k := 0) (by decide +kernel) rfl
set_option maxRecDepth 20000 in
theorem u_L_areCountsSo_106 (l0 l1 l2 l3 l4 l5 l7 l8 l9 l10 l11 : Option Value) (x : Int32) (st : List Value) (h : xH) : xf 98 106 [l0, l1, l2, l3, l4, l5, some (.int x), l7, l8, l9, l10, l11] st h = xf 98 108 [l0, l1, l2, l3, l4, l5, some (.int x), l7, l8, l9, l10, l11] (.int x :: st) h := xo_iload (k := 6) (by decide +kernel) rfl
set_option maxRecDepth 20000 in
theorem u_L_areCountsSo_108 (L : xL) (st : List Value) (h : xH) : xf 98 108 L st h = xf 98 109 L (.int 3 :: st) h := xo_iconst (k := 3) (by decide +kernel) (by decide)
set_option maxRecDepth 20000 in
theorem u_L_areCountsSo_109 (L : xL) (v0 : Int32) (v1 : Int32) (b : Nat) (st : List Value) (h : xH) (hb : (xob h b).1 = 7) (hl : st.length ≤ 4) : xf 98 109 L (.int v1 :: .int v0 :: .ref b :: st) h = xgo 98 109 112 L st (xev 77 [.ref b, .int v0, .int v1] h) := xo_callV (as := [.int v0, .int v1]) (by decide +kernel) rfl ⟨(by decide +kernel : xna 77 = 2), Nat.le_of_ble_eq_true rfl, rfl, by decide⟩ hb hl
set_option maxRecDepth 20000 in
theorem u_L_areCountsSo_112 (L : xL) (a : Int32) (st : List Value) (h : xH) : xf 98 112 L (.int a :: st) h = if 0 < a then xf 98 115 L st h else xf 98 119 L st h := xo_if_le (t := 119) (by decide +kernel) rfl
set_option maxRecDepth 20000 in
theorem u_L_areCountsSo_115 (L : xL) (st : List Value) (h : xH) : xf 98 115 L st h = xf 98 116 L (.int 1 :: st) h := xo_iconst (k := 1) (by decide +kernel) (by decide)
set_option maxRecDepth 20000 in
theorem u_L_areCountsSo_116 (L : xL) (st : List Value) (h : xH) : xf 98 116 L st h = xf 98 120 L st h := xo_goto (n := 119) (t := 120) (by decide +kernel) rfl
set_option maxRecDepth 20000 in
theorem u_L_areCountsSo_119 (L : xL) (st : List Value) (h : xH) : xf 98 119 L st h = xf 98 120 L (.int 0 :: st) h := xo_iconst (k := 0) (by decide +kernel) (by decide)
set_option maxRecDepth 20000 in
theorem u_L_areCountsSo_120 (L : xL) (a b : Int32) (st : List Value) (h : xH) : xf 98 120 L (.int b :: .int a :: st) h = xf 98 121 L (.int (a + b) :: st) h := xo_iadd (by decide +kernel)
set_option maxRecDepth 20000 in
theorem u_L_areCountsSo_121 (l0 l1 l2 l3 l4 l5 l6 l7 l8 l9 l10 l11 : Option Value) (x : Int32) (st : List Value) (h : xH) : xf 98 121 [l0, l1, l2, l3, l4, l5, l6, l7, l8, l9, l10, l11] (.int x :: st) h = xf 98 123 [l0, l1, l2, l3, xcat l4, some (.int x), l6, l7, l8, l9, l10, l11] st h := xo_istore (k := 5) (by decide +kernel) (Nat.le_of_ble_eq_true rfl) rfl
set_option maxRecDepth 20000 in
theorem u_L_areCountsSo_123 (l0 l1 l2 l3 l4 l5 l7 l8 l9 l10 l11 : Option Value) (x : Int32) (st : List Value) (h : xH) : xf 98 123 [l0, l1, l2, l3, l4, l5, some (.int x), l7, l8, l9, l10, l11] st h = xf 98 126 [l0, l1, l2, l3, l4, xcat l5, some (.int (x + 1)), l7, l8, l9, l10, l11] st h := xo_iinc (k := 6) (c := 1) (by decide +kernel) rfl (by decide) rfl
set_option maxRecDepth 20000 in
theorem u_L_areCountsSo_126 (L : xL) (st : List Value) (h : xH) : xf 98 126 L st h = xf 98 75 L st h := xo_goto (n := 129) (t := 75) (by decide +kernel) rfl
set_option maxRecDepth 20000 in
theorem u_L_areCountsSo_129 (L : xL) (st : List Value) (h : xH) : xf 98 129 L st h = xf 98 130 L (.int 0 :: st) h := xo_iconst (k := 0) (by decide +kernel) (by decide)
set_option maxRecDepth 20000 in
theorem u_L_areCountsSo_130 (l0 l1 l2 l3 l4 l5 l6 l7 l8 l9 l10 l11 : Option Value) (x : Int32) (st : List Value) (h : xH) : xf 98 130 [l0, l1, l2, l3, l4, l5, l6, l7, l8, l9, l10, l11] (.int x :: st) h = xf 98 132 [l0, l1, l2, l3, l4, xcat l5, some (.int x), l7, l8, l9, l10, l11] st h := xo_istore (k := 6) (by decide +kernel) (Nat.le_of_ble_eq_true rfl) rfl
set_option maxRecDepth 20000 in
theorem u_L_areCountsSo_132 (L : xL) (st : List Value) (h : xH) : xf 98 132 L st h = xf 98 134 L (.int 8 :: st) h := xo_iconst (k := 8) (by decide +kernel) (by decide)
set_option maxRecDepth 20000 in
theorem u_L_areCountsSo_134 (l0 l1 l2 l3 l4 l5 l6 l7 l8 l9 l10 l11 : Option Value) (x : Int32) (st : List Value) (h : xH) : xf 98 134 [l0, l1, l2, l3, l4, l5, l6, l7, l8, l9, l10, l11] (.int x :: st) h = xf 98 136 [l0, l1, l2, l3, l4, l5, xcat l6, some (.int x), l8, l9, l10, l11] st h := xo_istore (k := 7) (by decide +kernel) (Nat.le_of_ble_eq_true rfl) rfl
set_option maxRecDepth 20000 in
theorem u_L_areCountsSo_136 (l0 l1 l2 l3 l4 l5 l6 l8 l9 l10 l11 : Option Value) (x : Int32) (st : List Value) (h : xH) : xf 98 136 [l0, l1, l2, l3, l4, l5, l6, some (.int x), l8, l9, l10, l11] st h = xf 98 138 [l0, l1, l2, l3, l4, l5, l6, some (.int x), l8, l9, l10, l11] (.int x :: st) h := xo_iload (k := 7) (by decide +kernel) rfl
set_option maxRecDepth 20000 in
theorem u_L_areCountsSo_138 (L : xL) (st : List Value) (h : xH) : xf 98 138 L st h = xf 98 140 L (.int 24 :: st) h := xo_iconst (k := 24) (by decide +kernel) (by decide)
set_option maxRecDepth 20000 in
theorem u_L_areCountsSo_140 (L : xL) (a b : Int32) (st : List Value) (h : xH) : xf 98 140 L (.int b :: .int a :: st) h = if a < b then xf 98 143 L st h else xf 98 366 L st h := xo_icmp_ge (t := 366) (by decide +kernel) rfl
set_option maxRecDepth 20000 in
theorem u_L_areCountsSo_143 (l1 l2 l3 l4 l5 l6 l7 l8 l9 l10 l11 : Option Value) (x : Nat) (st : List Value) (h : xH) : xf 98 143 [some (.ref x), l1, l2, l3, l4, l5, l6, l7, l8, l9, l10, l11] st h = xf 98 144 [some (.ref x), l1, l2, l3, l4, l5, l6, l7, l8, l9, l10, l11] (.ref x :: st) h := xo_aload (k := 0) (by decide +kernel) rfl
set_option maxRecDepth 20000 in
theorem u_L_areCountsSo_144 (l0 l1 l2 l3 l4 l5 l6 l8 l9 l10 l11 : Option Value) (x : Int32) (st : List Value) (h : xH) : xf 98 144 [l0, l1, l2, l3, l4, l5, l6, some (.int x), l8, l9, l10, l11] st h = xf 98 146 [l0, l1, l2, l3, l4, l5, l6, some (.int x), l8, l9, l10, l11] (.int x :: st) h := xo_iload (k := 7) (by decide +kernel) rfl
set_option maxRecDepth 20000 in
theorem u_L_areCountsSo_146 (L : xL) (v0 : Nat) (v1 : Int32) (st : List Value) (h : xH) (hl : st.length ≤ 4) : xf 98 146 L (.int v1 :: .ref v0 :: st) h = xgo 98 146 149 L st (xev 93 [.ref v0, .int v1] h) := xo_callS (as := [.ref v0, .int v1]) (by decide +kernel) rfl ⟨(by decide +kernel : xna 93 = 2), Nat.le_of_ble_eq_true rfl, by decide⟩ hl
set_option maxRecDepth 20000 in
theorem u_L_areCountsSo_149 (L : xL) (a : Int32) (st : List Value) (h : xH) : xf 98 149 L (.int a :: st) h = if a = 0 then xf 98 360 L st h else xf 98 152 L st h := xo_if_eq (t := 360) (by decide +kernel) rfl
set_option maxRecDepth 20000 in
theorem u_L_areCountsSo_152 (l1 l2 l3 l4 l5 l6 l7 l8 l9 l10 l11 : Option Value) (x : Nat) (st : List Value) (h : xH) : xf 98 152 [some (.ref x), l1, l2, l3, l4, l5, l6, l7, l8, l9, l10, l11] st h = xf 98 153 [some (.ref x), l1, l2, l3, l4, l5, l6, l7, l8, l9, l10, l11] (.ref x :: st) h := xo_aload (k := 0) (by decide +kernel) rfl
set_option maxRecDepth 20000 in
theorem u_L_areCountsSo_153 (l0 l1 l2 l3 l4 l5 l6 l8 l9 l10 l11 : Option Value) (x : Int32) (st : List Value) (h : xH) : xf 98 153 [l0, l1, l2, l3, l4, l5, l6, some (.int x), l8, l9, l10, l11] st h = xf 98 155 [l0, l1, l2, l3, l4, l5, l6, some (.int x), l8, l9, l10, l11] (.int x :: st) h := xo_iload (k := 7) (by decide +kernel) rfl
set_option maxRecDepth 20000 in
theorem u_L_areCountsSo_155 (L : xL) (st : List Value) (h : xH) : xf 98 155 L st h = xf 98 156 L (.int 0 :: st) h := xo_iconst (k := 0) (by decide +kernel) (by decide)
set_option maxRecDepth 20000 in
theorem u_L_areCountsSo_156 (L : xL) (v0 : Int32) (v1 : Int32) (b : Nat) (st : List Value) (h : xH) (hb : (xob h b).1 = 7) (hl : st.length ≤ 4) : xf 98 156 L (.int v1 :: .int v0 :: .ref b :: st) h = xgo 98 156 159 L st (xev 77 [.ref b, .int v0, .int v1] h) := xo_callV (as := [.int v0, .int v1]) (by decide +kernel) rfl ⟨(by decide +kernel : xna 77 = 2), Nat.le_of_ble_eq_true rfl, rfl, by decide⟩ hb hl
set_option maxRecDepth 20000 in
theorem u_L_areCountsSo_159 (l0 l1 l2 l3 l4 l5 l6 l7 l8 l9 l10 l11 : Option Value) (x : Int32) (st : List Value) (h : xH) : xf 98 159 [l0, l1, l2, l3, l4, l5, l6, l7, l8, l9, l10, l11] (.int x :: st) h = xf 98 161 [l0, l1, l2, l3, l4, l5, l6, xcat l7, some (.int x), l9, l10, l11] st h := xo_istore (k := 8) (by decide +kernel) (Nat.le_of_ble_eq_true rfl) rfl
set_option maxRecDepth 20000 in
theorem u_L_areCountsSo_161 (l1 l2 l3 l4 l5 l6 l7 l8 l9 l10 l11 : Option Value) (x : Nat) (st : List Value) (h : xH) : xf 98 161 [some (.ref x), l1, l2, l3, l4, l5, l6, l7, l8, l9, l10, l11] st h = xf 98 162 [some (.ref x), l1, l2, l3, l4, l5, l6, l7, l8, l9, l10, l11] (.ref x :: st) h := xo_aload (k := 0) (by decide +kernel) rfl
set_option maxRecDepth 20000 in
theorem u_L_areCountsSo_162 (l0 l1 l2 l3 l4 l5 l6 l8 l9 l10 l11 : Option Value) (x : Int32) (st : List Value) (h : xH) : xf 98 162 [l0, l1, l2, l3, l4, l5, l6, some (.int x), l8, l9, l10, l11] st h = xf 98 164 [l0, l1, l2, l3, l4, l5, l6, some (.int x), l8, l9, l10, l11] (.int x :: st) h := xo_iload (k := 7) (by decide +kernel) rfl
set_option maxRecDepth 20000 in
theorem u_L_areCountsSo_164 (L : xL) (st : List Value) (h : xH) : xf 98 164 L st h = xf 98 165 L (.int 1 :: st) h := xo_iconst (k := 1) (by decide +kernel) (by decide)
set_option maxRecDepth 20000 in
theorem u_L_areCountsSo_165 (L : xL) (v0 : Int32) (v1 : Int32) (b : Nat) (st : List Value) (h : xH) (hb : (xob h b).1 = 7) (hl : st.length ≤ 4) : xf 98 165 L (.int v1 :: .int v0 :: .ref b :: st) h = xgo 98 165 168 L st (xev 77 [.ref b, .int v0, .int v1] h) := xo_callV (as := [.int v0, .int v1]) (by decide +kernel) rfl ⟨(by decide +kernel : xna 77 = 2), Nat.le_of_ble_eq_true rfl, rfl, by decide⟩ hb hl
set_option maxRecDepth 20000 in
theorem u_L_areCountsSo_168 (l0 l1 l2 l3 l4 l5 l6 l7 l8 l9 l10 l11 : Option Value) (x : Int32) (st : List Value) (h : xH) : xf 98 168 [l0, l1, l2, l3, l4, l5, l6, l7, l8, l9, l10, l11] (.int x :: st) h = xf 98 170 [l0, l1, l2, l3, l4, l5, l6, l7, xcat l8, some (.int x), l10, l11] st h := xo_istore (k := 9) (by decide +kernel) (Nat.le_of_ble_eq_true rfl) rfl
set_option maxRecDepth 20000 in
theorem u_L_areCountsSo_170 (l1 l2 l3 l4 l5 l6 l7 l8 l9 l10 l11 : Option Value) (x : Nat) (st : List Value) (h : xH) : xf 98 170 [some (.ref x), l1, l2, l3, l4, l5, l6, l7, l8, l9, l10, l11] st h = xf 98 171 [some (.ref x), l1, l2, l3, l4, l5, l6, l7, l8, l9, l10, l11] (.ref x :: st) h := xo_aload (k := 0) (by decide +kernel) rfl
set_option maxRecDepth 20000 in
theorem u_L_areCountsSo_171 (l0 l1 l2 l3 l4 l5 l6 l7 l9 l10 l11 : Option Value) (x : Int32) (st : List Value) (h : xH) : xf 98 171 [l0, l1, l2, l3, l4, l5, l6, l7, some (.int x), l9, l10, l11] st h = xf 98 173 [l0, l1, l2, l3, l4, l5, l6, l7, some (.int x), l9, l10, l11] (.int x :: st) h := xo_iload (k := 8) (by decide +kernel) rfl
set_option maxRecDepth 20000 in
theorem u_L_areCountsSo_173 (L : xL) (st : List Value) (h : xH) : xf 98 173 L st h = xf 98 174 L (.int 4 :: st) h := xo_iconst (k := 4) (by decide +kernel) (by decide)
set_option maxRecDepth 20000 in
theorem u_L_areCountsSo_174 (L : xL) (v0 : Int32) (v1 : Int32) (b : Nat) (st : List Value) (h : xH) (hb : (xob h b).1 = 7) (hl : st.length ≤ 4) : xf 98 174 L (.int v1 :: .int v0 :: .ref b :: st) h = xgo 98 174 177 L st (xev 77 [.ref b, .int v0, .int v1] h) := xo_callV (as := [.int v0, .int v1]) (by decide +kernel) rfl ⟨(by decide +kernel : xna 77 = 2), Nat.le_of_ble_eq_true rfl, rfl, by decide⟩ hb hl
set_option maxRecDepth 20000 in
theorem u_L_areCountsSo_177 (l1 l2 l3 l4 l5 l6 l7 l8 l9 l10 l11 : Option Value) (x : Nat) (st : List Value) (h : xH) : xf 98 177 [some (.ref x), l1, l2, l3, l4, l5, l6, l7, l8, l9, l10, l11] st h = xf 98 178 [some (.ref x), l1, l2, l3, l4, l5, l6, l7, l8, l9, l10, l11] (.ref x :: st) h := xo_aload (k := 0) (by decide +kernel) rfl
set_option maxRecDepth 20000 in
theorem u_L_areCountsSo_178 (l0 l1 l2 l3 l4 l5 l6 l7 l8 l10 l11 : Option Value) (x : Int32) (st : List Value) (h : xH) : xf 98 178 [l0, l1, l2, l3, l4, l5, l6, l7, l8, some (.int x), l10, l11] st h = xf 98 180 [l0, l1, l2, l3, l4, l5, l6, l7, l8, some (.int x), l10, l11] (.int x :: st) h := xo_iload (k := 9) (by decide +kernel) rfl
set_option maxRecDepth 20000 in
theorem u_L_areCountsSo_180 (L : xL) (st : List Value) (h : xH) : xf 98 180 L st h = xf 98 181 L (.int 4 :: st) h := xo_iconst (k := 4) (by decide +kernel) (by decide)
set_option maxRecDepth 20000 in
theorem u_L_areCountsSo_181 (L : xL) (v0 : Int32) (v1 : Int32) (b : Nat) (st : List Value) (h : xH) (hb : (xob h b).1 = 7) (hl : st.length ≤ 4) : xf 98 181 L (.int v1 :: .int v0 :: .ref b :: st) h = xgo 98 181 184 L st (xev 77 [.ref b, .int v0, .int v1] h) := xo_callV (as := [.int v0, .int v1]) (by decide +kernel) rfl ⟨(by decide +kernel : xna 77 = 2), Nat.le_of_ble_eq_true rfl, rfl, by decide⟩ hb hl
set_option maxRecDepth 20000 in
theorem u_L_areCountsSo_184 (L : xL) (a b : Int32) (st : List Value) (h : xH) : xf 98 184 L (.int b :: .int a :: st) h = if b < a then xf 98 187 L st h else xf 98 197 L st h := xo_icmp_le (t := 197) (by decide +kernel) rfl
set_option maxRecDepth 20000 in
theorem u_L_areCountsSo_187 (l1 l2 l3 l4 l5 l6 l7 l8 l9 l10 l11 : Option Value) (x : Nat) (st : List Value) (h : xH) : xf 98 187 [some (.ref x), l1, l2, l3, l4, l5, l6, l7, l8, l9, l10, l11] st h = xf 98 188 [some (.ref x), l1, l2, l3, l4, l5, l6, l7, l8, l9, l10, l11] (.ref x :: st) h := xo_aload (k := 0) (by decide +kernel) rfl
set_option maxRecDepth 20000 in
theorem u_L_areCountsSo_188 (l0 l1 l2 l3 l4 l5 l6 l7 l9 l10 l11 : Option Value) (x : Int32) (st : List Value) (h : xH) : xf 98 188 [l0, l1, l2, l3, l4, l5, l6, l7, some (.int x), l9, l10, l11] st h = xf 98 190 [l0, l1, l2, l3, l4, l5, l6, l7, some (.int x), l9, l10, l11] (.int x :: st) h := xo_iload (k := 8) (by decide +kernel) rfl
set_option maxRecDepth 20000 in
theorem u_L_areCountsSo_190 (L : xL) (st : List Value) (h : xH) : xf 98 190 L st h = xf 98 191 L (.int 4 :: st) h := xo_iconst (k := 4) (by decide +kernel) (by decide)
set_option maxRecDepth 20000 in
theorem u_L_areCountsSo_191 (L : xL) (v0 : Int32) (v1 : Int32) (b : Nat) (st : List Value) (h : xH) (hb : (xob h b).1 = 7) (hl : st.length ≤ 4) : xf 98 191 L (.int v1 :: .int v0 :: .ref b :: st) h = xgo 98 191 194 L st (xev 77 [.ref b, .int v0, .int v1] h) := xo_callV (as := [.int v0, .int v1]) (by decide +kernel) rfl ⟨(by decide +kernel : xna 77 = 2), Nat.le_of_ble_eq_true rfl, rfl, by decide⟩ hb hl
set_option maxRecDepth 20000 in
theorem u_L_areCountsSo_194 (L : xL) (st : List Value) (h : xH) : xf 98 194 L st h = xf 98 204 L st h := xo_goto (n := 197) (t := 204) (by decide +kernel) rfl
set_option maxRecDepth 20000 in
theorem u_L_areCountsSo_197 (l1 l2 l3 l4 l5 l6 l7 l8 l9 l10 l11 : Option Value) (x : Nat) (st : List Value) (h : xH) : xf 98 197 [some (.ref x), l1, l2, l3, l4, l5, l6, l7, l8, l9, l10, l11] st h = xf 98 198 [some (.ref x), l1, l2, l3, l4, l5, l6, l7, l8, l9, l10, l11] (.ref x :: st) h := xo_aload (k := 0) (by decide +kernel) rfl
set_option maxRecDepth 20000 in
theorem u_L_areCountsSo_198 (l0 l1 l2 l3 l4 l5 l6 l7 l8 l10 l11 : Option Value) (x : Int32) (st : List Value) (h : xH) : xf 98 198 [l0, l1, l2, l3, l4, l5, l6, l7, l8, some (.int x), l10, l11] st h = xf 98 200 [l0, l1, l2, l3, l4, l5, l6, l7, l8, some (.int x), l10, l11] (.int x :: st) h := xo_iload (k := 9) (by decide +kernel) rfl
set_option maxRecDepth 20000 in
theorem u_L_areCountsSo_200 (L : xL) (st : List Value) (h : xH) : xf 98 200 L st h = xf 98 201 L (.int 4 :: st) h := xo_iconst (k := 4) (by decide +kernel) (by decide)
set_option maxRecDepth 20000 in
theorem u_L_areCountsSo_201 (L : xL) (v0 : Int32) (v1 : Int32) (b : Nat) (st : List Value) (h : xH) (hb : (xob h b).1 = 7) (hl : st.length ≤ 4) : xf 98 201 L (.int v1 :: .int v0 :: .ref b :: st) h = xgo 98 201 204 L st (xev 77 [.ref b, .int v0, .int v1] h) := xo_callV (as := [.int v0, .int v1]) (by decide +kernel) rfl ⟨(by decide +kernel : xna 77 = 2), Nat.le_of_ble_eq_true rfl, rfl, by decide⟩ hb hl
set_option maxRecDepth 20000 in
theorem u_L_areCountsSo_204 (l0 l1 l2 l3 l4 l5 l6 l7 l8 l9 l10 l11 : Option Value) (x : Int32) (st : List Value) (h : xH) : xf 98 204 [l0, l1, l2, l3, l4, l5, l6, l7, l8, l9, l10, l11] (.int x :: st) h = xf 98 206 [l0, l1, l2, l3, l4, l5, l6, l7, l8, xcat l9, some (.int x), l11] st h := xo_istore (k := 10) (by decide +kernel) (Nat.le_of_ble_eq_true rfl) rfl
set_option maxRecDepth 20000 in
theorem u_L_areCountsSo_206 (l1 l2 l3 l4 l5 l6 l7 l8 l9 l10 l11 : Option Value) (x : Nat) (st : List Value) (h : xH) : xf 98 206 [some (.ref x), l1, l2, l3, l4, l5, l6, l7, l8, l9, l10, l11] st h = xf 98 207 [some (.ref x), l1, l2, l3, l4, l5, l6, l7, l8, l9, l10, l11] (.ref x :: st) h := xo_aload (k := 0) (by decide +kernel) rfl
set_option maxRecDepth 20000 in
theorem u_L_areCountsSo_207 (l0 l1 l2 l3 l4 l5 l6 l8 l9 l10 l11 : Option Value) (x : Int32) (st : List Value) (h : xH) : xf 98 207 [l0, l1, l2, l3, l4, l5, l6, some (.int x), l8, l9, l10, l11] st h = xf 98 209 [l0, l1, l2, l3, l4, l5, l6, some (.int x), l8, l9, l10, l11] (.int x :: st) h := xo_iload (k := 7) (by decide +kernel) rfl
set_option maxRecDepth 20000 in
theorem u_L_areCountsSo_209 (L : xL) (st : List Value) (h : xH) : xf 98 209 L st h = xf 98 210 L (.int 2 :: st) h := xo_iconst (k := 2) (by decide +kernel) (by decide)
set_option maxRecDepth 20000 in
theorem u_L_areCountsSo_210 (L : xL) (v0 : Int32) (v1 : Int32) (b : Nat) (st : List Value) (h : xH) (hb : (xob h b).1 = 7) (hl : st.length ≤ 4) : xf 98 210 L (.int v1 :: .int v0 :: .ref b :: st) h = xgo 98 210 213 L st (xev 77 [.ref b, .int v0, .int v1] h) := xo_callV (as := [.int v0, .int v1]) (by decide +kernel) rfl ⟨(by decide +kernel : xna 77 = 2), Nat.le_of_ble_eq_true rfl, rfl, by decide⟩ hb hl
set_option maxRecDepth 20000 in
theorem u_L_areCountsSo_213 (L : xL) (st : List Value) (h : xH) : xf 98 213 L st h = xf 98 214 L (.int 1 :: st) h := xo_iconst (k := 1) (by decide +kernel) (by decide)
set_option maxRecDepth 20000 in
theorem u_L_areCountsSo_214 (L : xL) (a b : Int32) (st : List Value) (h : xH) : xf 98 214 L (.int b :: .int a :: st) h = if a < b then xf 98 263 L st h else xf 98 217 L st h := xo_icmp_lt (t := 263) (by decide +kernel) rfl
set_option maxRecDepth 20000 in
theorem u_L_areCountsSo_217 (l1 l2 l3 l4 l5 l6 l7 l8 l9 l10 l11 : Option Value) (x : Nat) (st : List Value) (h : xH) : xf 98 217 [some (.ref x), l1, l2, l3, l4, l5, l6, l7, l8, l9, l10, l11] st h = xf 98 218 [some (.ref x), l1, l2, l3, l4, l5, l6, l7, l8, l9, l10, l11] (.ref x :: st) h := xo_aload (k := 0) (by decide +kernel) rfl
set_option maxRecDepth 20000 in
theorem u_L_areCountsSo_218 (l0 l1 l2 l3 l4 l5 l6 l8 l9 l10 l11 : Option Value) (x : Int32) (st : List Value) (h : xH) : xf 98 218 [l0, l1, l2, l3, l4, l5, l6, some (.int x), l8, l9, l10, l11] st h = xf 98 220 [l0, l1, l2, l3, l4, l5, l6, some (.int x), l8, l9, l10, l11] (.int x :: st) h := xo_iload (k := 7) (by decide +kernel) rfl
set_option maxRecDepth 20000 in
theorem u_L_areCountsSo_220 (L : xL) (st : List Value) (h : xH) : xf 98 220 L st h = xf 98 221 L (.int 3 :: st) h := xo_iconst (k := 3) (by decide +kernel) (by decide)
set_option maxRecDepth 20000 in
theorem u_L_areCountsSo_221 (L : xL) (v0 : Int32) (v1 : Int32) (b : Nat) (st : List Value) (h : xH) (hb : (xob h b).1 = 7) (hl : st.length ≤ 4) : xf 98 221 L (.int v1 :: .int v0 :: .ref b :: st) h = xgo 98 221 224 L st (xev 77 [.ref b, .int v0, .int v1] h) := xo_callV (as := [.int v0, .int v1]) (by decide +kernel) rfl ⟨(by decide +kernel : xna 77 = 2), Nat.le_of_ble_eq_true rfl, rfl, by decide⟩ hb hl
set_option maxRecDepth 20000 in
theorem u_L_areCountsSo_224 (l1 l2 l3 l4 l5 l6 l7 l8 l9 l10 l11 : Option Value) (x : Nat) (st : List Value) (h : xH) : xf 98 224 [some (.ref x), l1, l2, l3, l4, l5, l6, l7, l8, l9, l10, l11] st h = xf 98 225 [some (.ref x), l1, l2, l3, l4, l5, l6, l7, l8, l9, l10, l11] (.ref x :: st) h := xo_aload (k := 0) (by decide +kernel) rfl
set_option maxRecDepth 20000 in
theorem u_L_areCountsSo_225 (l0 l1 l2 l3 l4 l5 l6 l8 l9 l10 l11 : Option Value) (x : Int32) (st : List Value) (h : xH) : xf 98 225 [l0, l1, l2, l3, l4, l5, l6, some (.int x), l8, l9, l10, l11] st h = xf 98 227 [l0, l1, l2, l3, l4, l5, l6, some (.int x), l8, l9, l10, l11] (.int x :: st) h := xo_iload (k := 7) (by decide +kernel) rfl
set_option maxRecDepth 20000 in
theorem u_L_areCountsSo_227 (L : xL) (st : List Value) (h : xH) : xf 98 227 L st h = xf 98 228 L (.int 2 :: st) h := xo_iconst (k := 2) (by decide +kernel) (by decide)
set_option maxRecDepth 20000 in
theorem u_L_areCountsSo_228 (L : xL) (v0 : Int32) (v1 : Int32) (b : Nat) (st : List Value) (h : xH) (hb : (xob h b).1 = 7) (hl : st.length ≤ 4) : xf 98 228 L (.int v1 :: .int v0 :: .ref b :: st) h = xgo 98 228 231 L st (xev 77 [.ref b, .int v0, .int v1] h) := xo_callV (as := [.int v0, .int v1]) (by decide +kernel) rfl ⟨(by decide +kernel : xna 77 = 2), Nat.le_of_ble_eq_true rfl, rfl, by decide⟩ hb hl
set_option maxRecDepth 20000 in
theorem u_L_areCountsSo_231 (L : xL) (a b : Int32) (st : List Value) (h : xH) : xf 98 231 L (.int b :: .int a :: st) h = if b < a then xf 98 263 L st h else xf 98 234 L st h := xo_icmp_gt (t := 263) (by decide +kernel) rfl
set_option maxRecDepth 20000 in
theorem u_L_areCountsSo_234 (l1 l2 l3 l4 l5 l6 l7 l8 l9 l10 l11 : Option Value) (x : Nat) (st : List Value) (h : xH) : xf 98 234 [some (.ref x), l1, l2, l3, l4, l5, l6, l7, l8, l9, l10, l11] st h = xf 98 235 [some (.ref x), l1, l2, l3, l4, l5, l6, l7, l8, l9, l10, l11] (.ref x :: st) h := xo_aload (k := 0) (by decide +kernel) rfl
set_option maxRecDepth 20000 in
theorem u_L_areCountsSo_235 (l0 l1 l2 l3 l4 l5 l6 l8 l9 l10 l11 : Option Value) (x : Int32) (st : List Value) (h : xH) : xf 98 235 [l0, l1, l2, l3, l4, l5, l6, some (.int x), l8, l9, l10, l11] st h = xf 98 237 [l0, l1, l2, l3, l4, l5, l6, some (.int x), l8, l9, l10, l11] (.int x :: st) h := xo_iload (k := 7) (by decide +kernel) rfl
set_option maxRecDepth 20000 in
theorem u_L_areCountsSo_237 (L : xL) (st : List Value) (h : xH) : xf 98 237 L st h = xf 98 238 L (.int 5 :: st) h := xo_iconst (k := 5) (by decide +kernel) (by decide)
set_option maxRecDepth 20000 in
theorem u_L_areCountsSo_238 (L : xL) (v0 : Int32) (v1 : Int32) (b : Nat) (st : List Value) (h : xH) (hb : (xob h b).1 = 7) (hl : st.length ≤ 4) : xf 98 238 L (.int v1 :: .int v0 :: .ref b :: st) h = xgo 98 238 241 L st (xev 77 [.ref b, .int v0, .int v1] h) := xo_callV (as := [.int v0, .int v1]) (by decide +kernel) rfl ⟨(by decide +kernel : xna 77 = 2), Nat.le_of_ble_eq_true rfl, rfl, by decide⟩ hb hl
set_option maxRecDepth 20000 in
theorem u_L_areCountsSo_241 (l1 l2 l3 l4 l5 l6 l7 l8 l9 l10 l11 : Option Value) (x : Nat) (st : List Value) (h : xH) : xf 98 241 [some (.ref x), l1, l2, l3, l4, l5, l6, l7, l8, l9, l10, l11] st h = xf 98 242 [some (.ref x), l1, l2, l3, l4, l5, l6, l7, l8, l9, l10, l11] (.ref x :: st) h := xo_aload (k := 0) (by decide +kernel) rfl
set_option maxRecDepth 20000 in
theorem u_L_areCountsSo_242 (l0 l1 l2 l3 l4 l5 l6 l7 l9 l10 l11 : Option Value) (x : Int32) (st : List Value) (h : xH) : xf 98 242 [l0, l1, l2, l3, l4, l5, l6, l7, some (.int x), l9, l10, l11] st h = xf 98 244 [l0, l1, l2, l3, l4, l5, l6, l7, some (.int x), l9, l10, l11] (.int x :: st) h := xo_iload (k := 8) (by decide +kernel) rfl
set_option maxRecDepth 20000 in
theorem u_L_areCountsSo_244 (L : xL) (st : List Value) (h : xH) : xf 98 244 L st h = xf 98 245 L (.int 5 :: st) h := xo_iconst (k := 5) (by decide +kernel) (by decide)
set_option maxRecDepth 20000 in
theorem u_L_areCountsSo_245 (L : xL) (v0 : Int32) (v1 : Int32) (b : Nat) (st : List Value) (h : xH) (hb : (xob h b).1 = 7) (hl : st.length ≤ 4) : xf 98 245 L (.int v1 :: .int v0 :: .ref b :: st) h = xgo 98 245 248 L st (xev 77 [.ref b, .int v0, .int v1] h) := xo_callV (as := [.int v0, .int v1]) (by decide +kernel) rfl ⟨(by decide +kernel : xna 77 = 2), Nat.le_of_ble_eq_true rfl, rfl, by decide⟩ hb hl
set_option maxRecDepth 20000 in
theorem u_L_areCountsSo_248 (l1 l2 l3 l4 l5 l6 l7 l8 l9 l10 l11 : Option Value) (x : Nat) (st : List Value) (h : xH) : xf 98 248 [some (.ref x), l1, l2, l3, l4, l5, l6, l7, l8, l9, l10, l11] st h = xf 98 249 [some (.ref x), l1, l2, l3, l4, l5, l6, l7, l8, l9, l10, l11] (.ref x :: st) h := xo_aload (k := 0) (by decide +kernel) rfl
set_option maxRecDepth 20000 in
theorem u_L_areCountsSo_249 (l0 l1 l2 l3 l4 l5 l6 l7 l8 l10 l11 : Option Value) (x : Int32) (st : List Value) (h : xH) : xf 98 249 [l0, l1, l2, l3, l4, l5, l6, l7, l8, some (.int x), l10, l11] st h = xf 98 251 [l0, l1, l2, l3, l4, l5, l6, l7, l8, some (.int x), l10, l11] (.int x :: st) h := xo_iload (k := 9) (by decide +kernel) rfl
set_option maxRecDepth 20000 in
theorem u_L_areCountsSo_251 (L : xL) (st : List Value) (h : xH) : xf 98 251 L st h = xf 98 252 L (.int 5 :: st) h := xo_iconst (k := 5) (by decide +kernel) (by decide)
set_option maxRecDepth 20000 in
theorem u_L_areCountsSo_252 (L : xL) (v0 : Int32) (v1 : Int32) (b : Nat) (st : List Value) (h : xH) (hb : (xob h b).1 = 7) (hl : st.length ≤ 4) : xf 98 252 L (.int v1 :: .int v0 :: .ref b :: st) h = xgo 98 252 255 L st (xev 77 [.ref b, .int v0, .int v1] h) := xo_callV (as := [.int v0, .int v1]) (by decide +kernel) rfl ⟨(by decide +kernel : xna 77 = 2), Nat.le_of_ble_eq_true rfl, rfl, by decide⟩ hb hl
set_option maxRecDepth 20000 in
theorem u_L_areCountsSo_255 (L : xL) (a b : Int32) (st : List Value) (h : xH) : xf 98 255 L (.int b :: .int a :: st) h = xf 98 256 L (.int (a + b) :: st) h := xo_iadd (by decide +kernel)
set_option maxRecDepth 20000 in
theorem u_L_areCountsSo_256 (L : xL) (a b : Int32) (st : List Value) (h : xH) : xf 98 256 L (.int b :: .int a :: st) h = if a = b then xf 98 259 L st h else xf 98 263 L st h := xo_icmp_ne (t := 263) (by decide +kernel) rfl
set_option maxRecDepth 20000 in
theorem u_L_areCountsSo_259 (L : xL) (st : List Value) (h : xH) : xf 98 259 L st h = xf 98 260 L (.int 1 :: st) h := xo_iconst (k := 1) (by decide +kernel) (by decide)
set_option maxRecDepth 20000 in
theorem u_L_areCountsSo_260 (L : xL) (st : List Value) (h : xH) : xf 98 260 L st h = xf 98 264 L st h := xo_goto (n := 263) (t := 264) (by decide +kernel) rfl
set_option maxRecDepth 20000 in
theorem u_L_areCountsSo_263 (L : xL) (st : List Value) (h : xH) : xf 98 263 L st h = xf 98 264 L (.int 0 :: st) h := xo_iconst (k := 0) (by decide +kernel) (by decide)
set_option maxRecDepth 20000 in
theorem u_L_areCountsSo_264 (l0 l1 l2 l3 l4 l5 l6 l7 l8 l9 l10 l11 : Option Value) (x : Int32) (st : List Value) (h : xH) : xf 98 264 [l0, l1, l2, l3, l4, l5, l6, l7, l8, l9, l10, l11] (.int x :: st) h = xf 98 266 [l0, l1, l2, l3, l4, l5, l6, l7, l8, l9, xcat l10, some (.int x)] st h := xo_istore (k := 11) (by decide +kernel) (Nat.le_of_ble_eq_true rfl) rfl
set_option maxRecDepth 20000 in
theorem u_L_areCountsSo_266 (l0 l1 l2 l3 l4 l5 l6 l7 l8 l9 l10 : Option Value) (x : Int32) (st : List Value) (h : xH) : xf 98 266 [l0, l1, l2, l3, l4, l5, l6, l7, l8, l9, l10, some (.int x)] st h = xf 98 268 [l0, l1, l2, l3, l4, l5, l6, l7, l8, l9, l10, some (.int x)] (.int x :: st) h := xo_iload (k := 11) (by decide +kernel) rfl
set_option maxRecDepth 20000 in
theorem u_L_areCountsSo_268 (L : xL) (a : Int32) (st : List Value) (h : xH) : xf 98 268 L (.int a :: st) h = if a = 0 then xf 98 323 L st h else xf 98 271 L st h := xo_if_eq (t := 323) (by decide +kernel) rfl
set_option maxRecDepth 20000 in
theorem u_L_areCountsSo_271 (l1 l2 l3 l4 l5 l6 l7 l8 l9 l10 l11 : Option Value) (x : Nat) (st : List Value) (h : xH) : xf 98 271 [some (.ref x), l1, l2, l3, l4, l5, l6, l7, l8, l9, l10, l11] st h = xf 98 272 [some (.ref x), l1, l2, l3, l4, l5, l6, l7, l8, l9, l10, l11] (.ref x :: st) h := xo_aload (k := 0) (by decide +kernel) rfl
set_option maxRecDepth 20000 in
theorem u_L_areCountsSo_272 (l0 l1 l2 l3 l4 l5 l6 l8 l9 l10 l11 : Option Value) (x : Int32) (st : List Value) (h : xH) : xf 98 272 [l0, l1, l2, l3, l4, l5, l6, some (.int x), l8, l9, l10, l11] st h = xf 98 274 [l0, l1, l2, l3, l4, l5, l6, some (.int x), l8, l9, l10, l11] (.int x :: st) h := xo_iload (k := 7) (by decide +kernel) rfl
set_option maxRecDepth 20000 in
theorem u_L_areCountsSo_274 (L : xL) (st : List Value) (h : xH) : xf 98 274 L st h = xf 98 275 L (.int 4 :: st) h := xo_iconst (k := 4) (by decide +kernel) (by decide)
set_option maxRecDepth 20000 in
theorem u_L_areCountsSo_275 (L : xL) (v0 : Int32) (v1 : Int32) (b : Nat) (st : List Value) (h : xH) (hb : (xob h b).1 = 7) (hl : st.length ≤ 4) : xf 98 275 L (.int v1 :: .int v0 :: .ref b :: st) h = xgo 98 275 278 L st (xev 77 [.ref b, .int v0, .int v1] h) := xo_callV (as := [.int v0, .int v1]) (by decide +kernel) rfl ⟨(by decide +kernel : xna 77 = 2), Nat.le_of_ble_eq_true rfl, rfl, by decide⟩ hb hl
set_option maxRecDepth 20000 in
theorem u_L_areCountsSo_278 (l0 l1 l2 l3 l4 l5 l6 l7 l8 l9 l11 : Option Value) (x : Int32) (st : List Value) (h : xH) : xf 98 278 [l0, l1, l2, l3, l4, l5, l6, l7, l8, l9, some (.int x), l11] st h = xf 98 280 [l0, l1, l2, l3, l4, l5, l6, l7, l8, l9, some (.int x), l11] (.int x :: st) h := xo_iload (k := 10) (by decide +kernel) rfl
set_option maxRecDepth 20000 in
theorem u_L_areCountsSo_280 (L : xL) (st : List Value) (h : xH) : xf 98 280 L st h = xf 98 281 L (.int 1 :: st) h := xo_iconst (k := 1) (by decide +kernel) (by decide)
set_option maxRecDepth 20000 in
theorem u_L_areCountsSo_281 (L : xL) (a b : Int32) (st : List Value) (h : xH) : xf 98 281 L (.int b :: .int a :: st) h = xf 98 282 L (.int (a + b) :: st) h := xo_iadd (by decide +kernel)
set_option maxRecDepth 20000 in
theorem u_L_areCountsSo_282 (L : xL) (a b : Int32) (st : List Value) (h : xH) : xf 98 282 L (.int b :: .int a :: st) h = if a = b then xf 98 285 L st h else xf 98 323 L st h := xo_icmp_ne (t := 323) (by decide +kernel) rfl
set_option maxRecDepth 20000 in
theorem u_L_areCountsSo_285 (l1 l2 l3 l4 l5 l6 l7 l8 l9 l10 l11 : Option Value) (x : Nat) (st : List Value) (h : xH) : xf 98 285 [some (.ref x), l1, l2, l3, l4, l5, l6, l7, l8, l9, l10, l11] st h = xf 98 286 [some (.ref x), l1, l2, l3, l4, l5, l6, l7, l8, l9, l10, l11] (.ref x :: st) h := xo_aload (k := 0) (by decide +kernel) rfl
set_option maxRecDepth 20000 in
theorem u_L_areCountsSo_286 (l0 l1 l2 l3 l4 l5 l6 l8 l9 l10 l11 : Option Value) (x : Int32) (st : List Value) (h : xH) : xf 98 286 [l0, l1, l2, l3, l4, l5, l6, some (.int x), l8, l9, l10, l11] st h = xf 98 288 [l0, l1, l2, l3, l4, l5, l6, some (.int x), l8, l9, l10, l11] (.int x :: st) h := xo_iload (k := 7) (by decide +kernel) rfl
set_option maxRecDepth 20000 in
theorem u_L_areCountsSo_288 (L : xL) (st : List Value) (h : xH) : xf 98 288 L st h = xf 98 290 L (.int 6 :: st) h := xo_iconst (k := 6) (by decide +kernel) (by decide)
set_option maxRecDepth 20000 in
theorem u_L_areCountsSo_290 (L : xL) (v0 : Int32) (v1 : Int32) (b : Nat) (st : List Value) (h : xH) (hb : (xob h b).1 = 7) (hl : st.length ≤ 4) : xf 98 290 L (.int v1 :: .int v0 :: .ref b :: st) h = xgo 98 290 293 L st (xev 77 [.ref b, .int v0, .int v1] h) := xo_callV (as := [.int v0, .int v1]) (by decide +kernel) rfl ⟨(by decide +kernel : xna 77 = 2), Nat.le_of_ble_eq_true rfl, rfl, by decide⟩ hb hl
set_option maxRecDepth 20000 in
theorem u_L_areCountsSo_293 (l1 l2 l3 l4 l5 l6 l7 l8 l9 l10 l11 : Option Value) (x : Nat) (st : List Value) (h : xH) : xf 98 293 [some (.ref x), l1, l2, l3, l4, l5, l6, l7, l8, l9, l10, l11] st h = xf 98 294 [some (.ref x), l1, l2, l3, l4, l5, l6, l7, l8, l9, l10, l11] (.ref x :: st) h := xo_aload (k := 0) (by decide +kernel) rfl
set_option maxRecDepth 20000 in
theorem u_L_areCountsSo_294 (l0 l1 l2 l3 l4 l5 l6 l7 l9 l10 l11 : Option Value) (x : Int32) (st : List Value) (h : xH) : xf 98 294 [l0, l1, l2, l3, l4, l5, l6, l7, some (.int x), l9, l10, l11] st h = xf 98 296 [l0, l1, l2, l3, l4, l5, l6, l7, some (.int x), l9, l10, l11] (.int x :: st) h := xo_iload (k := 8) (by decide +kernel) rfl
set_option maxRecDepth 20000 in
theorem u_L_areCountsSo_296 (L : xL) (st : List Value) (h : xH) : xf 98 296 L st h = xf 98 298 L (.int 6 :: st) h := xo_iconst (k := 6) (by decide +kernel) (by decide)
set_option maxRecDepth 20000 in
theorem u_L_areCountsSo_298 (L : xL) (v0 : Int32) (v1 : Int32) (b : Nat) (st : List Value) (h : xH) (hb : (xob h b).1 = 7) (hl : st.length ≤ 4) : xf 98 298 L (.int v1 :: .int v0 :: .ref b :: st) h = xgo 98 298 301 L st (xev 77 [.ref b, .int v0, .int v1] h) := xo_callV (as := [.int v0, .int v1]) (by decide +kernel) rfl ⟨(by decide +kernel : xna 77 = 2), Nat.le_of_ble_eq_true rfl, rfl, by decide⟩ hb hl
set_option maxRecDepth 20000 in
theorem u_L_areCountsSo_301 (L : xL) (a b : Int32) (st : List Value) (h : xH) : xf 98 301 L (.int b :: .int a :: st) h = if a = b then xf 98 304 L st h else xf 98 323 L st h := xo_icmp_ne (t := 323) (by decide +kernel) rfl
set_option maxRecDepth 20000 in
theorem u_L_areCountsSo_304 (l1 l2 l3 l4 l5 l6 l7 l8 l9 l10 l11 : Option Value) (x : Nat) (st : List Value) (h : xH) : xf 98 304 [some (.ref x), l1, l2, l3, l4, l5, l6, l7, l8, l9, l10, l11] st h = xf 98 305 [some (.ref x), l1, l2, l3, l4, l5, l6, l7, l8, l9, l10, l11] (.ref x :: st) h := xo_aload (k := 0) (by decide +kernel) rfl
set_option maxRecDepth 20000 in
theorem u_L_areCountsSo_305 (l0 l1 l2 l3 l4 l5 l6 l8 l9 l10 l11 : Option Value) (x : Int32) (st : List Value) (h : xH) : xf 98 305 [l0, l1, l2, l3, l4, l5, l6, some (.int x), l8, l9, l10, l11] st h = xf 98 307 [l0, l1, l2, l3, l4, l5, l6, some (.int x), l8, l9, l10, l11] (.int x :: st) h := xo_iload (k := 7) (by decide +kernel) rfl
set_option maxRecDepth 20000 in
theorem u_L_areCountsSo_307 (L : xL) (st : List Value) (h : xH) : xf 98 307 L st h = xf 98 309 L (.int 7 :: st) h := xo_iconst (k := 7) (by decide +kernel) (by decide)
set_option maxRecDepth 20000 in
theorem u_L_areCountsSo_309 (L : xL) (v0 : Int32) (v1 : Int32) (b : Nat) (st : List Value) (h : xH) (hb : (xob h b).1 = 7) (hl : st.length ≤ 4) : xf 98 309 L (.int v1 :: .int v0 :: .ref b :: st) h = xgo 98 309 312 L st (xev 77 [.ref b, .int v0, .int v1] h) := xo_callV (as := [.int v0, .int v1]) (by decide +kernel) rfl ⟨(by decide +kernel : xna 77 = 2), Nat.le_of_ble_eq_true rfl, rfl, by decide⟩ hb hl
set_option maxRecDepth 20000 in
theorem u_L_areCountsSo_312 (l1 l2 l3 l4 l5 l6 l7 l8 l9 l10 l11 : Option Value) (x : Nat) (st : List Value) (h : xH) : xf 98 312 [some (.ref x), l1, l2, l3, l4, l5, l6, l7, l8, l9, l10, l11] st h = xf 98 313 [some (.ref x), l1, l2, l3, l4, l5, l6, l7, l8, l9, l10, l11] (.ref x :: st) h := xo_aload (k := 0) (by decide +kernel) rfl
set_option maxRecDepth 20000 in
theorem u_L_areCountsSo_313 (l0 l1 l2 l3 l4 l5 l6 l7 l8 l10 l11 : Option Value) (x : Int32) (st : List Value) (h : xH) : xf 98 313 [l0, l1, l2, l3, l4, l5, l6, l7, l8, some (.int x), l10, l11] st h = xf 98 315 [l0, l1, l2, l3, l4, l5, l6, l7, l8, some (.int x), l10, l11] (.int x :: st) h := xo_iload (k := 9) (by decide +kernel) rfl
set_option maxRecDepth 20000 in
theorem u_L_areCountsSo_315 (L : xL) (st : List Value) (h : xH) : xf 98 315 L st h = xf 98 317 L (.int 7 :: st) h := xo_iconst (k := 7) (by decide +kernel) (by decide)
set_option maxRecDepth 20000 in
theorem u_L_areCountsSo_317 (L : xL) (v0 : Int32) (v1 : Int32) (b : Nat) (st : List Value) (h : xH) (hb : (xob h b).1 = 7) (hl : st.length ≤ 4) : xf 98 317 L (.int v1 :: .int v0 :: .ref b :: st) h = xgo 98 317 320 L st (xev 77 [.ref b, .int v0, .int v1] h) := xo_callV (as := [.int v0, .int v1]) (by decide +kernel) rfl ⟨(by decide +kernel : xna 77 = 2), Nat.le_of_ble_eq_true rfl, rfl, by decide⟩ hb hl
set_option maxRecDepth 20000 in
theorem u_L_areCountsSo_320 (L : xL) (a b : Int32) (st : List Value) (h : xH) : xf 98 320 L (.int b :: .int a :: st) h = if a = b then xf 98 325 L st h else xf 98 323 L st h := xo_icmp_eq (t := 325) (by decide +kernel) rfl
set_option maxRecDepth 20000 in
theorem u_L_areCountsSo_323 (L : xL) (st : List Value) (h : xH) : xf 98 323 L st h = xf 98 324 L (.int 0 :: st) h := xo_iconst (k := 0) (by decide +kernel) (by decide)
set_option maxRecDepth 20000 in
theorem u_L_areCountsSo_324 (L : xL) (x : Int32) (h : xH) (hv : x = 0 ∨ x = 1) : xf 98 324 L [.int x] h = some (.inl (some (.int x)), h) := xo_ireturn (n := 325) (by decide +kernel) (by rcases hv with rfl | rfl <;> rfl)
set_option maxRecDepth 20000 in
theorem u_L_areCountsSo_325 (l0 l1 l2 l3 l4 l5 l7 l8 l9 l10 l11 : Option Value) (x : Int32) (st : List Value) (h : xH) : xf 98 325 [l0, l1, l2, l3, l4, l5, some (.int x), l7, l8, l9, l10, l11] st h = xf 98 328 [l0, l1, l2, l3, l4, xcat l5, some (.int (x + 1)), l7, l8, l9, l10, l11] st h := xo_iinc (k := 6) (c := 1) (by decide +kernel) rfl (by decide) rfl
set_option maxRecDepth 20000 in
theorem u_L_areCountsSo_328 (l0 l1 l2 l3 l5 l6 l7 l8 l9 l10 l11 : Option Value) (x : Int32) (st : List Value) (h : xH) : xf 98 328 [l0, l1, l2, l3, some (.int x), l5, l6, l7, l8, l9, l10, l11] st h = xf 98 330 [l0, l1, l2, l3, some (.int x), l5, l6, l7, l8, l9, l10, l11] (.int x :: st) h := xo_iload (k := 4) (by decide +kernel) rfl
set_option maxRecDepth 20000 in
theorem u_L_areCountsSo_330 (l1 l2 l3 l4 l5 l6 l7 l8 l9 l10 l11 : Option Value) (x : Nat) (st : List Value) (h : xH) : xf 98 330 [some (.ref x), l1, l2, l3, l4, l5, l6, l7, l8, l9, l10, l11] st h = xf 98 331 [some (.ref x), l1, l2, l3, l4, l5, l6, l7, l8, l9, l10, l11] (.ref x :: st) h := xo_aload (k := 0) (by decide +kernel) rfl
set_option maxRecDepth 20000 in
theorem u_L_areCountsSo_331 (l0 l1 l2 l3 l4 l5 l6 l8 l9 l10 l11 : Option Value) (x : Int32) (st : List Value) (h : xH) : xf 98 331 [l0, l1, l2, l3, l4, l5, l6, some (.int x), l8, l9, l10, l11] st h = xf 98 333 [l0, l1, l2, l3, l4, l5, l6, some (.int x), l8, l9, l10, l11] (.int x :: st) h := xo_iload (k := 7) (by decide +kernel) rfl
set_option maxRecDepth 20000 in
theorem u_L_areCountsSo_333 (L : xL) (st : List Value) (h : xH) : xf 98 333 L st h = xf 98 334 L (.int 3 :: st) h := xo_iconst (k := 3) (by decide +kernel) (by decide)
set_option maxRecDepth 20000 in
theorem u_L_areCountsSo_334 (L : xL) (v0 : Int32) (v1 : Int32) (b : Nat) (st : List Value) (h : xH) (hb : (xob h b).1 = 7) (hl : st.length ≤ 4) : xf 98 334 L (.int v1 :: .int v0 :: .ref b :: st) h = xgo 98 334 337 L st (xev 77 [.ref b, .int v0, .int v1] h) := xo_callV (as := [.int v0, .int v1]) (by decide +kernel) rfl ⟨(by decide +kernel : xna 77 = 2), Nat.le_of_ble_eq_true rfl, rfl, by decide⟩ hb hl
set_option maxRecDepth 20000 in
theorem u_L_areCountsSo_337 (L : xL) (a b : Int32) (st : List Value) (h : xH) : xf 98 337 L (.int b :: .int a :: st) h = xf 98 338 L (.int (a + b) :: st) h := xo_iadd (by decide +kernel)
set_option maxRecDepth 20000 in
theorem u_L_areCountsSo_338 (l0 l1 l2 l3 l4 l5 l6 l7 l8 l9 l10 l11 : Option Value) (x : Int32) (st : List Value) (h : xH) : xf 98 338 [l0, l1, l2, l3, l4, l5, l6, l7, l8, l9, l10, l11] (.int x :: st) h = xf 98 340 [l0, l1, l2, xcat l3, some (.int x), l5, l6, l7, l8, l9, l10, l11] st h := xo_istore (k := 4) (by decide +kernel) (Nat.le_of_ble_eq_true rfl) rfl
set_option maxRecDepth 20000 in
theorem u_L_areCountsSo_340 (l0 l1 l2 l3 l4 l6 l7 l8 l9 l10 l11 : Option Value) (x : Int32) (st : List Value) (h : xH) : xf 98 340 [l0, l1, l2, l3, l4, some (.int x), l6, l7, l8, l9, l10, l11] st h = xf 98 342 [l0, l1, l2, l3, l4, some (.int x), l6, l7, l8, l9, l10, l11] (.int x :: st) h := xo_iload (k := 5) (by decide +kernel) rfl
set_option maxRecDepth 20000 in
theorem u_L_areCountsSo_342 (l1 l2 l3 l4 l5 l6 l7 l8 l9 l10 l11 : Option Value) (x : Nat) (st : List Value) (h : xH) : xf 98 342 [some (.ref x), l1, l2, l3, l4, l5, l6, l7, l8, l9, l10, l11] st h = xf 98 343 [some (.ref x), l1, l2, l3, l4, l5, l6, l7, l8, l9, l10, l11] (.ref x :: st) h := xo_aload (k := 0) (by decide +kernel) rfl
set_option maxRecDepth 20000 in
theorem u_L_areCountsSo_343 (l0 l1 l2 l3 l4 l5 l6 l8 l9 l10 l11 : Option Value) (x : Int32) (st : List Value) (h : xH) : xf 98 343 [l0, l1, l2, l3, l4, l5, l6, some (.int x), l8, l9, l10, l11] st h = xf 98 345 [l0, l1, l2, l3, l4, l5, l6, some (.int x), l8, l9, l10, l11] (.int x :: st) h := xo_iload (k := 7) (by decide +kernel) rfl
set_option maxRecDepth 20000 in
theorem u_L_areCountsSo_345 (L : xL) (st : List Value) (h : xH) : xf 98 345 L st h = xf 98 346 L (.int 3 :: st) h := xo_iconst (k := 3) (by decide +kernel) (by decide)
set_option maxRecDepth 20000 in
theorem u_L_areCountsSo_346 (L : xL) (v0 : Int32) (v1 : Int32) (b : Nat) (st : List Value) (h : xH) (hb : (xob h b).1 = 7) (hl : st.length ≤ 4) : xf 98 346 L (.int v1 :: .int v0 :: .ref b :: st) h = xgo 98 346 349 L st (xev 77 [.ref b, .int v0, .int v1] h) := xo_callV (as := [.int v0, .int v1]) (by decide +kernel) rfl ⟨(by decide +kernel : xna 77 = 2), Nat.le_of_ble_eq_true rfl, rfl, by decide⟩ hb hl
set_option maxRecDepth 20000 in
theorem u_L_areCountsSo_349 (L : xL) (a : Int32) (st : List Value) (h : xH) : xf 98 349 L (.int a :: st) h = if 0 < a then xf 98 352 L st h else xf 98 356 L st h := xo_if_le (t := 356) (by decide +kernel) rfl
set_option maxRecDepth 20000 in
theorem u_L_areCountsSo_352 (L : xL) (st : List Value) (h : xH) : xf 98 352 L st h = xf 98 353 L (.int 1 :: st) h := xo_iconst (k := 1) (by decide +kernel) (by decide)
set_option maxRecDepth 20000 in
theorem u_L_areCountsSo_353 (L : xL) (st : List Value) (h : xH) : xf 98 353 L st h = xf 98 357 L st h := xo_goto (n := 356) (t := 357) (by decide +kernel) rfl
set_option maxRecDepth 20000 in
theorem u_L_areCountsSo_356 (L : xL) (st : List Value) (h : xH) : xf 98 356 L st h = xf 98 357 L (.int 0 :: st) h := xo_iconst (k := 0) (by decide +kernel) (by decide)
set_option maxRecDepth 20000 in
theorem u_L_areCountsSo_357 (L : xL) (a b : Int32) (st : List Value) (h : xH) : xf 98 357 L (.int b :: .int a :: st) h = xf 98 358 L (.int (a + b) :: st) h := xo_iadd (by decide +kernel)
set_option maxRecDepth 20000 in
theorem u_L_areCountsSo_358 (l0 l1 l2 l3 l4 l5 l6 l7 l8 l9 l10 l11 : Option Value) (x : Int32) (st : List Value) (h : xH) : xf 98 358 [l0, l1, l2, l3, l4, l5, l6, l7, l8, l9, l10, l11] (.int x :: st) h = xf 98 360 [l0, l1, l2, l3, xcat l4, some (.int x), l6, l7, l8, l9, l10, l11] st h := xo_istore (k := 5) (by decide +kernel) (Nat.le_of_ble_eq_true rfl) rfl
set_option maxRecDepth 20000 in
theorem u_L_areCountsSo_360 (l0 l1 l2 l3 l4 l5 l6 l8 l9 l10 l11 : Option Value) (x : Int32) (st : List Value) (h : xH) : xf 98 360 [l0, l1, l2, l3, l4, l5, l6, some (.int x), l8, l9, l10, l11] st h = xf 98 363 [l0, l1, l2, l3, l4, l5, xcat l6, some (.int (x + 1)), l8, l9, l10, l11] st h := xo_iinc (k := 7) (c := 1) (by decide +kernel) rfl (by decide) rfl
set_option maxRecDepth 20000 in
theorem u_L_areCountsSo_363 (L : xL) (st : List Value) (h : xH) : xf 98 363 L st h = xf 98 136 L st h := xo_goto (n := 366) (t := 136) (by decide +kernel) rfl
set_option maxRecDepth 20000 in
theorem u_L_areCountsSo_366 (l0 l2 l3 l4 l5 l6 l7 l8 l9 l10 l11 : Option Value) (x : Int32) (st : List Value) (h : xH) : xf 98 366 [l0, some (.int x), l2, l3, l4, l5, l6, l7, l8, l9, l10, l11] st h = xf 98 367 [l0, some (.int x), l2, l3, l4, l5, l6, l7, l8, l9, l10, l11] (.int x :: st) h := xo_iload (k := 1) (by decide +kernel) rfl
set_option maxRecDepth 20000 in
theorem u_L_areCountsSo_367 (l1 l2 l3 l4 l5 l6 l7 l8 l9 l10 l11 : Option Value) (x : Nat) (st : List Value) (h : xH) : xf 98 367 [some (.ref x), l1, l2, l3, l4, l5, l6, l7, l8, l9, l10, l11] st h = xf 98 368 [some (.ref x), l1, l2, l3, l4, l5, l6, l7, l8, l9, l10, l11] (.ref x :: st) h := xo_aload (k := 0) (by decide +kernel) rfl
set_option maxRecDepth 20000 in
theorem u_L_areCountsSo_368 (L : xL) (st : List Value) (h : xH) : xf 98 368 L st h = xf 98 369 L (.int 2 :: st) h := xo_iconst (k := 2) (by decide +kernel) (by decide)
set_option maxRecDepth 20000 in
theorem u_L_areCountsSo_369 (L : xL) (v0 : Int32) (b : Nat) (st : List Value) (h : xH) (hb : (xob h b).1 = 7) (hl : st.length ≤ 4) : xf 98 369 L (.int v0 :: .ref b :: st) h = xgo 98 369 372 L st (xev 80 [.ref b, .int v0] h) := xo_callV (as := [.int v0]) (by decide +kernel) rfl ⟨(by decide +kernel : xna 80 = 1), Nat.le_of_ble_eq_true rfl, rfl, by decide⟩ hb hl
set_option maxRecDepth 20000 in
theorem u_L_areCountsSo_372 (L : xL) (a b : Int32) (st : List Value) (h : xH) : xf 98 372 L (.int b :: .int a :: st) h = if a = b then xf 98 375 L st h else xf 98 423 L st h := xo_icmp_ne (t := 423) (by decide +kernel) rfl
set_option maxRecDepth 20000 in
theorem u_L_areCountsSo_375 (l0 l1 l3 l4 l5 l6 l7 l8 l9 l10 l11 : Option Value) (x : Int32) (st : List Value) (h : xH) : xf 98 375 [l0, l1, some (.int x), l3, l4, l5, l6, l7, l8, l9, l10, l11] st h = xf 98 376 [l0, l1, some (.int x), l3, l4, l5, l6, l7, l8, l9, l10, l11] (.int x :: st) h := xo_iload (k := 2) (by decide +kernel) rfl
set_option maxRecDepth 20000 in
theorem u_L_areCountsSo_376 (l0 l2 l3 l4 l5 l6 l7 l8 l9 l10 l11 : Option Value) (x : Int32) (st : List Value) (h : xH) : xf 98 376 [l0, some (.int x), l2, l3, l4, l5, l6, l7, l8, l9, l10, l11] st h = xf 98 377 [l0, some (.int x), l2, l3, l4, l5, l6, l7, l8, l9, l10, l11] (.int x :: st) h := xo_iload (k := 1) (by decide +kernel) rfl
set_option maxRecDepth 20000 in
theorem u_L_areCountsSo_377 (L : xL) (a b : Int32) (st : List Value) (h : xH) : xf 98 377 L (.int b :: .int a :: st) h = if a = b then xf 98 380 L st h else xf 98 423 L st h := xo_icmp_ne (t := 423) (by decide +kernel) rfl
set_option maxRecDepth 20000 in
theorem u_L_areCountsSo_380 (l0 l1 l2 l4 l5 l6 l7 l8 l9 l10 l11 : Option Value) (x : Int32) (st : List Value) (h : xH) : xf 98 380 [l0, l1, l2, some (.int x), l4, l5, l6, l7, l8, l9, l10, l11] st h = xf 98 381 [l0, l1, l2, some (.int x), l4, l5, l6, l7, l8, l9, l10, l11] (.int x :: st) h := xo_iload (k := 3) (by decide +kernel) rfl
set_option maxRecDepth 20000 in
theorem u_L_areCountsSo_381 (l1 l2 l3 l4 l5 l6 l7 l8 l9 l10 l11 : Option Value) (x : Nat) (st : List Value) (h : xH) : xf 98 381 [some (.ref x), l1, l2, l3, l4, l5, l6, l7, l8, l9, l10, l11] st h = xf 98 382 [some (.ref x), l1, l2, l3, l4, l5, l6, l7, l8, l9, l10, l11] (.ref x :: st) h := xo_aload (k := 0) (by decide +kernel) rfl
set_option maxRecDepth 20000 in
theorem u_L_areCountsSo_382 (L : xL) (st : List Value) (h : xH) : xf 98 382 L st h = xf 98 383 L (.int 4 :: st) h := xo_iconst (k := 4) (by decide +kernel) (by decide)
set_option maxRecDepth 20000 in
theorem u_L_areCountsSo_383 (L : xL) (v0 : Int32) (b : Nat) (st : List Value) (h : xH) (hb : (xob h b).1 = 7) (hl : st.length ≤ 4) : xf 98 383 L (.int v0 :: .ref b :: st) h = xgo 98 383 386 L st (xev 80 [.ref b, .int v0] h) := xo_callV (as := [.int v0]) (by decide +kernel) rfl ⟨(by decide +kernel : xna 80 = 1), Nat.le_of_ble_eq_true rfl, rfl, by decide⟩ hb hl
set_option maxRecDepth 20000 in
theorem u_L_areCountsSo_386 (L : xL) (a b : Int32) (st : List Value) (h : xH) : xf 98 386 L (.int b :: .int a :: st) h = if a = b then xf 98 389 L st h else xf 98 423 L st h := xo_icmp_ne (t := 423) (by decide +kernel) rfl
set_option maxRecDepth 20000 in
theorem u_L_areCountsSo_389 (l0 l1 l2 l3 l5 l6 l7 l8 l9 l10 l11 : Option Value) (x : Int32) (st : List Value) (h : xH) : xf 98 389 [l0, l1, l2, l3, some (.int x), l5, l6, l7, l8, l9, l10, l11] st h = xf 98 391 [l0, l1, l2, l3, some (.int x), l5, l6, l7, l8, l9, l10, l11] (.int x :: st) h := xo_iload (k := 4) (by decide +kernel) rfl
set_option maxRecDepth 20000 in
theorem u_L_areCountsSo_391 (l1 l2 l3 l4 l5 l6 l7 l8 l9 l10 l11 : Option Value) (x : Nat) (st : List Value) (h : xH) : xf 98 391 [some (.ref x), l1, l2, l3, l4, l5, l6, l7, l8, l9, l10, l11] st h = xf 98 392 [some (.ref x), l1, l2, l3, l4, l5, l6, l7, l8, l9, l10, l11] (.ref x :: st) h := xo_aload (k := 0) (by decide +kernel) rfl
set_option maxRecDepth 20000 in
theorem u_L_areCountsSo_392 (L : xL) (st : List Value) (h : xH) : xf 98 392 L st h = xf 98 393 L (.int 0 :: st) h := xo_iconst (k := 0) (by decide +kernel) (by decide)
set_option maxRecDepth 20000 in
theorem u_L_areCountsSo_393 (L : xL) (v0 : Int32) (b : Nat) (st : List Value) (h : xH) (hb : (xob h b).1 = 7) (hl : st.length ≤ 4) : xf 98 393 L (.int v0 :: .ref b :: st) h = xgo 98 393 396 L st (xev 80 [.ref b, .int v0] h) := xo_callV (as := [.int v0]) (by decide +kernel) rfl ⟨(by decide +kernel : xna 80 = 1), Nat.le_of_ble_eq_true rfl, rfl, by decide⟩ hb hl
set_option maxRecDepth 20000 in
theorem u_L_areCountsSo_396 (L : xL) (a b : Int32) (st : List Value) (h : xH) : xf 98 396 L (.int b :: .int a :: st) h = if a = b then xf 98 399 L st h else xf 98 423 L st h := xo_icmp_ne (t := 423) (by decide +kernel) rfl
set_option maxRecDepth 20000 in
theorem u_L_areCountsSo_399 (l0 l1 l2 l3 l4 l6 l7 l8 l9 l10 l11 : Option Value) (x : Int32) (st : List Value) (h : xH) : xf 98 399 [l0, l1, l2, l3, l4, some (.int x), l6, l7, l8, l9, l10, l11] st h = xf 98 401 [l0, l1, l2, l3, l4, some (.int x), l6, l7, l8, l9, l10, l11] (.int x :: st) h := xo_iload (k := 5) (by decide +kernel) rfl
set_option maxRecDepth 20000 in
theorem u_L_areCountsSo_401 (l1 l2 l3 l4 l5 l6 l7 l8 l9 l10 l11 : Option Value) (x : Nat) (st : List Value) (h : xH) : xf 98 401 [some (.ref x), l1, l2, l3, l4, l5, l6, l7, l8, l9, l10, l11] st h = xf 98 402 [some (.ref x), l1, l2, l3, l4, l5, l6, l7, l8, l9, l10, l11] (.ref x :: st) h := xo_aload (k := 0) (by decide +kernel) rfl
set_option maxRecDepth 20000 in
theorem u_L_areCountsSo_402 (L : xL) (st : List Value) (h : xH) : xf 98 402 L st h = xf 98 403 L (.int 3 :: st) h := xo_iconst (k := 3) (by decide +kernel) (by decide)
set_option maxRecDepth 20000 in
theorem u_L_areCountsSo_403 (L : xL) (v0 : Int32) (b : Nat) (st : List Value) (h : xH) (hb : (xob h b).1 = 7) (hl : st.length ≤ 4) : xf 98 403 L (.int v0 :: .ref b :: st) h = xgo 98 403 406 L st (xev 80 [.ref b, .int v0] h) := xo_callV (as := [.int v0]) (by decide +kernel) rfl ⟨(by decide +kernel : xna 80 = 1), Nat.le_of_ble_eq_true rfl, rfl, by decide⟩ hb hl
set_option maxRecDepth 20000 in
theorem u_L_areCountsSo_406 (L : xL) (a b : Int32) (st : List Value) (h : xH) : xf 98 406 L (.int b :: .int a :: st) h = if a = b then xf 98 409 L st h else xf 98 423 L st h := xo_icmp_ne (t := 423) (by decide +kernel) rfl
set_option maxRecDepth 20000 in
theorem u_L_areCountsSo_409 (l0 l1 l2 l3 l4 l5 l7 l8 l9 l10 l11 : Option Value) (x : Int32) (st : List Value) (h : xH) : xf 98 409 [l0, l1, l2, l3, l4, l5, some (.int x), l7, l8, l9, l10, l11] st h = xf 98 411 [l0, l1, l2, l3, l4, l5, some (.int x), l7, l8, l9, l10, l11] (.int x :: st) h := xo_iload (k := 6) (by decide +kernel) rfl
set_option maxRecDepth 20000 in
theorem u_L_areCountsSo_411 (l1 l2 l3 l4 l5 l6 l7 l8 l9 l10 l11 : Option Value) (x : Nat) (st : List Value) (h : xH) : xf 98 411 [some (.ref x), l1, l2, l3, l4, l5, l6, l7, l8, l9, l10, l11] st h = xf 98 412 [some (.ref x), l1, l2, l3, l4, l5, l6, l7, l8, l9, l10, l11] (.ref x :: st) h := xo_aload (k := 0) (by decide +kernel) rfl
set_option maxRecDepth 20000 in
theorem u_L_areCountsSo_412 (L : xL) (st : List Value) (h : xH) : xf 98 412 L st h = xf 98 413 L (.int 1 :: st) h := xo_iconst (k := 1) (by decide +kernel) (by decide)
set_option maxRecDepth 20000 in
theorem u_L_areCountsSo_413 (L : xL) (v0 : Int32) (b : Nat) (st : List Value) (h : xH) (hb : (xob h b).1 = 7) (hl : st.length ≤ 4) : xf 98 413 L (.int v0 :: .ref b :: st) h = xgo 98 413 416 L st (xev 80 [.ref b, .int v0] h) := xo_callV (as := [.int v0]) (by decide +kernel) rfl ⟨(by decide +kernel : xna 80 = 1), Nat.le_of_ble_eq_true rfl, rfl, by decide⟩ hb hl
set_option maxRecDepth 20000 in
theorem u_L_areCountsSo_416 (L : xL) (a b : Int32) (st : List Value) (h : xH) : xf 98 416 L (.int b :: .int a :: st) h = if a = b then xf 98 419 L st h else xf 98 423 L st h := xo_icmp_ne (t := 423) (by decide +kernel) rfl
set_option maxRecDepth 20000 in
theorem u_L_areCountsSo_419 (L : xL) (st : List Value) (h : xH) : xf 98 419 L st h = xf 98 420 L (.int 1 :: st) h := xo_iconst (k := 1) (by decide +kernel) (by decide)
set_option maxRecDepth 20000 in
theorem u_L_areCountsSo_420 (L : xL) (st : List Value) (h : xH) : xf 98 420 L st h = xf 98 424 L st h := xo_goto (n := 423) (t := 424) (by decide +kernel) rfl
set_option maxRecDepth 20000 in
theorem u_L_areCountsSo_423 (L : xL) (st : List Value) (h : xH) : xf 98 423 L st h = xf 98 424 L (.int 0 :: st) h := xo_iconst (k := 0) (by decide +kernel) (by decide)
set_option maxRecDepth 20000 in
theorem u_L_areCountsSo_424 (l0 l1 l2 l3 l4 l5 l6 l7 l8 l9 l10 l11 : Option Value) (x : Int32) (st : List Value) (h : xH) : xf 98 424 [l0, l1, l2, l3, l4, l5, l6, l7, l8, l9, l10, l11] (.int x :: st) h = xf 98 426 [l0, l1, l2, l3, l4, l5, xcat l6, some (.int x), l8, l9, l10, l11] st h := xo_istore (k := 7) (by decide +kernel) (Nat.le_of_ble_eq_true rfl) rfl
set_option maxRecDepth 20000 in
theorem u_L_areCountsSo_426 (l0 l1 l2 l3 l4 l5 l6 l8 l9 l10 l11 : Option Value) (x : Int32) (st : List Value) (h : xH) : xf 98 426 [l0, l1, l2, l3, l4, l5, l6, some (.int x), l8, l9, l10, l11] st h = xf 98 428 [l0, l1, l2, l3, l4, l5, l6, some (.int x), l8, l9, l10, l11] (.int x :: st) h := xo_iload (k := 7) (by decide +kernel) rfl
set_option maxRecDepth 20000 in
theorem u_L_areCountsSo_428 (L : xL) (a : Int32) (st : List Value) (h : xH) : xf 98 428 L (.int a :: st) h = if a = 0 then xf 98 475 L st h else xf 98 431 L st h := xo_if_eq (t := 475) (by decide +kernel) rfl
set_option maxRecDepth 20000 in
theorem u_L_areCountsSo_431 (l1 l2 l3 l4 l5 l6 l7 l8 l9 l10 l11 : Option Value) (x : Nat) (st : List Value) (h : xH) : xf 98 431 [some (.ref x), l1, l2, l3, l4, l5, l6, l7, l8, l9, l10, l11] st h = xf 98 432 [some (.ref x), l1, l2, l3, l4, l5, l6, l7, l8, l9, l10, l11] (.ref x :: st) h := xo_aload (k := 0) (by decide +kernel) rfl
set_option maxRecDepth 20000 in
theorem u_L_areCountsSo_432 (L : xL) (st : List Value) (h : xH) : xf 98 432 L st h = xf 98 433 L (.int 5 :: st) h := xo_iconst (k := 5) (by decide +kernel) (by decide)
set_option maxRecDepth 20000 in
theorem u_L_areCountsSo_433 (L : xL) (v0 : Int32) (b : Nat) (st : List Value) (h : xH) (hb : (xob h b).1 = 7) (hl : st.length ≤ 4) : xf 98 433 L (.int v0 :: .ref b :: st) h = xgo 98 433 436 L st (xev 80 [.ref b, .int v0] h) := xo_callV (as := [.int v0]) (by decide +kernel) rfl ⟨(by decide +kernel : xna 80 = 1), Nat.le_of_ble_eq_true rfl, rfl, by decide⟩ hb hl
set_option maxRecDepth 20000 in
theorem u_L_areCountsSo_436 (l1 l2 l3 l4 l5 l6 l7 l8 l9 l10 l11 : Option Value) (x : Nat) (st : List Value) (h : xH) : xf 98 436 [some (.ref x), l1, l2, l3, l4, l5, l6, l7, l8, l9, l10, l11] st h = xf 98 437 [some (.ref x), l1, l2, l3, l4, l5, l6, l7, l8, l9, l10, l11] (.ref x :: st) h := xo_aload (k := 0) (by decide +kernel) rfl
set_option maxRecDepth 20000 in
theorem u_L_areCountsSo_437 (L : xL) (st : List Value) (h : xH) : xf 98 437 L st h = xf 98 438 L (.int 0 :: st) h := xo_iconst (k := 0) (by decide +kernel) (by decide)
set_option maxRecDepth 20000 in
theorem u_L_areCountsSo_438 (L : xL) (v0 : Int32) (b : Nat) (st : List Value) (h : xH) (hb : (xob h b).1 = 7) (hl : st.length ≤ 4) : xf 98 438 L (.int v0 :: .ref b :: st) h = xgo 98 438 441 L st (xev 80 [.ref b, .int v0] h) := xo_callV (as := [.int v0]) (by decide +kernel) rfl ⟨(by decide +kernel : xna 80 = 1), Nat.le_of_ble_eq_true rfl, rfl, by decide⟩ hb hl
set_option maxRecDepth 20000 in
theorem u_L_areCountsSo_441 (L : xL) (st : List Value) (h : xH) : xf 98 441 L st h = xf 98 442 L (.int 2 :: st) h := xo_iconst (k := 2) (by decide +kernel) (by decide)
set_option maxRecDepth 20000 in
theorem u_L_areCountsSo_442 (l0 l1 l2 l3 l4 l5 l7 l8 l9 l10 l11 : Option Value) (x : Int32) (st : List Value) (h : xH) : xf 98 442 [l0, l1, l2, l3, l4, l5, some (.int x), l7, l8, l9, l10, l11] st h = xf 98 444 [l0, l1, l2, l3, l4, l5, some (.int x), l7, l8, l9, l10, l11] (.int x :: st) h := xo_iload (k := 6) (by decide +kernel) rfl
set_option maxRecDepth 20000 in
theorem u_L_areCountsSo_444 (L : xL) (a b : Int32) (st : List Value) (h : xH) : xf 98 444 L (.int b :: .int a :: st) h = xf 98 445 L (.int (a * b) :: st) h := xo_imul (by decide +kernel)
set_option maxRecDepth 20000 in
theorem u_L_areCountsSo_445 (L : xL) (a b : Int32) (st : List Value) (h : xH) : xf 98 445 L (.int b :: .int a :: st) h = xf 98 446 L (.int (a + b) :: st) h := xo_iadd (by decide +kernel)
set_option maxRecDepth 20000 in
theorem u_L_areCountsSo_446 (L : xL) (a b : Int32) (st : List Value) (h : xH) : xf 98 446 L (.int b :: .int a :: st) h = if a = b then xf 98 449 L st h else xf 98 475 L st h := xo_icmp_ne (t := 475) (by decide +kernel) rfl
set_option maxRecDepth 20000 in
theorem u_L_areCountsSo_449 (l1 l2 l3 l4 l5 l6 l7 l8 l9 l10 l11 : Option Value) (x : Nat) (st : List Value) (h : xH) : xf 98 449 [some (.ref x), l1, l2, l3, l4, l5, l6, l7, l8, l9, l10, l11] st h = xf 98 450 [some (.ref x), l1, l2, l3, l4, l5, l6, l7, l8, l9, l10, l11] (.ref x :: st) h := xo_aload (k := 0) (by decide +kernel) rfl
set_option maxRecDepth 20000 in
theorem u_L_areCountsSo_450 (l1 l2 l3 l4 l5 l6 l7 l8 l9 l10 l11 : Option Value) (x : Nat) (st : List Value) (h : xH) : xf 98 450 [some (.ref x), l1, l2, l3, l4, l5, l6, l7, l8, l9, l10, l11] st h = xf 98 451 [some (.ref x), l1, l2, l3, l4, l5, l6, l7, l8, l9, l10, l11] (.ref x :: st) h := xo_aload (k := 0) (by decide +kernel) rfl
set_option maxRecDepth 20000 in
theorem u_L_areCountsSo_451 (L : xL) (st : List Value) (h : xH) : xf 98 451 L st h = xf 98 452 L (.int 0 :: st) h := xo_iconst (k := 0) (by decide +kernel) (by decide)
set_option maxRecDepth 20000 in
theorem u_L_areCountsSo_452 (L : xL) (v0 : Int32) (b : Nat) (st : List Value) (h : xH) (hb : (xob h b).1 = 7) (hl : st.length ≤ 4) : xf 98 452 L (.int v0 :: .ref b :: st) h = xgo 98 452 455 L st (xev 80 [.ref b, .int v0] h) := xo_callV (as := [.int v0]) (by decide +kernel) rfl ⟨(by decide +kernel : xna 80 = 1), Nat.le_of_ble_eq_true rfl, rfl, by decide⟩ hb hl
set_option maxRecDepth 20000 in
theorem u_L_areCountsSo_455 (L : xL) (v0 : Int32) (b : Nat) (st : List Value) (h : xH) (hb : (xob h b).1 = 7) (hl : st.length ≤ 4) : xf 98 455 L (.int v0 :: .ref b :: st) h = xgo 98 455 458 L st (xev 75 [.ref b, .int v0] h) := xo_callV (as := [.int v0]) (by decide +kernel) rfl ⟨(by decide +kernel : xna 75 = 1), Nat.le_of_ble_eq_true rfl, rfl, by decide⟩ hb hl
set_option maxRecDepth 20000 in
theorem u_L_areCountsSo_458 (L : xL) (st : List Value) (h : xH) : xf 98 458 L st h = xf 98 459 L (.int (-1) :: st) h := xo_iconst (k := (-1)) (by decide +kernel) (by decide)
set_option maxRecDepth 20000 in
theorem u_L_areCountsSo_459 (L : xL) (a b : Int32) (st : List Value) (h : xH) : xf 98 459 L (.int b :: .int a :: st) h = if a = b then xf 98 462 L st h else xf 98 475 L st h := xo_icmp_ne (t := 475) (by decide +kernel) rfl
set_option maxRecDepth 20000 in
theorem u_L_areCountsSo_462 (l1 l2 l3 l4 l5 l6 l7 l8 l9 l10 l11 : Option Value) (x : Nat) (st : List Value) (h : xH) : xf 98 462 [some (.ref x), l1, l2, l3, l4, l5, l6, l7, l8, l9, l10, l11] st h = xf 98 463 [some (.ref x), l1, l2, l3, l4, l5, l6, l7, l8, l9, l10, l11] (.ref x :: st) h := xo_aload (k := 0) (by decide +kernel) rfl
set_option maxRecDepth 20000 in
theorem u_L_areCountsSo_463 (l0 l2 l3 l4 l5 l6 l7 l8 l9 l10 l11 : Option Value) (x : Int32) (st : List Value) (h : xH) : xf 98 463 [l0, some (.int x), l2, l3, l4, l5, l6, l7, l8, l9, l10, l11] st h = xf 98 464 [l0, some (.int x), l2, l3, l4, l5, l6, l7, l8, l9, l10, l11] (.int x :: st) h := xo_iload (k := 1) (by decide +kernel) rfl
set_option maxRecDepth 20000 in
theorem u_L_areCountsSo_464 (L : xL) (v0 : Int32) (b : Nat) (st : List Value) (h : xH) (hb : (xob h b).1 = 7) (hl : st.length ≤ 4) : xf 98 464 L (.int v0 :: .ref b :: st) h = xgo 98 464 467 L st (xev 76 [.ref b, .int v0] h) := xo_callV (as := [.int v0]) (by decide +kernel) rfl ⟨(by decide +kernel : xna 76 = 1), Nat.le_of_ble_eq_true rfl, rfl, by decide⟩ hb hl
set_option maxRecDepth 20000 in
theorem u_L_areCountsSo_467 (L : xL) (st : List Value) (h : xH) : xf 98 467 L st h = xf 98 468 L (.int (-1) :: st) h := xo_iconst (k := (-1)) (by decide +kernel) (by decide)
set_option maxRecDepth 20000 in
theorem u_L_areCountsSo_468 (L : xL) (a b : Int32) (st : List Value) (h : xH) : xf 98 468 L (.int b :: .int a :: st) h = if a = b then xf 98 471 L st h else xf 98 475 L st h := xo_icmp_ne (t := 475) (by decide +kernel) rfl
set_option maxRecDepth 20000 in
theorem u_L_areCountsSo_471 (L : xL) (st : List Value) (h : xH) : xf 98 471 L st h = xf 98 472 L (.int 1 :: st) h := xo_iconst (k := 1) (by decide +kernel) (by decide)
set_option maxRecDepth 20000 in
theorem u_L_areCountsSo_472 (L : xL) (st : List Value) (h : xH) : xf 98 472 L st h = xf 98 476 L st h := xo_goto (n := 475) (t := 476) (by decide +kernel) rfl
set_option maxRecDepth 20000 in
theorem u_L_areCountsSo_475 (L : xL) (st : List Value) (h : xH) : xf 98 475 L st h = xf 98 476 L (.int 0 :: st) h := xo_iconst (k := 0) (by decide +kernel) (by decide)
set_option maxRecDepth 20000 in
theorem u_L_areCountsSo_476 (L : xL) (x : Int32) (h : xH) (hv : x = 0 ∨ x = 1) : xf 98 476 L [.int x] h = some (.inl (some (.int x)), h) := xo_ireturn (n := 477) (by decide +kernel) (by rcases hv with rfl | rfl <;> rfl)
set_option maxRecDepth 20000 in
theorem e_L_areCountsSo (v0 : Nat) (h : xH) : xev 98 [.ref v0] h = xf 98 0 [some (.ref v0), none, none, none, none, none, none, none, none, none, none, none] [] h := rfl
set_option maxRecDepth 20000 in
theorem u_L_isNextSo_0 (l1 l2 l3 l4 l5 l6 l7 l8 l9 : Option Value) (x : Nat) (st : List Value) (h : xH) : xf 99 0 [some (.ref x), l1, l2, l3, l4, l5, l6, l7, l8, l9] st h = xf 99 1 [some (.ref x), l1, l2, l3, l4, l5, l6, l7, l8, l9] (.ref x :: st) h := xo_aload (k := 0) (by decide +kernel) rfl
set_option maxRecDepth 20000 in
theorem u_L_isNextSo_1 (L : xL) (st : List Value) (h : xH) : xf 99 1 L st h = xf 99 2 L (.int 3 :: st) h := xo_iconst (k := 3) (by decide +kernel) (by decide)
set_option maxRecDepth 20000 in
theorem u_L_isNextSo_2 (L : xL) (v0 : Int32) (b : Nat) (st : List Value) (h : xH) (hb : (xob h b).1 = 7) (hl : st.length ≤ 4) : xf 99 2 L (.int v0 :: .ref b :: st) h = xgo 99 2 5 L st (xev 79 [.ref b, .int v0] h) := xo_callV (as := [.int v0]) (by decide +kernel) rfl ⟨(by decide +kernel : xna 79 = 1), Nat.le_of_ble_eq_true rfl, rfl, by decide⟩ hb hl
set_option maxRecDepth 20000 in
theorem u_L_isNextSo_5 (l0 l1 l2 l3 l4 l5 l6 l7 l8 l9 : Option Value) (x : Int32) (st : List Value) (h : xH) : xf 99 5 [l0, l1, l2, l3, l4, l5, l6, l7, l8, l9] (.int x :: st) h = xf 99 6 [xcat l0, some (.int x), l2, l3, l4, l5, l6, l7, l8, l9] st h := xo_istore (k := 1) (by decide +kernel) (Nat.le_of_ble_eq_true rfl) rfl
set_option maxRecDepth 20000 in
theorem u_L_isNextSo_6 (l1 l2 l3 l4 l5 l6 l7 l8 l9 : Option Value) (x : Nat) (st : List Value) (h : xH) : xf 99 6 [some (.ref x), l1, l2, l3, l4, l5, l6, l7, l8, l9] st h = xf 99 7 [some (.ref x), l1, l2, l3, l4, l5, l6, l7, l8, l9] (.ref x :: st) h := xo_aload (k := 0) (by decide +kernel) rfl
set_option maxRecDepth 20000 in
theorem u_L_isNextSo_7 (L : xL) (st : List Value) (h : xH) : xf 99 7 L st h = xf 99 8 L (.int 2 :: st) h := xo_iconst (k := 2) (by decide +kernel) (by decide)
set_option maxRecDepth 20000 in
theorem u_L_isNextSo_8 (L : xL) (v0 : Int32) (b : Nat) (st : List Value) (h : xH) (hb : (xob h b).1 = 7) (hl : st.length ≤ 4) : xf 99 8 L (.int v0 :: .ref b :: st) h = xgo 99 8 11 L st (xev 79 [.ref b, .int v0] h) := xo_callV (as := [.int v0]) (by decide +kernel) rfl ⟨(by decide +kernel : xna 79 = 1), Nat.le_of_ble_eq_true rfl, rfl, by decide⟩ hb hl
set_option maxRecDepth 20000 in
theorem u_L_isNextSo_11 (l0 l1 l2 l3 l4 l5 l6 l7 l8 l9 : Option Value) (x : Int32) (st : List Value) (h : xH) : xf 99 11 [l0, l1, l2, l3, l4, l5, l6, l7, l8, l9] (.int x :: st) h = xf 99 12 [l0, xcat l1, some (.int x), l3, l4, l5, l6, l7, l8, l9] st h := xo_istore (k := 2) (by decide +kernel) (Nat.le_of_ble_eq_true rfl) rfl
set_option maxRecDepth 20000 in
theorem u_L_isNextSo_12 (l1 l2 l3 l4 l5 l6 l7 l8 l9 : Option Value) (x : Nat) (st : List Value) (h : xH) : xf 99 12 [some (.ref x), l1, l2, l3, l4, l5, l6, l7, l8, l9] st h = xf 99 13 [some (.ref x), l1, l2, l3, l4, l5, l6, l7, l8, l9] (.ref x :: st) h := xo_aload (k := 0) (by decide +kernel) rfl
set_option maxRecDepth 20000 in
theorem u_L_isNextSo_13 (L : xL) (st : List Value) (h : xH) : xf 99 13 L st h = xf 99 14 L (.int 0 :: st) h := xo_iconst (k := 0) (by decide +kernel) (by decide)
set_option maxRecDepth 20000 in
theorem u_L_isNextSo_14 (L : xL) (v0 : Int32) (b : Nat) (st : List Value) (h : xH) (hb : (xob h b).1 = 7) (hl : st.length ≤ 4) : xf 99 14 L (.int v0 :: .ref b :: st) h = xgo 99 14 17 L st (xev 80 [.ref b, .int v0] h) := xo_callV (as := [.int v0]) (by decide +kernel) rfl ⟨(by decide +kernel : xna 80 = 1), Nat.le_of_ble_eq_true rfl, rfl, by decide⟩ hb hl
set_option maxRecDepth 20000 in
theorem u_L_isNextSo_17 (l0 l1 l2 l3 l4 l5 l6 l7 l8 l9 : Option Value) (x : Int32) (st : List Value) (h : xH) : xf 99 17 [l0, l1, l2, l3, l4, l5, l6, l7, l8, l9] (.int x :: st) h = xf 99 18 [l0, l1, xcat l2, some (.int x), l4, l5, l6, l7, l8, l9] st h := xo_istore (k := 3) (by decide +kernel) (Nat.le_of_ble_eq_true rfl) rfl
set_option maxRecDepth 20000 in
theorem u_L_isNextSo_18 (l0 l2 l3 l4 l5 l6 l7 l8 l9 : Option Value) (x : Int32) (st : List Value) (h : xH) : xf 99 18 [l0, some (.int x), l2, l3, l4, l5, l6, l7, l8, l9] st h = xf 99 19 [l0, some (.int x), l2, l3, l4, l5, l6, l7, l8, l9] (.int x :: st) h := xo_iload (k := 1) (by decide +kernel) rfl
set_option maxRecDepth 20000 in
theorem u_L_isNextSo_19 (L : xL) (a : Int32) (st : List Value) (h : xH) : xf 99 19 L (.int a :: st) h = if a < 0 then xf 99 51 L st h else xf 99 22 L st h := xo_if_lt (t := 51) (by decide +kernel) rfl
set_option maxRecDepth 20000 in
theorem u_L_isNextSo_22 (l0 l1 l3 l4 l5 l6 l7 l8 l9 : Option Value) (x : Int32) (st : List Value) (h : xH) : xf 99 22 [l0, l1, some (.int x), l3, l4, l5, l6, l7, l8, l9] st h = xf 99 23 [l0, l1, some (.int x), l3, l4, l5, l6, l7, l8, l9] (.int x :: st) h := xo_iload (k := 2) (by decide +kernel) rfl
set_option maxRecDepth 20000 in
theorem u_L_isNextSo_23 (l1 l2 l3 l4 l5 l6 l7 l8 l9 : Option Value) (x : Nat) (st : List Value) (h : xH) : xf 99 23 [some (.ref x), l1, l2, l3, l4, l5, l6, l7, l8, l9] st h = xf 99 24 [some (.ref x), l1, l2, l3, l4, l5, l6, l7, l8, l9] (.ref x :: st) h := xo_aload (k := 0) (by decide +kernel) rfl
set_option maxRecDepth 20000 in
theorem u_L_isNextSo_24 (L : xL) (st : List Value) (h : xH) : xf 99 24 L st h = xf 99 25 L (.int 0 :: st) h := xo_iconst (k := 0) (by decide +kernel) (by decide)
set_option maxRecDepth 20000 in
theorem u_L_isNextSo_25 (L : xL) (v0 : Int32) (b : Nat) (st : List Value) (h : xH) (hb : (xob h b).1 = 7) (hl : st.length ≤ 4) : xf 99 25 L (.int v0 :: .ref b :: st) h = xgo 99 25 28 L st (xev 82 [.ref b, .int v0] h) := xo_callV (as := [.int v0]) (by decide +kernel) rfl ⟨(by decide +kernel : xna 82 = 1), Nat.le_of_ble_eq_true rfl, rfl, by decide⟩ hb hl
set_option maxRecDepth 20000 in
theorem u_L_isNextSo_28 (L : xL) (a b : Int32) (st : List Value) (h : xH) : xf 99 28 L (.int b :: .int a :: st) h = if a < b then xf 99 49 L st h else xf 99 31 L st h := xo_icmp_lt (t := 49) (by decide +kernel) rfl
set_option maxRecDepth 20000 in
theorem u_L_isNextSo_31 (l1 l2 l3 l4 l5 l6 l7 l8 l9 : Option Value) (x : Nat) (st : List Value) (h : xH) : xf 99 31 [some (.ref x), l1, l2, l3, l4, l5, l6, l7, l8, l9] st h = xf 99 32 [some (.ref x), l1, l2, l3, l4, l5, l6, l7, l8, l9] (.ref x :: st) h := xo_aload (k := 0) (by decide +kernel) rfl
set_option maxRecDepth 20000 in
theorem u_L_isNextSo_32 (l1 l2 l3 l4 l5 l6 l7 l8 l9 : Option Value) (x : Nat) (st : List Value) (h : xH) : xf 99 32 [some (.ref x), l1, l2, l3, l4, l5, l6, l7, l8, l9] st h = xf 99 33 [some (.ref x), l1, l2, l3, l4, l5, l6, l7, l8, l9] (.ref x :: st) h := xo_aload (k := 0) (by decide +kernel) rfl
set_option maxRecDepth 20000 in
theorem u_L_isNextSo_33 (L : xL) (st : List Value) (h : xH) : xf 99 33 L st h = xf 99 34 L (.int 0 :: st) h := xo_iconst (k := 0) (by decide +kernel) (by decide)
set_option maxRecDepth 20000 in
theorem u_L_isNextSo_34 (L : xL) (v0 : Int32) (b : Nat) (st : List Value) (h : xH) (hb : (xob h b).1 = 7) (hl : st.length ≤ 4) : xf 99 34 L (.int v0 :: .ref b :: st) h = xgo 99 34 37 L st (xev 79 [.ref b, .int v0] h) := xo_callV (as := [.int v0]) (by decide +kernel) rfl ⟨(by decide +kernel : xna 79 = 1), Nat.le_of_ble_eq_true rfl, rfl, by decide⟩ hb hl
set_option maxRecDepth 20000 in
theorem u_L_isNextSo_37 (l1 l2 l3 l4 l5 l6 l7 l8 l9 : Option Value) (x : Nat) (st : List Value) (h : xH) : xf 99 37 [some (.ref x), l1, l2, l3, l4, l5, l6, l7, l8, l9] st h = xf 99 38 [some (.ref x), l1, l2, l3, l4, l5, l6, l7, l8, l9] (.ref x :: st) h := xo_aload (k := 0) (by decide +kernel) rfl
set_option maxRecDepth 20000 in
theorem u_L_isNextSo_38 (L : xL) (st : List Value) (h : xH) : xf 99 38 L st h = xf 99 39 L (.int 1 :: st) h := xo_iconst (k := 1) (by decide +kernel) (by decide)
set_option maxRecDepth 20000 in
theorem u_L_isNextSo_39 (L : xL) (v0 : Int32) (b : Nat) (st : List Value) (h : xH) (hb : (xob h b).1 = 7) (hl : st.length ≤ 4) : xf 99 39 L (.int v0 :: .ref b :: st) h = xgo 99 39 42 L st (xev 79 [.ref b, .int v0] h) := xo_callV (as := [.int v0]) (by decide +kernel) rfl ⟨(by decide +kernel : xna 79 = 1), Nat.le_of_ble_eq_true rfl, rfl, by decide⟩ hb hl
set_option maxRecDepth 20000 in
theorem u_L_isNextSo_42 (L : xL) (v0 : Int32) (v1 : Int32) (b : Nat) (st : List Value) (h : xH) (hb : (xob h b).1 = 7) (hl : st.length ≤ 4) : xf 99 42 L (.int v1 :: .int v0 :: .ref b :: st) h = xgo 99 42 45 L st (xev 78 [.ref b, .int v0, .int v1] h) := xo_callV (as := [.int v0, .int v1]) (by decide +kernel) rfl ⟨(by decide +kernel : xna 78 = 2), Nat.le_of_ble_eq_true rfl, rfl, by decide⟩ hb hl
set_option maxRecDepth 20000 in
theorem u_L_isNextSo_45 (l0 l1 l3 l4 l5 l6 l7 l8 l9 : Option Value) (x : Int32) (st : List Value) (h : xH) : xf 99 45 [l0, l1, some (.int x), l3, l4, l5, l6, l7, l8, l9] st h = xf 99 46 [l0, l1, some (.int x), l3, l4, l5, l6, l7, l8, l9] (.int x :: st) h := xo_iload (k := 2) (by decide +kernel) rfl
set_option maxRecDepth 20000 in
theorem u_L_isNextSo_46 (L : xL) (a b : Int32) (st : List Value) (h : xH) : xf 99 46 L (.int b :: .int a :: st) h = if a = b then xf 99 51 L st h else xf 99 49 L st h := xo_icmp_eq (t := 51) (by decide +kernel) rfl
set_option maxRecDepth 20000 in
theorem u_L_isNextSo_49 (L : xL) (st : List Value) (h : xH) : xf 99 49 L st h = xf 99 50 L (.int 0 :: st) h := xo_iconst (k := 0) (by decide +kernel) (by decide)
set_option maxRecDepth 20000 in
theorem u_L_isNextSo_50 (L : xL) (x : Int32) (h : xH) (hv : x = 0 ∨ x = 1) : xf 99 50 L [.int x] h = some (.inl (some (.int x)), h) := xo_ireturn (n := 51) (by decide +kernel) (by rcases hv with rfl | rfl <;> rfl)
set_option maxRecDepth 20000 in
theorem u_L_isNextSo_51 (l1 l2 l3 l4 l5 l6 l7 l8 l9 : Option Value) (x : Nat) (st : List Value) (h : xH) : xf 99 51 [some (.ref x), l1, l2, l3, l4, l5, l6, l7, l8, l9] st h = xf 99 52 [some (.ref x), l1, l2, l3, l4, l5, l6, l7, l8, l9] (.ref x :: st) h := xo_aload (k := 0) (by decide +kernel) rfl
set_option maxRecDepth 20000 in
theorem u_L_isNextSo_52 (L : xL) (b : Nat) (st : List Value) (h : xH) (hb : (xob h b).1 = 7) (hl : st.length ≤ 4) : xf 99 52 L (.ref b :: st) h = xgo 99 52 55 L st (xev 67 [.ref b] h) := xo_callV (as := []) (by decide +kernel) rfl ⟨(by decide +kernel : xna 67 = 0), Nat.le_of_ble_eq_true rfl, rfl, by decide⟩ hb hl
set_option maxRecDepth 20000 in
theorem u_L_isNextSo_55 (l0 l2 l3 l4 l5 l6 l7 l8 l9 : Option Value) (x : Int32) (st : List Value) (h : xH) : xf 99 55 [l0, some (.int x), l2, l3, l4, l5, l6, l7, l8, l9] st h = xf 99 56 [l0, some (.int x), l2, l3, l4, l5, l6, l7, l8, l9] (.int x :: st) h := xo_iload (k := 1) (by decide +kernel) rfl
set_option maxRecDepth 20000 in
theorem u_L_isNextSo_56 (L : xL) (a b : Int32) (st : List Value) (h : xH) : xf 99 56 L (.int b :: .int a :: st) h = if a = b then xf 99 59 L st h else xf 99 82 L st h := xo_icmp_ne (t := 82) (by decide +kernel) rfl
set_option maxRecDepth 20000 in
theorem u_L_isNextSo_59 (l1 l2 l3 l4 l5 l6 l7 l8 l9 : Option Value) (x : Nat) (st : List Value) (h : xH) : xf 99 59 [some (.ref x), l1, l2, l3, l4, l5, l6, l7, l8, l9] st h = xf 99 60 [some (.ref x), l1, l2, l3, l4, l5, l6, l7, l8, l9] (.ref x :: st) h := xo_aload (k := 0) (by decide +kernel) rfl
set_option maxRecDepth 20000 in
theorem u_L_isNextSo_60 (L : xL) (st : List Value) (h : xH) : xf 99 60 L st h = xf 99 61 L (.int 0 :: st) h := xo_iconst (k := 0) (by decide +kernel) (by decide)
set_option maxRecDepth 20000 in
theorem u_L_isNextSo_61 (L : xL) (v0 : Int32) (b : Nat) (st : List Value) (h : xH) (hb : (xob h b).1 = 7) (hl : st.length ≤ 4) : xf 99 61 L (.int v0 :: .ref b :: st) h = xgo 99 61 64 L st (xev 80 [.ref b, .int v0] h) := xo_callV (as := [.int v0]) (by decide +kernel) rfl ⟨(by decide +kernel : xna 80 = 1), Nat.le_of_ble_eq_true rfl, rfl, by decide⟩ hb hl
set_option maxRecDepth 20000 in
theorem u_L_isNextSo_64 (l0 l1 l2 l4 l5 l6 l7 l8 l9 : Option Value) (x : Int32) (st : List Value) (h : xH) : xf 99 64 [l0, l1, l2, some (.int x), l4, l5, l6, l7, l8, l9] st h = xf 99 65 [l0, l1, l2, some (.int x), l4, l5, l6, l7, l8, l9] (.int x :: st) h := xo_iload (k := 3) (by decide +kernel) rfl
set_option maxRecDepth 20000 in
theorem u_L_isNextSo_65 (l0 l2 l3 l4 l5 l6 l7 l8 l9 : Option Value) (x : Int32) (st : List Value) (h : xH) : xf 99 65 [l0, some (.int x), l2, l3, l4, l5, l6, l7, l8, l9] st h = xf 99 66 [l0, some (.int x), l2, l3, l4, l5, l6, l7, l8, l9] (.int x :: st) h := xo_iload (k := 1) (by decide +kernel) rfl
set_option maxRecDepth 20000 in
theorem u_L_isNextSo_66 (L : xL) (a : Int32) (st : List Value) (h : xH) : xf 99 66 L (.int a :: st) h = if a < 0 then xf 99 69 L st h else xf 99 73 L st h := xo_if_ge (t := 73) (by decide +kernel) rfl
set_option maxRecDepth 20000 in
theorem u_L_isNextSo_69 (L : xL) (st : List Value) (h : xH) : xf 99 69 L st h = xf 99 70 L (.int 0 :: st) h := xo_iconst (k := 0) (by decide +kernel) (by decide)
set_option maxRecDepth 20000 in
theorem u_L_isNextSo_70 (L : xL) (st : List Value) (h : xH) : xf 99 70 L st h = xf 99 74 L st h := xo_goto (n := 73) (t := 74) (by decide +kernel) rfl
set_option maxRecDepth 20000 in
theorem u_L_isNextSo_73 (l0 l1 l3 l4 l5 l6 l7 l8 l9 : Option Value) (x : Int32) (st : List Value) (h : xH) : xf 99 73 [l0, l1, some (.int x), l3, l4, l5, l6, l7, l8, l9] st h = xf 99 74 [l0, l1, some (.int x), l3, l4, l5, l6, l7, l8, l9] (.int x :: st) h := xo_iload (k := 2) (by decide +kernel) rfl
set_option maxRecDepth 20000 in
theorem u_L_isNextSo_74 (L : xL) (a b : Int32) (st : List Value) (h : xH) : xf 99 74 L (.int b :: .int a :: st) h = xf 99 75 L (.int (a - b) :: st) h := xo_isub (by decide +kernel)
set_option maxRecDepth 20000 in
theorem u_L_isNextSo_75 (L : xL) (a b : Int32) (st : List Value) (h : xH) : xf 99 75 L (.int b :: .int a :: st) h = if a = b then xf 99 78 L st h else xf 99 82 L st h := xo_icmp_ne (t := 82) (by decide +kernel) rfl
set_option maxRecDepth 20000 in
theorem u_L_isNextSo_78 (L : xL) (st : List Value) (h : xH) : xf 99 78 L st h = xf 99 79 L (.int 1 :: st) h := xo_iconst (k := 1) (by decide +kernel) (by decide)
set_option maxRecDepth 20000 in
theorem u_L_isNextSo_79 (L : xL) (st : List Value) (h : xH) : xf 99 79 L st h = xf 99 83 L st h := xo_goto (n := 82) (t := 83) (by decide +kernel) rfl
set_option maxRecDepth 20000 in
theorem u_L_isNextSo_82 (L : xL) (st : List Value) (h : xH) : xf 99 82 L st h = xf 99 83 L (.int 0 :: st) h := xo_iconst (k := 0) (by decide +kernel) (by decide)
set_option maxRecDepth 20000 in
theorem u_L_isNextSo_83 (l0 l1 l2 l3 l4 l5 l6 l7 l8 l9 : Option Value) (x : Int32) (st : List Value) (h : xH) : xf 99 83 [l0, l1, l2, l3, l4, l5, l6, l7, l8, l9] (.int x :: st) h = xf 99 85 [l0, l1, l2, xcat l3, some (.int x), l5, l6, l7, l8, l9] st h := xo_istore (k := 4) (by decide +kernel) (Nat.le_of_ble_eq_true rfl) rfl
set_option maxRecDepth 20000 in
theorem u_L_isNextSo_85 (l1 l2 l3 l4 l5 l6 l7 l8 l9 : Option Value) (x : Nat) (st : List Value) (h : xH) : xf 99 85 [some (.ref x), l1, l2, l3, l4, l5, l6, l7, l8, l9] st h = xf 99 86 [some (.ref x), l1, l2, l3, l4, l5, l6, l7, l8, l9] (.ref x :: st) h := xo_aload (k := 0) (by decide +kernel) rfl
set_option maxRecDepth 20000 in
theorem u_L_isNextSo_86 (L : xL) (b : Nat) (st : List Value) (h : xH) (hb : (xob h b).1 = 7) (hl : st.length ≤ 4) : xf 99 86 L (.ref b :: st) h = xgo 99 86 89 L st (xev 74 [.ref b] h) := xo_callV (as := []) (by decide +kernel) rfl ⟨(by decide +kernel : xna 74 = 0), Nat.le_of_ble_eq_true rfl, rfl, by decide⟩ hb hl
set_option maxRecDepth 20000 in
theorem u_L_isNextSo_89 (l0 l1 l2 l3 l4 l5 l6 l7 l8 l9 : Option Value) (x : Int32) (st : List Value) (h : xH) : xf 99 89 [l0, l1, l2, l3, l4, l5, l6, l7, l8, l9] (.int x :: st) h = xf 99 91 [l0, l1, l2, l3, xcat l4, some (.int x), l6, l7, l8, l9] st h := xo_istore (k := 5) (by decide +kernel) (Nat.le_of_ble_eq_true rfl) rfl
set_option maxRecDepth 20000 in
theorem u_L_isNextSo_91 (l1 l2 l3 l4 l5 l6 l7 l8 l9 : Option Value) (x : Nat) (st : List Value) (h : xH) : xf 99 91 [some (.ref x), l1, l2, l3, l4, l5, l6, l7, l8, l9] st h = xf 99 92 [some (.ref x), l1, l2, l3, l4, l5, l6, l7, l8, l9] (.ref x :: st) h := xo_aload (k := 0) (by decide +kernel) rfl
set_option maxRecDepth 20000 in
theorem u_L_isNextSo_92 (L : xL) (st : List Value) (h : xH) : xf 99 92 L st h = xf 99 93 L (.int 0 :: st) h := xo_iconst (k := 0) (by decide +kernel) (by decide)
set_option maxRecDepth 20000 in
theorem u_L_isNextSo_93 (L : xL) (v0 : Int32) (b : Nat) (st : List Value) (h : xH) (hb : (xob h b).1 = 7) (hl : st.length ≤ 4) : xf 99 93 L (.int v0 :: .ref b :: st) h = xgo 99 93 96 L st (xev 83 [.ref b, .int v0] h) := xo_callV (as := [.int v0]) (by decide +kernel) rfl ⟨(by decide +kernel : xna 83 = 1), Nat.le_of_ble_eq_true rfl, rfl, by decide⟩ hb hl
set_option maxRecDepth 20000 in
theorem u_L_isNextSo_96 (l0 l1 l2 l3 l4 l5 l6 l7 l8 l9 : Option Value) (x : Int32) (st : List Value) (h : xH) : xf 99 96 [l0, l1, l2, l3, l4, l5, l6, l7, l8, l9] (.int x :: st) h = xf 99 98 [l0, l1, l2, l3, l4, xcat l5, some (.int x), l7, l8, l9] st h := xo_istore (k := 6) (by decide +kernel) (Nat.le_of_ble_eq_true rfl) rfl
set_option maxRecDepth 20000 in
theorem u_L_isNextSo_98 (l1 l2 l3 l4 l5 l6 l7 l8 l9 : Option Value) (x : Nat) (st : List Value) (h : xH) : xf 99 98 [some (.ref x), l1, l2, l3, l4, l5, l6, l7, l8, l9] st h = xf 99 99 [some (.ref x), l1, l2, l3, l4, l5, l6, l7, l8, l9] (.ref x :: st) h := xo_aload (k := 0) (by decide +kernel) rfl
set_option maxRecDepth 20000 in
theorem u_L_isNextSo_99 (L : xL) (st : List Value) (h : xH) : xf 99 99 L st h = xf 99 100 L (.int 1 :: st) h := xo_iconst (k := 1) (by decide +kernel) (by decide)
set_option maxRecDepth 20000 in
theorem u_L_isNextSo_100 (L : xL) (v0 : Int32) (b : Nat) (st : List Value) (h : xH) (hb : (xob h b).1 = 7) (hl : st.length ≤ 4) : xf 99 100 L (.int v0 :: .ref b :: st) h = xgo 99 100 103 L st (xev 83 [.ref b, .int v0] h) := xo_callV (as := [.int v0]) (by decide +kernel) rfl ⟨(by decide +kernel : xna 83 = 1), Nat.le_of_ble_eq_true rfl, rfl, by decide⟩ hb hl
set_option maxRecDepth 20000 in
theorem u_L_isNextSo_103 (l0 l1 l2 l3 l4 l5 l6 l7 l8 l9 : Option Value) (x : Int32) (st : List Value) (h : xH) : xf 99 103 [l0, l1, l2, l3, l4, l5, l6, l7, l8, l9] (.int x :: st) h = xf 99 105 [l0, l1, l2, l3, l4, l5, xcat l6, some (.int x), l8, l9] st h := xo_istore (k := 7) (by decide +kernel) (Nat.le_of_ble_eq_true rfl) rfl
set_option maxRecDepth 20000 in
theorem u_L_isNextSo_105 (l1 l2 l3 l4 l5 l6 l7 l8 l9 : Option Value) (x : Nat) (st : List Value) (h : xH) : xf 99 105 [some (.ref x), l1, l2, l3, l4, l5, l6, l7, l8, l9] st h = xf 99 106 [some (.ref x), l1, l2, l3, l4, l5, l6, l7, l8, l9] (.ref x :: st) h := xo_aload (k := 0) (by decide +kernel) rfl
set_option maxRecDepth 20000 in
theorem u_L_isNextSo_106 (L : xL) (st : List Value) (h : xH) : xf 99 106 L st h = xf 99 107 L (.int 2 :: st) h := xo_iconst (k := 2) (by decide +kernel) (by decide)
set_option maxRecDepth 20000 in
theorem u_L_isNextSo_107 (L : xL) (v0 : Int32) (b : Nat) (st : List Value) (h : xH) (hb : (xob h b).1 = 7) (hl : st.length ≤ 4) : xf 99 107 L (.int v0 :: .ref b :: st) h = xgo 99 107 110 L st (xev 83 [.ref b, .int v0] h) := xo_callV (as := [.int v0]) (by decide +kernel) rfl ⟨(by decide +kernel : xna 83 = 1), Nat.le_of_ble_eq_true rfl, rfl, by decide⟩ hb hl
set_option maxRecDepth 20000 in
theorem u_L_isNextSo_110 (l0 l1 l2 l3 l4 l5 l6 l7 l8 l9 : Option Value) (x : Int32) (st : List Value) (h : xH) : xf 99 110 [l0, l1, l2, l3, l4, l5, l6, l7, l8, l9] (.int x :: st) h = xf 99 112 [l0, l1, l2, l3, l4, l5, l6, xcat l7, some (.int x), l9] st h := xo_istore (k := 8) (by decide +kernel) (Nat.le_of_ble_eq_true rfl) rfl
set_option maxRecDepth 20000 in
theorem u_L_isNextSo_112 (l1 l2 l3 l4 l5 l6 l7 l8 l9 : Option Value) (x : Nat) (st : List Value) (h : xH) : xf 99 112 [some (.ref x), l1, l2, l3, l4, l5, l6, l7, l8, l9] st h = xf 99 113 [some (.ref x), l1, l2, l3, l4, l5, l6, l7, l8, l9] (.ref x :: st) h := xo_aload (k := 0) (by decide +kernel) rfl
set_option maxRecDepth 20000 in
theorem u_L_isNextSo_113 (L : xL) (st : List Value) (h : xH) : xf 99 113 L st h = xf 99 114 L (.int 3 :: st) h := xo_iconst (k := 3) (by decide +kernel) (by decide)
set_option maxRecDepth 20000 in
theorem u_L_isNextSo_114 (L : xL) (v0 : Int32) (b : Nat) (st : List Value) (h : xH) (hb : (xob h b).1 = 7) (hl : st.length ≤ 4) : xf 99 114 L (.int v0 :: .ref b :: st) h = xgo 99 114 117 L st (xev 83 [.ref b, .int v0] h) := xo_callV (as := [.int v0]) (by decide +kernel) rfl ⟨(by decide +kernel : xna 83 = 1), Nat.le_of_ble_eq_true rfl, rfl, by decide⟩ hb hl
set_option maxRecDepth 20000 in
theorem u_L_isNextSo_117 (l0 l1 l2 l3 l4 l5 l6 l7 l8 l9 : Option Value) (x : Int32) (st : List Value) (h : xH) : xf 99 117 [l0, l1, l2, l3, l4, l5, l6, l7, l8, l9] (.int x :: st) h = xf 99 119 [l0, l1, l2, l3, l4, l5, l6, l7, xcat l8, some (.int x)] st h := xo_istore (k := 9) (by decide +kernel) (Nat.le_of_ble_eq_true rfl) rfl
set_option maxRecDepth 20000 in
theorem u_L_isNextSo_119 (l0 l1 l2 l3 l5 l6 l7 l8 l9 : Option Value) (x : Int32) (st : List Value) (h : xH) : xf 99 119 [l0, l1, l2, l3, some (.int x), l5, l6, l7, l8, l9] st h = xf 99 121 [l0, l1, l2, l3, some (.int x), l5, l6, l7, l8, l9] (.int x :: st) h := xo_iload (k := 4) (by decide +kernel) rfl
set_option maxRecDepth 20000 in
theorem u_L_isNextSo_121 (L : xL) (a : Int32) (st : List Value) (h : xH) : xf 99 121 L (.int a :: st) h = if a = 0 then xf 99 176 L st h else xf 99 124 L st h := xo_if_eq (t := 176) (by decide +kernel) rfl
set_option maxRecDepth 20000 in
theorem u_L_isNextSo_124 (l1 l2 l3 l4 l5 l6 l7 l8 l9 : Option Value) (x : Nat) (st : List Value) (h : xH) : xf 99 124 [some (.ref x), l1, l2, l3, l4, l5, l6, l7, l8, l9] st h = xf 99 125 [some (.ref x), l1, l2, l3, l4, l5, l6, l7, l8, l9] (.ref x :: st) h := xo_aload (k := 0) (by decide +kernel) rfl
set_option maxRecDepth 20000 in
theorem u_L_isNextSo_125 (L : xL) (b : Nat) (st : List Value) (h : xH) (hb : (xob h b).1 = 7) (hl : st.length ≤ 4) : xf 99 125 L (.ref b :: st) h = xgo 99 125 128 L st (xev 68 [.ref b] h) := xo_callV (as := []) (by decide +kernel) rfl ⟨(by decide +kernel : xna 68 = 0), Nat.le_of_ble_eq_true rfl, rfl, by decide⟩ hb hl
set_option maxRecDepth 20000 in
theorem u_L_isNextSo_128 (l0 l1 l2 l3 l4 l5 l7 l8 l9 : Option Value) (x : Int32) (st : List Value) (h : xH) : xf 99 128 [l0, l1, l2, l3, l4, l5, some (.int x), l7, l8, l9] st h = xf 99 130 [l0, l1, l2, l3, l4, l5, some (.int x), l7, l8, l9] (.int x :: st) h := xo_iload (k := 6) (by decide +kernel) rfl
set_option maxRecDepth 20000 in
theorem u_L_isNextSo_130 (L : xL) (a b : Int32) (st : List Value) (h : xH) : xf 99 130 L (.int b :: .int a :: st) h = if a = b then xf 99 133 L st h else xf 99 176 L st h := xo_icmp_ne (t := 176) (by decide +kernel) rfl
set_option maxRecDepth 20000 in
theorem u_L_isNextSo_133 (l1 l2 l3 l4 l5 l6 l7 l8 l9 : Option Value) (x : Nat) (st : List Value) (h : xH) : xf 99 133 [some (.ref x), l1, l2, l3, l4, l5, l6, l7, l8, l9] st h = xf 99 134 [some (.ref x), l1, l2, l3, l4, l5, l6, l7, l8, l9] (.ref x :: st) h := xo_aload (k := 0) (by decide +kernel) rfl
set_option maxRecDepth 20000 in
theorem u_L_isNextSo_134 (L : xL) (st : List Value) (h : xH) : xf 99 134 L st h = xf 99 135 L (.int 0 :: st) h := xo_iconst (k := 0) (by decide +kernel) (by decide)
set_option maxRecDepth 20000 in
theorem u_L_isNextSo_135 (L : xL) (v0 : Int32) (b : Nat) (st : List Value) (h : xH) (hb : (xob h b).1 = 7) (hl : st.length ≤ 4) : xf 99 135 L (.int v0 :: .ref b :: st) h = xgo 99 135 138 L st (xev 80 [.ref b, .int v0] h) := xo_callV (as := [.int v0]) (by decide +kernel) rfl ⟨(by decide +kernel : xna 80 = 1), Nat.le_of_ble_eq_true rfl, rfl, by decide⟩ hb hl
set_option maxRecDepth 20000 in
theorem u_L_isNextSo_138 (l0 l1 l2 l3 l4 l5 l6 l8 l9 : Option Value) (x : Int32) (st : List Value) (h : xH) : xf 99 138 [l0, l1, l2, l3, l4, l5, l6, some (.int x), l8, l9] st h = xf 99 140 [l0, l1, l2, l3, l4, l5, l6, some (.int x), l8, l9] (.int x :: st) h := xo_iload (k := 7) (by decide +kernel) rfl
set_option maxRecDepth 20000 in
theorem u_L_isNextSo_140 (L : xL) (a b : Int32) (st : List Value) (h : xH) : xf 99 140 L (.int b :: .int a :: st) h = if a = b then xf 99 143 L st h else xf 99 176 L st h := xo_icmp_ne (t := 176) (by decide +kernel) rfl
set_option maxRecDepth 20000 in
theorem u_L_isNextSo_143 (l1 l2 l3 l4 l5 l6 l7 l8 l9 : Option Value) (x : Nat) (st : List Value) (h : xH) : xf 99 143 [some (.ref x), l1, l2, l3, l4, l5, l6, l7, l8, l9] st h = xf 99 144 [some (.ref x), l1, l2, l3, l4, l5, l6, l7, l8, l9] (.ref x :: st) h := xo_aload (k := 0) (by decide +kernel) rfl
set_option maxRecDepth 20000 in
theorem u_L_isNextSo_144 (L : xL) (st : List Value) (h : xH) : xf 99 144 L st h = xf 99 145 L (.int 5 :: st) h := xo_iconst (k := 5) (by decide +kernel) (by decide)
set_option maxRecDepth 20000 in
theorem u_L_isNextSo_145 (L : xL) (v0 : Int32) (b : Nat) (st : List Value) (h : xH) (hb : (xob h b).1 = 7) (hl : st.length ≤ 4) : xf 99 145 L (.int v0 :: .ref b :: st) h = xgo 99 145 148 L st (xev 80 [.ref b, .int v0] h) := xo_callV (as := [.int v0]) (by decide +kernel) rfl ⟨(by decide +kernel : xna 80 = 1), Nat.le_of_ble_eq_true rfl, rfl, by decide⟩ hb hl
set_option maxRecDepth 20000 in
theorem u_L_isNextSo_148 (l0 l1 l2 l3 l4 l5 l6 l7 l9 : Option Value) (x : Int32) (st : List Value) (h : xH) : xf 99 148 [l0, l1, l2, l3, l4, l5, l6, l7, some (.int x), l9] st h = xf 99 150 [l0, l1, l2, l3, l4, l5, l6, l7, some (.int x), l9] (.int x :: st) h := xo_iload (k := 8) (by decide +kernel) rfl
set_option maxRecDepth 20000 in
theorem u_L_isNextSo_150 (L : xL) (a b : Int32) (st : List Value) (h : xH) : xf 99 150 L (.int b :: .int a :: st) h = if a = b then xf 99 153 L st h else xf 99 176 L st h := xo_icmp_ne (t := 176) (by decide +kernel) rfl
set_option maxRecDepth 20000 in
theorem u_L_isNextSo_153 (l1 l2 l3 l4 l5 l6 l7 l8 l9 : Option Value) (x : Nat) (st : List Value) (h : xH) : xf 99 153 [some (.ref x), l1, l2, l3, l4, l5, l6, l7, l8, l9] st h = xf 99 154 [some (.ref x), l1, l2, l3, l4, l5, l6, l7, l8, l9] (.ref x :: st) h := xo_aload (k := 0) (by decide +kernel) rfl
set_option maxRecDepth 20000 in
theorem u_L_isNextSo_154 (L : xL) (st : List Value) (h : xH) : xf 99 154 L st h = xf 99 155 L (.int 4 :: st) h := xo_iconst (k := 4) (by decide +kernel) (by decide)
set_option maxRecDepth 20000 in
theorem u_L_isNextSo_155 (L : xL) (v0 : Int32) (b : Nat) (st : List Value) (h : xH) (hb : (xob h b).1 = 7) (hl : st.length ≤ 4) : xf 99 155 L (.int v0 :: .ref b :: st) h = xgo 99 155 158 L st (xev 80 [.ref b, .int v0] h) := xo_callV (as := [.int v0]) (by decide +kernel) rfl ⟨(by decide +kernel : xna 80 = 1), Nat.le_of_ble_eq_true rfl, rfl, by decide⟩ hb hl
set_option maxRecDepth 20000 in
theorem u_L_isNextSo_158 (l0 l1 l2 l3 l4 l5 l6 l7 l8 : Option Value) (x : Int32) (st : List Value) (h : xH) : xf 99 158 [l0, l1, l2, l3, l4, l5, l6, l7, l8, some (.int x)] st h = xf 99 160 [l0, l1, l2, l3, l4, l5, l6, l7, l8, some (.int x)] (.int x :: st) h := xo_iload (k := 9) (by decide +kernel) rfl
set_option maxRecDepth 20000 in
theorem u_L_isNextSo_160 (L : xL) (a b : Int32) (st : List Value) (h : xH) : xf 99 160 L (.int b :: .int a :: st) h = if a = b then xf 99 163 L st h else xf 99 176 L st h := xo_icmp_ne (t := 176) (by decide +kernel) rfl
set_option maxRecDepth 20000 in
theorem u_L_isNextSo_163 (l1 l2 l3 l4 l5 l6 l7 l8 l9 : Option Value) (x : Nat) (st : List Value) (h : xH) : xf 99 163 [some (.ref x), l1, l2, l3, l4, l5, l6, l7, l8, l9] st h = xf 99 164 [some (.ref x), l1, l2, l3, l4, l5, l6, l7, l8, l9] (.ref x :: st) h := xo_aload (k := 0) (by decide +kernel) rfl
set_option maxRecDepth 20000 in
theorem u_L_isNextSo_164 (L : xL) (st : List Value) (h : xH) : xf 99 164 L st h = xf 99 165 L (.int 3 :: st) h := xo_iconst (k := 3) (by decide +kernel) (by decide)
set_option maxRecDepth 20000 in
theorem u_L_isNextSo_165 (L : xL) (v0 : Int32) (b : Nat) (st : List Value) (h : xH) (hb : (xob h b).1 = 7) (hl : st.length ≤ 4) : xf 99 165 L (.int v0 :: .ref b :: st) h = xgo 99 165 168 L st (xev 79 [.ref b, .int v0] h) := xo_callV (as := [.int v0]) (by decide +kernel) rfl ⟨(by decide +kernel : xna 79 = 1), Nat.le_of_ble_eq_true rfl, rfl, by decide⟩ hb hl
set_option maxRecDepth 20000 in
theorem u_L_isNextSo_168 (L : xL) (st : List Value) (h : xH) : xf 99 168 L st h = xf 99 169 L (.int (-1) :: st) h := xo_iconst (k := (-1)) (by decide +kernel) (by decide)
set_option maxRecDepth 20000 in
theorem u_L_isNextSo_169 (L : xL) (a b : Int32) (st : List Value) (h : xH) : xf 99 169 L (.int b :: .int a :: st) h = if a = b then xf 99 172 L st h else xf 99 176 L st h := xo_icmp_ne (t := 176) (by decide +kernel) rfl
set_option maxRecDepth 20000 in
theorem u_L_isNextSo_172 (L : xL) (st : List Value) (h : xH) : xf 99 172 L st h = xf 99 173 L (.int 1 :: st) h := xo_iconst (k := 1) (by decide +kernel) (by decide)
set_option maxRecDepth 20000 in
theorem u_L_isNextSo_173 (L : xL) (st : List Value) (h : xH) : xf 99 173 L st h = xf 99 177 L st h := xo_goto (n := 176) (t := 177) (by decide +kernel) rfl
set_option maxRecDepth 20000 in
theorem u_L_isNextSo_176 (L : xL) (st : List Value) (h : xH) : xf 99 176 L st h = xf 99 177 L (.int 0 :: st) h := xo_iconst (k := 0) (by decide +kernel) (by decide)
set_option maxRecDepth 20000 in
theorem u_L_isNextSo_177 (l0 l1 l2 l3 l4 l5 l6 l7 l8 l9 : Option Value) (x : Int32) (st : List Value) (h : xH) : xf 99 177 [l0, l1, l2, l3, l4, l5, l6, l7, l8, l9] (.int x :: st) h = xf 99 179 [l0, l1, l2, xcat l3, some (.int x), l5, l6, l7, l8, l9] st h := xo_istore (k := 4) (by decide +kernel) (Nat.le_of_ble_eq_true rfl) rfl
set_option maxRecDepth 20000 in
theorem u_L_isNextSo_179 (l1 l2 l3 l4 l5 l6 l7 l8 l9 : Option Value) (x : Nat) (st : List Value) (h : xH) : xf 99 179 [some (.ref x), l1, l2, l3, l4, l5, l6, l7, l8, l9] st h = xf 99 180 [some (.ref x), l1, l2, l3, l4, l5, l6, l7, l8, l9] (.ref x :: st) h := xo_aload (k := 0) (by decide +kernel) rfl
set_option maxRecDepth 20000 in
theorem u_L_isNextSo_180 (L : xL) (b : Nat) (st : List Value) (h : xH) (hb : (xob h b).1 = 7) (hl : st.length ≤ 4) : xf 99 180 L (.ref b :: st) h = xgo 99 180 183 L st (xev 74 [.ref b] h) := xo_callV (as := []) (by decide +kernel) rfl ⟨(by decide +kernel : xna 74 = 0), Nat.le_of_ble_eq_true rfl, rfl, by decide⟩ hb hl
set_option maxRecDepth 20000 in
theorem u_L_isNextSo_183 (l0 l1 l2 l3 l4 l5 l6 l7 l8 l9 : Option Value) (x : Int32) (st : List Value) (h : xH) : xf 99 183 [l0, l1, l2, l3, l4, l5, l6, l7, l8, l9] (.int x :: st) h = xf 99 185 [l0, l1, l2, l3, xcat l4, some (.int x), l6, l7, l8, l9] st h := xo_istore (k := 5) (by decide +kernel) (Nat.le_of_ble_eq_true rfl) rfl
set_option maxRecDepth 20000 in
theorem u_L_isNextSo_185 (l0 l1 l2 l3 l5 l6 l7 l8 l9 : Option Value) (x : Int32) (st : List Value) (h : xH) : xf 99 185 [l0, l1, l2, l3, some (.int x), l5, l6, l7, l8, l9] st h = xf 99 187 [l0, l1, l2, l3, some (.int x), l5, l6, l7, l8, l9] (.int x :: st) h := xo_iload (k := 4) (by decide +kernel) rfl
set_option maxRecDepth 20000 in
theorem u_L_isNextSo_187 (L : xL) (a : Int32) (st : List Value) (h : xH) : xf 99 187 L (.int a :: st) h = if a = 0 then xf 99 208 L st h else xf 99 190 L st h := xo_if_eq (t := 208) (by decide +kernel) rfl
set_option maxRecDepth 20000 in
theorem u_L_isNextSo_190 (l0 l1 l2 l3 l4 l6 l7 l8 l9 : Option Value) (x : Int32) (st : List Value) (h : xH) : xf 99 190 [l0, l1, l2, l3, l4, some (.int x), l6, l7, l8, l9] st h = xf 99 192 [l0, l1, l2, l3, l4, some (.int x), l6, l7, l8, l9] (.int x :: st) h := xo_iload (k := 5) (by decide +kernel) rfl
set_option maxRecDepth 20000 in
theorem u_L_isNextSo_192 (L : xL) (a : Int32) (st : List Value) (h : xH) : xf 99 192 L (.int a :: st) h = if a < 0 then xf 99 208 L st h else xf 99 195 L st h := xo_if_lt (t := 208) (by decide +kernel) rfl
set_option maxRecDepth 20000 in
theorem u_L_isNextSo_195 (l1 l2 l3 l4 l5 l6 l7 l8 l9 : Option Value) (x : Nat) (st : List Value) (h : xH) : xf 99 195 [some (.ref x), l1, l2, l3, l4, l5, l6, l7, l8, l9] st h = xf 99 196 [some (.ref x), l1, l2, l3, l4, l5, l6, l7, l8, l9] (.ref x :: st) h := xo_aload (k := 0) (by decide +kernel) rfl
set_option maxRecDepth 20000 in
theorem u_L_isNextSo_196 (L : xL) (st : List Value) (h : xH) : xf 99 196 L st h = xf 99 197 L (.int 0 :: st) h := xo_iconst (k := 0) (by decide +kernel) (by decide)
set_option maxRecDepth 20000 in
theorem u_L_isNextSo_197 (L : xL) (v0 : Int32) (b : Nat) (st : List Value) (h : xH) (hb : (xob h b).1 = 7) (hl : st.length ≤ 4) : xf 99 197 L (.int v0 :: .ref b :: st) h = xgo 99 197 200 L st (xev 80 [.ref b, .int v0] h) := xo_callV (as := [.int v0]) (by decide +kernel) rfl ⟨(by decide +kernel : xna 80 = 1), Nat.le_of_ble_eq_true rfl, rfl, by decide⟩ hb hl
set_option maxRecDepth 20000 in
theorem u_L_isNextSo_200 (l0 l1 l2 l4 l5 l6 l7 l8 l9 : Option Value) (x : Int32) (st : List Value) (h : xH) : xf 99 200 [l0, l1, l2, some (.int x), l4, l5, l6, l7, l8, l9] st h = xf 99 201 [l0, l1, l2, some (.int x), l4, l5, l6, l7, l8, l9] (.int x :: st) h := xo_iload (k := 3) (by decide +kernel) rfl
set_option maxRecDepth 20000 in
theorem u_L_isNextSo_201 (L : xL) (a b : Int32) (st : List Value) (h : xH) : xf 99 201 L (.int b :: .int a :: st) h = if a = b then xf 99 204 L st h else xf 99 208 L st h := xo_icmp_ne (t := 208) (by decide +kernel) rfl
set_option maxRecDepth 20000 in
theorem u_L_isNextSo_204 (L : xL) (st : List Value) (h : xH) : xf 99 204 L st h = xf 99 205 L (.int 1 :: st) h := xo_iconst (k := 1) (by decide +kernel) (by decide)
set_option maxRecDepth 20000 in
theorem u_L_isNextSo_205 (L : xL) (st : List Value) (h : xH) : xf 99 205 L st h = xf 99 209 L st h := xo_goto (n := 208) (t := 209) (by decide +kernel) rfl
set_option maxRecDepth 20000 in
theorem u_L_isNextSo_208 (L : xL) (st : List Value) (h : xH) : xf 99 208 L st h = xf 99 209 L (.int 0 :: st) h := xo_iconst (k := 0) (by decide +kernel) (by decide)
set_option maxRecDepth 20000 in
theorem u_L_isNextSo_209 (L : xL) (x : Int32) (h : xH) (hv : x = 0 ∨ x = 1) : xf 99 209 L [.int x] h = some (.inl (some (.int x)), h) := xo_ireturn (n := 210) (by decide +kernel) (by rcases hv with rfl | rfl <;> rfl)
set_option maxRecDepth 20000 in
theorem e_L_isNextSo (v0 : Nat) (h : xH) : xev 99 [.ref v0] h = xf 99 0 [some (.ref v0), none, none, none, none, none, none, none, none, none] [] h := rfl
set_option maxRecDepth 20000 in
theorem u_L_isBestSo_0 (l1 l2 l3 l4 l5 l6 l7 : Option Value) (x : Nat) (st : List Value) (h : xH) : xf 100 0 [some (.ref x), l1, l2, l3, l4, l5, l6, l7] st h = xf 100 1 [some (.ref x), l1, l2, l3, l4, l5, l6, l7] (.ref x :: st) h := xo_aload (k := 0) (by decide +kernel) rfl
set_option maxRecDepth 20000 in
theorem u_L_isBestSo_1 (L : xL) (b : Nat) (st : List Value) (h : xH) (hb : (xob h b).1 = 7) (hl : st.length ≤ 4) : xf 100 1 L (.ref b :: st) h = xgo 100 1 4 L st (xev 84 [.ref b] h) := xo_callV (as := []) (by decide +kernel) rfl ⟨(by decide +kernel : xna 84 = 0), Nat.le_of_ble_eq_true rfl, rfl, by decide⟩ hb hl
set_option maxRecDepth 20000 in
theorem u_L_isBestSo_4 (l0 l1 l2 l3 l4 l5 l6 l7 : Option Value) (x : Int32) (st : List Value) (h : xH) : xf 100 4 [l0, l1, l2, l3, l4, l5, l6, l7] (.int x :: st) h = xf 100 5 [xcat l0, some (.int x), l2, l3, l4, l5, l6, l7] st h := xo_istore (k := 1) (by decide +kernel) (Nat.le_of_ble_eq_true rfl) rfl
set_option maxRecDepth 20000 in
theorem u_L_isBestSo_5 (l1 l2 l3 l4 l5 l6 l7 : Option Value) (x : Nat) (st : List Value) (h : xH) : xf 100 5 [some (.ref x), l1, l2, l3, l4, l5, l6, l7] st h = xf 100 6 [some (.ref x), l1, l2, l3, l4, l5, l6, l7] (.ref x :: st) h := xo_aload (k := 0) (by decide +kernel) rfl
set_option maxRecDepth 20000 in
theorem u_L_isBestSo_6 (L : xL) (st : List Value) (h : xH) : xf 100 6 L st h = xf 100 7 L (.int 0 :: st) h := xo_iconst (k := 0) (by decide +kernel) (by decide)
set_option maxRecDepth 20000 in
theorem u_L_isBestSo_7 (L : xL) (v0 : Int32) (b : Nat) (st : List Value) (h : xH) (hb : (xob h b).1 = 7) (hl : st.length ≤ 4) : xf 100 7 L (.int v0 :: .ref b :: st) h = xgo 100 7 10 L st (xev 82 [.ref b, .int v0] h) := xo_callV (as := [.int v0]) (by decide +kernel) rfl ⟨(by decide +kernel : xna 82 = 1), Nat.le_of_ble_eq_true rfl, rfl, by decide⟩ hb hl
set_option maxRecDepth 20000 in
theorem u_L_isBestSo_10 (l0 l1 l2 l3 l4 l5 l6 l7 : Option Value) (x : Int32) (st : List Value) (h : xH) : xf 100 10 [l0, l1, l2, l3, l4, l5, l6, l7] (.int x :: st) h = xf 100 11 [l0, xcat l1, some (.int x), l3, l4, l5, l6, l7] st h := xo_istore (k := 2) (by decide +kernel) (Nat.le_of_ble_eq_true rfl) rfl
set_option maxRecDepth 20000 in
theorem u_L_isBestSo_11 (L : xL) (st : List Value) (h : xH) : xf 100 11 L st h = xf 100 14 L (.int 1000 :: st) h := xo_iconst (k := 1000) (by decide +kernel) (by decide)
set_option maxRecDepth 20000 in
theorem u_L_isBestSo_14 (l0 l1 l2 l3 l4 l5 l6 l7 : Option Value) (x : Int32) (st : List Value) (h : xH) : xf 100 14 [l0, l1, l2, l3, l4, l5, l6, l7] (.int x :: st) h = xf 100 15 [l0, l1, xcat l2, some (.int x), l4, l5, l6, l7] st h := xo_istore (k := 3) (by decide +kernel) (Nat.le_of_ble_eq_true rfl) rfl
set_option maxRecDepth 20000 in
theorem u_L_isBestSo_15 (L : xL) (st : List Value) (h : xH) : xf 100 15 L st h = xf 100 16 L (.int 0 :: st) h := xo_iconst (k := 0) (by decide +kernel) (by decide)
set_option maxRecDepth 20000 in
theorem u_L_isBestSo_16 (l0 l1 l2 l3 l4 l5 l6 l7 : Option Value) (x : Int32) (st : List Value) (h : xH) : xf 100 16 [l0, l1, l2, l3, l4, l5, l6, l7] (.int x :: st) h = xf 100 18 [l0, l1, l2, xcat l3, some (.int x), l5, l6, l7] st h := xo_istore (k := 4) (by decide +kernel) (Nat.le_of_ble_eq_true rfl) rfl
set_option maxRecDepth 20000 in
theorem u_L_isBestSo_18 (L : xL) (st : List Value) (h : xH) : xf 100 18 L st h = xf 100 19 L (.int 2 :: st) h := xo_iconst (k := 2) (by decide +kernel) (by decide)
set_option maxRecDepth 20000 in
theorem u_L_isBestSo_19 (l0 l1 l2 l3 l4 l5 l6 l7 : Option Value) (x : Int32) (st : List Value) (h : xH) : xf 100 19 [l0, l1, l2, l3, l4, l5, l6, l7] (.int x :: st) h = xf 100 21 [l0, l1, l2, l3, xcat l4, some (.int x), l6, l7] st h := xo_istore (k := 5) (by decide +kernel) (Nat.le_of_ble_eq_true rfl) rfl
set_option maxRecDepth 20000 in
theorem u_L_isBestSo_21 (l0 l1 l2 l3 l4 l6 l7 : Option Value) (x : Int32) (st : List Value) (h : xH) : xf 100 21 [l0, l1, l2, l3, l4, some (.int x), l6, l7] st h = xf 100 23 [l0, l1, l2, l3, l4, some (.int x), l6, l7] (.int x :: st) h := xo_iload (k := 5) (by decide +kernel) rfl
set_option maxRecDepth 20000 in
theorem u_L_isBestSo_23 (L : xL) (st : List Value) (h : xH) : xf 100 23 L st h = xf 100 25 L (.int 10 :: st) h := xo_iconst (k := 10) (by decide +kernel) (by decide)
set_option maxRecDepth 20000 in
theorem u_L_isBestSo_25 (L : xL) (a b : Int32) (st : List Value) (h : xH) : xf 100 25 L (.int b :: .int a :: st) h = if a < b then xf 100 28 L st h else xf 100 84 L st h := xo_icmp_ge (t := 84) (by decide +kernel) rfl
set_option maxRecDepth 20000 in
theorem u_L_isBestSo_28 (l1 l2 l3 l4 l5 l6 l7 : Option Value) (x : Nat) (st : List Value) (h : xH) : xf 100 28 [some (.ref x), l1, l2, l3, l4, l5, l6, l7] st h = xf 100 29 [some (.ref x), l1, l2, l3, l4, l5, l6, l7] (.ref x :: st) h := xo_aload (k := 0) (by decide +kernel) rfl
set_option maxRecDepth 20000 in
theorem u_L_isBestSo_29 (L : xL) (st : List Value) (h : xH) : xf 100 29 L st h = xf 100 30 L (.int 0 :: st) h := xo_iconst (k := 0) (by decide +kernel) (by decide)
set_option maxRecDepth 20000 in
theorem u_L_isBestSo_30 (l0 l1 l2 l3 l4 l6 l7 : Option Value) (x : Int32) (st : List Value) (h : xH) : xf 100 30 [l0, l1, l2, l3, l4, some (.int x), l6, l7] st h = xf 100 32 [l0, l1, l2, l3, l4, some (.int x), l6, l7] (.int x :: st) h := xo_iload (k := 5) (by decide +kernel) rfl
set_option maxRecDepth 20000 in
theorem u_L_isBestSo_32 (L : xL) (v0 : Int32) (v1 : Int32) (b : Nat) (st : List Value) (h : xH) (hb : (xob h b).1 = 7) (hl : st.length ≤ 4) : xf 100 32 L (.int v1 :: .int v0 :: .ref b :: st) h = xgo 100 32 35 L st (xev 71 [.ref b, .int v0, .int v1] h) := xo_callV (as := [.int v0, .int v1]) (by decide +kernel) rfl ⟨(by decide +kernel : xna 71 = 2), Nat.le_of_ble_eq_true rfl, rfl, by decide⟩ hb hl
set_option maxRecDepth 20000 in
theorem u_L_isBestSo_35 (l0 l1 l2 l3 l4 l5 l6 l7 : Option Value) (x : Int32) (st : List Value) (h : xH) : xf 100 35 [l0, l1, l2, l3, l4, l5, l6, l7] (.int x :: st) h = xf 100 37 [l0, l1, l2, l3, l4, xcat l5, some (.int x), l7] st h := xo_istore (k := 6) (by decide +kernel) (Nat.le_of_ble_eq_true rfl) rfl
set_option maxRecDepth 20000 in
theorem u_L_isBestSo_37 (l1 l2 l3 l4 l5 l6 l7 : Option Value) (x : Nat) (st : List Value) (h : xH) : xf 100 37 [some (.ref x), l1, l2, l3, l4, l5, l6, l7] st h = xf 100 38 [some (.ref x), l1, l2, l3, l4, l5, l6, l7] (.ref x :: st) h := xo_aload (k := 0) (by decide +kernel) rfl
set_option maxRecDepth 20000 in
theorem u_L_isBestSo_38 (L : xL) (st : List Value) (h : xH) : xf 100 38 L st h = xf 100 39 L (.int 2 :: st) h := xo_iconst (k := 2) (by decide +kernel) (by decide)
set_option maxRecDepth 20000 in
theorem u_L_isBestSo_39 (L : xL) (v0 : Int32) (b : Nat) (st : List Value) (h : xH) (hb : (xob h b).1 = 7) (hl : st.length ≤ 4) : xf 100 39 L (.int v0 :: .ref b :: st) h = xgo 100 39 42 L st (xev 83 [.ref b, .int v0] h) := xo_callV (as := [.int v0]) (by decide +kernel) rfl ⟨(by decide +kernel : xna 83 = 1), Nat.le_of_ble_eq_true rfl, rfl, by decide⟩ hb hl
set_option maxRecDepth 20000 in
theorem u_L_isBestSo_42 (l0 l1 l2 l3 l4 l5 l6 l7 : Option Value) (x : Int32) (st : List Value) (h : xH) : xf 100 42 [l0, l1, l2, l3, l4, l5, l6, l7] (.int x :: st) h = xf 100 44 [l0, l1, l2, l3, l4, l5, xcat l6, some (.int x)] st h := xo_istore (k := 7) (by decide +kernel) (Nat.le_of_ble_eq_true rfl) rfl
set_option maxRecDepth 20000 in
theorem u_L_isBestSo_44 (l1 l2 l3 l4 l5 l6 l7 : Option Value) (x : Nat) (st : List Value) (h : xH) : xf 100 44 [some (.ref x), l1, l2, l3, l4, l5, l6, l7] st h = xf 100 45 [some (.ref x), l1, l2, l3, l4, l5, l6, l7] (.ref x :: st) h := xo_aload (k := 0) (by decide +kernel) rfl
set_option maxRecDepth 20000 in
theorem u_L_isBestSo_45 (L : xL) (b : Nat) (st : List Value) (h : xH) (hb : (xob h b).1 = 7) (hl : st.length ≤ 4) : xf 100 45 L (.ref b :: st) h = xgo 100 45 48 L st (xev 74 [.ref b] h) := xo_callV (as := []) (by decide +kernel) rfl ⟨(by decide +kernel : xna 74 = 0), Nat.le_of_ble_eq_true rfl, rfl, by decide⟩ hb hl
set_option maxRecDepth 20000 in
theorem u_L_isBestSo_48 (l0 l1 l2 l3 l4 l5 l6 l7 : Option Value) (x : Int32) (st : List Value) (h : xH) : xf 100 48 [l0, l1, l2, l3, l4, l5, l6, l7] (.int x :: st) h = xf 100 50 [l0, l1, l2, l3, l4, xcat l5, some (.int x), l7] st h := xo_istore (k := 6) (by decide +kernel) (Nat.le_of_ble_eq_true rfl) rfl
set_option maxRecDepth 20000 in
theorem u_L_isBestSo_50 (l0 l1 l2 l3 l4 l5 l6 : Option Value) (x : Int32) (st : List Value) (h : xH) : xf 100 50 [l0, l1, l2, l3, l4, l5, l6, some (.int x)] st h = xf 100 52 [l0, l1, l2, l3, l4, l5, l6, some (.int x)] (.int x :: st) h := xo_iload (k := 7) (by decide +kernel) rfl
set_option maxRecDepth 20000 in
theorem u_L_isBestSo_52 (l0 l1 l2 l4 l5 l6 l7 : Option Value) (x : Int32) (st : List Value) (h : xH) : xf 100 52 [l0, l1, l2, some (.int x), l4, l5, l6, l7] st h = xf 100 53 [l0, l1, l2, some (.int x), l4, l5, l6, l7] (.int x :: st) h := xo_iload (k := 3) (by decide +kernel) rfl
set_option maxRecDepth 20000 in
theorem u_L_isBestSo_53 (L : xL) (a b : Int32) (st : List Value) (h : xH) : xf 100 53 L (.int b :: .int a :: st) h = if a < b then xf 100 56 L st h else xf 100 61 L st h := xo_icmp_ge (t := 61) (by decide +kernel) rfl
set_option maxRecDepth 20000 in
theorem u_L_isBestSo_56 (l0 l1 l2 l3 l4 l6 l7 : Option Value) (x : Int32) (st : List Value) (h : xH) : xf 100 56 [l0, l1, l2, l3, l4, some (.int x), l6, l7] st h = xf 100 58 [l0, l1, l2, l3, l4, some (.int x), l6, l7] (.int x :: st) h := xo_iload (k := 5) (by decide +kernel) rfl
set_option maxRecDepth 20000 in
theorem u_L_isBestSo_58 (L : xL) (st : List Value) (h : xH) : xf 100 58 L st h = xf 100 63 L st h := xo_goto (n := 61) (t := 63) (by decide +kernel) rfl
set_option maxRecDepth 20000 in
theorem u_L_isBestSo_61 (l0 l1 l2 l3 l5 l6 l7 : Option Value) (x : Int32) (st : List Value) (h : xH) : xf 100 61 [l0, l1, l2, l3, some (.int x), l5, l6, l7] st h = xf 100 63 [l0, l1, l2, l3, some (.int x), l5, l6, l7] (.int x :: st) h := xo_iload (k := 4) (by decide +kernel) rfl
set_option maxRecDepth 20000 in
theorem u_L_isBestSo_63 (l0 l1 l2 l3 l4 l5 l6 l7 : Option Value) (x : Int32) (st : List Value) (h : xH) : xf 100 63 [l0, l1, l2, l3, l4, l5, l6, l7] (.int x :: st) h = xf 100 65 [l0, l1, l2, xcat l3, some (.int x), l5, l6, l7] st h := xo_istore (k := 4) (by decide +kernel) (Nat.le_of_ble_eq_true rfl) rfl
set_option maxRecDepth 20000 in
theorem u_L_isBestSo_65 (l0 l1 l2 l3 l4 l5 l6 : Option Value) (x : Int32) (st : List Value) (h : xH) : xf 100 65 [l0, l1, l2, l3, l4, l5, l6, some (.int x)] st h = xf 100 67 [l0, l1, l2, l3, l4, l5, l6, some (.int x)] (.int x :: st) h := xo_iload (k := 7) (by decide +kernel) rfl
set_option maxRecDepth 20000 in
theorem u_L_isBestSo_67 (l0 l1 l2 l4 l5 l6 l7 : Option Value) (x : Int32) (st : List Value) (h : xH) : xf 100 67 [l0, l1, l2, some (.int x), l4, l5, l6, l7] st h = xf 100 68 [l0, l1, l2, some (.int x), l4, l5, l6, l7] (.int x :: st) h := xo_iload (k := 3) (by decide +kernel) rfl
set_option maxRecDepth 20000 in
theorem u_L_isBestSo_68 (L : xL) (a b : Int32) (st : List Value) (h : xH) : xf 100 68 L (.int b :: .int a :: st) h = if a < b then xf 100 71 L st h else xf 100 76 L st h := xo_icmp_ge (t := 76) (by decide +kernel) rfl
set_option maxRecDepth 20000 in
theorem u_L_isBestSo_71 (l0 l1 l2 l3 l4 l5 l6 : Option Value) (x : Int32) (st : List Value) (h : xH) : xf 100 71 [l0, l1, l2, l3, l4, l5, l6, some (.int x)] st h = xf 100 73 [l0, l1, l2, l3, l4, l5, l6, some (.int x)] (.int x :: st) h := xo_iload (k := 7) (by decide +kernel) rfl
set_option maxRecDepth 20000 in
theorem u_L_isBestSo_73 (L : xL) (st : List Value) (h : xH) : xf 100 73 L st h = xf 100 77 L st h := xo_goto (n := 76) (t := 77) (by decide +kernel) rfl
set_option maxRecDepth 20000 in
theorem u_L_isBestSo_76 (l0 l1 l2 l4 l5 l6 l7 : Option Value) (x : Int32) (st : List Value) (h : xH) : xf 100 76 [l0, l1, l2, some (.int x), l4, l5, l6, l7] st h = xf 100 77 [l0, l1, l2, some (.int x), l4, l5, l6, l7] (.int x :: st) h := xo_iload (k := 3) (by decide +kernel) rfl
set_option maxRecDepth 20000 in
theorem u_L_isBestSo_77 (l0 l1 l2 l3 l4 l5 l6 l7 : Option Value) (x : Int32) (st : List Value) (h : xH) : xf 100 77 [l0, l1, l2, l3, l4, l5, l6, l7] (.int x :: st) h = xf 100 78 [l0, l1, xcat l2, some (.int x), l4, l5, l6, l7] st h := xo_istore (k := 3) (by decide +kernel) (Nat.le_of_ble_eq_true rfl) rfl
set_option maxRecDepth 20000 in
theorem u_L_isBestSo_78 (l0 l1 l2 l3 l4 l6 l7 : Option Value) (x : Int32) (st : List Value) (h : xH) : xf 100 78 [l0, l1, l2, l3, l4, some (.int x), l6, l7] st h = xf 100 81 [l0, l1, l2, l3, xcat l4, some (.int (x + 1)), l6, l7] st h := xo_iinc (k := 5) (c := 1) (by decide +kernel) rfl (by decide) rfl
set_option maxRecDepth 20000 in
theorem u_L_isBestSo_81 (L : xL) (st : List Value) (h : xH) : xf 100 81 L st h = xf 100 21 L st h := xo_goto (n := 84) (t := 21) (by decide +kernel) rfl
set_option maxRecDepth 20000 in
theorem u_L_isBestSo_84 (l0 l2 l3 l4 l5 l6 l7 : Option Value) (x : Int32) (st : List Value) (h : xH) : xf 100 84 [l0, some (.int x), l2, l3, l4, l5, l6, l7] st h = xf 100 85 [l0, some (.int x), l2, l3, l4, l5, l6, l7] (.int x :: st) h := xo_iload (k := 1) (by decide +kernel) rfl
set_option maxRecDepth 20000 in
theorem u_L_isBestSo_85 (l0 l1 l2 l3 l5 l6 l7 : Option Value) (x : Int32) (st : List Value) (h : xH) : xf 100 85 [l0, l1, l2, l3, some (.int x), l5, l6, l7] st h = xf 100 87 [l0, l1, l2, l3, some (.int x), l5, l6, l7] (.int x :: st) h := xo_iload (k := 4) (by decide +kernel) rfl
set_option maxRecDepth 20000 in
theorem u_L_isBestSo_87 (L : xL) (a b : Int32) (st : List Value) (h : xH) : xf 100 87 L (.int b :: .int a :: st) h = if a = b then xf 100 90 L st h else xf 100 103 L st h := xo_icmp_ne (t := 103) (by decide +kernel) rfl
set_option maxRecDepth 20000 in
theorem u_L_isBestSo_90 (l1 l2 l3 l4 l5 l6 l7 : Option Value) (x : Nat) (st : List Value) (h : xH) : xf 100 90 [some (.ref x), l1, l2, l3, l4, l5, l6, l7] st h = xf 100 91 [some (.ref x), l1, l2, l3, l4, l5, l6, l7] (.ref x :: st) h := xo_aload (k := 0) (by decide +kernel) rfl
set_option maxRecDepth 20000 in
theorem u_L_isBestSo_91 (L : xL) (st : List Value) (h : xH) : xf 100 91 L st h = xf 100 92 L (.int 0 :: st) h := xo_iconst (k := 0) (by decide +kernel) (by decide)
set_option maxRecDepth 20000 in
theorem u_L_isBestSo_92 (L : xL) (v0 : Int32) (b : Nat) (st : List Value) (h : xH) (hb : (xob h b).1 = 7) (hl : st.length ≤ 4) : xf 100 92 L (.int v0 :: .ref b :: st) h = xgo 100 92 95 L st (xev 82 [.ref b, .int v0] h) := xo_callV (as := [.int v0]) (by decide +kernel) rfl ⟨(by decide +kernel : xna 82 = 1), Nat.le_of_ble_eq_true rfl, rfl, by decide⟩ hb hl
set_option maxRecDepth 20000 in
theorem u_L_isBestSo_95 (l0 l1 l3 l4 l5 l6 l7 : Option Value) (x : Int32) (st : List Value) (h : xH) : xf 100 95 [l0, l1, some (.int x), l3, l4, l5, l6, l7] st h = xf 100 96 [l0, l1, some (.int x), l3, l4, l5, l6, l7] (.int x :: st) h := xo_iload (k := 2) (by decide +kernel) rfl
set_option maxRecDepth 20000 in
theorem u_L_isBestSo_96 (L : xL) (a b : Int32) (st : List Value) (h : xH) : xf 100 96 L (.int b :: .int a :: st) h = if a = b then xf 100 99 L st h else xf 100 103 L st h := xo_icmp_ne (t := 103) (by decide +kernel) rfl
set_option maxRecDepth 20000 in
theorem u_L_isBestSo_99 (L : xL) (st : List Value) (h : xH) : xf 100 99 L st h = xf 100 100 L (.int 1 :: st) h := xo_iconst (k := 1) (by decide +kernel) (by decide)
set_option maxRecDepth 20000 in
theorem u_L_isBestSo_100 (L : xL) (st : List Value) (h : xH) : xf 100 100 L st h = xf 100 104 L st h := xo_goto (n := 103) (t := 104) (by decide +kernel) rfl
set_option maxRecDepth 20000 in
theorem u_L_isBestSo_103 (L : xL) (st : List Value) (h : xH) : xf 100 103 L st h = xf 100 104 L (.int 0 :: st) h := xo_iconst (k := 0) (by decide +kernel) (by decide)
set_option maxRecDepth 20000 in
theorem u_L_isBestSo_104 (L : xL) (x : Int32) (h : xH) (hv : x = 0 ∨ x = 1) : xf 100 104 L [.int x] h = some (.inl (some (.int x)), h) := xo_ireturn (n := 105) (by decide +kernel) (by rcases hv with rfl | rfl <;> rfl)
set_option maxRecDepth 20000 in
theorem e_L_isBestSo (v0 : Nat) (h : xH) : xev 100 [.ref v0] h = xf 100 0 [some (.ref v0), none, none, none, none, none, none, none] [] h := rfl
set_option maxRecDepth 20000 in
theorem u_L_law_0 (L : xL) (st : List Value) (h : xH) (hn : h.2.1 ≠ 0) : xf 101 0 L st h = xf 101 3 L (.ref h.2.1 :: st) (xnew h (.inr (7, xdef 7)) 5) := xo_new (c := 7) (by decide +kernel) (by decide) hn
set_option maxRecDepth 20000 in
theorem u_L_law_3 (L : xL) (a : Nat) (st : List Value) (h : xH) : xf 101 3 L (.ref a :: st) h = xf 101 4 L (.ref a :: .ref a :: st) h := xo_dupR (by decide +kernel)
set_option maxRecDepth 20000 in
theorem u_L_law_4 (L : xL) (b : Nat) (st : List Value) (h : xH) (hl : st.length ≤ 4) : xf 101 4 L (.ref b :: st) h = xgoI 101 4 7 L st (xev 62 [.ref b] h) := xo_callI (as := []) (by decide +kernel) rfl ⟨(by decide +kernel : xna 62 = 0), Nat.le_of_ble_eq_true rfl, by decide⟩ hl
set_option maxRecDepth 20000 in
theorem u_L_law_7 (l0 l1 l2 l3 l4 l5 : Option Value) (x : Nat) (st : List Value) (h : xH) : xf 101 7 [l0, l1, l2, l3, l4, l5] (.ref x :: st) h = xf 101 8 [xcat l0, some (.ref x), l2, l3, l4, l5] st h := xo_astore (k := 1) (by decide +kernel) (Nat.le_of_ble_eq_true rfl) rfl
set_option maxRecDepth 20000 in
theorem u_L_law_8 (L : xL) (st : List Value) (h : xH) : xf 101 8 L st h = xf 101 9 L (.int 0 :: st) h := xo_iconst (k := 0) (by decide +kernel) (by decide)
set_option maxRecDepth 20000 in
theorem u_L_law_9 (l0 l1 l2 l3 l4 l5 : Option Value) (x : Int32) (st : List Value) (h : xH) : xf 101 9 [l0, l1, l2, l3, l4, l5] (.int x :: st) h = xf 101 10 [l0, xcat l1, some (.int x), l3, l4, l5] st h := xo_istore (k := 2) (by decide +kernel) (Nat.le_of_ble_eq_true rfl) rfl
set_option maxRecDepth 20000 in
theorem u_L_law_10 (l0 l1 l3 l4 l5 : Option Value) (x : Int32) (st : List Value) (h : xH) : xf 101 10 [l0, l1, some (.int x), l3, l4, l5] st h = xf 101 11 [l0, l1, some (.int x), l3, l4, l5] (.int x :: st) h := xo_iload (k := 2) (by decide +kernel) rfl
set_option maxRecDepth 20000 in
theorem u_L_law_11 (L : xL) (st : List Value) (h : xH) : xf 101 11 L st h = xf 101 13 L (.int 36 :: st) h := xo_iconst (k := 36) (by decide +kernel) (by decide)
set_option maxRecDepth 20000 in
theorem u_L_law_13 (L : xL) (a b : Int32) (st : List Value) (h : xH) : xf 101 13 L (.int b :: .int a :: st) h = if a < b then xf 101 16 L st h else xf 101 93 L st h := xo_icmp_ge (t := 93) (by decide +kernel) rfl
set_option maxRecDepth 20000 in
theorem u_L_law_16 (l1 l2 l3 l4 l5 : Option Value) (x : Nat) (st : List Value) (h : xH) : xf 101 16 [some (.ref x), l1, l2, l3, l4, l5] st h = xf 101 17 [some (.ref x), l1, l2, l3, l4, l5] (.ref x :: st) h := xo_aload (k := 0) (by decide +kernel) rfl
set_option maxRecDepth 20000 in
theorem u_L_law_17 (l0 l1 l3 l4 l5 : Option Value) (x : Int32) (st : List Value) (h : xH) : xf 101 17 [l0, l1, some (.int x), l3, l4, l5] st h = xf 101 18 [l0, l1, some (.int x), l3, l4, l5] (.int x :: st) h := xo_iload (k := 2) (by decide +kernel) rfl
set_option maxRecDepth 20000 in
theorem u_L_law_18 (L : xL) (v0 : Nat) (v1 : Int32) (st : List Value) (h : xH) (hl : st.length ≤ 4) : xf 101 18 L (.int v1 :: .ref v0 :: st) h = xgo 101 18 21 L st (xev 91 [.ref v0, .int v1] h) := xo_callS (as := [.ref v0, .int v1]) (by decide +kernel) rfl ⟨(by decide +kernel : xna 91 = 2), Nat.le_of_ble_eq_true rfl, by decide⟩ hl
set_option maxRecDepth 20000 in
theorem u_L_law_21 (l0 l1 l2 l3 l4 l5 : Option Value) (x : Int32) (st : List Value) (h : xH) : xf 101 21 [l0, l1, l2, l3, l4, l5] (.int x :: st) h = xf 101 22 [l0, l1, xcat l2, some (.int x), l4, l5] st h := xo_istore (k := 3) (by decide +kernel) (Nat.le_of_ble_eq_true rfl) rfl
set_option maxRecDepth 20000 in
theorem u_L_law_22 (l0 l2 l3 l4 l5 : Option Value) (x : Nat) (st : List Value) (h : xH) : xf 101 22 [l0, some (.ref x), l2, l3, l4, l5] st h = xf 101 23 [l0, some (.ref x), l2, l3, l4, l5] (.ref x :: st) h := xo_aload (k := 1) (by decide +kernel) rfl
set_option maxRecDepth 20000 in
theorem u_L_law_23 (L : xL) (v0 : Nat) (st : List Value) (h : xH) (hl : st.length ≤ 4) : xf 101 23 L (.ref v0 :: st) h = xgo 101 23 26 L st (xev 97 [.ref v0] h) := xo_callS (as := [.ref v0]) (by decide +kernel) rfl ⟨(by decide +kernel : xna 97 = 1), Nat.le_of_ble_eq_true rfl, by decide⟩ hl
set_option maxRecDepth 20000 in
theorem u_L_law_26 (l0 l1 l2 l3 l4 l5 : Option Value) (x : Int64) (st : List Value) (h : xH) : xf 101 26 [l0, l1, l2, l3, l4, l5] (.long x :: st) h = xf 101 28 [l0, l1, l2, xcat l3, some (.long x), none] st h := xo_lstore (k := 4) (by decide +kernel) (Nat.le_of_ble_eq_true rfl) rfl
set_option maxRecDepth 20000 in
theorem u_L_law_28 (l0 l2 l3 l4 l5 : Option Value) (x : Nat) (st : List Value) (h : xH) : xf 101 28 [l0, some (.ref x), l2, l3, l4, l5] st h = xf 101 29 [l0, some (.ref x), l2, l3, l4, l5] (.ref x :: st) h := xo_aload (k := 1) (by decide +kernel) rfl
set_option maxRecDepth 20000 in
theorem u_L_law_29 (l0 l1 l2 l4 l5 : Option Value) (x : Int32) (st : List Value) (h : xH) : xf 101 29 [l0, l1, l2, some (.int x), l4, l5] st h = xf 101 30 [l0, l1, l2, some (.int x), l4, l5] (.int x :: st) h := xo_iload (k := 3) (by decide +kernel) rfl
set_option maxRecDepth 20000 in
theorem u_L_law_30 (L : xL) (v0 : Nat) (v1 : Int32) (st : List Value) (h : xH) (hl : st.length ≤ 4) : xf 101 30 L (.int v1 :: .ref v0 :: st) h = xgo 101 30 33 L st (xev 96 [.ref v0, .int v1] h) := xo_callS (as := [.ref v0, .int v1]) (by decide +kernel) rfl ⟨(by decide +kernel : xna 96 = 2), Nat.le_of_ble_eq_true rfl, by decide⟩ hl
set_option maxRecDepth 20000 in
theorem u_L_law_33 (L : xL) (a : Int32) (st : List Value) (h : xH) : xf 101 33 L (.int a :: st) h = if a = 0 then xf 101 48 L st h else xf 101 36 L st h := xo_if_eq (t := 48) (by decide +kernel) rfl
set_option maxRecDepth 20000 in
theorem u_L_law_36 (l0 l2 l3 l4 l5 : Option Value) (x : Nat) (st : List Value) (h : xH) : xf 101 36 [l0, some (.ref x), l2, l3, l4, l5] st h = xf 101 37 [l0, some (.ref x), l2, l3, l4, l5] (.ref x :: st) h := xo_aload (k := 1) (by decide +kernel) rfl
set_option maxRecDepth 20000 in
theorem u_L_law_37 (L : xL) (v0 : Nat) (st : List Value) (h : xH) (hl : st.length ≤ 4) : xf 101 37 L (.ref v0 :: st) h = xgo 101 37 40 L st (xev 97 [.ref v0] h) := xo_callS (as := [.ref v0]) (by decide +kernel) rfl ⟨(by decide +kernel : xna 97 = 1), Nat.le_of_ble_eq_true rfl, by decide⟩ hl
set_option maxRecDepth 20000 in
theorem u_L_law_40 (l0 l1 l2 l3 l5 : Option Value) (x : Int64) (st : List Value) (h : xH) : xf 101 40 [l0, l1, l2, l3, some (.long x), l5] st h = xf 101 42 [l0, l1, l2, l3, some (.long x), l5] (.long x :: st) h := xo_lload (k := 4) (by decide +kernel) rfl
set_option maxRecDepth 20000 in
theorem u_L_law_42 (L : xL) (a b : Int64) (st : List Value) (h : xH) : xf 101 42 L (.long b :: .long a :: st) h = xf 101 43 L (.int (lg_cmp a b) :: st) h := xo_lcmp (by decide +kernel)
set_option maxRecDepth 20000 in
theorem u_L_law_43 (L : xL) (a : Int32) (st : List Value) (h : xH) : xf 101 43 L (.int a :: st) h = if a = 0 then xf 101 48 L st h else xf 101 46 L st h := xo_if_eq (t := 48) (by decide +kernel) rfl
set_option maxRecDepth 20000 in
theorem u_L_law_46 (L : xL) (st : List Value) (h : xH) : xf 101 46 L st h = xf 101 47 L (.int 0 :: st) h := xo_iconst (k := 0) (by decide +kernel) (by decide)
set_option maxRecDepth 20000 in
theorem u_L_law_47 (L : xL) (x : Int32) (h : xH) (hv : x = 0 ∨ x = 1) : xf 101 47 L [.int x] h = some (.inl (some (.int x)), h) := xo_ireturn (n := 48) (by decide +kernel) (by rcases hv with rfl | rfl <;> rfl)
set_option maxRecDepth 20000 in
theorem u_L_law_48 (l0 l1 l3 l4 l5 : Option Value) (x : Int32) (st : List Value) (h : xH) : xf 101 48 [l0, l1, some (.int x), l3, l4, l5] st h = xf 101 49 [l0, l1, some (.int x), l3, l4, l5] (.int x :: st) h := xo_iload (k := 2) (by decide +kernel) rfl
set_option maxRecDepth 20000 in
theorem u_L_law_49 (L : xL) (st : List Value) (h : xH) : xf 101 49 L st h = xf 101 50 L (.int 3 :: st) h := xo_iconst (k := 3) (by decide +kernel) (by decide)
set_option maxRecDepth 20000 in
theorem u_L_law_50 (L : xL) (a b : Int32) (st : List Value) (h : xH) (hb : ¬ b = 0) : xf 101 50 L (.int b :: .int a :: st) h = xf 101 51 L (.int (a - a / b * b) :: st) h := xo_irem (by decide +kernel) hb
set_option maxRecDepth 20000 in
theorem u_L_law_51 (L : xL) (st : List Value) (h : xH) : xf 101 51 L st h = xf 101 52 L (.int 2 :: st) h := xo_iconst (k := 2) (by decide +kernel) (by decide)
set_option maxRecDepth 20000 in
theorem u_L_law_52 (L : xL) (a b : Int32) (st : List Value) (h : xH) : xf 101 52 L (.int b :: .int a :: st) h = if a = b then xf 101 55 L st h else xf 101 69 L st h := xo_icmp_ne (t := 69) (by decide +kernel) rfl
set_option maxRecDepth 20000 in
theorem u_L_law_55 (l0 l2 l3 l4 l5 : Option Value) (x : Nat) (st : List Value) (h : xH) : xf 101 55 [l0, some (.ref x), l2, l3, l4, l5] st h = xf 101 56 [l0, some (.ref x), l2, l3, l4, l5] (.ref x :: st) h := xo_aload (k := 1) (by decide +kernel) rfl
set_option maxRecDepth 20000 in
theorem u_L_law_56 (L : xL) (v0 : Nat) (st : List Value) (h : xH) (hl : st.length ≤ 4) : xf 101 56 L (.ref v0 :: st) h = xgo 101 56 59 L st (xev 98 [.ref v0] h) := xo_callS (as := [.ref v0]) (by decide +kernel) rfl ⟨(by decide +kernel : xna 98 = 1), Nat.le_of_ble_eq_true rfl, by decide⟩ hl
set_option maxRecDepth 20000 in
theorem u_L_law_59 (L : xL) (a : Int32) (st : List Value) (h : xH) : xf 101 59 L (.int a :: st) h = if a = 0 then xf 101 85 L st h else xf 101 62 L st h := xo_if_eq (t := 85) (by decide +kernel) rfl
set_option maxRecDepth 20000 in
theorem u_L_law_62 (l0 l2 l3 l4 l5 : Option Value) (x : Nat) (st : List Value) (h : xH) : xf 101 62 [l0, some (.ref x), l2, l3, l4, l5] st h = xf 101 63 [l0, some (.ref x), l2, l3, l4, l5] (.ref x :: st) h := xo_aload (k := 1) (by decide +kernel) rfl
set_option maxRecDepth 20000 in
theorem u_L_law_63 (L : xL) (v0 : Nat) (st : List Value) (h : xH) (hl : st.length ≤ 4) : xf 101 63 L (.ref v0 :: st) h = xgo 101 63 66 L st (xev 99 [.ref v0] h) := xo_callS (as := [.ref v0]) (by decide +kernel) rfl ⟨(by decide +kernel : xna 99 = 1), Nat.le_of_ble_eq_true rfl, by decide⟩ hl
set_option maxRecDepth 20000 in
theorem u_L_law_66 (L : xL) (a : Int32) (st : List Value) (h : xH) : xf 101 66 L (.int a :: st) h = if a = 0 then xf 101 85 L st h else xf 101 69 L st h := xo_if_eq (t := 85) (by decide +kernel) rfl
set_option maxRecDepth 20000 in
theorem u_L_law_69 (l0 l1 l3 l4 l5 : Option Value) (x : Int32) (st : List Value) (h : xH) : xf 101 69 [l0, l1, some (.int x), l3, l4, l5] st h = xf 101 70 [l0, l1, some (.int x), l3, l4, l5] (.int x :: st) h := xo_iload (k := 2) (by decide +kernel) rfl
set_option maxRecDepth 20000 in
theorem u_L_law_70 (L : xL) (st : List Value) (h : xH) : xf 101 70 L st h = xf 101 72 L (.int 9 :: st) h := xo_iconst (k := 9) (by decide +kernel) (by decide)
set_option maxRecDepth 20000 in
theorem u_L_law_72 (L : xL) (a b : Int32) (st : List Value) (h : xH) (hb : ¬ b = 0) : xf 101 72 L (.int b :: .int a :: st) h = xf 101 73 L (.int (a - a / b * b) :: st) h := xo_irem (by decide +kernel) hb
set_option maxRecDepth 20000 in
theorem u_L_law_73 (L : xL) (st : List Value) (h : xH) : xf 101 73 L st h = xf 101 75 L (.int 8 :: st) h := xo_iconst (k := 8) (by decide +kernel) (by decide)
set_option maxRecDepth 20000 in
theorem u_L_law_75 (L : xL) (a b : Int32) (st : List Value) (h : xH) : xf 101 75 L (.int b :: .int a :: st) h = if a = b then xf 101 78 L st h else xf 101 87 L st h := xo_icmp_ne (t := 87) (by decide +kernel) rfl
set_option maxRecDepth 20000 in
theorem u_L_law_78 (l0 l2 l3 l4 l5 : Option Value) (x : Nat) (st : List Value) (h : xH) : xf 101 78 [l0, some (.ref x), l2, l3, l4, l5] st h = xf 101 79 [l0, some (.ref x), l2, l3, l4, l5] (.ref x :: st) h := xo_aload (k := 1) (by decide +kernel) rfl
set_option maxRecDepth 20000 in
theorem u_L_law_79 (L : xL) (v0 : Nat) (st : List Value) (h : xH) (hl : st.length ≤ 4) : xf 101 79 L (.ref v0 :: st) h = xgo 101 79 82 L st (xev 100 [.ref v0] h) := xo_callS (as := [.ref v0]) (by decide +kernel) rfl ⟨(by decide +kernel : xna 100 = 1), Nat.le_of_ble_eq_true rfl, by decide⟩ hl
set_option maxRecDepth 20000 in
theorem u_L_law_82 (L : xL) (a : Int32) (st : List Value) (h : xH) : xf 101 82 L (.int a :: st) h = if a = 0 then xf 101 85 L st h else xf 101 87 L st h := xo_if_ne (t := 87) (by decide +kernel) rfl
set_option maxRecDepth 20000 in
theorem u_L_law_85 (L : xL) (st : List Value) (h : xH) : xf 101 85 L st h = xf 101 86 L (.int 0 :: st) h := xo_iconst (k := 0) (by decide +kernel) (by decide)
set_option maxRecDepth 20000 in
theorem u_L_law_86 (L : xL) (x : Int32) (h : xH) (hv : x = 0 ∨ x = 1) : xf 101 86 L [.int x] h = some (.inl (some (.int x)), h) := xo_ireturn (n := 87) (by decide +kernel) (by rcases hv with rfl | rfl <;> rfl)
set_option maxRecDepth 20000 in
theorem u_L_law_87 (l0 l1 l3 l4 l5 : Option Value) (x : Int32) (st : List Value) (h : xH) : xf 101 87 [l0, l1, some (.int x), l3, l4, l5] st h = xf 101 90 [l0, xcat l1, some (.int (x + 1)), l3, l4, l5] st h := xo_iinc (k := 2) (c := 1) (by decide +kernel) rfl (by decide) rfl
set_option maxRecDepth 20000 in
theorem u_L_law_90 (L : xL) (st : List Value) (h : xH) : xf 101 90 L st h = xf 101 10 L st h := xo_goto (n := 93) (t := 10) (by decide +kernel) rfl
set_option maxRecDepth 20000 in
theorem u_L_law_93 (L : xL) (st : List Value) (h : xH) : xf 101 93 L st h = xf 101 94 L (.int 1 :: st) h := xo_iconst (k := 1) (by decide +kernel) (by decide)
set_option maxRecDepth 20000 in
theorem u_L_law_94 (L : xL) (x : Int32) (h : xH) (hv : x = 0 ∨ x = 1) : xf 101 94 L [.int x] h = some (.inl (some (.int x)), h) := xo_ireturn (n := 95) (by decide +kernel) (by rcases hv with rfl | rfl <;> rfl)
set_option maxRecDepth 20000 in
theorem e_L_law (v0 : Nat) (h : xH) : xev 101 [.ref v0] h = xf 101 0 [some (.ref v0), none, none, none, none, none] [] h := rfl
