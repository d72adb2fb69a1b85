/-! Instructions as equations: written by gen_u.py. -/
set_option maxRecDepth 20000 in
theorem u_L_grow_0 (l0 l2 : Option Value) (x : Nat) (st : List Value) (h : xH) : xf 161 0 [l0, some (.ref x), l2] st h = xf 161 1 [l0, some (.ref x), l2] (.ref x :: st) h := xo_aload (k := 1) (by decide +kernel) rfl
set_option maxRecDepth 20000 in
theorem u_L_grow_1 (L : xL) (st : List Value) (h : xH) : xf 161 1 L st h = xf 161 2 L (.int 0 :: st) h := xo_iconst (k := 0) (by decide +kernel) (by decide)
set_option maxRecDepth 20000 in
theorem u_L_grow_2 (l1 l2 : Option Value) (x : Nat) (st : List Value) (h : xH) : xf 161 2 [some (.ref x), l1, l2] st h = xf 161 3 [some (.ref x), l1, l2] (.ref x :: st) h := xo_aload (k := 0) (by decide +kernel) rfl
set_option maxRecDepth 20000 in
theorem u_L_grow_3 (L : xL) (b : Nat) (st : List Value) (h : xH) (hb : (xob h b).1 = 7) (hl : st.length ≤ 4) : xf 161 3 L (.ref b :: st) h = xgo 161 3 6 L st (xev 63 [.ref b] h) := xo_callV (as := []) (by decide +kernel) rfl ⟨(by decide +kernel : xna 63 = 0), Nat.le_of_ble_eq_true rfl, rfl, by decide⟩ hb hl
set_option maxRecDepth 20000 in
theorem t_L_grow_3_0 (l0 l1 l2 : Option Value) (st : List Value) (h : xH) : xgo 161 3 6 [l0, l1, l2] st (some (.inr 0, h)) = xf 161 12 [l0, xcat l1, none] [] h := xgo_thr (hp := 12) (k := 2) (by decide +kernel)
set_option maxRecDepth 20000 in
theorem t_L_grow_3_1 (l0 l1 l2 : Option Value) (st : List Value) (h : xH) : xgo 161 3 6 [l0, l1, l2] st (some (.inr 1, h)) = xf 161 15 [l0, xcat l1, none] [] h := xgo_thr (hp := 15) (k := 2) (by decide +kernel)
set_option maxRecDepth 20000 in
theorem u_L_grow_6 (L : xL) (a : Int32) (st : List Value) (h : xH) : xf 161 6 L (.int a :: st) h = xf 161 7 L (.long a.toInt64 :: st) h := xo_i2l (by decide +kernel)
set_option maxRecDepth 20000 in
theorem u_L_grow_7 (L : xL) (v : Int64) (i : Int32) (a : Nat) (st : List Value) (h : xH) (hx : xix i (xal h a).1) : xf 161 7 L (.long v :: .int i :: .ref a :: st) h = xf 161 8 L st (xsl h a i.toNatClampNeg v) := xo_lastore (by decide +kernel) hx
set_option maxRecDepth 20000 in
theorem u_L_grow_8 (L : xL) (st : List Value) (h : xH) : xf 161 8 L st h = xf 161 17 L st h := xo_goto (n := 11) (t := 17) (by decide +kernel) rfl
set_option maxRecDepth 20000 in
theorem u_L_grow_11 (l0 l1 l2 : Option Value) (x : Nat) (st : List Value) (h : xH) : xf 161 11 [l0, l1, l2] (.ref x :: st) h = xf 161 12 [l0, xcat l1, some (.ref x)] st h := xo_astore (k := 2) (by decide +kernel) (Nat.le_of_ble_eq_true rfl) rfl
set_option maxRecDepth 20000 in
theorem u_L_grow_12 (L : xL) (st : List Value) (h : xH) : xf 161 12 L st h = xf 161 13 L (.int 1 :: st) h := xo_iconst (k := 1) (by decide +kernel) (by decide)
set_option maxRecDepth 20000 in
theorem u_L_grow_13 (L : xL) (x : Int32) (h : xH) : xf 161 13 L [.int x] h = some (.inl (some (.int x)), h) := xo_ireturn (n := 14) (by decide +kernel) rfl
set_option maxRecDepth 20000 in
theorem u_L_grow_14 (l0 l1 l2 : Option Value) (x : Nat) (st : List Value) (h : xH) : xf 161 14 [l0, l1, l2] (.ref x :: st) h = xf 161 15 [l0, xcat l1, some (.ref x)] st h := xo_astore (k := 2) (by decide +kernel) (Nat.le_of_ble_eq_true rfl) rfl
set_option maxRecDepth 20000 in
theorem u_L_grow_15 (L : xL) (st : List Value) (h : xH) : xf 161 15 L st h = xf 161 16 L (.int 2 :: st) h := xo_iconst (k := 2) (by decide +kernel) (by decide)
set_option maxRecDepth 20000 in
theorem u_L_grow_16 (L : xL) (x : Int32) (h : xH) : xf 161 16 L [.int x] h = some (.inl (some (.int x)), h) := xo_ireturn (n := 17) (by decide +kernel) rfl
set_option maxRecDepth 20000 in
theorem u_L_grow_17 (L : xL) (st : List Value) (h : xH) : xf 161 17 L st h = xf 161 18 L (.int 0 :: st) h := xo_iconst (k := 0) (by decide +kernel) (by decide)
set_option maxRecDepth 20000 in
theorem u_L_grow_18 (L : xL) (x : Int32) (h : xH) : xf 161 18 L [.int x] h = some (.inl (some (.int x)), h) := xo_ireturn (n := 19) (by decide +kernel) rfl
set_option maxRecDepth 20000 in
theorem e_L_grow (v0 : Nat) (v1 : Nat) (h : xH) : xev 161 [.ref v0, .ref v1] h = xf 161 0 [some (.ref v0), some (.ref v1), none] [] h := rfl
set_option maxRecDepth 20000 in
theorem u_L_add_0 (l0 l1 l3 : Option Value) (x : Nat) (st : List Value) (h : xH) : xf 162 0 [l0, l1, some (.ref x), l3] st h = xf 162 1 [l0, l1, some (.ref x), l3] (.ref x :: st) h := xo_aload (k := 2) (by decide +kernel) rfl
set_option maxRecDepth 20000 in
theorem u_L_add_1 (L : xL) (st : List Value) (h : xH) : xf 162 1 L st h = xf 162 2 L (.int 0 :: st) h := xo_iconst (k := 0) (by decide +kernel) (by decide)
set_option maxRecDepth 20000 in
theorem u_L_add_2 (l1 l2 l3 : Option Value) (x : Nat) (st : List Value) (h : xH) : xf 162 2 [some (.ref x), l1, l2, l3] st h = xf 162 3 [some (.ref x), l1, l2, l3] (.ref x :: st) h := xo_aload (k := 0) (by decide +kernel) rfl
set_option maxRecDepth 20000 in
theorem u_L_add_3 (l0 l2 l3 : Option Value) (x : Int32) (st : List Value) (h : xH) : xf 162 3 [l0, some (.int x), l2, l3] st h = xf 162 4 [l0, some (.int x), l2, l3] (.int x :: st) h := xo_iload (k := 1) (by decide +kernel) rfl
set_option maxRecDepth 20000 in
theorem u_L_add_4 (L : xL) (v0 : Int32) (b : Nat) (st : List Value) (h : xH) (hb : (xob h b).1 = 7) (hl : st.length ≤ 4) : xf 162 4 L (.int v0 :: .ref b :: st) h = xgo 162 4 7 L st (xev 64 [.ref b, .int v0] h) := xo_callV (as := [.int v0]) (by decide +kernel) rfl ⟨(by decide +kernel : xna 64 = 1), Nat.le_of_ble_eq_true rfl, rfl, by decide⟩ hb hl
set_option maxRecDepth 20000 in
theorem t_L_add_4_2 (l0 l1 l2 l3 : Option Value) (st : List Value) (h : xH) : xgo 162 4 7 [l0, l1, l2, l3] st (some (.inr 2, h)) = xf 162 13 [l0, l1, xcat l2, none] [] h := xgo_thr (hp := 13) (k := 3) (by decide +kernel)
set_option maxRecDepth 20000 in
theorem t_L_add_4_1 (l0 l1 l2 l3 : Option Value) (st : List Value) (h : xH) : xgo 162 4 7 [l0, l1, l2, l3] st (some (.inr 1, h)) = xf 162 16 [l0, l1, xcat l2, none] [] h := xgo_thr (hp := 16) (k := 3) (by decide +kernel)
set_option maxRecDepth 20000 in
theorem u_L_add_7 (L : xL) (a : Int32) (st : List Value) (h : xH) : xf 162 7 L (.int a :: st) h = xf 162 8 L (.long a.toInt64 :: st) h := xo_i2l (by decide +kernel)
set_option maxRecDepth 20000 in
theorem u_L_add_8 (L : xL) (v : Int64) (i : Int32) (a : Nat) (st : List Value) (h : xH) (hx : xix i (xal h a).1) : xf 162 8 L (.long v :: .int i :: .ref a :: st) h = xf 162 9 L st (xsl h a i.toNatClampNeg v) := xo_lastore (by decide +kernel) hx
set_option maxRecDepth 20000 in
theorem u_L_add_9 (L : xL) (st : List Value) (h : xH) : xf 162 9 L st h = xf 162 18 L st h := xo_goto (n := 12) (t := 18) (by decide +kernel) rfl
set_option maxRecDepth 20000 in
theorem u_L_add_12 (l0 l1 l2 l3 : Option Value) (x : Nat) (st : List Value) (h : xH) : xf 162 12 [l0, l1, l2, l3] (.ref x :: st) h = xf 162 13 [l0, l1, xcat l2, some (.ref x)] st h := xo_astore (k := 3) (by decide +kernel) (Nat.le_of_ble_eq_true rfl) rfl
set_option maxRecDepth 20000 in
theorem u_L_add_13 (L : xL) (st : List Value) (h : xH) : xf 162 13 L st h = xf 162 14 L (.int 1 :: st) h := xo_iconst (k := 1) (by decide +kernel) (by decide)
set_option maxRecDepth 20000 in
theorem u_L_add_14 (L : xL) (x : Int32) (h : xH) : xf 162 14 L [.int x] h = some (.inl (some (.int x)), h) := xo_ireturn (n := 15) (by decide +kernel) rfl
set_option maxRecDepth 20000 in
theorem u_L_add_15 (l0 l1 l2 l3 : Option Value) (x : Nat) (st : List Value) (h : xH) : xf 162 15 [l0, l1, l2, l3] (.ref x :: st) h = xf 162 16 [l0, l1, xcat l2, some (.ref x)] st h := xo_astore (k := 3) (by decide +kernel) (Nat.le_of_ble_eq_true rfl) rfl
set_option maxRecDepth 20000 in
theorem u_L_add_16 (L : xL) (st : List Value) (h : xH) : xf 162 16 L st h = xf 162 17 L (.int 2 :: st) h := xo_iconst (k := 2) (by decide +kernel) (by decide)
set_option maxRecDepth 20000 in
theorem u_L_add_17 (L : xL) (x : Int32) (h : xH) : xf 162 17 L [.int x] h = some (.inl (some (.int x)), h) := xo_ireturn (n := 18) (by decide +kernel) rfl
set_option maxRecDepth 20000 in
theorem u_L_add_18 (L : xL) (st : List Value) (h : xH) : xf 162 18 L st h = xf 162 19 L (.int 0 :: st) h := xo_iconst (k := 0) (by decide +kernel) (by decide)
set_option maxRecDepth 20000 in
theorem u_L_add_19 (L : xL) (x : Int32) (h : xH) : xf 162 19 L [.int x] h = some (.inl (some (.int x)), h) := xo_ireturn (n := 20) (by decide +kernel) rfl
set_option maxRecDepth 20000 in
theorem e_L_add (v0 : Nat) (v1 : Int32) (v2 : Nat) (h : xH) : xev 162 [.ref v0, .int v1, .ref v2] h = xf 162 0 [some (.ref v0), some (.int v1), some (.ref v2), none] [] h := rfl
set_option maxRecDepth 20000 in
theorem u_L_cut_0 (l0 l1 l3 : Option Value) (x : Nat) (st : List Value) (h : xH) : xf 163 0 [l0, l1, some (.ref x), l3] st h = xf 163 1 [l0, l1, some (.ref x), l3] (.ref x :: st) h := xo_aload (k := 2) (by decide +kernel) rfl
set_option maxRecDepth 20000 in
theorem u_L_cut_1 (L : xL) (st : List Value) (h : xH) : xf 163 1 L st h = xf 163 2 L (.int 0 :: st) h := xo_iconst (k := 0) (by decide +kernel) (by decide)
set_option maxRecDepth 20000 in
theorem u_L_cut_2 (l1 l2 l3 : Option Value) (x : Nat) (st : List Value) (h : xH) : xf 163 2 [some (.ref x), l1, l2, l3] st h = xf 163 3 [some (.ref x), l1, l2, l3] (.ref x :: st) h := xo_aload (k := 0) (by decide +kernel) rfl
set_option maxRecDepth 20000 in
theorem u_L_cut_3 (l0 l2 l3 : Option Value) (x : Int32) (st : List Value) (h : xH) : xf 163 3 [l0, some (.int x), l2, l3] st h = xf 163 4 [l0, some (.int x), l2, l3] (.int x :: st) h := xo_iload (k := 1) (by decide +kernel) rfl
set_option maxRecDepth 20000 in
theorem u_L_cut_4 (L : xL) (v0 : Int32) (b : Nat) (st : List Value) (h : xH) (hb : (xob h b).1 = 7) (hl : st.length ≤ 4) : xf 163 4 L (.int v0 :: .ref b :: st) h = xgo 163 4 7 L st (xev 65 [.ref b, .int v0] h) := xo_callV (as := [.int v0]) (by decide +kernel) rfl ⟨(by decide +kernel : xna 65 = 1), Nat.le_of_ble_eq_true rfl, rfl, by decide⟩ hb hl
set_option maxRecDepth 20000 in
theorem t_L_cut_4_2 (l0 l1 l2 l3 : Option Value) (st : List Value) (h : xH) : xgo 163 4 7 [l0, l1, l2, l3] st (some (.inr 2, h)) = xf 163 13 [l0, l1, xcat l2, none] [] h := xgo_thr (hp := 13) (k := 3) (by decide +kernel)
set_option maxRecDepth 20000 in
theorem u_L_cut_7 (L : xL) (a : Int32) (st : List Value) (h : xH) : xf 163 7 L (.int a :: st) h = xf 163 8 L (.long a.toInt64 :: st) h := xo_i2l (by decide +kernel)
set_option maxRecDepth 20000 in
theorem u_L_cut_8 (L : xL) (v : Int64) (i : Int32) (a : Nat) (st : List Value) (h : xH) (hx : xix i (xal h a).1) : xf 163 8 L (.long v :: .int i :: .ref a :: st) h = xf 163 9 L st (xsl h a i.toNatClampNeg v) := xo_lastore (by decide +kernel) hx
set_option maxRecDepth 20000 in
theorem u_L_cut_9 (L : xL) (st : List Value) (h : xH) : xf 163 9 L st h = xf 163 15 L st h := xo_goto (n := 12) (t := 15) (by decide +kernel) rfl
set_option maxRecDepth 20000 in
theorem u_L_cut_12 (l0 l1 l2 l3 : Option Value) (x : Nat) (st : List Value) (h : xH) : xf 163 12 [l0, l1, l2, l3] (.ref x :: st) h = xf 163 13 [l0, l1, xcat l2, some (.ref x)] st h := xo_astore (k := 3) (by decide +kernel) (Nat.le_of_ble_eq_true rfl) rfl
set_option maxRecDepth 20000 in
theorem u_L_cut_13 (L : xL) (st : List Value) (h : xH) : xf 163 13 L st h = xf 163 14 L (.int 1 :: st) h := xo_iconst (k := 1) (by decide +kernel) (by decide)
set_option maxRecDepth 20000 in
theorem u_L_cut_14 (L : xL) (x : Int32) (h : xH) : xf 163 14 L [.int x] h = some (.inl (some (.int x)), h) := xo_ireturn (n := 15) (by decide +kernel) rfl
set_option maxRecDepth 20000 in
theorem u_L_cut_15 (L : xL) (st : List Value) (h : xH) : xf 163 15 L st h = xf 163 16 L (.int 0 :: st) h := xo_iconst (k := 0) (by decide +kernel) (by decide)
set_option maxRecDepth 20000 in
theorem u_L_cut_16 (L : xL) (x : Int32) (h : xH) : xf 163 16 L [.int x] h = some (.inl (some (.int x)), h) := xo_ireturn (n := 17) (by decide +kernel) rfl
set_option maxRecDepth 20000 in
theorem e_L_cut (v0 : Nat) (v1 : Int32) (v2 : Nat) (h : xH) : xev 163 [.ref v0, .int v1, .ref v2] h = xf 163 0 [some (.ref v0), some (.int v1), some (.ref v2), none] [] h := rfl
set_option maxRecDepth 20000 in
theorem u_L_open_0 (l0 l1 l3 : Option Value) (x : Nat) (st : List Value) (h : xH) : xf 164 0 [l0, l1, some (.ref x), l3] st h = xf 164 1 [l0, l1, some (.ref x), l3] (.ref x :: st) h := xo_aload (k := 2) (by decide +kernel) rfl
set_option maxRecDepth 20000 in
theorem u_L_open_1 (L : xL) (st : List Value) (h : xH) : xf 164 1 L st h = xf 164 2 L (.int 0 :: st) h := xo_iconst (k := 0) (by decide +kernel) (by decide)
set_option maxRecDepth 20000 in
theorem u_L_open_2 (l1 l2 l3 : Option Value) (x : Nat) (st : List Value) (h : xH) : xf 164 2 [some (.ref x), l1, l2, l3] st h = xf 164 3 [some (.ref x), l1, l2, l3] (.ref x :: st) h := xo_aload (k := 0) (by decide +kernel) rfl
set_option maxRecDepth 20000 in
theorem u_L_open_3 (l0 l2 l3 : Option Value) (x : Int32) (st : List Value) (h : xH) : xf 164 3 [l0, some (.int x), l2, l3] st h = xf 164 4 [l0, some (.int x), l2, l3] (.int x :: st) h := xo_iload (k := 1) (by decide +kernel) rfl
set_option maxRecDepth 20000 in
theorem u_L_open_4 (L : xL) (v0 : Int32) (b : Nat) (st : List Value) (h : xH) (hb : (xob h b).1 = 7) (hl : st.length ≤ 4) : xf 164 4 L (.int v0 :: .ref b :: st) h = xgo 164 4 7 L st (xev 66 [.ref b, .int v0] h) := xo_callV (as := [.int v0]) (by decide +kernel) rfl ⟨(by decide +kernel : xna 66 = 1), Nat.le_of_ble_eq_true rfl, rfl, by decide⟩ hb hl
set_option maxRecDepth 20000 in
theorem t_L_open_4_2 (l0 l1 l2 l3 : Option Value) (st : List Value) (h : xH) : xgo 164 4 7 [l0, l1, l2, l3] st (some (.inr 2, h)) = xf 164 13 [l0, l1, xcat l2, none] [] h := xgo_thr (hp := 13) (k := 3) (by decide +kernel)
set_option maxRecDepth 20000 in
theorem t_L_open_4_1 (l0 l1 l2 l3 : Option Value) (st : List Value) (h : xH) : xgo 164 4 7 [l0, l1, l2, l3] st (some (.inr 1, h)) = xf 164 16 [l0, l1, xcat l2, none] [] h := xgo_thr (hp := 16) (k := 3) (by decide +kernel)
set_option maxRecDepth 20000 in
theorem u_L_open_7 (L : xL) (a : Int32) (st : List Value) (h : xH) : xf 164 7 L (.int a :: st) h = xf 164 8 L (.long a.toInt64 :: st) h := xo_i2l (by decide +kernel)
set_option maxRecDepth 20000 in
theorem u_L_open_8 (L : xL) (v : Int64) (i : Int32) (a : Nat) (st : List Value) (h : xH) (hx : xix i (xal h a).1) : xf 164 8 L (.long v :: .int i :: .ref a :: st) h = xf 164 9 L st (xsl h a i.toNatClampNeg v) := xo_lastore (by decide +kernel) hx
set_option maxRecDepth 20000 in
theorem u_L_open_9 (L : xL) (st : List Value) (h : xH) : xf 164 9 L st h = xf 164 18 L st h := xo_goto (n := 12) (t := 18) (by decide +kernel) rfl
set_option maxRecDepth 20000 in
theorem u_L_open_12 (l0 l1 l2 l3 : Option Value) (x : Nat) (st : List Value) (h : xH) : xf 164 12 [l0, l1, l2, l3] (.ref x :: st) h = xf 164 13 [l0, l1, xcat l2, some (.ref x)] st h := xo_astore (k := 3) (by decide +kernel) (Nat.le_of_ble_eq_true rfl) rfl
set_option maxRecDepth 20000 in
theorem u_L_open_13 (L : xL) (st : List Value) (h : xH) : xf 164 13 L st h = xf 164 14 L (.int 1 :: st) h := xo_iconst (k := 1) (by decide +kernel) (by decide)
set_option maxRecDepth 20000 in
theorem u_L_open_14 (L : xL) (x : Int32) (h : xH) : xf 164 14 L [.int x] h = some (.inl (some (.int x)), h) := xo_ireturn (n := 15) (by decide +kernel) rfl
set_option maxRecDepth 20000 in
theorem u_L_open_15 (l0 l1 l2 l3 : Option Value) (x : Nat) (st : List Value) (h : xH) : xf 164 15 [l0, l1, l2, l3] (.ref x :: st) h = xf 164 16 [l0, l1, xcat l2, some (.ref x)] st h := xo_astore (k := 3) (by decide +kernel) (Nat.le_of_ble_eq_true rfl) rfl
set_option maxRecDepth 20000 in
theorem u_L_open_16 (L : xL) (st : List Value) (h : xH) : xf 164 16 L st h = xf 164 17 L (.int 2 :: st) h := xo_iconst (k := 2) (by decide +kernel) (by decide)
set_option maxRecDepth 20000 in
theorem u_L_open_17 (L : xL) (x : Int32) (h : xH) : xf 164 17 L [.int x] h = some (.inl (some (.int x)), h) := xo_ireturn (n := 18) (by decide +kernel) rfl
set_option maxRecDepth 20000 in
theorem u_L_open_18 (L : xL) (st : List Value) (h : xH) : xf 164 18 L st h = xf 164 19 L (.int 0 :: st) h := xo_iconst (k := 0) (by decide +kernel) (by decide)
set_option maxRecDepth 20000 in
theorem u_L_open_19 (L : xL) (x : Int32) (h : xH) : xf 164 19 L [.int x] h = some (.inl (some (.int x)), h) := xo_ireturn (n := 20) (by decide +kernel) rfl
set_option maxRecDepth 20000 in
theorem e_L_open (v0 : Nat) (v1 : Int32) (v2 : Nat) (h : xH) : xev 164 [.ref v0, .int v1, .ref v2] h = xf 164 0 [some (.ref v0), some (.int v1), some (.ref v2), none] [] h := rfl
set_option maxRecDepth 20000 in
theorem u_L_openAll_0 (l0 l2 : Option Value) (x : Nat) (st : List Value) (h : xH) : xf 165 0 [l0, some (.ref x), l2] st h = xf 165 1 [l0, some (.ref x), l2] (.ref x :: st) h := xo_aload (k := 1) (by decide +kernel) rfl
set_option maxRecDepth 20000 in
theorem u_L_openAll_1 (L : xL) (st : List Value) (h : xH) : xf 165 1 L st h = xf 165 2 L (.int 0 :: st) h := xo_iconst (k := 0) (by decide +kernel) (by decide)
set_option maxRecDepth 20000 in
theorem u_L_openAll_2 (l1 l2 : Option Value) (x : Nat) (st : List Value) (h : xH) : xf 165 2 [some (.ref x), l1, l2] st h = xf 165 3 [some (.ref x), l1, l2] (.ref x :: st) h := xo_aload (k := 0) (by decide +kernel) rfl
set_option maxRecDepth 20000 in
theorem u_L_openAll_3 (L : xL) (b : Nat) (st : List Value) (h : xH) (hb : (xob h b).1 = 7) (hl : st.length ≤ 4) : xf 165 3 L (.ref b :: st) h = xgo 165 3 6 L st (xev 70 [.ref b] h) := xo_callV (as := []) (by decide +kernel) rfl ⟨(by decide +kernel : xna 70 = 0), Nat.le_of_ble_eq_true rfl, rfl, by decide⟩ hb hl
set_option maxRecDepth 20000 in
theorem t_L_openAll_3_1 (l0 l1 l2 : Option Value) (st : List Value) (h : xH) : xgo 165 3 6 [l0, l1, l2] st (some (.inr 1, h)) = xf 165 12 [l0, xcat l1, none] [] h := xgo_thr (hp := 12) (k := 2) (by decide +kernel)
set_option maxRecDepth 20000 in
theorem u_L_openAll_6 (L : xL) (a : Int32) (st : List Value) (h : xH) : xf 165 6 L (.int a :: st) h = xf 165 7 L (.long a.toInt64 :: st) h := xo_i2l (by decide +kernel)
set_option maxRecDepth 20000 in
theorem u_L_openAll_7 (L : xL) (v : Int64) (i : Int32) (a : Nat) (st : List Value) (h : xH) (hx : xix i (xal h a).1) : xf 165 7 L (.long v :: .int i :: .ref a :: st) h = xf 165 8 L st (xsl h a i.toNatClampNeg v) := xo_lastore (by decide +kernel) hx
set_option maxRecDepth 20000 in
theorem u_L_openAll_8 (L : xL) (st : List Value) (h : xH) : xf 165 8 L st h = xf 165 14 L st h := xo_goto (n := 11) (t := 14) (by decide +kernel) rfl
set_option maxRecDepth 20000 in
theorem u_L_openAll_11 (l0 l1 l2 : Option Value) (x : Nat) (st : List Value) (h : xH) : xf 165 11 [l0, l1, l2] (.ref x :: st) h = xf 165 12 [l0, xcat l1, some (.ref x)] st h := xo_astore (k := 2) (by decide +kernel) (Nat.le_of_ble_eq_true rfl) rfl
set_option maxRecDepth 20000 in
theorem u_L_openAll_12 (L : xL) (st : List Value) (h : xH) : xf 165 12 L st h = xf 165 13 L (.int 1 :: st) h := xo_iconst (k := 1) (by decide +kernel) (by decide)
set_option maxRecDepth 20000 in
theorem u_L_openAll_13 (L : xL) (x : Int32) (h : xH) : xf 165 13 L [.int x] h = some (.inl (some (.int x)), h) := xo_ireturn (n := 14) (by decide +kernel) rfl
set_option maxRecDepth 20000 in
theorem u_L_openAll_14 (L : xL) (st : List Value) (h : xH) : xf 165 14 L st h = xf 165 15 L (.int 0 :: st) h := xo_iconst (k := 0) (by decide +kernel) (by decide)
set_option maxRecDepth 20000 in
theorem u_L_openAll_15 (L : xL) (x : Int32) (h : xH) : xf 165 15 L [.int x] h = some (.inl (some (.int x)), h) := xo_ireturn (n := 16) (by decide +kernel) rfl
set_option maxRecDepth 20000 in
theorem e_L_openAll (v0 : Nat) (v1 : Nat) (h : xH) : xev 165 [.ref v0, .ref v1] h = xf 165 0 [some (.ref v0), some (.ref v1), none] [] h := rfl
set_option maxRecDepth 20000 in
theorem u_L_set_0 (l0 l1 l2 l4 : Option Value) (x : Nat) (st : List Value) (h : xH) : xf 166 0 [l0, l1, l2, some (.ref x), l4] st h = xf 166 1 [l0, l1, l2, some (.ref x), l4] (.ref x :: st) h := xo_aload (k := 3) (by decide +kernel) rfl
set_option maxRecDepth 20000 in
theorem u_L_set_1 (L : xL) (st : List Value) (h : xH) : xf 166 1 L st h = xf 166 2 L (.int 0 :: st) h := xo_iconst (k := 0) (by decide +kernel) (by decide)
set_option maxRecDepth 20000 in
theorem u_L_set_2 (l1 l2 l3 l4 : Option Value) (x : Nat) (st : List Value) (h : xH) : xf 166 2 [some (.ref x), l1, l2, l3, l4] st h = xf 166 3 [some (.ref x), l1, l2, l3, l4] (.ref x :: st) h := xo_aload (k := 0) (by decide +kernel) rfl
set_option maxRecDepth 20000 in
theorem u_L_set_3 (l0 l2 l3 l4 : Option Value) (x : Int32) (st : List Value) (h : xH) : xf 166 3 [l0, some (.int x), l2, l3, l4] st h = xf 166 4 [l0, some (.int x), l2, l3, l4] (.int x :: st) h := xo_iload (k := 1) (by decide +kernel) rfl
set_option maxRecDepth 20000 in
theorem u_L_set_4 (l0 l1 l3 l4 : Option Value) (x : Int32) (st : List Value) (h : xH) : xf 166 4 [l0, l1, some (.int x), l3, l4] st h = xf 166 5 [l0, l1, some (.int x), l3, l4] (.int x :: st) h := xo_iload (k := 2) (by decide +kernel) rfl
set_option maxRecDepth 20000 in
theorem u_L_set_5 (L : xL) (v0 : Int32) (v1 : Int32) (b : Nat) (st : List Value) (h : xH) (hb : (xob h b).1 = 7) (hl : st.length ≤ 4) : xf 166 5 L (.int v1 :: .int v0 :: .ref b :: st) h = xgo 166 5 8 L st (xev 71 [.ref b, .int v0, .int v1] h) := xo_callV (as := [.int v0, .int v1]) (by decide +kernel) rfl ⟨(by decide +kernel : xna 71 = 2), Nat.le_of_ble_eq_true rfl, rfl, by decide⟩ hb hl
set_option maxRecDepth 20000 in
theorem t_L_set_5_2 (l0 l1 l2 l3 l4 : Option Value) (st : List Value) (h : xH) : xgo 166 5 8 [l0, l1, l2, l3, l4] st (some (.inr 2, h)) = xf 166 15 [l0, l1, l2, xcat l3, none] [] h := xgo_thr (hp := 15) (k := 4) (by decide +kernel)
set_option maxRecDepth 20000 in
theorem t_L_set_5_0 (l0 l1 l2 l3 l4 : Option Value) (st : List Value) (h : xH) : xgo 166 5 8 [l0, l1, l2, l3, l4] st (some (.inr 0, h)) = xf 166 19 [l0, l1, l2, xcat l3, none] [] h := xgo_thr (hp := 19) (k := 4) (by decide +kernel)
set_option maxRecDepth 20000 in
theorem u_L_set_8 (L : xL) (a : Int32) (st : List Value) (h : xH) : xf 166 8 L (.int a :: st) h = xf 166 9 L (.long a.toInt64 :: st) h := xo_i2l (by decide +kernel)
set_option maxRecDepth 20000 in
theorem u_L_set_9 (L : xL) (v : Int64) (i : Int32) (a : Nat) (st : List Value) (h : xH) (hx : xix i (xal h a).1) : xf 166 9 L (.long v :: .int i :: .ref a :: st) h = xf 166 10 L st (xsl h a i.toNatClampNeg v) := xo_lastore (by decide +kernel) hx
set_option maxRecDepth 20000 in
theorem u_L_set_10 (L : xL) (st : List Value) (h : xH) : xf 166 10 L st h = xf 166 21 L st h := xo_goto (n := 13) (t := 21) (by decide +kernel) rfl
set_option maxRecDepth 20000 in
theorem u_L_set_13 (l0 l1 l2 l3 l4 : Option Value) (x : Nat) (st : List Value) (h : xH) : xf 166 13 [l0, l1, l2, l3, l4] (.ref x :: st) h = xf 166 15 [l0, l1, l2, xcat l3, some (.ref x)] st h := xo_astore (k := 4) (by decide +kernel) (Nat.le_of_ble_eq_true rfl) rfl
set_option maxRecDepth 20000 in
theorem u_L_set_15 (L : xL) (st : List Value) (h : xH) : xf 166 15 L st h = xf 166 16 L (.int 1 :: st) h := xo_iconst (k := 1) (by decide +kernel) (by decide)
set_option maxRecDepth 20000 in
theorem u_L_set_16 (L : xL) (x : Int32) (h : xH) : xf 166 16 L [.int x] h = some (.inl (some (.int x)), h) := xo_ireturn (n := 17) (by decide +kernel) rfl
set_option maxRecDepth 20000 in
theorem u_L_set_17 (l0 l1 l2 l3 l4 : Option Value) (x : Nat) (st : List Value) (h : xH) : xf 166 17 [l0, l1, l2, l3, l4] (.ref x :: st) h = xf 166 19 [l0, l1, l2, xcat l3, some (.ref x)] st h := xo_astore (k := 4) (by decide +kernel) (Nat.le_of_ble_eq_true rfl) rfl
set_option maxRecDepth 20000 in
theorem u_L_set_19 (L : xL) (st : List Value) (h : xH) : xf 166 19 L st h = xf 166 20 L (.int 2 :: st) h := xo_iconst (k := 2) (by decide +kernel) (by decide)
set_option maxRecDepth 20000 in
theorem u_L_set_20 (L : xL) (x : Int32) (h : xH) : xf 166 20 L [.int x] h = some (.inl (some (.int x)), h) := xo_ireturn (n := 21) (by decide +kernel) rfl
set_option maxRecDepth 20000 in
theorem u_L_set_21 (L : xL) (st : List Value) (h : xH) : xf 166 21 L st h = xf 166 22 L (.int 0 :: st) h := xo_iconst (k := 0) (by decide +kernel) (by decide)
set_option maxRecDepth 20000 in
theorem u_L_set_22 (L : xL) (x : Int32) (h : xH) : xf 166 22 L [.int x] h = some (.inl (some (.int x)), h) := xo_ireturn (n := 23) (by decide +kernel) rfl
set_option maxRecDepth 20000 in
theorem e_L_set (v0 : Nat) (v1 : Int32) (v2 : Int32) (v3 : Nat) (h : xH) : xev 166 [.ref v0, .int v1, .int v2, .ref v3] h = xf 166 0 [some (.ref v0), some (.int v1), some (.int v2), some (.ref v3), none] [] h := rfl
set_option maxRecDepth 20000 in
theorem u_L_append_0 (l0 l1 l3 : Option Value) (x : Nat) (st : List Value) (h : xH) : xf 167 0 [l0, l1, some (.ref x), l3] st h = xf 167 1 [l0, l1, some (.ref x), l3] (.ref x :: st) h := xo_aload (k := 2) (by decide +kernel) rfl
set_option maxRecDepth 20000 in
theorem u_L_append_1 (L : xL) (st : List Value) (h : xH) : xf 167 1 L st h = xf 167 2 L (.int 0 :: st) h := xo_iconst (k := 0) (by decide +kernel) (by decide)
set_option maxRecDepth 20000 in
theorem u_L_append_2 (l1 l2 l3 : Option Value) (x : Nat) (st : List Value) (h : xH) : xf 167 2 [some (.ref x), l1, l2, l3] st h = xf 167 3 [some (.ref x), l1, l2, l3] (.ref x :: st) h := xo_aload (k := 0) (by decide +kernel) rfl
set_option maxRecDepth 20000 in
theorem u_L_append_3 (l0 l2 l3 : Option Value) (x : Int32) (st : List Value) (h : xH) : xf 167 3 [l0, some (.int x), l2, l3] st h = xf 167 4 [l0, some (.int x), l2, l3] (.int x :: st) h := xo_iload (k := 1) (by decide +kernel) rfl
set_option maxRecDepth 20000 in
theorem u_L_append_4 (L : xL) (v0 : Int32) (b : Nat) (st : List Value) (h : xH) (hb : (xob h b).1 = 7) (hl : st.length ≤ 4) : xf 167 4 L (.int v0 :: .ref b :: st) h = xgo 167 4 7 L st (xev 72 [.ref b, .int v0] h) := xo_callV (as := [.int v0]) (by decide +kernel) rfl ⟨(by decide +kernel : xna 72 = 1), Nat.le_of_ble_eq_true rfl, rfl, by decide⟩ hb hl
set_option maxRecDepth 20000 in
theorem t_L_append_4_0 (l0 l1 l2 l3 : Option Value) (st : List Value) (h : xH) : xgo 167 4 7 [l0, l1, l2, l3] st (some (.inr 0, h)) = xf 167 13 [l0, l1, xcat l2, none] [] h := xgo_thr (hp := 13) (k := 3) (by decide +kernel)
set_option maxRecDepth 20000 in
theorem t_L_append_4_1 (l0 l1 l2 l3 : Option Value) (st : List Value) (h : xH) : xgo 167 4 7 [l0, l1, l2, l3] st (some (.inr 1, h)) = xf 167 16 [l0, l1, xcat l2, none] [] h := xgo_thr (hp := 16) (k := 3) (by decide +kernel)
set_option maxRecDepth 20000 in
theorem u_L_append_7 (L : xL) (a : Int32) (st : List Value) (h : xH) : xf 167 7 L (.int a :: st) h = xf 167 8 L (.long a.toInt64 :: st) h := xo_i2l (by decide +kernel)
set_option maxRecDepth 20000 in
theorem u_L_append_8 (L : xL) (v : Int64) (i : Int32) (a : Nat) (st : List Value) (h : xH) (hx : xix i (xal h a).1) : xf 167 8 L (.long v :: .int i :: .ref a :: st) h = xf 167 9 L st (xsl h a i.toNatClampNeg v) := xo_lastore (by decide +kernel) hx
set_option maxRecDepth 20000 in
theorem u_L_append_9 (L : xL) (st : List Value) (h : xH) : xf 167 9 L st h = xf 167 18 L st h := xo_goto (n := 12) (t := 18) (by decide +kernel) rfl
set_option maxRecDepth 20000 in
theorem u_L_append_12 (l0 l1 l2 l3 : Option Value) (x : Nat) (st : List Value) (h : xH) : xf 167 12 [l0, l1, l2, l3] (.ref x :: st) h = xf 167 13 [l0, l1, xcat l2, some (.ref x)] st h := xo_astore (k := 3) (by decide +kernel) (Nat.le_of_ble_eq_true rfl) rfl
set_option maxRecDepth 20000 in
theorem u_L_append_13 (L : xL) (st : List Value) (h : xH) : xf 167 13 L st h = xf 167 14 L (.int 1 :: st) h := xo_iconst (k := 1) (by decide +kernel) (by decide)
set_option maxRecDepth 20000 in
theorem u_L_append_14 (L : xL) (x : Int32) (h : xH) : xf 167 14 L [.int x] h = some (.inl (some (.int x)), h) := xo_ireturn (n := 15) (by decide +kernel) rfl
set_option maxRecDepth 20000 in
theorem u_L_append_15 (l0 l1 l2 l3 : Option Value) (x : Nat) (st : List Value) (h : xH) : xf 167 15 [l0, l1, l2, l3] (.ref x :: st) h = xf 167 16 [l0, l1, xcat l2, some (.ref x)] st h := xo_astore (k := 3) (by decide +kernel) (Nat.le_of_ble_eq_true rfl) rfl
set_option maxRecDepth 20000 in
theorem u_L_append_16 (L : xL) (st : List Value) (h : xH) : xf 167 16 L st h = xf 167 17 L (.int 2 :: st) h := xo_iconst (k := 2) (by decide +kernel) (by decide)
set_option maxRecDepth 20000 in
theorem u_L_append_17 (L : xL) (x : Int32) (h : xH) : xf 167 17 L [.int x] h = some (.inl (some (.int x)), h) := xo_ireturn (n := 18) (by decide +kernel) rfl
set_option maxRecDepth 20000 in
theorem u_L_append_18 (L : xL) (st : List Value) (h : xH) : xf 167 18 L st h = xf 167 19 L (.int 0 :: st) h := xo_iconst (k := 0) (by decide +kernel) (by decide)
set_option maxRecDepth 20000 in
theorem u_L_append_19 (L : xL) (x : Int32) (h : xH) : xf 167 19 L [.int x] h = some (.inl (some (.int x)), h) := xo_ireturn (n := 20) (by decide +kernel) rfl
set_option maxRecDepth 20000 in
theorem e_L_append (v0 : Nat) (v1 : Int32) (v2 : Nat) (h : xH) : xev 167 [.ref v0, .int v1, .ref v2] h = xf 167 0 [some (.ref v0), some (.int v1), some (.ref v2), none] [] h := rfl
set_option maxRecDepth 20000 in
theorem u_L_undo_0 (l0 l2 : Option Value) (x : Nat) (st : List Value) (h : xH) : xf 168 0 [l0, some (.ref x), l2] st h = xf 168 1 [l0, some (.ref x), l2] (.ref x :: st) h := xo_aload (k := 1) (by decide +kernel) rfl
set_option maxRecDepth 20000 in
theorem u_L_undo_1 (L : xL) (st : List Value) (h : xH) : xf 168 1 L st h = xf 168 2 L (.int 0 :: st) h := xo_iconst (k := 0) (by decide +kernel) (by decide)
set_option maxRecDepth 20000 in
theorem u_L_undo_2 (l1 l2 : Option Value) (x : Nat) (st : List Value) (h : xH) : xf 168 2 [some (.ref x), l1, l2] st h = xf 168 3 [some (.ref x), l1, l2] (.ref x :: st) h := xo_aload (k := 0) (by decide +kernel) rfl
set_option maxRecDepth 20000 in
theorem u_L_undo_3 (L : xL) (b : Nat) (st : List Value) (h : xH) (hb : (xob h b).1 = 7) (hl : st.length ≤ 4) : xf 168 3 L (.ref b :: st) h = xgo 168 3 6 L st (xev 75 [.ref b] h) := xo_callV (as := []) (by decide +kernel) rfl ⟨(by decide +kernel : xna 75 = 0), Nat.le_of_ble_eq_true rfl, rfl, by decide⟩ hb hl
set_option maxRecDepth 20000 in
theorem t_L_undo_3_1 (l0 l1 l2 : Option Value) (st : List Value) (h : xH) : xgo 168 3 6 [l0, l1, l2] st (some (.inr 1, h)) = xf 168 12 [l0, xcat l1, none] [] h := xgo_thr (hp := 12) (k := 2) (by decide +kernel)
set_option maxRecDepth 20000 in
theorem u_L_undo_6 (L : xL) (a : Int32) (st : List Value) (h : xH) : xf 168 6 L (.int a :: st) h = xf 168 7 L (.long a.toInt64 :: st) h := xo_i2l (by decide +kernel)
set_option maxRecDepth 20000 in
theorem u_L_undo_7 (L : xL) (v : Int64) (i : Int32) (a : Nat) (st : List Value) (h : xH) (hx : xix i (xal h a).1) : xf 168 7 L (.long v :: .int i :: .ref a :: st) h = xf 168 8 L st (xsl h a i.toNatClampNeg v) := xo_lastore (by decide +kernel) hx
set_option maxRecDepth 20000 in
theorem u_L_undo_8 (L : xL) (st : List Value) (h : xH) : xf 168 8 L st h = xf 168 14 L st h := xo_goto (n := 11) (t := 14) (by decide +kernel) rfl
set_option maxRecDepth 20000 in
theorem u_L_undo_11 (l0 l1 l2 : Option Value) (x : Nat) (st : List Value) (h : xH) : xf 168 11 [l0, l1, l2] (.ref x :: st) h = xf 168 12 [l0, xcat l1, some (.ref x)] st h := xo_astore (k := 2) (by decide +kernel) (Nat.le_of_ble_eq_true rfl) rfl
set_option maxRecDepth 20000 in
theorem u_L_undo_12 (L : xL) (st : List Value) (h : xH) : xf 168 12 L st h = xf 168 13 L (.int 1 :: st) h := xo_iconst (k := 1) (by decide +kernel) (by decide)
set_option maxRecDepth 20000 in
theorem u_L_undo_13 (L : xL) (x : Int32) (h : xH) : xf 168 13 L [.int x] h = some (.inl (some (.int x)), h) := xo_ireturn (n := 14) (by decide +kernel) rfl
set_option maxRecDepth 20000 in
theorem u_L_undo_14 (L : xL) (st : List Value) (h : xH) : xf 168 14 L st h = xf 168 15 L (.int 0 :: st) h := xo_iconst (k := 0) (by decide +kernel) (by decide)
set_option maxRecDepth 20000 in
theorem u_L_undo_15 (L : xL) (x : Int32) (h : xH) : xf 168 15 L [.int x] h = some (.inl (some (.int x)), h) := xo_ireturn (n := 16) (by decide +kernel) rfl
set_option maxRecDepth 20000 in
theorem e_L_undo (v0 : Nat) (v1 : Nat) (h : xH) : xev 168 [.ref v0, .ref v1] h = xf 168 0 [some (.ref v0), some (.ref v1), none] [] h := rfl
set_option maxRecDepth 20000 in
theorem u_L_part_0 (l0 l1 l3 : Option Value) (x : Nat) (st : List Value) (h : xH) : xf 169 0 [l0, l1, some (.ref x), l3] st h = xf 169 1 [l0, l1, some (.ref x), l3] (.ref x :: st) h := xo_aload (k := 2) (by decide +kernel) rfl
set_option maxRecDepth 20000 in
theorem u_L_part_1 (L : xL) (st : List Value) (h : xH) : xf 169 1 L st h = xf 169 2 L (.int 0 :: st) h := xo_iconst (k := 0) (by decide +kernel) (by decide)
set_option maxRecDepth 20000 in
theorem u_L_part_2 (l1 l2 l3 : Option Value) (x : Nat) (st : List Value) (h : xH) : xf 169 2 [some (.ref x), l1, l2, l3] st h = xf 169 3 [some (.ref x), l1, l2, l3] (.ref x :: st) h := xo_aload (k := 0) (by decide +kernel) rfl
set_option maxRecDepth 20000 in
theorem u_L_part_3 (l0 l2 l3 : Option Value) (x : Int32) (st : List Value) (h : xH) : xf 169 3 [l0, some (.int x), l2, l3] st h = xf 169 4 [l0, some (.int x), l2, l3] (.int x :: st) h := xo_iload (k := 1) (by decide +kernel) rfl
set_option maxRecDepth 20000 in
theorem u_L_part_4 (L : xL) (v0 : Int32) (b : Nat) (st : List Value) (h : xH) (hb : (xob h b).1 = 7) (hl : st.length ≤ 4) : xf 169 4 L (.int v0 :: .ref b :: st) h = xgo 169 4 7 L st (xev 76 [.ref b, .int v0] h) := xo_callV (as := [.int v0]) (by decide +kernel) rfl ⟨(by decide +kernel : xna 76 = 1), Nat.le_of_ble_eq_true rfl, rfl, by decide⟩ hb hl
set_option maxRecDepth 20000 in
theorem t_L_part_4_0 (l0 l1 l2 l3 : Option Value) (st : List Value) (h : xH) : xgo 169 4 7 [l0, l1, l2, l3] st (some (.inr 0, h)) = xf 169 13 [l0, l1, xcat l2, none] [] h := xgo_thr (hp := 13) (k := 3) (by decide +kernel)
set_option maxRecDepth 20000 in
theorem u_L_part_7 (L : xL) (a : Int32) (st : List Value) (h : xH) : xf 169 7 L (.int a :: st) h = xf 169 8 L (.long a.toInt64 :: st) h := xo_i2l (by decide +kernel)
set_option maxRecDepth 20000 in
theorem u_L_part_8 (L : xL) (v : Int64) (i : Int32) (a : Nat) (st : List Value) (h : xH) (hx : xix i (xal h a).1) : xf 169 8 L (.long v :: .int i :: .ref a :: st) h = xf 169 9 L st (xsl h a i.toNatClampNeg v) := xo_lastore (by decide +kernel) hx
set_option maxRecDepth 20000 in
theorem u_L_part_9 (L : xL) (st : List Value) (h : xH) : xf 169 9 L st h = xf 169 15 L st h := xo_goto (n := 12) (t := 15) (by decide +kernel) rfl
set_option maxRecDepth 20000 in
theorem u_L_part_12 (l0 l1 l2 l3 : Option Value) (x : Nat) (st : List Value) (h : xH) : xf 169 12 [l0, l1, l2, l3] (.ref x :: st) h = xf 169 13 [l0, l1, xcat l2, some (.ref x)] st h := xo_astore (k := 3) (by decide +kernel) (Nat.le_of_ble_eq_true rfl) rfl
set_option maxRecDepth 20000 in
theorem u_L_part_13 (L : xL) (st : List Value) (h : xH) : xf 169 13 L st h = xf 169 14 L (.int 1 :: st) h := xo_iconst (k := 1) (by decide +kernel) (by decide)
set_option maxRecDepth 20000 in
theorem u_L_part_14 (L : xL) (x : Int32) (h : xH) : xf 169 14 L [.int x] h = some (.inl (some (.int x)), h) := xo_ireturn (n := 15) (by decide +kernel) rfl
set_option maxRecDepth 20000 in
theorem u_L_part_15 (L : xL) (st : List Value) (h : xH) : xf 169 15 L st h = xf 169 16 L (.int 0 :: st) h := xo_iconst (k := 0) (by decide +kernel) (by decide)
set_option maxRecDepth 20000 in
theorem u_L_part_16 (L : xL) (x : Int32) (h : xH) : xf 169 16 L [.int x] h = some (.inl (some (.int x)), h) := xo_ireturn (n := 17) (by decide +kernel) rfl
set_option maxRecDepth 20000 in
theorem e_L_part (v0 : Nat) (v1 : Int32) (v2 : Nat) (h : xH) : xev 169 [.ref v0, .int v1, .ref v2] h = xf 169 0 [some (.ref v0), some (.int v1), some (.ref v2), none] [] h := rfl
set_option maxRecDepth 20000 in
theorem u_L_sign_0 (l0 l1 l3 : Option Value) (x : Nat) (st : List Value) (h : xH) : xf 170 0 [l0, l1, some (.ref x), l3] st h = xf 170 1 [l0, l1, some (.ref x), l3] (.ref x :: st) h := xo_aload (k := 2) (by decide +kernel) rfl
set_option maxRecDepth 20000 in
theorem u_L_sign_1 (L : xL) (st : List Value) (h : xH) : xf 170 1 L st h = xf 170 2 L (.int 0 :: st) h := xo_iconst (k := 0) (by decide +kernel) (by decide)
set_option maxRecDepth 20000 in
theorem u_L_sign_2 (l1 l2 l3 : Option Value) (x : Nat) (st : List Value) (h : xH) : xf 170 2 [some (.ref x), l1, l2, l3] st h = xf 170 3 [some (.ref x), l1, l2, l3] (.ref x :: st) h := xo_aload (k := 0) (by decide +kernel) rfl
set_option maxRecDepth 20000 in
theorem u_L_sign_3 (l0 l2 l3 : Option Value) (x : Int32) (st : List Value) (h : xH) : xf 170 3 [l0, some (.int x), l2, l3] st h = xf 170 4 [l0, some (.int x), l2, l3] (.int x :: st) h := xo_iload (k := 1) (by decide +kernel) rfl
set_option maxRecDepth 20000 in
theorem u_L_sign_4 (L : xL) (v0 : Int32) (b : Nat) (st : List Value) (h : xH) (hb : (xob h b).1 = 7) (hl : st.length ≤ 4) : xf 170 4 L (.int v0 :: .ref b :: st) h = xgo 170 4 7 L st (xev 77 [.ref b, .int v0] h) := xo_callV (as := [.int v0]) (by decide +kernel) rfl ⟨(by decide +kernel : xna 77 = 1), Nat.le_of_ble_eq_true rfl, rfl, by decide⟩ hb hl
set_option maxRecDepth 20000 in
theorem t_L_sign_4_0 (l0 l1 l2 l3 : Option Value) (st : List Value) (h : xH) : xgo 170 4 7 [l0, l1, l2, l3] st (some (.inr 0, h)) = xf 170 13 [l0, l1, xcat l2, none] [] h := xgo_thr (hp := 13) (k := 3) (by decide +kernel)
set_option maxRecDepth 20000 in
theorem u_L_sign_7 (L : xL) (a : Int32) (st : List Value) (h : xH) : xf 170 7 L (.int a :: st) h = xf 170 8 L (.long a.toInt64 :: st) h := xo_i2l (by decide +kernel)
set_option maxRecDepth 20000 in
theorem u_L_sign_8 (L : xL) (v : Int64) (i : Int32) (a : Nat) (st : List Value) (h : xH) (hx : xix i (xal h a).1) : xf 170 8 L (.long v :: .int i :: .ref a :: st) h = xf 170 9 L st (xsl h a i.toNatClampNeg v) := xo_lastore (by decide +kernel) hx
set_option maxRecDepth 20000 in
theorem u_L_sign_9 (L : xL) (st : List Value) (h : xH) : xf 170 9 L st h = xf 170 15 L st h := xo_goto (n := 12) (t := 15) (by decide +kernel) rfl
set_option maxRecDepth 20000 in
theorem u_L_sign_12 (l0 l1 l2 l3 : Option Value) (x : Nat) (st : List Value) (h : xH) : xf 170 12 [l0, l1, l2, l3] (.ref x :: st) h = xf 170 13 [l0, l1, xcat l2, some (.ref x)] st h := xo_astore (k := 3) (by decide +kernel) (Nat.le_of_ble_eq_true rfl) rfl
set_option maxRecDepth 20000 in
theorem u_L_sign_13 (L : xL) (st : List Value) (h : xH) : xf 170 13 L st h = xf 170 14 L (.int 1 :: st) h := xo_iconst (k := 1) (by decide +kernel) (by decide)
set_option maxRecDepth 20000 in
theorem u_L_sign_14 (L : xL) (x : Int32) (h : xH) : xf 170 14 L [.int x] h = some (.inl (some (.int x)), h) := xo_ireturn (n := 15) (by decide +kernel) rfl
set_option maxRecDepth 20000 in
theorem u_L_sign_15 (L : xL) (st : List Value) (h : xH) : xf 170 15 L st h = xf 170 16 L (.int 0 :: st) h := xo_iconst (k := 0) (by decide +kernel) (by decide)
set_option maxRecDepth 20000 in
theorem u_L_sign_16 (L : xL) (x : Int32) (h : xH) : xf 170 16 L [.int x] h = some (.inl (some (.int x)), h) := xo_ireturn (n := 17) (by decide +kernel) rfl
set_option maxRecDepth 20000 in
theorem e_L_sign (v0 : Nat) (v1 : Int32) (v2 : Nat) (h : xH) : xev 170 [.ref v0, .int v1, .ref v2] h = xf 170 0 [some (.ref v0), some (.int v1), some (.ref v2), none] [] h := rfl
set_option maxRecDepth 20000 in
theorem u_L_about_0 (l0 l1 l2 l4 : Option Value) (x : Nat) (st : List Value) (h : xH) : xf 171 0 [l0, l1, l2, some (.ref x), l4] st h = xf 171 1 [l0, l1, l2, some (.ref x), l4] (.ref x :: st) h := xo_aload (k := 3) (by decide +kernel) rfl
set_option maxRecDepth 20000 in
theorem u_L_about_1 (L : xL) (st : List Value) (h : xH) : xf 171 1 L st h = xf 171 2 L (.int 0 :: st) h := xo_iconst (k := 0) (by decide +kernel) (by decide)
set_option maxRecDepth 20000 in
theorem u_L_about_2 (l1 l2 l3 l4 : Option Value) (x : Nat) (st : List Value) (h : xH) : xf 171 2 [some (.ref x), l1, l2, l3, l4] st h = xf 171 3 [some (.ref x), l1, l2, l3, l4] (.ref x :: st) h := xo_aload (k := 0) (by decide +kernel) rfl
set_option maxRecDepth 20000 in
theorem u_L_about_3 (l0 l2 l3 l4 : Option Value) (x : Int32) (st : List Value) (h : xH) : xf 171 3 [l0, some (.int x), l2, l3, l4] st h = xf 171 4 [l0, some (.int x), l2, l3, l4] (.int x :: st) h := xo_iload (k := 1) (by decide +kernel) rfl
set_option maxRecDepth 20000 in
theorem u_L_about_4 (l0 l1 l3 l4 : Option Value) (x : Int32) (st : List Value) (h : xH) : xf 171 4 [l0, l1, some (.int x), l3, l4] st h = xf 171 5 [l0, l1, some (.int x), l3, l4] (.int x :: st) h := xo_iload (k := 2) (by decide +kernel) rfl
set_option maxRecDepth 20000 in
theorem u_L_about_5 (L : xL) (v0 : Int32) (v1 : Int32) (b : Nat) (st : List Value) (h : xH) (hb : (xob h b).1 = 7) (hl : st.length ≤ 4) : xf 171 5 L (.int v1 :: .int v0 :: .ref b :: st) h = xgo 171 5 8 L st (xev 78 [.ref b, .int v0, .int v1] h) := xo_callV (as := [.int v0, .int v1]) (by decide +kernel) rfl ⟨(by decide +kernel : xna 78 = 2), Nat.le_of_ble_eq_true rfl, rfl, by decide⟩ hb hl
set_option maxRecDepth 20000 in
theorem t_L_about_5_2 (l0 l1 l2 l3 l4 : Option Value) (st : List Value) (h : xH) : xgo 171 5 8 [l0, l1, l2, l3, l4] st (some (.inr 2, h)) = xf 171 15 [l0, l1, l2, xcat l3, none] [] h := xgo_thr (hp := 15) (k := 4) (by decide +kernel)
set_option maxRecDepth 20000 in
theorem t_L_about_5_0 (l0 l1 l2 l3 l4 : Option Value) (st : List Value) (h : xH) : xgo 171 5 8 [l0, l1, l2, l3, l4] st (some (.inr 0, h)) = xf 171 19 [l0, l1, l2, xcat l3, none] [] h := xgo_thr (hp := 19) (k := 4) (by decide +kernel)
set_option maxRecDepth 20000 in
theorem u_L_about_8 (L : xL) (a : Int32) (st : List Value) (h : xH) : xf 171 8 L (.int a :: st) h = xf 171 9 L (.long a.toInt64 :: st) h := xo_i2l (by decide +kernel)
set_option maxRecDepth 20000 in
theorem u_L_about_9 (L : xL) (v : Int64) (i : Int32) (a : Nat) (st : List Value) (h : xH) (hx : xix i (xal h a).1) : xf 171 9 L (.long v :: .int i :: .ref a :: st) h = xf 171 10 L st (xsl h a i.toNatClampNeg v) := xo_lastore (by decide +kernel) hx
set_option maxRecDepth 20000 in
theorem u_L_about_10 (L : xL) (st : List Value) (h : xH) : xf 171 10 L st h = xf 171 21 L st h := xo_goto (n := 13) (t := 21) (by decide +kernel) rfl
set_option maxRecDepth 20000 in
theorem u_L_about_13 (l0 l1 l2 l3 l4 : Option Value) (x : Nat) (st : List Value) (h : xH) : xf 171 13 [l0, l1, l2, l3, l4] (.ref x :: st) h = xf 171 15 [l0, l1, l2, xcat l3, some (.ref x)] st h := xo_astore (k := 4) (by decide +kernel) (Nat.le_of_ble_eq_true rfl) rfl
set_option maxRecDepth 20000 in
theorem u_L_about_15 (L : xL) (st : List Value) (h : xH) : xf 171 15 L st h = xf 171 16 L (.int 1 :: st) h := xo_iconst (k := 1) (by decide +kernel) (by decide)
set_option maxRecDepth 20000 in
theorem u_L_about_16 (L : xL) (x : Int32) (h : xH) : xf 171 16 L [.int x] h = some (.inl (some (.int x)), h) := xo_ireturn (n := 17) (by decide +kernel) rfl
set_option maxRecDepth 20000 in
theorem u_L_about_17 (l0 l1 l2 l3 l4 : Option Value) (x : Nat) (st : List Value) (h : xH) : xf 171 17 [l0, l1, l2, l3, l4] (.ref x :: st) h = xf 171 19 [l0, l1, l2, xcat l3, some (.ref x)] st h := xo_astore (k := 4) (by decide +kernel) (Nat.le_of_ble_eq_true rfl) rfl
set_option maxRecDepth 20000 in
theorem u_L_about_19 (L : xL) (st : List Value) (h : xH) : xf 171 19 L st h = xf 171 20 L (.int 2 :: st) h := xo_iconst (k := 2) (by decide +kernel) (by decide)
set_option maxRecDepth 20000 in
theorem u_L_about_20 (L : xL) (x : Int32) (h : xH) : xf 171 20 L [.int x] h = some (.inl (some (.int x)), h) := xo_ireturn (n := 21) (by decide +kernel) rfl
set_option maxRecDepth 20000 in
theorem u_L_about_21 (L : xL) (st : List Value) (h : xH) : xf 171 21 L st h = xf 171 22 L (.int 0 :: st) h := xo_iconst (k := 0) (by decide +kernel) (by decide)
set_option maxRecDepth 20000 in
theorem u_L_about_22 (L : xL) (x : Int32) (h : xH) : xf 171 22 L [.int x] h = some (.inl (some (.int x)), h) := xo_ireturn (n := 23) (by decide +kernel) rfl
set_option maxRecDepth 20000 in
theorem e_L_about (v0 : Nat) (v1 : Int32) (v2 : Int32) (v3 : Nat) (h : xH) : xev 171 [.ref v0, .int v1, .int v2, .ref v3] h = xf 171 0 [some (.ref v0), some (.int v1), some (.int v2), some (.ref v3), none] [] h := rfl
set_option maxRecDepth 20000 in
theorem u_L_pair_0 (l0 l1 l2 l4 : Option Value) (x : Nat) (st : List Value) (h : xH) : xf 172 0 [l0, l1, l2, some (.ref x), l4] st h = xf 172 1 [l0, l1, l2, some (.ref x), l4] (.ref x :: st) h := xo_aload (k := 3) (by decide +kernel) rfl
set_option maxRecDepth 20000 in
theorem u_L_pair_1 (L : xL) (st : List Value) (h : xH) : xf 172 1 L st h = xf 172 2 L (.int 0 :: st) h := xo_iconst (k := 0) (by decide +kernel) (by decide)
set_option maxRecDepth 20000 in
theorem u_L_pair_2 (l1 l2 l3 l4 : Option Value) (x : Nat) (st : List Value) (h : xH) : xf 172 2 [some (.ref x), l1, l2, l3, l4] st h = xf 172 3 [some (.ref x), l1, l2, l3, l4] (.ref x :: st) h := xo_aload (k := 0) (by decide +kernel) rfl
set_option maxRecDepth 20000 in
theorem u_L_pair_3 (l0 l2 l3 l4 : Option Value) (x : Int32) (st : List Value) (h : xH) : xf 172 3 [l0, some (.int x), l2, l3, l4] st h = xf 172 4 [l0, some (.int x), l2, l3, l4] (.int x :: st) h := xo_iload (k := 1) (by decide +kernel) rfl
set_option maxRecDepth 20000 in
theorem u_L_pair_4 (l0 l1 l3 l4 : Option Value) (x : Int32) (st : List Value) (h : xH) : xf 172 4 [l0, l1, some (.int x), l3, l4] st h = xf 172 5 [l0, l1, some (.int x), l3, l4] (.int x :: st) h := xo_iload (k := 2) (by decide +kernel) rfl
set_option maxRecDepth 20000 in
theorem u_L_pair_5 (L : xL) (v0 : Int32) (v1 : Int32) (b : Nat) (st : List Value) (h : xH) (hb : (xob h b).1 = 7) (hl : st.length ≤ 4) : xf 172 5 L (.int v1 :: .int v0 :: .ref b :: st) h = xgo 172 5 8 L st (xev 79 [.ref b, .int v0, .int v1] h) := xo_callV (as := [.int v0, .int v1]) (by decide +kernel) rfl ⟨(by decide +kernel : xna 79 = 2), Nat.le_of_ble_eq_true rfl, rfl, by decide⟩ hb hl
set_option maxRecDepth 20000 in
theorem t_L_pair_5_2 (l0 l1 l2 l3 l4 : Option Value) (st : List Value) (h : xH) : xgo 172 5 8 [l0, l1, l2, l3, l4] st (some (.inr 2, h)) = xf 172 15 [l0, l1, l2, xcat l3, none] [] h := xgo_thr (hp := 15) (k := 4) (by decide +kernel)
set_option maxRecDepth 20000 in
theorem u_L_pair_8 (L : xL) (a : Int32) (st : List Value) (h : xH) : xf 172 8 L (.int a :: st) h = xf 172 9 L (.long a.toInt64 :: st) h := xo_i2l (by decide +kernel)
set_option maxRecDepth 20000 in
theorem u_L_pair_9 (L : xL) (v : Int64) (i : Int32) (a : Nat) (st : List Value) (h : xH) (hx : xix i (xal h a).1) : xf 172 9 L (.long v :: .int i :: .ref a :: st) h = xf 172 10 L st (xsl h a i.toNatClampNeg v) := xo_lastore (by decide +kernel) hx
set_option maxRecDepth 20000 in
theorem u_L_pair_10 (L : xL) (st : List Value) (h : xH) : xf 172 10 L st h = xf 172 17 L st h := xo_goto (n := 13) (t := 17) (by decide +kernel) rfl
set_option maxRecDepth 20000 in
theorem u_L_pair_13 (l0 l1 l2 l3 l4 : Option Value) (x : Nat) (st : List Value) (h : xH) : xf 172 13 [l0, l1, l2, l3, l4] (.ref x :: st) h = xf 172 15 [l0, l1, l2, xcat l3, some (.ref x)] st h := xo_astore (k := 4) (by decide +kernel) (Nat.le_of_ble_eq_true rfl) rfl
set_option maxRecDepth 20000 in
theorem u_L_pair_15 (L : xL) (st : List Value) (h : xH) : xf 172 15 L st h = xf 172 16 L (.int 1 :: st) h := xo_iconst (k := 1) (by decide +kernel) (by decide)
set_option maxRecDepth 20000 in
theorem u_L_pair_16 (L : xL) (x : Int32) (h : xH) : xf 172 16 L [.int x] h = some (.inl (some (.int x)), h) := xo_ireturn (n := 17) (by decide +kernel) rfl
set_option maxRecDepth 20000 in
theorem u_L_pair_17 (L : xL) (st : List Value) (h : xH) : xf 172 17 L st h = xf 172 18 L (.int 0 :: st) h := xo_iconst (k := 0) (by decide +kernel) (by decide)
set_option maxRecDepth 20000 in
theorem u_L_pair_18 (L : xL) (x : Int32) (h : xH) : xf 172 18 L [.int x] h = some (.inl (some (.int x)), h) := xo_ireturn (n := 19) (by decide +kernel) rfl
set_option maxRecDepth 20000 in
theorem e_L_pair (v0 : Nat) (v1 : Int32) (v2 : Int32) (v3 : Nat) (h : xH) : xev 172 [.ref v0, .int v1, .int v2, .ref v3] h = xf 172 0 [some (.ref v0), some (.int v1), some (.int v2), some (.ref v3), none] [] h := rfl
set_option maxRecDepth 20000 in
theorem u_L_next_0 (l0 l1 l3 : Option Value) (x : Nat) (st : List Value) (h : xH) : xf 173 0 [l0, l1, some (.ref x), l3] st h = xf 173 1 [l0, l1, some (.ref x), l3] (.ref x :: st) h := xo_aload (k := 2) (by decide +kernel) rfl
set_option maxRecDepth 20000 in
theorem u_L_next_1 (L : xL) (st : List Value) (h : xH) : xf 173 1 L st h = xf 173 2 L (.int 0 :: st) h := xo_iconst (k := 0) (by decide +kernel) (by decide)
set_option maxRecDepth 20000 in
theorem u_L_next_2 (l1 l2 l3 : Option Value) (x : Nat) (st : List Value) (h : xH) : xf 173 2 [some (.ref x), l1, l2, l3] st h = xf 173 3 [some (.ref x), l1, l2, l3] (.ref x :: st) h := xo_aload (k := 0) (by decide +kernel) rfl
set_option maxRecDepth 20000 in
theorem u_L_next_3 (l0 l2 l3 : Option Value) (x : Int32) (st : List Value) (h : xH) : xf 173 3 [l0, some (.int x), l2, l3] st h = xf 173 4 [l0, some (.int x), l2, l3] (.int x :: st) h := xo_iload (k := 1) (by decide +kernel) rfl
set_option maxRecDepth 20000 in
theorem u_L_next_4 (L : xL) (v0 : Int32) (b : Nat) (st : List Value) (h : xH) (hb : (xob h b).1 = 7) (hl : st.length ≤ 4) : xf 173 4 L (.int v0 :: .ref b :: st) h = xgo 173 4 7 L st (xev 80 [.ref b, .int v0] h) := xo_callV (as := [.int v0]) (by decide +kernel) rfl ⟨(by decide +kernel : xna 80 = 1), Nat.le_of_ble_eq_true rfl, rfl, by decide⟩ hb hl
set_option maxRecDepth 20000 in
theorem t_L_next_4_0 (l0 l1 l2 l3 : Option Value) (st : List Value) (h : xH) : xgo 173 4 7 [l0, l1, l2, l3] st (some (.inr 0, h)) = xf 173 13 [l0, l1, xcat l2, none] [] h := xgo_thr (hp := 13) (k := 3) (by decide +kernel)
set_option maxRecDepth 20000 in
theorem u_L_next_7 (L : xL) (a : Int32) (st : List Value) (h : xH) : xf 173 7 L (.int a :: st) h = xf 173 8 L (.long a.toInt64 :: st) h := xo_i2l (by decide +kernel)
set_option maxRecDepth 20000 in
theorem u_L_next_8 (L : xL) (v : Int64) (i : Int32) (a : Nat) (st : List Value) (h : xH) (hx : xix i (xal h a).1) : xf 173 8 L (.long v :: .int i :: .ref a :: st) h = xf 173 9 L st (xsl h a i.toNatClampNeg v) := xo_lastore (by decide +kernel) hx
set_option maxRecDepth 20000 in
theorem u_L_next_9 (L : xL) (st : List Value) (h : xH) : xf 173 9 L st h = xf 173 15 L st h := xo_goto (n := 12) (t := 15) (by decide +kernel) rfl
set_option maxRecDepth 20000 in
theorem u_L_next_12 (l0 l1 l2 l3 : Option Value) (x : Nat) (st : List Value) (h : xH) : xf 173 12 [l0, l1, l2, l3] (.ref x :: st) h = xf 173 13 [l0, l1, xcat l2, some (.ref x)] st h := xo_astore (k := 3) (by decide +kernel) (Nat.le_of_ble_eq_true rfl) rfl
set_option maxRecDepth 20000 in
theorem u_L_next_13 (L : xL) (st : List Value) (h : xH) : xf 173 13 L st h = xf 173 14 L (.int 1 :: st) h := xo_iconst (k := 1) (by decide +kernel) (by decide)
set_option maxRecDepth 20000 in
theorem u_L_next_14 (L : xL) (x : Int32) (h : xH) : xf 173 14 L [.int x] h = some (.inl (some (.int x)), h) := xo_ireturn (n := 15) (by decide +kernel) rfl
set_option maxRecDepth 20000 in
theorem u_L_next_15 (L : xL) (st : List Value) (h : xH) : xf 173 15 L st h = xf 173 16 L (.int 0 :: st) h := xo_iconst (k := 0) (by decide +kernel) (by decide)
set_option maxRecDepth 20000 in
theorem u_L_next_16 (L : xL) (x : Int32) (h : xH) : xf 173 16 L [.int x] h = some (.inl (some (.int x)), h) := xo_ireturn (n := 17) (by decide +kernel) rfl
set_option maxRecDepth 20000 in
theorem e_L_next (v0 : Nat) (v1 : Int32) (v2 : Nat) (h : xH) : xev 173 [.ref v0, .int v1, .ref v2] h = xf 173 0 [some (.ref v0), some (.int v1), some (.ref v2), none] [] h := rfl
set_option maxRecDepth 20000 in
theorem u_L_count_0 (l0 l1 l3 : Option Value) (x : Nat) (st : List Value) (h : xH) : xf 174 0 [l0, l1, some (.ref x), l3] st h = xf 174 1 [l0, l1, some (.ref x), l3] (.ref x :: st) h := xo_aload (k := 2) (by decide +kernel) rfl
set_option maxRecDepth 20000 in
theorem u_L_count_1 (L : xL) (st : List Value) (h : xH) : xf 174 1 L st h = xf 174 2 L (.int 0 :: st) h := xo_iconst (k := 0) (by decide +kernel) (by decide)
set_option maxRecDepth 20000 in
theorem u_L_count_2 (l1 l2 l3 : Option Value) (x : Nat) (st : List Value) (h : xH) : xf 174 2 [some (.ref x), l1, l2, l3] st h = xf 174 3 [some (.ref x), l1, l2, l3] (.ref x :: st) h := xo_aload (k := 0) (by decide +kernel) rfl
set_option maxRecDepth 20000 in
theorem u_L_count_3 (l0 l2 l3 : Option Value) (x : Int32) (st : List Value) (h : xH) : xf 174 3 [l0, some (.int x), l2, l3] st h = xf 174 4 [l0, some (.int x), l2, l3] (.int x :: st) h := xo_iload (k := 1) (by decide +kernel) rfl
set_option maxRecDepth 20000 in
theorem u_L_count_4 (L : xL) (v0 : Int32) (b : Nat) (st : List Value) (h : xH) (hb : (xob h b).1 = 7) (hl : st.length ≤ 4) : xf 174 4 L (.int v0 :: .ref b :: st) h = xgo 174 4 7 L st (xev 81 [.ref b, .int v0] h) := xo_callV (as := [.int v0]) (by decide +kernel) rfl ⟨(by decide +kernel : xna 81 = 1), Nat.le_of_ble_eq_true rfl, rfl, by decide⟩ hb hl
set_option maxRecDepth 20000 in
theorem t_L_count_4_0 (l0 l1 l2 l3 : Option Value) (st : List Value) (h : xH) : xgo 174 4 7 [l0, l1, l2, l3] st (some (.inr 0, h)) = xf 174 13 [l0, l1, xcat l2, none] [] h := xgo_thr (hp := 13) (k := 3) (by decide +kernel)
set_option maxRecDepth 20000 in
theorem u_L_count_7 (L : xL) (a : Int32) (st : List Value) (h : xH) : xf 174 7 L (.int a :: st) h = xf 174 8 L (.long a.toInt64 :: st) h := xo_i2l (by decide +kernel)
set_option maxRecDepth 20000 in
theorem u_L_count_8 (L : xL) (v : Int64) (i : Int32) (a : Nat) (st : List Value) (h : xH) (hx : xix i (xal h a).1) : xf 174 8 L (.long v :: .int i :: .ref a :: st) h = xf 174 9 L st (xsl h a i.toNatClampNeg v) := xo_lastore (by decide +kernel) hx
set_option maxRecDepth 20000 in
theorem u_L_count_9 (L : xL) (st : List Value) (h : xH) : xf 174 9 L st h = xf 174 15 L st h := xo_goto (n := 12) (t := 15) (by decide +kernel) rfl
set_option maxRecDepth 20000 in
theorem u_L_count_12 (l0 l1 l2 l3 : Option Value) (x : Nat) (st : List Value) (h : xH) : xf 174 12 [l0, l1, l2, l3] (.ref x :: st) h = xf 174 13 [l0, l1, xcat l2, some (.ref x)] st h := xo_astore (k := 3) (by decide +kernel) (Nat.le_of_ble_eq_true rfl) rfl
set_option maxRecDepth 20000 in
theorem u_L_count_13 (L : xL) (st : List Value) (h : xH) : xf 174 13 L st h = xf 174 14 L (.int 1 :: st) h := xo_iconst (k := 1) (by decide +kernel) (by decide)
set_option maxRecDepth 20000 in
theorem u_L_count_14 (L : xL) (x : Int32) (h : xH) : xf 174 14 L [.int x] h = some (.inl (some (.int x)), h) := xo_ireturn (n := 15) (by decide +kernel) rfl
set_option maxRecDepth 20000 in
theorem u_L_count_15 (L : xL) (st : List Value) (h : xH) : xf 174 15 L st h = xf 174 16 L (.int 0 :: st) h := xo_iconst (k := 0) (by decide +kernel) (by decide)
set_option maxRecDepth 20000 in
theorem u_L_count_16 (L : xL) (x : Int32) (h : xH) : xf 174 16 L [.int x] h = some (.inl (some (.int x)), h) := xo_ireturn (n := 17) (by decide +kernel) rfl
set_option maxRecDepth 20000 in
theorem e_L_count (v0 : Nat) (v1 : Int32) (v2 : Nat) (h : xH) : xev 174 [.ref v0, .int v1, .ref v2] h = xf 174 0 [some (.ref v0), some (.int v1), some (.ref v2), none] [] h := rfl
set_option maxRecDepth 20000 in
theorem u_L_times_0 (l0 l1 l3 : Option Value) (x : Nat) (st : List Value) (h : xH) : xf 175 0 [l0, l1, some (.ref x), l3] st h = xf 175 1 [l0, l1, some (.ref x), l3] (.ref x :: st) h := xo_aload (k := 2) (by decide +kernel) rfl
set_option maxRecDepth 20000 in
theorem u_L_times_1 (L : xL) (st : List Value) (h : xH) : xf 175 1 L st h = xf 175 2 L (.int 0 :: st) h := xo_iconst (k := 0) (by decide +kernel) (by decide)
set_option maxRecDepth 20000 in
theorem u_L_times_2 (l1 l2 l3 : Option Value) (x : Nat) (st : List Value) (h : xH) : xf 175 2 [some (.ref x), l1, l2, l3] st h = xf 175 3 [some (.ref x), l1, l2, l3] (.ref x :: st) h := xo_aload (k := 0) (by decide +kernel) rfl
set_option maxRecDepth 20000 in
theorem u_L_times_3 (l0 l2 l3 : Option Value) (x : Int32) (st : List Value) (h : xH) : xf 175 3 [l0, some (.int x), l2, l3] st h = xf 175 4 [l0, some (.int x), l2, l3] (.int x :: st) h := xo_iload (k := 1) (by decide +kernel) rfl
set_option maxRecDepth 20000 in
theorem u_L_times_4 (L : xL) (v0 : Int32) (b : Nat) (st : List Value) (h : xH) (hb : (xob h b).1 = 7) (hl : st.length ≤ 4) : xf 175 4 L (.int v0 :: .ref b :: st) h = xgo 175 4 7 L st (xev 82 [.ref b, .int v0] h) := xo_callV (as := [.int v0]) (by decide +kernel) rfl ⟨(by decide +kernel : xna 82 = 1), Nat.le_of_ble_eq_true rfl, rfl, by decide⟩ hb hl
set_option maxRecDepth 20000 in
theorem t_L_times_4_2 (l0 l1 l2 l3 : Option Value) (st : List Value) (h : xH) : xgo 175 4 7 [l0, l1, l2, l3] st (some (.inr 2, h)) = xf 175 13 [l0, l1, xcat l2, none] [] h := xgo_thr (hp := 13) (k := 3) (by decide +kernel)
set_option maxRecDepth 20000 in
theorem u_L_times_7 (L : xL) (a : Int32) (st : List Value) (h : xH) : xf 175 7 L (.int a :: st) h = xf 175 8 L (.long a.toInt64 :: st) h := xo_i2l (by decide +kernel)
set_option maxRecDepth 20000 in
theorem u_L_times_8 (L : xL) (v : Int64) (i : Int32) (a : Nat) (st : List Value) (h : xH) (hx : xix i (xal h a).1) : xf 175 8 L (.long v :: .int i :: .ref a :: st) h = xf 175 9 L st (xsl h a i.toNatClampNeg v) := xo_lastore (by decide +kernel) hx
set_option maxRecDepth 20000 in
theorem u_L_times_9 (L : xL) (st : List Value) (h : xH) : xf 175 9 L st h = xf 175 15 L st h := xo_goto (n := 12) (t := 15) (by decide +kernel) rfl
set_option maxRecDepth 20000 in
theorem u_L_times_12 (l0 l1 l2 l3 : Option Value) (x : Nat) (st : List Value) (h : xH) : xf 175 12 [l0, l1, l2, l3] (.ref x :: st) h = xf 175 13 [l0, l1, xcat l2, some (.ref x)] st h := xo_astore (k := 3) (by decide +kernel) (Nat.le_of_ble_eq_true rfl) rfl
set_option maxRecDepth 20000 in
theorem u_L_times_13 (L : xL) (st : List Value) (h : xH) : xf 175 13 L st h = xf 175 14 L (.int 1 :: st) h := xo_iconst (k := 1) (by decide +kernel) (by decide)
set_option maxRecDepth 20000 in
theorem u_L_times_14 (L : xL) (x : Int32) (h : xH) : xf 175 14 L [.int x] h = some (.inl (some (.int x)), h) := xo_ireturn (n := 15) (by decide +kernel) rfl
set_option maxRecDepth 20000 in
theorem u_L_times_15 (L : xL) (st : List Value) (h : xH) : xf 175 15 L st h = xf 175 16 L (.int 0 :: st) h := xo_iconst (k := 0) (by decide +kernel) (by decide)
set_option maxRecDepth 20000 in
theorem u_L_times_16 (L : xL) (x : Int32) (h : xH) : xf 175 16 L [.int x] h = some (.inl (some (.int x)), h) := xo_ireturn (n := 17) (by decide +kernel) rfl
set_option maxRecDepth 20000 in
theorem e_L_times (v0 : Nat) (v1 : Int32) (v2 : Nat) (h : xH) : xev 175 [.ref v0, .int v1, .ref v2] h = xf 175 0 [some (.ref v0), some (.int v1), some (.ref v2), none] [] h := rfl
set_option maxRecDepth 20000 in
theorem u_L_setting_0 (l0 l1 l3 : Option Value) (x : Nat) (st : List Value) (h : xH) : xf 176 0 [l0, l1, some (.ref x), l3] st h = xf 176 1 [l0, l1, some (.ref x), l3] (.ref x :: st) h := xo_aload (k := 2) (by decide +kernel) rfl
set_option maxRecDepth 20000 in
theorem u_L_setting_1 (L : xL) (st : List Value) (h : xH) : xf 176 1 L st h = xf 176 2 L (.int 0 :: st) h := xo_iconst (k := 0) (by decide +kernel) (by decide)
set_option maxRecDepth 20000 in
theorem u_L_setting_2 (l1 l2 l3 : Option Value) (x : Nat) (st : List Value) (h : xH) : xf 176 2 [some (.ref x), l1, l2, l3] st h = xf 176 3 [some (.ref x), l1, l2, l3] (.ref x :: st) h := xo_aload (k := 0) (by decide +kernel) rfl
set_option maxRecDepth 20000 in
theorem u_L_setting_3 (l0 l2 l3 : Option Value) (x : Int32) (st : List Value) (h : xH) : xf 176 3 [l0, some (.int x), l2, l3] st h = xf 176 4 [l0, some (.int x), l2, l3] (.int x :: st) h := xo_iload (k := 1) (by decide +kernel) rfl
set_option maxRecDepth 20000 in
theorem u_L_setting_4 (L : xL) (v0 : Int32) (b : Nat) (st : List Value) (h : xH) (hb : (xob h b).1 = 7) (hl : st.length ≤ 4) : xf 176 4 L (.int v0 :: .ref b :: st) h = xgo 176 4 7 L st (xev 83 [.ref b, .int v0] h) := xo_callV (as := [.int v0]) (by decide +kernel) rfl ⟨(by decide +kernel : xna 83 = 1), Nat.le_of_ble_eq_true rfl, rfl, by decide⟩ hb hl
set_option maxRecDepth 20000 in
theorem t_L_setting_4_2 (l0 l1 l2 l3 : Option Value) (st : List Value) (h : xH) : xgo 176 4 7 [l0, l1, l2, l3] st (some (.inr 2, h)) = xf 176 13 [l0, l1, xcat l2, none] [] h := xgo_thr (hp := 13) (k := 3) (by decide +kernel)
set_option maxRecDepth 20000 in
theorem u_L_setting_7 (L : xL) (a : Int32) (st : List Value) (h : xH) : xf 176 7 L (.int a :: st) h = xf 176 8 L (.long a.toInt64 :: st) h := xo_i2l (by decide +kernel)
set_option maxRecDepth 20000 in
theorem u_L_setting_8 (L : xL) (v : Int64) (i : Int32) (a : Nat) (st : List Value) (h : xH) (hx : xix i (xal h a).1) : xf 176 8 L (.long v :: .int i :: .ref a :: st) h = xf 176 9 L st (xsl h a i.toNatClampNeg v) := xo_lastore (by decide +kernel) hx
set_option maxRecDepth 20000 in
theorem u_L_setting_9 (L : xL) (st : List Value) (h : xH) : xf 176 9 L st h = xf 176 15 L st h := xo_goto (n := 12) (t := 15) (by decide +kernel) rfl
set_option maxRecDepth 20000 in
theorem u_L_setting_12 (l0 l1 l2 l3 : Option Value) (x : Nat) (st : List Value) (h : xH) : xf 176 12 [l0, l1, l2, l3] (.ref x :: st) h = xf 176 13 [l0, l1, xcat l2, some (.ref x)] st h := xo_astore (k := 3) (by decide +kernel) (Nat.le_of_ble_eq_true rfl) rfl
set_option maxRecDepth 20000 in
theorem u_L_setting_13 (L : xL) (st : List Value) (h : xH) : xf 176 13 L st h = xf 176 14 L (.int 1 :: st) h := xo_iconst (k := 1) (by decide +kernel) (by decide)
set_option maxRecDepth 20000 in
theorem u_L_setting_14 (L : xL) (x : Int32) (h : xH) : xf 176 14 L [.int x] h = some (.inl (some (.int x)), h) := xo_ireturn (n := 15) (by decide +kernel) rfl
set_option maxRecDepth 20000 in
theorem u_L_setting_15 (L : xL) (st : List Value) (h : xH) : xf 176 15 L st h = xf 176 16 L (.int 0 :: st) h := xo_iconst (k := 0) (by decide +kernel) (by decide)
set_option maxRecDepth 20000 in
theorem u_L_setting_16 (L : xL) (x : Int32) (h : xH) : xf 176 16 L [.int x] h = some (.inl (some (.int x)), h) := xo_ireturn (n := 17) (by decide +kernel) rfl
set_option maxRecDepth 20000 in
theorem e_L_setting (v0 : Nat) (v1 : Int32) (v2 : Nat) (h : xH) : xev 176 [.ref v0, .int v1, .ref v2] h = xf 176 0 [some (.ref v0), some (.int v1), some (.ref v2), none] [] h := rfl
set_option maxRecDepth 20000 in
theorem u_L_ifNamed_0 (l0 l1 l3 : Option Value) (x : Nat) (st : List Value) (h : xH) : xf 177 0 [l0, l1, some (.ref x), l3] st h = xf 177 1 [l0, l1, some (.ref x), l3] (.ref x :: st) h := xo_aload (k := 2) (by decide +kernel) rfl
set_option maxRecDepth 20000 in
theorem u_L_ifNamed_1 (L : xL) (st : List Value) (h : xH) : xf 177 1 L st h = xf 177 2 L (.int 0 :: st) h := xo_iconst (k := 0) (by decide +kernel) (by decide)
set_option maxRecDepth 20000 in
theorem u_L_ifNamed_2 (l1 l2 l3 : Option Value) (x : Nat) (st : List Value) (h : xH) : xf 177 2 [some (.ref x), l1, l2, l3] st h = xf 177 3 [some (.ref x), l1, l2, l3] (.ref x :: st) h := xo_aload (k := 0) (by decide +kernel) rfl
set_option maxRecDepth 20000 in
theorem u_L_ifNamed_3 (l0 l2 l3 : Option Value) (x : Int32) (st : List Value) (h : xH) : xf 177 3 [l0, some (.int x), l2, l3] st h = xf 177 4 [l0, some (.int x), l2, l3] (.int x :: st) h := xo_iload (k := 1) (by decide +kernel) rfl
set_option maxRecDepth 20000 in
theorem u_L_ifNamed_4 (L : xL) (v0 : Int32) (b : Nat) (st : List Value) (h : xH) (hb : (xob h b).1 = 7) (hl : st.length ≤ 4) : xf 177 4 L (.int v0 :: .ref b :: st) h = xgo 177 4 7 L st (xev 84 [.ref b, .int v0] h) := xo_callV (as := [.int v0]) (by decide +kernel) rfl ⟨(by decide +kernel : xna 84 = 1), Nat.le_of_ble_eq_true rfl, rfl, by decide⟩ hb hl
set_option maxRecDepth 20000 in
theorem t_L_ifNamed_4_0 (l0 l1 l2 l3 : Option Value) (st : List Value) (h : xH) : xgo 177 4 7 [l0, l1, l2, l3] st (some (.inr 0, h)) = xf 177 13 [l0, l1, xcat l2, none] [] h := xgo_thr (hp := 13) (k := 3) (by decide +kernel)
set_option maxRecDepth 20000 in
theorem u_L_ifNamed_7 (L : xL) (a : Int32) (st : List Value) (h : xH) : xf 177 7 L (.int a :: st) h = xf 177 8 L (.long a.toInt64 :: st) h := xo_i2l (by decide +kernel)
set_option maxRecDepth 20000 in
theorem u_L_ifNamed_8 (L : xL) (v : Int64) (i : Int32) (a : Nat) (st : List Value) (h : xH) (hx : xix i (xal h a).1) : xf 177 8 L (.long v :: .int i :: .ref a :: st) h = xf 177 9 L st (xsl h a i.toNatClampNeg v) := xo_lastore (by decide +kernel) hx
set_option maxRecDepth 20000 in
theorem u_L_ifNamed_9 (L : xL) (st : List Value) (h : xH) : xf 177 9 L st h = xf 177 15 L st h := xo_goto (n := 12) (t := 15) (by decide +kernel) rfl
set_option maxRecDepth 20000 in
theorem u_L_ifNamed_12 (l0 l1 l2 l3 : Option Value) (x : Nat) (st : List Value) (h : xH) : xf 177 12 [l0, l1, l2, l3] (.ref x :: st) h = xf 177 13 [l0, l1, xcat l2, some (.ref x)] st h := xo_astore (k := 3) (by decide +kernel) (Nat.le_of_ble_eq_true rfl) rfl
set_option maxRecDepth 20000 in
theorem u_L_ifNamed_13 (L : xL) (st : List Value) (h : xH) : xf 177 13 L st h = xf 177 14 L (.int 1 :: st) h := xo_iconst (k := 1) (by decide +kernel) (by decide)
set_option maxRecDepth 20000 in
theorem u_L_ifNamed_14 (L : xL) (x : Int32) (h : xH) : xf 177 14 L [.int x] h = some (.inl (some (.int x)), h) := xo_ireturn (n := 15) (by decide +kernel) rfl
set_option maxRecDepth 20000 in
theorem u_L_ifNamed_15 (L : xL) (st : List Value) (h : xH) : xf 177 15 L st h = xf 177 16 L (.int 0 :: st) h := xo_iconst (k := 0) (by decide +kernel) (by decide)
set_option maxRecDepth 20000 in
theorem u_L_ifNamed_16 (L : xL) (x : Int32) (h : xH) : xf 177 16 L [.int x] h = some (.inl (some (.int x)), h) := xo_ireturn (n := 17) (by decide +kernel) rfl
set_option maxRecDepth 20000 in
theorem e_L_ifNamed (v0 : Nat) (v1 : Int32) (v2 : Nat) (h : xH) : xev 177 [.ref v0, .int v1, .ref v2] h = xf 177 0 [some (.ref v0), some (.int v1), some (.ref v2), none] [] h := rfl
set_option maxRecDepth 20000 in
theorem u_L_law_0 (L : xL) (st : List Value) (h : xH) (hn : h.2.1 ≠ 0) : xf 178 0 L st h = xf 178 3 L (.ref h.2.1 :: st) (xnew h (.inr (7, xdef 7)) 5) := xo_new (c := 7) (by decide +kernel) (by decide) hn
set_option maxRecDepth 20000 in
theorem u_L_law_3 (L : xL) (a : Nat) (st : List Value) (h : xH) : xf 178 3 L (.ref a :: st) h = xf 178 4 L (.ref a :: .ref a :: st) h := xo_dupR (by decide +kernel)
set_option maxRecDepth 20000 in
theorem u_L_law_4 (L : xL) (b : Nat) (st : List Value) (h : xH) (hl : st.length ≤ 4) : xf 178 4 L (.ref b :: st) h = xgoI 178 4 7 L st (xev 62 [.ref b] h) := xo_callI (as := []) (by decide +kernel) rfl ⟨(by decide +kernel : xna 62 = 0), Nat.le_of_ble_eq_true rfl, by decide⟩ hl
set_option maxRecDepth 20000 in
theorem u_L_law_7 (l0 l1 l2 l3 l4 l5 l6 l7 l8 : Option Value) (x : Nat) (st : List Value) (h : xH) : xf 178 7 [l0, l1, l2, l3, l4, l5, l6, l7, l8] (.ref x :: st) h = xf 178 8 [xcat l0, some (.ref x), l2, l3, l4, l5, l6, l7, l8] st h := xo_astore (k := 1) (by decide +kernel) (Nat.le_of_ble_eq_true rfl) rfl
set_option maxRecDepth 20000 in
theorem u_L_law_8 (L : xL) (st : List Value) (h : xH) (hn : h.2.1 ≠ 0) : xf 178 8 L st h = xf 178 11 L (.ref h.2.1 :: st) (xnew h (.inr (8, xdef 8)) 20) := xo_new (c := 8) (by decide +kernel) (by decide) hn
set_option maxRecDepth 20000 in
theorem u_L_law_11 (L : xL) (a : Nat) (st : List Value) (h : xH) : xf 178 11 L (.ref a :: st) h = xf 178 12 L (.ref a :: .ref a :: st) h := xo_dupR (by decide +kernel)
set_option maxRecDepth 20000 in
theorem u_L_law_12 (L : xL) (b : Nat) (st : List Value) (h : xH) (hl : st.length ≤ 4) : xf 178 12 L (.ref b :: st) h = xgoI 178 12 15 L st (xev 97 [.ref b] h) := xo_callI (as := []) (by decide +kernel) rfl ⟨(by decide +kernel : xna 97 = 0), Nat.le_of_ble_eq_true rfl, by decide⟩ hl
set_option maxRecDepth 20000 in
theorem u_L_law_15 (l0 l1 l2 l3 l4 l5 l6 l7 l8 : Option Value) (x : Nat) (st : List Value) (h : xH) : xf 178 15 [l0, l1, l2, l3, l4, l5, l6, l7, l8] (.ref x :: st) h = xf 178 16 [l0, xcat l1, some (.ref x), l3, l4, l5, l6, l7, l8] st h := xo_astore (k := 2) (by decide +kernel) (Nat.le_of_ble_eq_true rfl) rfl
set_option maxRecDepth 20000 in
theorem u_L_law_16 (L : xL) (st : List Value) (h : xH) : xf 178 16 L st h = xf 178 17 L (.int 1 :: st) h := xo_iconst (k := 1) (by decide +kernel) (by decide)
set_option maxRecDepth 20000 in
theorem u_L_law_17 (L : xL) (i : Int32) (m : Nat) (st : List Value) (h : xH) (hi : ¬ i < 0 ∧ i.toNatClampNeg = m ∧ m ≤ 1000) (hn : h.2.1 ≠ 0) : xf 178 17 L (.int i :: st) h = xf 178 19 L (.ref h.2.1 :: st) (xnew h (.inl (1, m, .inr (.inl (fun _ => 0)))) m) := xo_newl (by decide +kernel) hi hn
set_option maxRecDepth 20000 in
theorem u_L_law_19 (l0 l1 l2 l3 l4 l5 l6 l7 l8 : Option Value) (x : Nat) (st : List Value) (h : xH) : xf 178 19 [l0, l1, l2, l3, l4, l5, l6, l7, l8] (.ref x :: st) h = xf 178 20 [l0, l1, xcat l2, some (.ref x), l4, l5, l6, l7, l8] st h := xo_astore (k := 3) (by decide +kernel) (Nat.le_of_ble_eq_true rfl) rfl
set_option maxRecDepth 20000 in
theorem u_L_law_20 (L : xL) (st : List Value) (h : xH) : xf 178 20 L st h = xf 178 21 L (.int 0 :: st) h := xo_iconst (k := 0) (by decide +kernel) (by decide)
set_option maxRecDepth 20000 in
theorem u_L_law_21 (l0 l1 l2 l3 l4 l5 l6 l7 l8 : Option Value) (x : Int32) (st : List Value) (h : xH) : xf 178 21 [l0, l1, l2, l3, l4, l5, l6, l7, l8] (.int x :: st) h = xf 178 23 [l0, l1, l2, xcat l3, some (.int x), l5, l6, l7, l8] st h := xo_istore (k := 4) (by decide +kernel) (Nat.le_of_ble_eq_true rfl) rfl
set_option maxRecDepth 20000 in
theorem u_L_law_23 (l0 l1 l2 l3 l5 l6 l7 l8 : Option Value) (x : Int32) (st : List Value) (h : xH) : xf 178 23 [l0, l1, l2, l3, some (.int x), l5, l6, l7, l8] st h = xf 178 25 [l0, l1, l2, l3, some (.int x), l5, l6, l7, l8] (.int x :: st) h := xo_iload (k := 4) (by decide +kernel) rfl
set_option maxRecDepth 20000 in
theorem u_L_law_25 (l1 l2 l3 l4 l5 l6 l7 l8 : Option Value) (x : Nat) (st : List Value) (h : xH) : xf 178 25 [some (.ref x), l1, l2, l3, l4, l5, l6, l7, l8] st h = xf 178 26 [some (.ref x), l1, l2, l3, l4, l5, l6, l7, l8] (.ref x :: st) h := xo_aload (k := 0) (by decide +kernel) rfl
set_option maxRecDepth 20000 in
theorem u_L_law_26 (L : xL) (a : Nat) (st : List Value) (h : xH) (hx : xk3 h a = true) : xf 178 26 L (.ref a :: st) h = xf 178 27 L (.int (Int32.ofNat (xa3 h a).1) :: st) h := xo_alen3 (by decide +kernel) hx
set_option maxRecDepth 20000 in
theorem u_L_law_27 (L : xL) (st : List Value) (h : xH) : xf 178 27 L st h = xf 178 28 L (.int 3 :: st) h := xo_iconst (k := 3) (by decide +kernel) (by decide)
set_option maxRecDepth 20000 in
theorem u_L_law_28 (L : xL) (a b : Int32) (st : List Value) (h : xH) : xf 178 28 L (.int b :: .int a :: st) h = xf 178 29 L (.int (a - b) :: st) h := xo_isub (by decide +kernel)
set_option maxRecDepth 20000 in
theorem u_L_law_29 (L : xL) (a b : Int32) (st : List Value) (h : xH) : xf 178 29 L (.int b :: .int a :: st) h = if b < a then xf 178 1243 L st h else xf 178 32 L st h := xo_icmp_gt (t := 1243) (by decide +kernel) rfl
set_option maxRecDepth 20000 in
theorem u_L_law_32 (l1 l2 l3 l4 l5 l6 l7 l8 : Option Value) (x : Nat) (st : List Value) (h : xH) : xf 178 32 [some (.ref x), l1, l2, l3, l4, l5, l6, l7, l8] st h = xf 178 33 [some (.ref x), l1, l2, l3, l4, l5, l6, l7, l8] (.ref x :: st) h := xo_aload (k := 0) (by decide +kernel) rfl
set_option maxRecDepth 20000 in
theorem u_L_law_33 (l0 l1 l2 l3 l5 l6 l7 l8 : Option Value) (x : Int32) (st : List Value) (h : xH) : xf 178 33 [l0, l1, l2, l3, some (.int x), l5, l6, l7, l8] st h = xf 178 35 [l0, l1, l2, l3, some (.int x), l5, l6, l7, l8] (.int x :: st) h := xo_iload (k := 4) (by decide +kernel) rfl
set_option maxRecDepth 20000 in
theorem u_L_law_35 (L : xL) (i : Int32) (a : Nat) (st : List Value) (h : xH) (hx : xix i (xa3 h a).1) : xf 178 35 L (.int i :: .ref a :: st) h = xf 178 36 L (.int ((xa3 h a).2 i.toNatClampNeg) :: st) h := xo_iaload3 (by decide +kernel) hx
set_option maxRecDepth 20000 in
theorem u_L_law_36 (L : xL) (st : List Value) (h : xH) : xf 178 36 L st h = xf 178 38 L (.int 31 :: st) h := xo_iconst (k := 31) (by decide +kernel) (by decide)
set_option maxRecDepth 20000 in
theorem u_L_law_38 (L : xL) (a b : Int32) (st : List Value) (h : xH) : xf 178 38 L (.int b :: .int a :: st) h = xf 178 39 L (.int (a &&& b) :: st) h := xo_iand (by decide +kernel)
set_option maxRecDepth 20000 in
theorem u_L_law_39 (L : xL) (a : Int32) (st : List Value) (h : xH) : xf 178 39 L (.int a :: st) h = if a = 0 then xf 178 152 L st h else if a = 1 then xf 178 196 L st h else if a = 2 then xf 178 252 L st h else if a = 3 then xf 178 308 L st h else if a = 4 then xf 178 364 L st h else if a = 5 then xf 178 377 L st h else if a = 6 then xf 178 390 L st h else if a = 7 then xf 178 403 L st h else if a = 8 then xf 178 447 L st h else if a = 9 then xf 178 515 L st h else if a = 10 then xf 178 571 L st h else if a = 11 then xf 178 584 L st h else if a = 12 then xf 178 597 L st h else if a = 13 then xf 178 641 L st h else if a = 14 then xf 178 697 L st h else if a = 15 then xf 178 753 L st h else if a = 16 then xf 178 821 L st h else if a = 17 then xf 178 889 L st h else if a = 18 then xf 178 945 L st h else if a = 19 then xf 178 1001 L st h else if a = 20 then xf 178 1057 L st h else if a = 21 then xf 178 1113 L st h else if a = 22 then xf 178 1169 L st h else if a = 23 then xf 178 1182 L st h else if a = 24 then xf 178 1223 L st h else xf 178 1237 L st h := by
  have ho : xop 178 39 = some (.tableswitch 1237 0 24 #[152, 196, 252, 308, 364, 377, 390, 403, 447, 515, 571, 584, 597, 641, 697, 753, 821, 889, 945, 1001, 1057, 1113, 1169, 1182, 1223], 39) := by decide +kernel
  by_cases h0 : a = 0
  · subst h0
    rw [if_pos rfl]
    exact xo_tsw (t := 152) ho (by decide) (by decide) rfl
  rw [if_neg h0]
  by_cases h1 : a = 1
  · subst h1
    rw [if_pos rfl]
    exact xo_tsw (t := 196) ho (by decide) (by decide) rfl
  rw [if_neg h1]
  by_cases h2 : a = 2
  · subst h2
    rw [if_pos rfl]
    exact xo_tsw (t := 252) ho (by decide) (by decide) rfl
  rw [if_neg h2]
  by_cases h3 : a = 3
  · subst h3
    rw [if_pos rfl]
    exact xo_tsw (t := 308) ho (by decide) (by decide) rfl
  rw [if_neg h3]
  by_cases h4 : a = 4
  · subst h4
    rw [if_pos rfl]
    exact xo_tsw (t := 364) ho (by decide) (by decide) rfl
  rw [if_neg h4]
  by_cases h5 : a = 5
  · subst h5
    rw [if_pos rfl]
    exact xo_tsw (t := 377) ho (by decide) (by decide) rfl
  rw [if_neg h5]
  by_cases h6 : a = 6
  · subst h6
    rw [if_pos rfl]
    exact xo_tsw (t := 390) ho (by decide) (by decide) rfl
  rw [if_neg h6]
  by_cases h7 : a = 7
  · subst h7
    rw [if_pos rfl]
    exact xo_tsw (t := 403) ho (by decide) (by decide) rfl
  rw [if_neg h7]
  by_cases h8 : a = 8
  · subst h8
    rw [if_pos rfl]
    exact xo_tsw (t := 447) ho (by decide) (by decide) rfl
  rw [if_neg h8]
  by_cases h9 : a = 9
  · subst h9
    rw [if_pos rfl]
    exact xo_tsw (t := 515) ho (by decide) (by decide) rfl
  rw [if_neg h9]
  by_cases h10 : a = 10
  · subst h10
    rw [if_pos rfl]
    exact xo_tsw (t := 571) ho (by decide) (by decide) rfl
  rw [if_neg h10]
  by_cases h11 : a = 11
  · subst h11
    rw [if_pos rfl]
    exact xo_tsw (t := 584) ho (by decide) (by decide) rfl
  rw [if_neg h11]
  by_cases h12 : a = 12
  · subst h12
    rw [if_pos rfl]
    exact xo_tsw (t := 597) ho (by decide) (by decide) rfl
  rw [if_neg h12]
  by_cases h13 : a = 13
  · subst h13
    rw [if_pos rfl]
    exact xo_tsw (t := 641) ho (by decide) (by decide) rfl
  rw [if_neg h13]
  by_cases h14 : a = 14
  · subst h14
    rw [if_pos rfl]
    exact xo_tsw (t := 697) ho (by decide) (by decide) rfl
  rw [if_neg h14]
  by_cases h15 : a = 15
  · subst h15
    rw [if_pos rfl]
    exact xo_tsw (t := 753) ho (by decide) (by decide) rfl
  rw [if_neg h15]
  by_cases h16 : a = 16
  · subst h16
    rw [if_pos rfl]
    exact xo_tsw (t := 821) ho (by decide) (by decide) rfl
  rw [if_neg h16]
  by_cases h17 : a = 17
  · subst h17
    rw [if_pos rfl]
    exact xo_tsw (t := 889) ho (by decide) (by decide) rfl
  rw [if_neg h17]
  by_cases h18 : a = 18
  · subst h18
    rw [if_pos rfl]
    exact xo_tsw (t := 945) ho (by decide) (by decide) rfl
  rw [if_neg h18]
  by_cases h19 : a = 19
  · subst h19
    rw [if_pos rfl]
    exact xo_tsw (t := 1001) ho (by decide) (by decide) rfl
  rw [if_neg h19]
  by_cases h20 : a = 20
  · subst h20
    rw [if_pos rfl]
    exact xo_tsw (t := 1057) ho (by decide) (by decide) rfl
  rw [if_neg h20]
  by_cases h21 : a = 21
  · subst h21
    rw [if_pos rfl]
    exact xo_tsw (t := 1113) ho (by decide) (by decide) rfl
  rw [if_neg h21]
  by_cases h22 : a = 22
  · subst h22
    rw [if_pos rfl]
    exact xo_tsw (t := 1169) ho (by decide) (by decide) rfl
  rw [if_neg h22]
  by_cases h23 : a = 23
  · subst h23
    rw [if_pos rfl]
    exact xo_tsw (t := 1182) ho (by decide) (by decide) rfl
  rw [if_neg h23]
  by_cases h24 : a = 24
  · subst h24
    rw [if_pos rfl]
    exact xo_tsw (t := 1223) ho (by decide) (by decide) rfl
  rw [if_neg h24]
  refine xo_tswO ho rfl ?_
  have g0 := xi_ne h0
  rw [show (0 : Int32).toInt = 0 by decide] at g0
  have g1 := xi_ne h1
  rw [show (1 : Int32).toInt = 1 by decide] at g1
  have g2 := xi_ne h2
  rw [show (2 : Int32).toInt = 2 by decide] at g2
  have g3 := xi_ne h3
  rw [show (3 : Int32).toInt = 3 by decide] at g3
  have g4 := xi_ne h4
  rw [show (4 : Int32).toInt = 4 by decide] at g4
  have g5 := xi_ne h5
  rw [show (5 : Int32).toInt = 5 by decide] at g5
  have g6 := xi_ne h6
  rw [show (6 : Int32).toInt = 6 by decide] at g6
  have g7 := xi_ne h7
  rw [show (7 : Int32).toInt = 7 by decide] at g7
  have g8 := xi_ne h8
  rw [show (8 : Int32).toInt = 8 by decide] at g8
  have g9 := xi_ne h9
  rw [show (9 : Int32).toInt = 9 by decide] at g9
  have g10 := xi_ne h10
  rw [show (10 : Int32).toInt = 10 by decide] at g10
  have g11 := xi_ne h11
  rw [show (11 : Int32).toInt = 11 by decide] at g11
  have g12 := xi_ne h12
  rw [show (12 : Int32).toInt = 12 by decide] at g12
  have g13 := xi_ne h13
  rw [show (13 : Int32).toInt = 13 by decide] at g13
  have g14 := xi_ne h14
  rw [show (14 : Int32).toInt = 14 by decide] at g14
  have g15 := xi_ne h15
  rw [show (15 : Int32).toInt = 15 by decide] at g15
  have g16 := xi_ne h16
  rw [show (16 : Int32).toInt = 16 by decide] at g16
  have g17 := xi_ne h17
  rw [show (17 : Int32).toInt = 17 by decide] at g17
  have g18 := xi_ne h18
  rw [show (18 : Int32).toInt = 18 by decide] at g18
  have g19 := xi_ne h19
  rw [show (19 : Int32).toInt = 19 by decide] at g19
  have g20 := xi_ne h20
  rw [show (20 : Int32).toInt = 20 by decide] at g20
  have g21 := xi_ne h21
  rw [show (21 : Int32).toInt = 21 by decide] at g21
  have g22 := xi_ne h22
  rw [show (22 : Int32).toInt = 22 by decide] at g22
  have g23 := xi_ne h23
  rw [show (23 : Int32).toInt = 23 by decide] at g23
  have g24 := xi_ne h24
  rw [show (24 : Int32).toInt = 24 by decide] at g24
  omega
set_option maxRecDepth 20000 in
theorem u_L_law_152 (l0 l2 l3 l4 l5 l6 l7 l8 : Option Value) (x : Nat) (st : List Value) (h : xH) : xf 178 152 [l0, some (.ref x), l2, l3, l4, l5, l6, l7, l8] st h = xf 178 153 [l0, some (.ref x), l2, l3, l4, l5, l6, l7, l8] (.ref x :: st) h := xo_aload (k := 1) (by decide +kernel) rfl
set_option maxRecDepth 20000 in
theorem u_L_law_153 (l0 l1 l2 l4 l5 l6 l7 l8 : Option Value) (x : Nat) (st : List Value) (h : xH) : xf 178 153 [l0, l1, l2, some (.ref x), l4, l5, l6, l7, l8] st h = xf 178 154 [l0, l1, l2, some (.ref x), l4, l5, l6, l7, l8] (.ref x :: st) h := xo_aload (k := 3) (by decide +kernel) rfl
set_option maxRecDepth 20000 in
theorem u_L_law_154 (L : xL) (v0 : Nat) (v1 : Nat) (st : List Value) (h : xH) (hl : st.length ≤ 4) : xf 178 154 L (.ref v1 :: .ref v0 :: st) h = xgo 178 154 157 L st (xev 161 [.ref v0, .ref v1] h) := xo_callS (as := [.ref v0, .ref v1]) (by decide +kernel) rfl ⟨(by decide +kernel : xna 161 = 2), Nat.le_of_ble_eq_true rfl, by decide⟩ hl
set_option maxRecDepth 20000 in
theorem u_L_law_157 (l0 l1 l2 l3 l4 l5 l6 l7 l8 : Option Value) (x : Int32) (st : List Value) (h : xH) : xf 178 157 [l0, l1, l2, l3, l4, l5, l6, l7, l8] (.int x :: st) h = xf 178 159 [l0, l1, l2, l3, xcat l4, some (.int x), l6, l7, l8] st h := xo_istore (k := 5) (by decide +kernel) (Nat.le_of_ble_eq_true rfl) rfl
set_option maxRecDepth 20000 in
theorem u_L_law_159 (l0 l1 l3 l4 l5 l6 l7 l8 : Option Value) (x : Nat) (st : List Value) (h : xH) : xf 178 159 [l0, l1, some (.ref x), l3, l4, l5, l6, l7, l8] st h = xf 178 160 [l0, l1, some (.ref x), l3, l4, l5, l6, l7, l8] (.ref x :: st) h := xo_aload (k := 2) (by decide +kernel) rfl
set_option maxRecDepth 20000 in
theorem u_L_law_160 (L : xL) (b : Nat) (st : List Value) (h : xH) (hb : (xob h b).1 = 8) (hl : st.length ≤ 4) : xf 178 160 L (.ref b :: st) h = xgo 178 160 163 L st (xev 117 [.ref b] h) := xo_callV (as := []) (by decide +kernel) rfl ⟨(by decide +kernel : xna 117 = 0), Nat.le_of_ble_eq_true rfl, rfl, by decide⟩ hb hl
set_option maxRecDepth 20000 in
theorem u_L_law_163 (l0 l1 l2 l3 l4 l5 l6 l7 l8 : Option Value) (x : Int32) (st : List Value) (h : xH) : xf 178 163 [l0, l1, l2, l3, l4, l5, l6, l7, l8] (.int x :: st) h = xf 178 165 [l0, l1, l2, l3, l4, xcat l5, some (.int x), l7, l8] st h := xo_istore (k := 6) (by decide +kernel) (Nat.le_of_ble_eq_true rfl) rfl
set_option maxRecDepth 20000 in
theorem u_L_law_165 (l0 l1 l3 l4 l5 l6 l7 l8 : Option Value) (x : Nat) (st : List Value) (h : xH) : xf 178 165 [l0, l1, some (.ref x), l3, l4, l5, l6, l7, l8] st h = xf 178 166 [l0, l1, some (.ref x), l3, l4, l5, l6, l7, l8] (.ref x :: st) h := xo_aload (k := 2) (by decide +kernel) rfl
set_option maxRecDepth 20000 in
theorem u_L_law_166 (L : xL) (b : Nat) (st : List Value) (h : xH) (hb : (xob h b).1 = 8) (hl : st.length ≤ 4) : xf 178 166 L (.ref b :: st) h = xgo 178 166 169 L st (xev 98 [.ref b] h) := xo_callV (as := []) (by decide +kernel) rfl ⟨(by decide +kernel : xna 98 = 0), Nat.le_of_ble_eq_true rfl, rfl, by decide⟩ hb hl
set_option maxRecDepth 20000 in
theorem u_L_law_169 (l0 l1 l2 l3 l4 l6 l7 l8 : Option Value) (x : Int32) (st : List Value) (h : xH) : xf 178 169 [l0, l1, l2, l3, l4, some (.int x), l6, l7, l8] st h = xf 178 171 [l0, l1, l2, l3, l4, some (.int x), l6, l7, l8] (.int x :: st) h := xo_iload (k := 5) (by decide +kernel) rfl
set_option maxRecDepth 20000 in
theorem u_L_law_171 (L : xL) (a b : Int32) (st : List Value) (h : xH) : xf 178 171 L (.int b :: .int a :: st) h = if a = b then xf 178 176 L st h else xf 178 174 L st h := xo_icmp_eq (t := 176) (by decide +kernel) rfl
set_option maxRecDepth 20000 in
theorem u_L_law_174 (L : xL) (st : List Value) (h : xH) : xf 178 174 L st h = xf 178 175 L (.int 0 :: st) h := xo_iconst (k := 0) (by decide +kernel) (by decide)
set_option maxRecDepth 20000 in
theorem u_L_law_175 (L : xL) (x : Int32) (h : xH) (hv : x = 0 ∨ x = 1) : xf 178 175 L [.int x] h = some (.inl (some (.int x)), h) := xo_ireturn (n := 176) (by decide +kernel) (by rcases hv with rfl | rfl <;> rfl)
set_option maxRecDepth 20000 in
theorem u_L_law_176 (l0 l1 l2 l3 l4 l6 l7 l8 : Option Value) (x : Int32) (st : List Value) (h : xH) : xf 178 176 [l0, l1, l2, l3, l4, some (.int x), l6, l7, l8] st h = xf 178 178 [l0, l1, l2, l3, l4, some (.int x), l6, l7, l8] (.int x :: st) h := xo_iload (k := 5) (by decide +kernel) rfl
set_option maxRecDepth 20000 in
theorem u_L_law_178 (L : xL) (a : Int32) (st : List Value) (h : xH) : xf 178 178 L (.int a :: st) h = if a = 0 then xf 178 181 L st h else xf 178 193 L st h := xo_if_ne (t := 193) (by decide +kernel) rfl
set_option maxRecDepth 20000 in
theorem u_L_law_181 (l0 l1 l2 l4 l5 l6 l7 l8 : Option Value) (x : Nat) (st : List Value) (h : xH) : xf 178 181 [l0, l1, l2, some (.ref x), l4, l5, l6, l7, l8] st h = xf 178 182 [l0, l1, l2, some (.ref x), l4, l5, l6, l7, l8] (.ref x :: st) h := xo_aload (k := 3) (by decide +kernel) rfl
set_option maxRecDepth 20000 in
theorem u_L_law_182 (L : xL) (st : List Value) (h : xH) : xf 178 182 L st h = xf 178 183 L (.int 0 :: st) h := xo_iconst (k := 0) (by decide +kernel) (by decide)
set_option maxRecDepth 20000 in
theorem u_L_law_183 (L : xL) (i : Int32) (a : Nat) (st : List Value) (h : xH) (hx : xix i (xal h a).1) : xf 178 183 L (.int i :: .ref a :: st) h = xf 178 184 L (.long ((xal h a).2 i.toNatClampNeg) :: st) h := xo_laload (by decide +kernel) hx
set_option maxRecDepth 20000 in
theorem u_L_law_184 (l0 l1 l2 l3 l4 l5 l7 l8 : Option Value) (x : Int32) (st : List Value) (h : xH) : xf 178 184 [l0, l1, l2, l3, l4, l5, some (.int x), l7, l8] st h = xf 178 186 [l0, l1, l2, l3, l4, l5, some (.int x), l7, l8] (.int x :: st) h := xo_iload (k := 6) (by decide +kernel) rfl
set_option maxRecDepth 20000 in
theorem u_L_law_186 (L : xL) (a : Int32) (st : List Value) (h : xH) : xf 178 186 L (.int a :: st) h = xf 178 187 L (.long a.toInt64 :: st) h := xo_i2l (by decide +kernel)
set_option maxRecDepth 20000 in
theorem u_L_law_187 (L : xL) (a b : Int64) (st : List Value) (h : xH) : xf 178 187 L (.long b :: .long a :: st) h = xf 178 188 L (.int (lg_cmp a b) :: st) h := xo_lcmp (by decide +kernel)
set_option maxRecDepth 20000 in
theorem u_L_law_188 (L : xL) (a : Int32) (st : List Value) (h : xH) : xf 178 188 L (.int a :: st) h = if a = 0 then xf 178 193 L st h else xf 178 191 L st h := xo_if_eq (t := 193) (by decide +kernel) rfl
set_option maxRecDepth 20000 in
theorem u_L_law_191 (L : xL) (st : List Value) (h : xH) : xf 178 191 L st h = xf 178 192 L (.int 0 :: st) h := xo_iconst (k := 0) (by decide +kernel) (by decide)
set_option maxRecDepth 20000 in
theorem u_L_law_192 (L : xL) (x : Int32) (h : xH) (hv : x = 0 ∨ x = 1) : xf 178 192 L [.int x] h = some (.inl (some (.int x)), h) := xo_ireturn (n := 193) (by decide +kernel) (by rcases hv with rfl | rfl <;> rfl)
set_option maxRecDepth 20000 in
theorem u_L_law_193 (L : xL) (st : List Value) (h : xH) : xf 178 193 L st h = xf 178 1237 L st h := xo_goto (n := 196) (t := 1237) (by decide +kernel) rfl
set_option maxRecDepth 20000 in
theorem u_L_law_196 (l0 l2 l3 l4 l5 l6 l7 l8 : Option Value) (x : Nat) (st : List Value) (h : xH) : xf 178 196 [l0, some (.ref x), l2, l3, l4, l5, l6, l7, l8] st h = xf 178 197 [l0, some (.ref x), l2, l3, l4, l5, l6, l7, l8] (.ref x :: st) h := xo_aload (k := 1) (by decide +kernel) rfl
set_option maxRecDepth 20000 in
theorem u_L_law_197 (l1 l2 l3 l4 l5 l6 l7 l8 : Option Value) (x : Nat) (st : List Value) (h : xH) : xf 178 197 [some (.ref x), l1, l2, l3, l4, l5, l6, l7, l8] st h = xf 178 198 [some (.ref x), l1, l2, l3, l4, l5, l6, l7, l8] (.ref x :: st) h := xo_aload (k := 0) (by decide +kernel) rfl
set_option maxRecDepth 20000 in
theorem u_L_law_198 (l0 l1 l2 l3 l5 l6 l7 l8 : Option Value) (x : Int32) (st : List Value) (h : xH) : xf 178 198 [l0, l1, l2, l3, some (.int x), l5, l6, l7, l8] st h = xf 178 200 [l0, l1, l2, l3, some (.int x), l5, l6, l7, l8] (.int x :: st) h := xo_iload (k := 4) (by decide +kernel) rfl
set_option maxRecDepth 20000 in
theorem u_L_law_200 (L : xL) (st : List Value) (h : xH) : xf 178 200 L st h = xf 178 201 L (.int 1 :: st) h := xo_iconst (k := 1) (by decide +kernel) (by decide)
set_option maxRecDepth 20000 in
theorem u_L_law_201 (L : xL) (a b : Int32) (st : List Value) (h : xH) : xf 178 201 L (.int b :: .int a :: st) h = xf 178 202 L (.int (a + b) :: st) h := xo_iadd (by decide +kernel)
set_option maxRecDepth 20000 in
theorem u_L_law_202 (L : xL) (i : Int32) (a : Nat) (st : List Value) (h : xH) (hx : xix i (xa3 h a).1) : xf 178 202 L (.int i :: .ref a :: st) h = xf 178 203 L (.int ((xa3 h a).2 i.toNatClampNeg) :: st) h := xo_iaload3 (by decide +kernel) hx
set_option maxRecDepth 20000 in
theorem u_L_law_203 (l0 l1 l2 l4 l5 l6 l7 l8 : Option Value) (x : Nat) (st : List Value) (h : xH) : xf 178 203 [l0, l1, l2, some (.ref x), l4, l5, l6, l7, l8] st h = xf 178 204 [l0, l1, l2, some (.ref x), l4, l5, l6, l7, l8] (.ref x :: st) h := xo_aload (k := 3) (by decide +kernel) rfl
set_option maxRecDepth 20000 in
theorem u_L_law_204 (L : xL) (v0 : Nat) (v1 : Int32) (v2 : Nat) (st : List Value) (h : xH) (hl : st.length ≤ 4) : xf 178 204 L (.ref v2 :: .int v1 :: .ref v0 :: st) h = xgo 178 204 207 L st (xev 162 [.ref v0, .int v1, .ref v2] h) := xo_callS (as := [.ref v0, .int v1, .ref v2]) (by decide +kernel) rfl ⟨(by decide +kernel : xna 162 = 3), Nat.le_of_ble_eq_true rfl, by decide⟩ hl
set_option maxRecDepth 20000 in
theorem u_L_law_207 (l0 l1 l2 l3 l4 l5 l6 l7 l8 : Option Value) (x : Int32) (st : List Value) (h : xH) : xf 178 207 [l0, l1, l2, l3, l4, l5, l6, l7, l8] (.int x :: st) h = xf 178 209 [l0, l1, l2, l3, xcat l4, some (.int x), l6, l7, l8] st h := xo_istore (k := 5) (by decide +kernel) (Nat.le_of_ble_eq_true rfl) rfl
set_option maxRecDepth 20000 in
theorem u_L_law_209 (l0 l1 l3 l4 l5 l6 l7 l8 : Option Value) (x : Nat) (st : List Value) (h : xH) : xf 178 209 [l0, l1, some (.ref x), l3, l4, l5, l6, l7, l8] st h = xf 178 210 [l0, l1, some (.ref x), l3, l4, l5, l6, l7, l8] (.ref x :: st) h := xo_aload (k := 2) (by decide +kernel) rfl
set_option maxRecDepth 20000 in
theorem u_L_law_210 (l1 l2 l3 l4 l5 l6 l7 l8 : Option Value) (x : Nat) (st : List Value) (h : xH) : xf 178 210 [some (.ref x), l1, l2, l3, l4, l5, l6, l7, l8] st h = xf 178 211 [some (.ref x), l1, l2, l3, l4, l5, l6, l7, l8] (.ref x :: st) h := xo_aload (k := 0) (by decide +kernel) rfl
set_option maxRecDepth 20000 in
theorem u_L_law_211 (l0 l1 l2 l3 l5 l6 l7 l8 : Option Value) (x : Int32) (st : List Value) (h : xH) : xf 178 211 [l0, l1, l2, l3, some (.int x), l5, l6, l7, l8] st h = xf 178 213 [l0, l1, l2, l3, some (.int x), l5, l6, l7, l8] (.int x :: st) h := xo_iload (k := 4) (by decide +kernel) rfl
set_option maxRecDepth 20000 in
theorem u_L_law_213 (L : xL) (st : List Value) (h : xH) : xf 178 213 L st h = xf 178 214 L (.int 1 :: st) h := xo_iconst (k := 1) (by decide +kernel) (by decide)
set_option maxRecDepth 20000 in
theorem u_L_law_214 (L : xL) (a b : Int32) (st : List Value) (h : xH) : xf 178 214 L (.int b :: .int a :: st) h = xf 178 215 L (.int (a + b) :: st) h := xo_iadd (by decide +kernel)
set_option maxRecDepth 20000 in
theorem u_L_law_215 (L : xL) (i : Int32) (a : Nat) (st : List Value) (h : xH) (hx : xix i (xa3 h a).1) : xf 178 215 L (.int i :: .ref a :: st) h = xf 178 216 L (.int ((xa3 h a).2 i.toNatClampNeg) :: st) h := xo_iaload3 (by decide +kernel) hx
set_option maxRecDepth 20000 in
theorem u_L_law_216 (L : xL) (v0 : Int32) (b : Nat) (st : List Value) (h : xH) (hb : (xob h b).1 = 8) (hl : st.length ≤ 4) : xf 178 216 L (.int v0 :: .ref b :: st) h = xgo 178 216 219 L st (xev 118 [.ref b, .int v0] h) := xo_callV (as := [.int v0]) (by decide +kernel) rfl ⟨(by decide +kernel : xna 118 = 1), Nat.le_of_ble_eq_true rfl, rfl, by decide⟩ hb hl
set_option maxRecDepth 20000 in
theorem u_L_law_219 (l0 l1 l2 l3 l4 l5 l6 l7 l8 : Option Value) (x : Int32) (st : List Value) (h : xH) : xf 178 219 [l0, l1, l2, l3, l4, l5, l6, l7, l8] (.int x :: st) h = xf 178 221 [l0, l1, l2, l3, l4, xcat l5, some (.int x), l7, l8] st h := xo_istore (k := 6) (by decide +kernel) (Nat.le_of_ble_eq_true rfl) rfl
set_option maxRecDepth 20000 in
theorem u_L_law_221 (l0 l1 l3 l4 l5 l6 l7 l8 : Option Value) (x : Nat) (st : List Value) (h : xH) : xf 178 221 [l0, l1, some (.ref x), l3, l4, l5, l6, l7, l8] st h = xf 178 222 [l0, l1, some (.ref x), l3, l4, l5, l6, l7, l8] (.ref x :: st) h := xo_aload (k := 2) (by decide +kernel) rfl
set_option maxRecDepth 20000 in
theorem u_L_law_222 (L : xL) (b : Nat) (st : List Value) (h : xH) (hb : (xob h b).1 = 8) (hl : st.length ≤ 4) : xf 178 222 L (.ref b :: st) h = xgo 178 222 225 L st (xev 98 [.ref b] h) := xo_callV (as := []) (by decide +kernel) rfl ⟨(by decide +kernel : xna 98 = 0), Nat.le_of_ble_eq_true rfl, rfl, by decide⟩ hb hl
set_option maxRecDepth 20000 in
theorem u_L_law_225 (l0 l1 l2 l3 l4 l6 l7 l8 : Option Value) (x : Int32) (st : List Value) (h : xH) : xf 178 225 [l0, l1, l2, l3, l4, some (.int x), l6, l7, l8] st h = xf 178 227 [l0, l1, l2, l3, l4, some (.int x), l6, l7, l8] (.int x :: st) h := xo_iload (k := 5) (by decide +kernel) rfl
set_option maxRecDepth 20000 in
theorem u_L_law_227 (L : xL) (a b : Int32) (st : List Value) (h : xH) : xf 178 227 L (.int b :: .int a :: st) h = if a = b then xf 178 232 L st h else xf 178 230 L st h := xo_icmp_eq (t := 232) (by decide +kernel) rfl
set_option maxRecDepth 20000 in
theorem u_L_law_230 (L : xL) (st : List Value) (h : xH) : xf 178 230 L st h = xf 178 231 L (.int 0 :: st) h := xo_iconst (k := 0) (by decide +kernel) (by decide)
set_option maxRecDepth 20000 in
theorem u_L_law_231 (L : xL) (x : Int32) (h : xH) (hv : x = 0 ∨ x = 1) : xf 178 231 L [.int x] h = some (.inl (some (.int x)), h) := xo_ireturn (n := 232) (by decide +kernel) (by rcases hv with rfl | rfl <;> rfl)
set_option maxRecDepth 20000 in
theorem u_L_law_232 (l0 l1 l2 l3 l4 l6 l7 l8 : Option Value) (x : Int32) (st : List Value) (h : xH) : xf 178 232 [l0, l1, l2, l3, l4, some (.int x), l6, l7, l8] st h = xf 178 234 [l0, l1, l2, l3, l4, some (.int x), l6, l7, l8] (.int x :: st) h := xo_iload (k := 5) (by decide +kernel) rfl
set_option maxRecDepth 20000 in
theorem u_L_law_234 (L : xL) (a : Int32) (st : List Value) (h : xH) : xf 178 234 L (.int a :: st) h = if a = 0 then xf 178 237 L st h else xf 178 249 L st h := xo_if_ne (t := 249) (by decide +kernel) rfl
set_option maxRecDepth 20000 in
theorem u_L_law_237 (l0 l1 l2 l4 l5 l6 l7 l8 : Option Value) (x : Nat) (st : List Value) (h : xH) : xf 178 237 [l0, l1, l2, some (.ref x), l4, l5, l6, l7, l8] st h = xf 178 238 [l0, l1, l2, some (.ref x), l4, l5, l6, l7, l8] (.ref x :: st) h := xo_aload (k := 3) (by decide +kernel) rfl
set_option maxRecDepth 20000 in
theorem u_L_law_238 (L : xL) (st : List Value) (h : xH) : xf 178 238 L st h = xf 178 239 L (.int 0 :: st) h := xo_iconst (k := 0) (by decide +kernel) (by decide)
set_option maxRecDepth 20000 in
theorem u_L_law_239 (L : xL) (i : Int32) (a : Nat) (st : List Value) (h : xH) (hx : xix i (xal h a).1) : xf 178 239 L (.int i :: .ref a :: st) h = xf 178 240 L (.long ((xal h a).2 i.toNatClampNeg) :: st) h := xo_laload (by decide +kernel) hx
set_option maxRecDepth 20000 in
theorem u_L_law_240 (l0 l1 l2 l3 l4 l5 l7 l8 : Option Value) (x : Int32) (st : List Value) (h : xH) : xf 178 240 [l0, l1, l2, l3, l4, l5, some (.int x), l7, l8] st h = xf 178 242 [l0, l1, l2, l3, l4, l5, some (.int x), l7, l8] (.int x :: st) h := xo_iload (k := 6) (by decide +kernel) rfl
set_option maxRecDepth 20000 in
theorem u_L_law_242 (L : xL) (a : Int32) (st : List Value) (h : xH) : xf 178 242 L (.int a :: st) h = xf 178 243 L (.long a.toInt64 :: st) h := xo_i2l (by decide +kernel)
set_option maxRecDepth 20000 in
theorem u_L_law_243 (L : xL) (a b : Int64) (st : List Value) (h : xH) : xf 178 243 L (.long b :: .long a :: st) h = xf 178 244 L (.int (lg_cmp a b) :: st) h := xo_lcmp (by decide +kernel)
set_option maxRecDepth 20000 in
theorem u_L_law_244 (L : xL) (a : Int32) (st : List Value) (h : xH) : xf 178 244 L (.int a :: st) h = if a = 0 then xf 178 249 L st h else xf 178 247 L st h := xo_if_eq (t := 249) (by decide +kernel) rfl
set_option maxRecDepth 20000 in
theorem u_L_law_247 (L : xL) (st : List Value) (h : xH) : xf 178 247 L st h = xf 178 248 L (.int 0 :: st) h := xo_iconst (k := 0) (by decide +kernel) (by decide)
set_option maxRecDepth 20000 in
theorem u_L_law_248 (L : xL) (x : Int32) (h : xH) (hv : x = 0 ∨ x = 1) : xf 178 248 L [.int x] h = some (.inl (some (.int x)), h) := xo_ireturn (n := 249) (by decide +kernel) (by rcases hv with rfl | rfl <;> rfl)
set_option maxRecDepth 20000 in
theorem u_L_law_249 (L : xL) (st : List Value) (h : xH) : xf 178 249 L st h = xf 178 1237 L st h := xo_goto (n := 252) (t := 1237) (by decide +kernel) rfl
set_option maxRecDepth 20000 in
theorem u_L_law_252 (l0 l2 l3 l4 l5 l6 l7 l8 : Option Value) (x : Nat) (st : List Value) (h : xH) : xf 178 252 [l0, some (.ref x), l2, l3, l4, l5, l6, l7, l8] st h = xf 178 253 [l0, some (.ref x), l2, l3, l4, l5, l6, l7, l8] (.ref x :: st) h := xo_aload (k := 1) (by decide +kernel) rfl
set_option maxRecDepth 20000 in
theorem u_L_law_253 (l1 l2 l3 l4 l5 l6 l7 l8 : Option Value) (x : Nat) (st : List Value) (h : xH) : xf 178 253 [some (.ref x), l1, l2, l3, l4, l5, l6, l7, l8] st h = xf 178 254 [some (.ref x), l1, l2, l3, l4, l5, l6, l7, l8] (.ref x :: st) h := xo_aload (k := 0) (by decide +kernel) rfl
set_option maxRecDepth 20000 in
theorem u_L_law_254 (l0 l1 l2 l3 l5 l6 l7 l8 : Option Value) (x : Int32) (st : List Value) (h : xH) : xf 178 254 [l0, l1, l2, l3, some (.int x), l5, l6, l7, l8] st h = xf 178 256 [l0, l1, l2, l3, some (.int x), l5, l6, l7, l8] (.int x :: st) h := xo_iload (k := 4) (by decide +kernel) rfl
set_option maxRecDepth 20000 in
theorem u_L_law_256 (L : xL) (st : List Value) (h : xH) : xf 178 256 L st h = xf 178 257 L (.int 1 :: st) h := xo_iconst (k := 1) (by decide +kernel) (by decide)
set_option maxRecDepth 20000 in
theorem u_L_law_257 (L : xL) (a b : Int32) (st : List Value) (h : xH) : xf 178 257 L (.int b :: .int a :: st) h = xf 178 258 L (.int (a + b) :: st) h := xo_iadd (by decide +kernel)
set_option maxRecDepth 20000 in
theorem u_L_law_258 (L : xL) (i : Int32) (a : Nat) (st : List Value) (h : xH) (hx : xix i (xa3 h a).1) : xf 178 258 L (.int i :: .ref a :: st) h = xf 178 259 L (.int ((xa3 h a).2 i.toNatClampNeg) :: st) h := xo_iaload3 (by decide +kernel) hx
set_option maxRecDepth 20000 in
theorem u_L_law_259 (l0 l1 l2 l4 l5 l6 l7 l8 : Option Value) (x : Nat) (st : List Value) (h : xH) : xf 178 259 [l0, l1, l2, some (.ref x), l4, l5, l6, l7, l8] st h = xf 178 260 [l0, l1, l2, some (.ref x), l4, l5, l6, l7, l8] (.ref x :: st) h := xo_aload (k := 3) (by decide +kernel) rfl
set_option maxRecDepth 20000 in
theorem u_L_law_260 (L : xL) (v0 : Nat) (v1 : Int32) (v2 : Nat) (st : List Value) (h : xH) (hl : st.length ≤ 4) : xf 178 260 L (.ref v2 :: .int v1 :: .ref v0 :: st) h = xgo 178 260 263 L st (xev 163 [.ref v0, .int v1, .ref v2] h) := xo_callS (as := [.ref v0, .int v1, .ref v2]) (by decide +kernel) rfl ⟨(by decide +kernel : xna 163 = 3), Nat.le_of_ble_eq_true rfl, by decide⟩ hl
set_option maxRecDepth 20000 in
theorem u_L_law_263 (l0 l1 l2 l3 l4 l5 l6 l7 l8 : Option Value) (x : Int32) (st : List Value) (h : xH) : xf 178 263 [l0, l1, l2, l3, l4, l5, l6, l7, l8] (.int x :: st) h = xf 178 265 [l0, l1, l2, l3, xcat l4, some (.int x), l6, l7, l8] st h := xo_istore (k := 5) (by decide +kernel) (Nat.le_of_ble_eq_true rfl) rfl
set_option maxRecDepth 20000 in
theorem u_L_law_265 (l0 l1 l3 l4 l5 l6 l7 l8 : Option Value) (x : Nat) (st : List Value) (h : xH) : xf 178 265 [l0, l1, some (.ref x), l3, l4, l5, l6, l7, l8] st h = xf 178 266 [l0, l1, some (.ref x), l3, l4, l5, l6, l7, l8] (.ref x :: st) h := xo_aload (k := 2) (by decide +kernel) rfl
set_option maxRecDepth 20000 in
theorem u_L_law_266 (l1 l2 l3 l4 l5 l6 l7 l8 : Option Value) (x : Nat) (st : List Value) (h : xH) : xf 178 266 [some (.ref x), l1, l2, l3, l4, l5, l6, l7, l8] st h = xf 178 267 [some (.ref x), l1, l2, l3, l4, l5, l6, l7, l8] (.ref x :: st) h := xo_aload (k := 0) (by decide +kernel) rfl
set_option maxRecDepth 20000 in
theorem u_L_law_267 (l0 l1 l2 l3 l5 l6 l7 l8 : Option Value) (x : Int32) (st : List Value) (h : xH) : xf 178 267 [l0, l1, l2, l3, some (.int x), l5, l6, l7, l8] st h = xf 178 269 [l0, l1, l2, l3, some (.int x), l5, l6, l7, l8] (.int x :: st) h := xo_iload (k := 4) (by decide +kernel) rfl
set_option maxRecDepth 20000 in
theorem u_L_law_269 (L : xL) (st : List Value) (h : xH) : xf 178 269 L st h = xf 178 270 L (.int 1 :: st) h := xo_iconst (k := 1) (by decide +kernel) (by decide)
set_option maxRecDepth 20000 in
theorem u_L_law_270 (L : xL) (a b : Int32) (st : List Value) (h : xH) : xf 178 270 L (.int b :: .int a :: st) h = xf 178 271 L (.int (a + b) :: st) h := xo_iadd (by decide +kernel)
set_option maxRecDepth 20000 in
theorem u_L_law_271 (L : xL) (i : Int32) (a : Nat) (st : List Value) (h : xH) (hx : xix i (xa3 h a).1) : xf 178 271 L (.int i :: .ref a :: st) h = xf 178 272 L (.int ((xa3 h a).2 i.toNatClampNeg) :: st) h := xo_iaload3 (by decide +kernel) hx
set_option maxRecDepth 20000 in
theorem u_L_law_272 (L : xL) (v0 : Int32) (b : Nat) (st : List Value) (h : xH) (hb : (xob h b).1 = 8) (hl : st.length ≤ 4) : xf 178 272 L (.int v0 :: .ref b :: st) h = xgo 178 272 275 L st (xev 120 [.ref b, .int v0] h) := xo_callV (as := [.int v0]) (by decide +kernel) rfl ⟨(by decide +kernel : xna 120 = 1), Nat.le_of_ble_eq_true rfl, rfl, by decide⟩ hb hl
set_option maxRecDepth 20000 in
theorem u_L_law_275 (l0 l1 l2 l3 l4 l5 l6 l7 l8 : Option Value) (x : Int32) (st : List Value) (h : xH) : xf 178 275 [l0, l1, l2, l3, l4, l5, l6, l7, l8] (.int x :: st) h = xf 178 277 [l0, l1, l2, l3, l4, xcat l5, some (.int x), l7, l8] st h := xo_istore (k := 6) (by decide +kernel) (Nat.le_of_ble_eq_true rfl) rfl
set_option maxRecDepth 20000 in
theorem u_L_law_277 (l0 l1 l3 l4 l5 l6 l7 l8 : Option Value) (x : Nat) (st : List Value) (h : xH) : xf 178 277 [l0, l1, some (.ref x), l3, l4, l5, l6, l7, l8] st h = xf 178 278 [l0, l1, some (.ref x), l3, l4, l5, l6, l7, l8] (.ref x :: st) h := xo_aload (k := 2) (by decide +kernel) rfl
set_option maxRecDepth 20000 in
theorem u_L_law_278 (L : xL) (b : Nat) (st : List Value) (h : xH) (hb : (xob h b).1 = 8) (hl : st.length ≤ 4) : xf 178 278 L (.ref b :: st) h = xgo 178 278 281 L st (xev 98 [.ref b] h) := xo_callV (as := []) (by decide +kernel) rfl ⟨(by decide +kernel : xna 98 = 0), Nat.le_of_ble_eq_true rfl, rfl, by decide⟩ hb hl
set_option maxRecDepth 20000 in
theorem u_L_law_281 (l0 l1 l2 l3 l4 l6 l7 l8 : Option Value) (x : Int32) (st : List Value) (h : xH) : xf 178 281 [l0, l1, l2, l3, l4, some (.int x), l6, l7, l8] st h = xf 178 283 [l0, l1, l2, l3, l4, some (.int x), l6, l7, l8] (.int x :: st) h := xo_iload (k := 5) (by decide +kernel) rfl
set_option maxRecDepth 20000 in
theorem u_L_law_283 (L : xL) (a b : Int32) (st : List Value) (h : xH) : xf 178 283 L (.int b :: .int a :: st) h = if a = b then xf 178 288 L st h else xf 178 286 L st h := xo_icmp_eq (t := 288) (by decide +kernel) rfl
set_option maxRecDepth 20000 in
theorem u_L_law_286 (L : xL) (st : List Value) (h : xH) : xf 178 286 L st h = xf 178 287 L (.int 0 :: st) h := xo_iconst (k := 0) (by decide +kernel) (by decide)
set_option maxRecDepth 20000 in
theorem u_L_law_287 (L : xL) (x : Int32) (h : xH) (hv : x = 0 ∨ x = 1) : xf 178 287 L [.int x] h = some (.inl (some (.int x)), h) := xo_ireturn (n := 288) (by decide +kernel) (by rcases hv with rfl | rfl <;> rfl)
set_option maxRecDepth 20000 in
theorem u_L_law_288 (l0 l1 l2 l3 l4 l6 l7 l8 : Option Value) (x : Int32) (st : List Value) (h : xH) : xf 178 288 [l0, l1, l2, l3, l4, some (.int x), l6, l7, l8] st h = xf 178 290 [l0, l1, l2, l3, l4, some (.int x), l6, l7, l8] (.int x :: st) h := xo_iload (k := 5) (by decide +kernel) rfl
set_option maxRecDepth 20000 in
theorem u_L_law_290 (L : xL) (a : Int32) (st : List Value) (h : xH) : xf 178 290 L (.int a :: st) h = if a = 0 then xf 178 293 L st h else xf 178 305 L st h := xo_if_ne (t := 305) (by decide +kernel) rfl
set_option maxRecDepth 20000 in
theorem u_L_law_293 (l0 l1 l2 l4 l5 l6 l7 l8 : Option Value) (x : Nat) (st : List Value) (h : xH) : xf 178 293 [l0, l1, l2, some (.ref x), l4, l5, l6, l7, l8] st h = xf 178 294 [l0, l1, l2, some (.ref x), l4, l5, l6, l7, l8] (.ref x :: st) h := xo_aload (k := 3) (by decide +kernel) rfl
set_option maxRecDepth 20000 in
theorem u_L_law_294 (L : xL) (st : List Value) (h : xH) : xf 178 294 L st h = xf 178 295 L (.int 0 :: st) h := xo_iconst (k := 0) (by decide +kernel) (by decide)
set_option maxRecDepth 20000 in
theorem u_L_law_295 (L : xL) (i : Int32) (a : Nat) (st : List Value) (h : xH) (hx : xix i (xal h a).1) : xf 178 295 L (.int i :: .ref a :: st) h = xf 178 296 L (.long ((xal h a).2 i.toNatClampNeg) :: st) h := xo_laload (by decide +kernel) hx
set_option maxRecDepth 20000 in
theorem u_L_law_296 (l0 l1 l2 l3 l4 l5 l7 l8 : Option Value) (x : Int32) (st : List Value) (h : xH) : xf 178 296 [l0, l1, l2, l3, l4, l5, some (.int x), l7, l8] st h = xf 178 298 [l0, l1, l2, l3, l4, l5, some (.int x), l7, l8] (.int x :: st) h := xo_iload (k := 6) (by decide +kernel) rfl
set_option maxRecDepth 20000 in
theorem u_L_law_298 (L : xL) (a : Int32) (st : List Value) (h : xH) : xf 178 298 L (.int a :: st) h = xf 178 299 L (.long a.toInt64 :: st) h := xo_i2l (by decide +kernel)
set_option maxRecDepth 20000 in
theorem u_L_law_299 (L : xL) (a b : Int64) (st : List Value) (h : xH) : xf 178 299 L (.long b :: .long a :: st) h = xf 178 300 L (.int (lg_cmp a b) :: st) h := xo_lcmp (by decide +kernel)
set_option maxRecDepth 20000 in
theorem u_L_law_300 (L : xL) (a : Int32) (st : List Value) (h : xH) : xf 178 300 L (.int a :: st) h = if a = 0 then xf 178 305 L st h else xf 178 303 L st h := xo_if_eq (t := 305) (by decide +kernel) rfl
set_option maxRecDepth 20000 in
theorem u_L_law_303 (L : xL) (st : List Value) (h : xH) : xf 178 303 L st h = xf 178 304 L (.int 0 :: st) h := xo_iconst (k := 0) (by decide +kernel) (by decide)
set_option maxRecDepth 20000 in
theorem u_L_law_304 (L : xL) (x : Int32) (h : xH) (hv : x = 0 ∨ x = 1) : xf 178 304 L [.int x] h = some (.inl (some (.int x)), h) := xo_ireturn (n := 305) (by decide +kernel) (by rcases hv with rfl | rfl <;> rfl)
set_option maxRecDepth 20000 in
theorem u_L_law_305 (L : xL) (st : List Value) (h : xH) : xf 178 305 L st h = xf 178 1237 L st h := xo_goto (n := 308) (t := 1237) (by decide +kernel) rfl
set_option maxRecDepth 20000 in
theorem u_L_law_308 (l0 l2 l3 l4 l5 l6 l7 l8 : Option Value) (x : Nat) (st : List Value) (h : xH) : xf 178 308 [l0, some (.ref x), l2, l3, l4, l5, l6, l7, l8] st h = xf 178 309 [l0, some (.ref x), l2, l3, l4, l5, l6, l7, l8] (.ref x :: st) h := xo_aload (k := 1) (by decide +kernel) rfl
set_option maxRecDepth 20000 in
theorem u_L_law_309 (l1 l2 l3 l4 l5 l6 l7 l8 : Option Value) (x : Nat) (st : List Value) (h : xH) : xf 178 309 [some (.ref x), l1, l2, l3, l4, l5, l6, l7, l8] st h = xf 178 310 [some (.ref x), l1, l2, l3, l4, l5, l6, l7, l8] (.ref x :: st) h := xo_aload (k := 0) (by decide +kernel) rfl
set_option maxRecDepth 20000 in
theorem u_L_law_310 (l0 l1 l2 l3 l5 l6 l7 l8 : Option Value) (x : Int32) (st : List Value) (h : xH) : xf 178 310 [l0, l1, l2, l3, some (.int x), l5, l6, l7, l8] st h = xf 178 312 [l0, l1, l2, l3, some (.int x), l5, l6, l7, l8] (.int x :: st) h := xo_iload (k := 4) (by decide +kernel) rfl
set_option maxRecDepth 20000 in
theorem u_L_law_312 (L : xL) (st : List Value) (h : xH) : xf 178 312 L st h = xf 178 313 L (.int 1 :: st) h := xo_iconst (k := 1) (by decide +kernel) (by decide)
set_option maxRecDepth 20000 in
theorem u_L_law_313 (L : xL) (a b : Int32) (st : List Value) (h : xH) : xf 178 313 L (.int b :: .int a :: st) h = xf 178 314 L (.int (a + b) :: st) h := xo_iadd (by decide +kernel)
set_option maxRecDepth 20000 in
theorem u_L_law_314 (L : xL) (i : Int32) (a : Nat) (st : List Value) (h : xH) (hx : xix i (xa3 h a).1) : xf 178 314 L (.int i :: .ref a :: st) h = xf 178 315 L (.int ((xa3 h a).2 i.toNatClampNeg) :: st) h := xo_iaload3 (by decide +kernel) hx
set_option maxRecDepth 20000 in
theorem u_L_law_315 (l0 l1 l2 l4 l5 l6 l7 l8 : Option Value) (x : Nat) (st : List Value) (h : xH) : xf 178 315 [l0, l1, l2, some (.ref x), l4, l5, l6, l7, l8] st h = xf 178 316 [l0, l1, l2, some (.ref x), l4, l5, l6, l7, l8] (.ref x :: st) h := xo_aload (k := 3) (by decide +kernel) rfl
set_option maxRecDepth 20000 in
theorem u_L_law_316 (L : xL) (v0 : Nat) (v1 : Int32) (v2 : Nat) (st : List Value) (h : xH) (hl : st.length ≤ 4) : xf 178 316 L (.ref v2 :: .int v1 :: .ref v0 :: st) h = xgo 178 316 319 L st (xev 164 [.ref v0, .int v1, .ref v2] h) := xo_callS (as := [.ref v0, .int v1, .ref v2]) (by decide +kernel) rfl ⟨(by decide +kernel : xna 164 = 3), Nat.le_of_ble_eq_true rfl, by decide⟩ hl
set_option maxRecDepth 20000 in
theorem u_L_law_319 (l0 l1 l2 l3 l4 l5 l6 l7 l8 : Option Value) (x : Int32) (st : List Value) (h : xH) : xf 178 319 [l0, l1, l2, l3, l4, l5, l6, l7, l8] (.int x :: st) h = xf 178 321 [l0, l1, l2, l3, xcat l4, some (.int x), l6, l7, l8] st h := xo_istore (k := 5) (by decide +kernel) (Nat.le_of_ble_eq_true rfl) rfl
set_option maxRecDepth 20000 in
theorem u_L_law_321 (l0 l1 l3 l4 l5 l6 l7 l8 : Option Value) (x : Nat) (st : List Value) (h : xH) : xf 178 321 [l0, l1, some (.ref x), l3, l4, l5, l6, l7, l8] st h = xf 178 322 [l0, l1, some (.ref x), l3, l4, l5, l6, l7, l8] (.ref x :: st) h := xo_aload (k := 2) (by decide +kernel) rfl
set_option maxRecDepth 20000 in
theorem u_L_law_322 (l1 l2 l3 l4 l5 l6 l7 l8 : Option Value) (x : Nat) (st : List Value) (h : xH) : xf 178 322 [some (.ref x), l1, l2, l3, l4, l5, l6, l7, l8] st h = xf 178 323 [some (.ref x), l1, l2, l3, l4, l5, l6, l7, l8] (.ref x :: st) h := xo_aload (k := 0) (by decide +kernel) rfl
set_option maxRecDepth 20000 in
theorem u_L_law_323 (l0 l1 l2 l3 l5 l6 l7 l8 : Option Value) (x : Int32) (st : List Value) (h : xH) : xf 178 323 [l0, l1, l2, l3, some (.int x), l5, l6, l7, l8] st h = xf 178 325 [l0, l1, l2, l3, some (.int x), l5, l6, l7, l8] (.int x :: st) h := xo_iload (k := 4) (by decide +kernel) rfl
set_option maxRecDepth 20000 in
theorem u_L_law_325 (L : xL) (st : List Value) (h : xH) : xf 178 325 L st h = xf 178 326 L (.int 1 :: st) h := xo_iconst (k := 1) (by decide +kernel) (by decide)
set_option maxRecDepth 20000 in
theorem u_L_law_326 (L : xL) (a b : Int32) (st : List Value) (h : xH) : xf 178 326 L (.int b :: .int a :: st) h = xf 178 327 L (.int (a + b) :: st) h := xo_iadd (by decide +kernel)
set_option maxRecDepth 20000 in
theorem u_L_law_327 (L : xL) (i : Int32) (a : Nat) (st : List Value) (h : xH) (hx : xix i (xa3 h a).1) : xf 178 327 L (.int i :: .ref a :: st) h = xf 178 328 L (.int ((xa3 h a).2 i.toNatClampNeg) :: st) h := xo_iaload3 (by decide +kernel) hx
set_option maxRecDepth 20000 in
theorem u_L_law_328 (L : xL) (v0 : Int32) (b : Nat) (st : List Value) (h : xH) (hb : (xob h b).1 = 8) (hl : st.length ≤ 4) : xf 178 328 L (.int v0 :: .ref b :: st) h = xgo 178 328 331 L st (xev 122 [.ref b, .int v0] h) := xo_callV (as := [.int v0]) (by decide +kernel) rfl ⟨(by decide +kernel : xna 122 = 1), Nat.le_of_ble_eq_true rfl, rfl, by decide⟩ hb hl
set_option maxRecDepth 20000 in
theorem u_L_law_331 (l0 l1 l2 l3 l4 l5 l6 l7 l8 : Option Value) (x : Int32) (st : List Value) (h : xH) : xf 178 331 [l0, l1, l2, l3, l4, l5, l6, l7, l8] (.int x :: st) h = xf 178 333 [l0, l1, l2, l3, l4, xcat l5, some (.int x), l7, l8] st h := xo_istore (k := 6) (by decide +kernel) (Nat.le_of_ble_eq_true rfl) rfl
set_option maxRecDepth 20000 in
theorem u_L_law_333 (l0 l1 l3 l4 l5 l6 l7 l8 : Option Value) (x : Nat) (st : List Value) (h : xH) : xf 178 333 [l0, l1, some (.ref x), l3, l4, l5, l6, l7, l8] st h = xf 178 334 [l0, l1, some (.ref x), l3, l4, l5, l6, l7, l8] (.ref x :: st) h := xo_aload (k := 2) (by decide +kernel) rfl
set_option maxRecDepth 20000 in
theorem u_L_law_334 (L : xL) (b : Nat) (st : List Value) (h : xH) (hb : (xob h b).1 = 8) (hl : st.length ≤ 4) : xf 178 334 L (.ref b :: st) h = xgo 178 334 337 L st (xev 98 [.ref b] h) := xo_callV (as := []) (by decide +kernel) rfl ⟨(by decide +kernel : xna 98 = 0), Nat.le_of_ble_eq_true rfl, rfl, by decide⟩ hb hl
set_option maxRecDepth 20000 in
theorem u_L_law_337 (l0 l1 l2 l3 l4 l6 l7 l8 : Option Value) (x : Int32) (st : List Value) (h : xH) : xf 178 337 [l0, l1, l2, l3, l4, some (.int x), l6, l7, l8] st h = xf 178 339 [l0, l1, l2, l3, l4, some (.int x), l6, l7, l8] (.int x :: st) h := xo_iload (k := 5) (by decide +kernel) rfl
set_option maxRecDepth 20000 in
theorem u_L_law_339 (L : xL) (a b : Int32) (st : List Value) (h : xH) : xf 178 339 L (.int b :: .int a :: st) h = if a = b then xf 178 344 L st h else xf 178 342 L st h := xo_icmp_eq (t := 344) (by decide +kernel) rfl
set_option maxRecDepth 20000 in
theorem u_L_law_342 (L : xL) (st : List Value) (h : xH) : xf 178 342 L st h = xf 178 343 L (.int 0 :: st) h := xo_iconst (k := 0) (by decide +kernel) (by decide)
set_option maxRecDepth 20000 in
theorem u_L_law_343 (L : xL) (x : Int32) (h : xH) (hv : x = 0 ∨ x = 1) : xf 178 343 L [.int x] h = some (.inl (some (.int x)), h) := xo_ireturn (n := 344) (by decide +kernel) (by rcases hv with rfl | rfl <;> rfl)
set_option maxRecDepth 20000 in
theorem u_L_law_344 (l0 l1 l2 l3 l4 l6 l7 l8 : Option Value) (x : Int32) (st : List Value) (h : xH) : xf 178 344 [l0, l1, l2, l3, l4, some (.int x), l6, l7, l8] st h = xf 178 346 [l0, l1, l2, l3, l4, some (.int x), l6, l7, l8] (.int x :: st) h := xo_iload (k := 5) (by decide +kernel) rfl
set_option maxRecDepth 20000 in
theorem u_L_law_346 (L : xL) (a : Int32) (st : List Value) (h : xH) : xf 178 346 L (.int a :: st) h = if a = 0 then xf 178 349 L st h else xf 178 361 L st h := xo_if_ne (t := 361) (by decide +kernel) rfl
set_option maxRecDepth 20000 in
theorem u_L_law_349 (l0 l1 l2 l4 l5 l6 l7 l8 : Option Value) (x : Nat) (st : List Value) (h : xH) : xf 178 349 [l0, l1, l2, some (.ref x), l4, l5, l6, l7, l8] st h = xf 178 350 [l0, l1, l2, some (.ref x), l4, l5, l6, l7, l8] (.ref x :: st) h := xo_aload (k := 3) (by decide +kernel) rfl
set_option maxRecDepth 20000 in
theorem u_L_law_350 (L : xL) (st : List Value) (h : xH) : xf 178 350 L st h = xf 178 351 L (.int 0 :: st) h := xo_iconst (k := 0) (by decide +kernel) (by decide)
set_option maxRecDepth 20000 in
theorem u_L_law_351 (L : xL) (i : Int32) (a : Nat) (st : List Value) (h : xH) (hx : xix i (xal h a).1) : xf 178 351 L (.int i :: .ref a :: st) h = xf 178 352 L (.long ((xal h a).2 i.toNatClampNeg) :: st) h := xo_laload (by decide +kernel) hx
set_option maxRecDepth 20000 in
theorem u_L_law_352 (l0 l1 l2 l3 l4 l5 l7 l8 : Option Value) (x : Int32) (st : List Value) (h : xH) : xf 178 352 [l0, l1, l2, l3, l4, l5, some (.int x), l7, l8] st h = xf 178 354 [l0, l1, l2, l3, l4, l5, some (.int x), l7, l8] (.int x :: st) h := xo_iload (k := 6) (by decide +kernel) rfl
set_option maxRecDepth 20000 in
theorem u_L_law_354 (L : xL) (a : Int32) (st : List Value) (h : xH) : xf 178 354 L (.int a :: st) h = xf 178 355 L (.long a.toInt64 :: st) h := xo_i2l (by decide +kernel)
set_option maxRecDepth 20000 in
theorem u_L_law_355 (L : xL) (a b : Int64) (st : List Value) (h : xH) : xf 178 355 L (.long b :: .long a :: st) h = xf 178 356 L (.int (lg_cmp a b) :: st) h := xo_lcmp (by decide +kernel)
set_option maxRecDepth 20000 in
theorem u_L_law_356 (L : xL) (a : Int32) (st : List Value) (h : xH) : xf 178 356 L (.int a :: st) h = if a = 0 then xf 178 361 L st h else xf 178 359 L st h := xo_if_eq (t := 361) (by decide +kernel) rfl
set_option maxRecDepth 20000 in
theorem u_L_law_359 (L : xL) (st : List Value) (h : xH) : xf 178 359 L st h = xf 178 360 L (.int 0 :: st) h := xo_iconst (k := 0) (by decide +kernel) (by decide)
set_option maxRecDepth 20000 in
theorem u_L_law_360 (L : xL) (x : Int32) (h : xH) (hv : x = 0 ∨ x = 1) : xf 178 360 L [.int x] h = some (.inl (some (.int x)), h) := xo_ireturn (n := 361) (by decide +kernel) (by rcases hv with rfl | rfl <;> rfl)
set_option maxRecDepth 20000 in
theorem u_L_law_361 (L : xL) (st : List Value) (h : xH) : xf 178 361 L st h = xf 178 1237 L st h := xo_goto (n := 364) (t := 1237) (by decide +kernel) rfl
set_option maxRecDepth 20000 in
theorem u_L_law_364 (l0 l2 l3 l4 l5 l6 l7 l8 : Option Value) (x : Nat) (st : List Value) (h : xH) : xf 178 364 [l0, some (.ref x), l2, l3, l4, l5, l6, l7, l8] st h = xf 178 365 [l0, some (.ref x), l2, l3, l4, l5, l6, l7, l8] (.ref x :: st) h := xo_aload (k := 1) (by decide +kernel) rfl
set_option maxRecDepth 20000 in
theorem u_L_law_365 (L : xL) (b : Nat) (st : List Value) (h : xH) (hb : (xob h b).1 = 7) (hl : st.length ≤ 4) : xf 178 365 L (.ref b :: st) h = xgo 178 365 368 L st (xev 67 [.ref b] h) := xo_callV (as := []) (by decide +kernel) rfl ⟨(by decide +kernel : xna 67 = 0), Nat.le_of_ble_eq_true rfl, rfl, by decide⟩ hb hl
set_option maxRecDepth 20000 in
theorem u_L_law_368 (l0 l1 l3 l4 l5 l6 l7 l8 : Option Value) (x : Nat) (st : List Value) (h : xH) : xf 178 368 [l0, l1, some (.ref x), l3, l4, l5, l6, l7, l8] st h = xf 178 369 [l0, l1, some (.ref x), l3, l4, l5, l6, l7, l8] (.ref x :: st) h := xo_aload (k := 2) (by decide +kernel) rfl
set_option maxRecDepth 20000 in
theorem u_L_law_369 (L : xL) (b : Nat) (st : List Value) (h : xH) (hb : (xob h b).1 = 8) (hl : st.length ≤ 4) : xf 178 369 L (.ref b :: st) h = xgo 178 369 372 L st (xev 127 [.ref b] h) := xo_callV (as := []) (by decide +kernel) rfl ⟨(by decide +kernel : xna 127 = 0), Nat.le_of_ble_eq_true rfl, rfl, by decide⟩ hb hl
set_option maxRecDepth 20000 in
theorem u_L_law_372 (L : xL) (a b : Int32) (st : List Value) (h : xH) : xf 178 372 L (.int b :: .int a :: st) h = if a = b then xf 178 1237 L st h else xf 178 375 L st h := xo_icmp_eq (t := 1237) (by decide +kernel) rfl
set_option maxRecDepth 20000 in
theorem u_L_law_375 (L : xL) (st : List Value) (h : xH) : xf 178 375 L st h = xf 178 376 L (.int 0 :: st) h := xo_iconst (k := 0) (by decide +kernel) (by decide)
set_option maxRecDepth 20000 in
theorem u_L_law_376 (L : xL) (x : Int32) (h : xH) (hv : x = 0 ∨ x = 1) : xf 178 376 L [.int x] h = some (.inl (some (.int x)), h) := xo_ireturn (n := 377) (by decide +kernel) (by rcases hv with rfl | rfl <;> rfl)
set_option maxRecDepth 20000 in
theorem u_L_law_377 (l0 l2 l3 l4 l5 l6 l7 l8 : Option Value) (x : Nat) (st : List Value) (h : xH) : xf 178 377 [l0, some (.ref x), l2, l3, l4, l5, l6, l7, l8] st h = xf 178 378 [l0, some (.ref x), l2, l3, l4, l5, l6, l7, l8] (.ref x :: st) h := xo_aload (k := 1) (by decide +kernel) rfl
set_option maxRecDepth 20000 in
theorem u_L_law_378 (L : xL) (b : Nat) (st : List Value) (h : xH) (hb : (xob h b).1 = 7) (hl : st.length ≤ 4) : xf 178 378 L (.ref b :: st) h = xgo 178 378 381 L st (xev 68 [.ref b] h) := xo_callV (as := []) (by decide +kernel) rfl ⟨(by decide +kernel : xna 68 = 0), Nat.le_of_ble_eq_true rfl, rfl, by decide⟩ hb hl
set_option maxRecDepth 20000 in
theorem u_L_law_381 (l0 l1 l3 l4 l5 l6 l7 l8 : Option Value) (x : Nat) (st : List Value) (h : xH) : xf 178 381 [l0, l1, some (.ref x), l3, l4, l5, l6, l7, l8] st h = xf 178 382 [l0, l1, some (.ref x), l3, l4, l5, l6, l7, l8] (.ref x :: st) h := xo_aload (k := 2) (by decide +kernel) rfl
set_option maxRecDepth 20000 in
theorem u_L_law_382 (L : xL) (b : Nat) (st : List Value) (h : xH) (hb : (xob h b).1 = 8) (hl : st.length ≤ 4) : xf 178 382 L (.ref b :: st) h = xgo 178 382 385 L st (xev 128 [.ref b] h) := xo_callV (as := []) (by decide +kernel) rfl ⟨(by decide +kernel : xna 128 = 0), Nat.le_of_ble_eq_true rfl, rfl, by decide⟩ hb hl
set_option maxRecDepth 20000 in
theorem u_L_law_385 (L : xL) (a b : Int32) (st : List Value) (h : xH) : xf 178 385 L (.int b :: .int a :: st) h = if a = b then xf 178 1237 L st h else xf 178 388 L st h := xo_icmp_eq (t := 1237) (by decide +kernel) rfl
set_option maxRecDepth 20000 in
theorem u_L_law_388 (L : xL) (st : List Value) (h : xH) : xf 178 388 L st h = xf 178 389 L (.int 0 :: st) h := xo_iconst (k := 0) (by decide +kernel) (by decide)
set_option maxRecDepth 20000 in
theorem u_L_law_389 (L : xL) (x : Int32) (h : xH) (hv : x = 0 ∨ x = 1) : xf 178 389 L [.int x] h = some (.inl (some (.int x)), h) := xo_ireturn (n := 390) (by decide +kernel) (by rcases hv with rfl | rfl <;> rfl)
set_option maxRecDepth 20000 in
theorem u_L_law_390 (l0 l2 l3 l4 l5 l6 l7 l8 : Option Value) (x : Nat) (st : List Value) (h : xH) : xf 178 390 [l0, some (.ref x), l2, l3, l4, l5, l6, l7, l8] st h = xf 178 391 [l0, some (.ref x), l2, l3, l4, l5, l6, l7, l8] (.ref x :: st) h := xo_aload (k := 1) (by decide +kernel) rfl
set_option maxRecDepth 20000 in
theorem u_L_law_391 (L : xL) (b : Nat) (st : List Value) (h : xH) (hb : (xob h b).1 = 7) (hl : st.length ≤ 4) : xf 178 391 L (.ref b :: st) h = xgo 178 391 394 L st (xev 69 [.ref b] h) := xo_callV (as := []) (by decide +kernel) rfl ⟨(by decide +kernel : xna 69 = 0), Nat.le_of_ble_eq_true rfl, rfl, by decide⟩ hb hl
set_option maxRecDepth 20000 in
theorem u_L_law_394 (l0 l1 l3 l4 l5 l6 l7 l8 : Option Value) (x : Nat) (st : List Value) (h : xH) : xf 178 394 [l0, l1, some (.ref x), l3, l4, l5, l6, l7, l8] st h = xf 178 395 [l0, l1, some (.ref x), l3, l4, l5, l6, l7, l8] (.ref x :: st) h := xo_aload (k := 2) (by decide +kernel) rfl
set_option maxRecDepth 20000 in
theorem u_L_law_395 (L : xL) (b : Nat) (st : List Value) (h : xH) (hb : (xob h b).1 = 8) (hl : st.length ≤ 4) : xf 178 395 L (.ref b :: st) h = xgo 178 395 398 L st (xev 130 [.ref b] h) := xo_callV (as := []) (by decide +kernel) rfl ⟨(by decide +kernel : xna 130 = 0), Nat.le_of_ble_eq_true rfl, rfl, by decide⟩ hb hl
set_option maxRecDepth 20000 in
theorem u_L_law_398 (L : xL) (a b : Int32) (st : List Value) (h : xH) : xf 178 398 L (.int b :: .int a :: st) h = if a = b then xf 178 1237 L st h else xf 178 401 L st h := xo_icmp_eq (t := 1237) (by decide +kernel) rfl
set_option maxRecDepth 20000 in
theorem u_L_law_401 (L : xL) (st : List Value) (h : xH) : xf 178 401 L st h = xf 178 402 L (.int 0 :: st) h := xo_iconst (k := 0) (by decide +kernel) (by decide)
set_option maxRecDepth 20000 in
theorem u_L_law_402 (L : xL) (x : Int32) (h : xH) (hv : x = 0 ∨ x = 1) : xf 178 402 L [.int x] h = some (.inl (some (.int x)), h) := xo_ireturn (n := 403) (by decide +kernel) (by rcases hv with rfl | rfl <;> rfl)
set_option maxRecDepth 20000 in
theorem u_L_law_403 (l0 l2 l3 l4 l5 l6 l7 l8 : Option Value) (x : Nat) (st : List Value) (h : xH) : xf 178 403 [l0, some (.ref x), l2, l3, l4, l5, l6, l7, l8] st h = xf 178 404 [l0, some (.ref x), l2, l3, l4, l5, l6, l7, l8] (.ref x :: st) h := xo_aload (k := 1) (by decide +kernel) rfl
set_option maxRecDepth 20000 in
theorem u_L_law_404 (l0 l1 l2 l4 l5 l6 l7 l8 : Option Value) (x : Nat) (st : List Value) (h : xH) : xf 178 404 [l0, l1, l2, some (.ref x), l4, l5, l6, l7, l8] st h = xf 178 405 [l0, l1, l2, some (.ref x), l4, l5, l6, l7, l8] (.ref x :: st) h := xo_aload (k := 3) (by decide +kernel) rfl
set_option maxRecDepth 20000 in
theorem u_L_law_405 (L : xL) (v0 : Nat) (v1 : Nat) (st : List Value) (h : xH) (hl : st.length ≤ 4) : xf 178 405 L (.ref v1 :: .ref v0 :: st) h = xgo 178 405 408 L st (xev 165 [.ref v0, .ref v1] h) := xo_callS (as := [.ref v0, .ref v1]) (by decide +kernel) rfl ⟨(by decide +kernel : xna 165 = 2), Nat.le_of_ble_eq_true rfl, by decide⟩ hl
set_option maxRecDepth 20000 in
theorem u_L_law_408 (l0 l1 l2 l3 l4 l5 l6 l7 l8 : Option Value) (x : Int32) (st : List Value) (h : xH) : xf 178 408 [l0, l1, l2, l3, l4, l5, l6, l7, l8] (.int x :: st) h = xf 178 410 [l0, l1, l2, l3, xcat l4, some (.int x), l6, l7, l8] st h := xo_istore (k := 5) (by decide +kernel) (Nat.le_of_ble_eq_true rfl) rfl
set_option maxRecDepth 20000 in
theorem u_L_law_410 (l0 l1 l3 l4 l5 l6 l7 l8 : Option Value) (x : Nat) (st : List Value) (h : xH) : xf 178 410 [l0, l1, some (.ref x), l3, l4, l5, l6, l7, l8] st h = xf 178 411 [l0, l1, some (.ref x), l3, l4, l5, l6, l7, l8] (.ref x :: st) h := xo_aload (k := 2) (by decide +kernel) rfl
set_option maxRecDepth 20000 in
theorem u_L_law_411 (L : xL) (b : Nat) (st : List Value) (h : xH) (hb : (xob h b).1 = 8) (hl : st.length ≤ 4) : xf 178 411 L (.ref b :: st) h = xgo 178 411 414 L st (xev 131 [.ref b] h) := xo_callV (as := []) (by decide +kernel) rfl ⟨(by decide +kernel : xna 131 = 0), Nat.le_of_ble_eq_true rfl, rfl, by decide⟩ hb hl
set_option maxRecDepth 20000 in
theorem u_L_law_414 (l0 l1 l2 l3 l4 l5 l6 l7 l8 : Option Value) (x : Int32) (st : List Value) (h : xH) : xf 178 414 [l0, l1, l2, l3, l4, l5, l6, l7, l8] (.int x :: st) h = xf 178 416 [l0, l1, l2, l3, l4, xcat l5, some (.int x), l7, l8] st h := xo_istore (k := 6) (by decide +kernel) (Nat.le_of_ble_eq_true rfl) rfl
set_option maxRecDepth 20000 in
theorem u_L_law_416 (l0 l1 l3 l4 l5 l6 l7 l8 : Option Value) (x : Nat) (st : List Value) (h : xH) : xf 178 416 [l0, l1, some (.ref x), l3, l4, l5, l6, l7, l8] st h = xf 178 417 [l0, l1, some (.ref x), l3, l4, l5, l6, l7, l8] (.ref x :: st) h := xo_aload (k := 2) (by decide +kernel) rfl
set_option maxRecDepth 20000 in
theorem u_L_law_417 (L : xL) (b : Nat) (st : List Value) (h : xH) (hb : (xob h b).1 = 8) (hl : st.length ≤ 4) : xf 178 417 L (.ref b :: st) h = xgo 178 417 420 L st (xev 98 [.ref b] h) := xo_callV (as := []) (by decide +kernel) rfl ⟨(by decide +kernel : xna 98 = 0), Nat.le_of_ble_eq_true rfl, rfl, by decide⟩ hb hl
set_option maxRecDepth 20000 in
theorem u_L_law_420 (l0 l1 l2 l3 l4 l6 l7 l8 : Option Value) (x : Int32) (st : List Value) (h : xH) : xf 178 420 [l0, l1, l2, l3, l4, some (.int x), l6, l7, l8] st h = xf 178 422 [l0, l1, l2, l3, l4, some (.int x), l6, l7, l8] (.int x :: st) h := xo_iload (k := 5) (by decide +kernel) rfl
set_option maxRecDepth 20000 in
theorem u_L_law_422 (L : xL) (a b : Int32) (st : List Value) (h : xH) : xf 178 422 L (.int b :: .int a :: st) h = if a = b then xf 178 427 L st h else xf 178 425 L st h := xo_icmp_eq (t := 427) (by decide +kernel) rfl
set_option maxRecDepth 20000 in
theorem u_L_law_425 (L : xL) (st : List Value) (h : xH) : xf 178 425 L st h = xf 178 426 L (.int 0 :: st) h := xo_iconst (k := 0) (by decide +kernel) (by decide)
set_option maxRecDepth 20000 in
theorem u_L_law_426 (L : xL) (x : Int32) (h : xH) (hv : x = 0 ∨ x = 1) : xf 178 426 L [.int x] h = some (.inl (some (.int x)), h) := xo_ireturn (n := 427) (by decide +kernel) (by rcases hv with rfl | rfl <;> rfl)
set_option maxRecDepth 20000 in
theorem u_L_law_427 (l0 l1 l2 l3 l4 l6 l7 l8 : Option Value) (x : Int32) (st : List Value) (h : xH) : xf 178 427 [l0, l1, l2, l3, l4, some (.int x), l6, l7, l8] st h = xf 178 429 [l0, l1, l2, l3, l4, some (.int x), l6, l7, l8] (.int x :: st) h := xo_iload (k := 5) (by decide +kernel) rfl
set_option maxRecDepth 20000 in
theorem u_L_law_429 (L : xL) (a : Int32) (st : List Value) (h : xH) : xf 178 429 L (.int a :: st) h = if a = 0 then xf 178 432 L st h else xf 178 444 L st h := xo_if_ne (t := 444) (by decide +kernel) rfl
set_option maxRecDepth 20000 in
theorem u_L_law_432 (l0 l1 l2 l4 l5 l6 l7 l8 : Option Value) (x : Nat) (st : List Value) (h : xH) : xf 178 432 [l0, l1, l2, some (.ref x), l4, l5, l6, l7, l8] st h = xf 178 433 [l0, l1, l2, some (.ref x), l4, l5, l6, l7, l8] (.ref x :: st) h := xo_aload (k := 3) (by decide +kernel) rfl
set_option maxRecDepth 20000 in
theorem u_L_law_433 (L : xL) (st : List Value) (h : xH) : xf 178 433 L st h = xf 178 434 L (.int 0 :: st) h := xo_iconst (k := 0) (by decide +kernel) (by decide)
set_option maxRecDepth 20000 in
theorem u_L_law_434 (L : xL) (i : Int32) (a : Nat) (st : List Value) (h : xH) (hx : xix i (xal h a).1) : xf 178 434 L (.int i :: .ref a :: st) h = xf 178 435 L (.long ((xal h a).2 i.toNatClampNeg) :: st) h := xo_laload (by decide +kernel) hx
set_option maxRecDepth 20000 in
theorem u_L_law_435 (l0 l1 l2 l3 l4 l5 l7 l8 : Option Value) (x : Int32) (st : List Value) (h : xH) : xf 178 435 [l0, l1, l2, l3, l4, l5, some (.int x), l7, l8] st h = xf 178 437 [l0, l1, l2, l3, l4, l5, some (.int x), l7, l8] (.int x :: st) h := xo_iload (k := 6) (by decide +kernel) rfl
set_option maxRecDepth 20000 in
theorem u_L_law_437 (L : xL) (a : Int32) (st : List Value) (h : xH) : xf 178 437 L (.int a :: st) h = xf 178 438 L (.long a.toInt64 :: st) h := xo_i2l (by decide +kernel)
set_option maxRecDepth 20000 in
theorem u_L_law_438 (L : xL) (a b : Int64) (st : List Value) (h : xH) : xf 178 438 L (.long b :: .long a :: st) h = xf 178 439 L (.int (lg_cmp a b) :: st) h := xo_lcmp (by decide +kernel)
set_option maxRecDepth 20000 in
theorem u_L_law_439 (L : xL) (a : Int32) (st : List Value) (h : xH) : xf 178 439 L (.int a :: st) h = if a = 0 then xf 178 444 L st h else xf 178 442 L st h := xo_if_eq (t := 444) (by decide +kernel) rfl
set_option maxRecDepth 20000 in
theorem u_L_law_442 (L : xL) (st : List Value) (h : xH) : xf 178 442 L st h = xf 178 443 L (.int 0 :: st) h := xo_iconst (k := 0) (by decide +kernel) (by decide)
set_option maxRecDepth 20000 in
theorem u_L_law_443 (L : xL) (x : Int32) (h : xH) (hv : x = 0 ∨ x = 1) : xf 178 443 L [.int x] h = some (.inl (some (.int x)), h) := xo_ireturn (n := 444) (by decide +kernel) (by rcases hv with rfl | rfl <;> rfl)
set_option maxRecDepth 20000 in
theorem u_L_law_444 (L : xL) (st : List Value) (h : xH) : xf 178 444 L st h = xf 178 1237 L st h := xo_goto (n := 447) (t := 1237) (by decide +kernel) rfl
set_option maxRecDepth 20000 in
theorem u_L_law_447 (l0 l2 l3 l4 l5 l6 l7 l8 : Option Value) (x : Nat) (st : List Value) (h : xH) : xf 178 447 [l0, some (.ref x), l2, l3, l4, l5, l6, l7, l8] st h = xf 178 448 [l0, some (.ref x), l2, l3, l4, l5, l6, l7, l8] (.ref x :: st) h := xo_aload (k := 1) (by decide +kernel) rfl
set_option maxRecDepth 20000 in
theorem u_L_law_448 (l1 l2 l3 l4 l5 l6 l7 l8 : Option Value) (x : Nat) (st : List Value) (h : xH) : xf 178 448 [some (.ref x), l1, l2, l3, l4, l5, l6, l7, l8] st h = xf 178 449 [some (.ref x), l1, l2, l3, l4, l5, l6, l7, l8] (.ref x :: st) h := xo_aload (k := 0) (by decide +kernel) rfl
set_option maxRecDepth 20000 in
theorem u_L_law_449 (l0 l1 l2 l3 l5 l6 l7 l8 : Option Value) (x : Int32) (st : List Value) (h : xH) : xf 178 449 [l0, l1, l2, l3, some (.int x), l5, l6, l7, l8] st h = xf 178 451 [l0, l1, l2, l3, some (.int x), l5, l6, l7, l8] (.int x :: st) h := xo_iload (k := 4) (by decide +kernel) rfl
set_option maxRecDepth 20000 in
theorem u_L_law_451 (L : xL) (st : List Value) (h : xH) : xf 178 451 L st h = xf 178 452 L (.int 1 :: st) h := xo_iconst (k := 1) (by decide +kernel) (by decide)
set_option maxRecDepth 20000 in
theorem u_L_law_452 (L : xL) (a b : Int32) (st : List Value) (h : xH) : xf 178 452 L (.int b :: .int a :: st) h = xf 178 453 L (.int (a + b) :: st) h := xo_iadd (by decide +kernel)
set_option maxRecDepth 20000 in
theorem u_L_law_453 (L : xL) (i : Int32) (a : Nat) (st : List Value) (h : xH) (hx : xix i (xa3 h a).1) : xf 178 453 L (.int i :: .ref a :: st) h = xf 178 454 L (.int ((xa3 h a).2 i.toNatClampNeg) :: st) h := xo_iaload3 (by decide +kernel) hx
set_option maxRecDepth 20000 in
theorem u_L_law_454 (l1 l2 l3 l4 l5 l6 l7 l8 : Option Value) (x : Nat) (st : List Value) (h : xH) : xf 178 454 [some (.ref x), l1, l2, l3, l4, l5, l6, l7, l8] st h = xf 178 455 [some (.ref x), l1, l2, l3, l4, l5, l6, l7, l8] (.ref x :: st) h := xo_aload (k := 0) (by decide +kernel) rfl
set_option maxRecDepth 20000 in
theorem u_L_law_455 (l0 l1 l2 l3 l5 l6 l7 l8 : Option Value) (x : Int32) (st : List Value) (h : xH) : xf 178 455 [l0, l1, l2, l3, some (.int x), l5, l6, l7, l8] st h = xf 178 457 [l0, l1, l2, l3, some (.int x), l5, l6, l7, l8] (.int x :: st) h := xo_iload (k := 4) (by decide +kernel) rfl
set_option maxRecDepth 20000 in
theorem u_L_law_457 (L : xL) (st : List Value) (h : xH) : xf 178 457 L st h = xf 178 458 L (.int 2 :: st) h := xo_iconst (k := 2) (by decide +kernel) (by decide)
set_option maxRecDepth 20000 in
theorem u_L_law_458 (L : xL) (a b : Int32) (st : List Value) (h : xH) : xf 178 458 L (.int b :: .int a :: st) h = xf 178 459 L (.int (a + b) :: st) h := xo_iadd (by decide +kernel)
set_option maxRecDepth 20000 in
theorem u_L_law_459 (L : xL) (i : Int32) (a : Nat) (st : List Value) (h : xH) (hx : xix i (xa3 h a).1) : xf 178 459 L (.int i :: .ref a :: st) h = xf 178 460 L (.int ((xa3 h a).2 i.toNatClampNeg) :: st) h := xo_iaload3 (by decide +kernel) hx
set_option maxRecDepth 20000 in
theorem u_L_law_460 (l0 l1 l2 l4 l5 l6 l7 l8 : Option Value) (x : Nat) (st : List Value) (h : xH) : xf 178 460 [l0, l1, l2, some (.ref x), l4, l5, l6, l7, l8] st h = xf 178 461 [l0, l1, l2, some (.ref x), l4, l5, l6, l7, l8] (.ref x :: st) h := xo_aload (k := 3) (by decide +kernel) rfl
set_option maxRecDepth 20000 in
theorem u_L_law_461 (L : xL) (v0 : Nat) (v1 : Int32) (v2 : Int32) (v3 : Nat) (st : List Value) (h : xH) (hl : st.length ≤ 4) : xf 178 461 L (.ref v3 :: .int v2 :: .int v1 :: .ref v0 :: st) h = xgo 178 461 464 L st (xev 166 [.ref v0, .int v1, .int v2, .ref v3] h) := xo_callS (as := [.ref v0, .int v1, .int v2, .ref v3]) (by decide +kernel) rfl ⟨(by decide +kernel : xna 166 = 4), Nat.le_of_ble_eq_true rfl, by decide⟩ hl
set_option maxRecDepth 20000 in
theorem u_L_law_464 (l0 l1 l2 l3 l4 l5 l6 l7 l8 : Option Value) (x : Int32) (st : List Value) (h : xH) : xf 178 464 [l0, l1, l2, l3, l4, l5, l6, l7, l8] (.int x :: st) h = xf 178 466 [l0, l1, l2, l3, xcat l4, some (.int x), l6, l7, l8] st h := xo_istore (k := 5) (by decide +kernel) (Nat.le_of_ble_eq_true rfl) rfl
set_option maxRecDepth 20000 in
theorem u_L_law_466 (l0 l1 l3 l4 l5 l6 l7 l8 : Option Value) (x : Nat) (st : List Value) (h : xH) : xf 178 466 [l0, l1, some (.ref x), l3, l4, l5, l6, l7, l8] st h = xf 178 467 [l0, l1, some (.ref x), l3, l4, l5, l6, l7, l8] (.ref x :: st) h := xo_aload (k := 2) (by decide +kernel) rfl
set_option maxRecDepth 20000 in
theorem u_L_law_467 (l1 l2 l3 l4 l5 l6 l7 l8 : Option Value) (x : Nat) (st : List Value) (h : xH) : xf 178 467 [some (.ref x), l1, l2, l3, l4, l5, l6, l7, l8] st h = xf 178 468 [some (.ref x), l1, l2, l3, l4, l5, l6, l7, l8] (.ref x :: st) h := xo_aload (k := 0) (by decide +kernel) rfl
set_option maxRecDepth 20000 in
theorem u_L_law_468 (l0 l1 l2 l3 l5 l6 l7 l8 : Option Value) (x : Int32) (st : List Value) (h : xH) : xf 178 468 [l0, l1, l2, l3, some (.int x), l5, l6, l7, l8] st h = xf 178 470 [l0, l1, l2, l3, some (.int x), l5, l6, l7, l8] (.int x :: st) h := xo_iload (k := 4) (by decide +kernel) rfl
set_option maxRecDepth 20000 in
theorem u_L_law_470 (L : xL) (st : List Value) (h : xH) : xf 178 470 L st h = xf 178 471 L (.int 1 :: st) h := xo_iconst (k := 1) (by decide +kernel) (by decide)
set_option maxRecDepth 20000 in
theorem u_L_law_471 (L : xL) (a b : Int32) (st : List Value) (h : xH) : xf 178 471 L (.int b :: .int a :: st) h = xf 178 472 L (.int (a + b) :: st) h := xo_iadd (by decide +kernel)
set_option maxRecDepth 20000 in
theorem u_L_law_472 (L : xL) (i : Int32) (a : Nat) (st : List Value) (h : xH) (hx : xix i (xa3 h a).1) : xf 178 472 L (.int i :: .ref a :: st) h = xf 178 473 L (.int ((xa3 h a).2 i.toNatClampNeg) :: st) h := xo_iaload3 (by decide +kernel) hx
set_option maxRecDepth 20000 in
theorem u_L_law_473 (l1 l2 l3 l4 l5 l6 l7 l8 : Option Value) (x : Nat) (st : List Value) (h : xH) : xf 178 473 [some (.ref x), l1, l2, l3, l4, l5, l6, l7, l8] st h = xf 178 474 [some (.ref x), l1, l2, l3, l4, l5, l6, l7, l8] (.ref x :: st) h := xo_aload (k := 0) (by decide +kernel) rfl
set_option maxRecDepth 20000 in
theorem u_L_law_474 (l0 l1 l2 l3 l5 l6 l7 l8 : Option Value) (x : Int32) (st : List Value) (h : xH) : xf 178 474 [l0, l1, l2, l3, some (.int x), l5, l6, l7, l8] st h = xf 178 476 [l0, l1, l2, l3, some (.int x), l5, l6, l7, l8] (.int x :: st) h := xo_iload (k := 4) (by decide +kernel) rfl
set_option maxRecDepth 20000 in
theorem u_L_law_476 (L : xL) (st : List Value) (h : xH) : xf 178 476 L st h = xf 178 477 L (.int 2 :: st) h := xo_iconst (k := 2) (by decide +kernel) (by decide)
set_option maxRecDepth 20000 in
theorem u_L_law_477 (L : xL) (a b : Int32) (st : List Value) (h : xH) : xf 178 477 L (.int b :: .int a :: st) h = xf 178 478 L (.int (a + b) :: st) h := xo_iadd (by decide +kernel)
set_option maxRecDepth 20000 in
theorem u_L_law_478 (L : xL) (i : Int32) (a : Nat) (st : List Value) (h : xH) (hx : xix i (xa3 h a).1) : xf 178 478 L (.int i :: .ref a :: st) h = xf 178 479 L (.int ((xa3 h a).2 i.toNatClampNeg) :: st) h := xo_iaload3 (by decide +kernel) hx
set_option maxRecDepth 20000 in
theorem u_L_law_479 (L : xL) (v0 : Int32) (v1 : Int32) (b : Nat) (st : List Value) (h : xH) (hb : (xob h b).1 = 8) (hl : st.length ≤ 4) : xf 178 479 L (.int v1 :: .int v0 :: .ref b :: st) h = xgo 178 479 482 L st (xev 132 [.ref b, .int v0, .int v1] h) := xo_callV (as := [.int v0, .int v1]) (by decide +kernel) rfl ⟨(by decide +kernel : xna 132 = 2), Nat.le_of_ble_eq_true rfl, rfl, by decide⟩ hb hl
set_option maxRecDepth 20000 in
theorem u_L_law_482 (l0 l1 l2 l3 l4 l5 l6 l7 l8 : Option Value) (x : Int32) (st : List Value) (h : xH) : xf 178 482 [l0, l1, l2, l3, l4, l5, l6, l7, l8] (.int x :: st) h = xf 178 484 [l0, l1, l2, l3, l4, xcat l5, some (.int x), l7, l8] st h := xo_istore (k := 6) (by decide +kernel) (Nat.le_of_ble_eq_true rfl) rfl
set_option maxRecDepth 20000 in
theorem u_L_law_484 (l0 l1 l3 l4 l5 l6 l7 l8 : Option Value) (x : Nat) (st : List Value) (h : xH) : xf 178 484 [l0, l1, some (.ref x), l3, l4, l5, l6, l7, l8] st h = xf 178 485 [l0, l1, some (.ref x), l3, l4, l5, l6, l7, l8] (.ref x :: st) h := xo_aload (k := 2) (by decide +kernel) rfl
set_option maxRecDepth 20000 in
theorem u_L_law_485 (L : xL) (b : Nat) (st : List Value) (h : xH) (hb : (xob h b).1 = 8) (hl : st.length ≤ 4) : xf 178 485 L (.ref b :: st) h = xgo 178 485 488 L st (xev 98 [.ref b] h) := xo_callV (as := []) (by decide +kernel) rfl ⟨(by decide +kernel : xna 98 = 0), Nat.le_of_ble_eq_true rfl, rfl, by decide⟩ hb hl
set_option maxRecDepth 20000 in
theorem u_L_law_488 (l0 l1 l2 l3 l4 l6 l7 l8 : Option Value) (x : Int32) (st : List Value) (h : xH) : xf 178 488 [l0, l1, l2, l3, l4, some (.int x), l6, l7, l8] st h = xf 178 490 [l0, l1, l2, l3, l4, some (.int x), l6, l7, l8] (.int x :: st) h := xo_iload (k := 5) (by decide +kernel) rfl
set_option maxRecDepth 20000 in
theorem u_L_law_490 (L : xL) (a b : Int32) (st : List Value) (h : xH) : xf 178 490 L (.int b :: .int a :: st) h = if a = b then xf 178 495 L st h else xf 178 493 L st h := xo_icmp_eq (t := 495) (by decide +kernel) rfl
set_option maxRecDepth 20000 in
theorem u_L_law_493 (L : xL) (st : List Value) (h : xH) : xf 178 493 L st h = xf 178 494 L (.int 0 :: st) h := xo_iconst (k := 0) (by decide +kernel) (by decide)
set_option maxRecDepth 20000 in
theorem u_L_law_494 (L : xL) (x : Int32) (h : xH) (hv : x = 0 ∨ x = 1) : xf 178 494 L [.int x] h = some (.inl (some (.int x)), h) := xo_ireturn (n := 495) (by decide +kernel) (by rcases hv with rfl | rfl <;> rfl)
set_option maxRecDepth 20000 in
theorem u_L_law_495 (l0 l1 l2 l3 l4 l6 l7 l8 : Option Value) (x : Int32) (st : List Value) (h : xH) : xf 178 495 [l0, l1, l2, l3, l4, some (.int x), l6, l7, l8] st h = xf 178 497 [l0, l1, l2, l3, l4, some (.int x), l6, l7, l8] (.int x :: st) h := xo_iload (k := 5) (by decide +kernel) rfl
set_option maxRecDepth 20000 in
theorem u_L_law_497 (L : xL) (a : Int32) (st : List Value) (h : xH) : xf 178 497 L (.int a :: st) h = if a = 0 then xf 178 500 L st h else xf 178 512 L st h := xo_if_ne (t := 512) (by decide +kernel) rfl
set_option maxRecDepth 20000 in
theorem u_L_law_500 (l0 l1 l2 l4 l5 l6 l7 l8 : Option Value) (x : Nat) (st : List Value) (h : xH) : xf 178 500 [l0, l1, l2, some (.ref x), l4, l5, l6, l7, l8] st h = xf 178 501 [l0, l1, l2, some (.ref x), l4, l5, l6, l7, l8] (.ref x :: st) h := xo_aload (k := 3) (by decide +kernel) rfl
set_option maxRecDepth 20000 in
theorem u_L_law_501 (L : xL) (st : List Value) (h : xH) : xf 178 501 L st h = xf 178 502 L (.int 0 :: st) h := xo_iconst (k := 0) (by decide +kernel) (by decide)
set_option maxRecDepth 20000 in
theorem u_L_law_502 (L : xL) (i : Int32) (a : Nat) (st : List Value) (h : xH) (hx : xix i (xal h a).1) : xf 178 502 L (.int i :: .ref a :: st) h = xf 178 503 L (.long ((xal h a).2 i.toNatClampNeg) :: st) h := xo_laload (by decide +kernel) hx
set_option maxRecDepth 20000 in
theorem u_L_law_503 (l0 l1 l2 l3 l4 l5 l7 l8 : Option Value) (x : Int32) (st : List Value) (h : xH) : xf 178 503 [l0, l1, l2, l3, l4, l5, some (.int x), l7, l8] st h = xf 178 505 [l0, l1, l2, l3, l4, l5, some (.int x), l7, l8] (.int x :: st) h := xo_iload (k := 6) (by decide +kernel) rfl
set_option maxRecDepth 20000 in
theorem u_L_law_505 (L : xL) (a : Int32) (st : List Value) (h : xH) : xf 178 505 L (.int a :: st) h = xf 178 506 L (.long a.toInt64 :: st) h := xo_i2l (by decide +kernel)
set_option maxRecDepth 20000 in
theorem u_L_law_506 (L : xL) (a b : Int64) (st : List Value) (h : xH) : xf 178 506 L (.long b :: .long a :: st) h = xf 178 507 L (.int (lg_cmp a b) :: st) h := xo_lcmp (by decide +kernel)
set_option maxRecDepth 20000 in
theorem u_L_law_507 (L : xL) (a : Int32) (st : List Value) (h : xH) : xf 178 507 L (.int a :: st) h = if a = 0 then xf 178 512 L st h else xf 178 510 L st h := xo_if_eq (t := 512) (by decide +kernel) rfl
set_option maxRecDepth 20000 in
theorem u_L_law_510 (L : xL) (st : List Value) (h : xH) : xf 178 510 L st h = xf 178 511 L (.int 0 :: st) h := xo_iconst (k := 0) (by decide +kernel) (by decide)
set_option maxRecDepth 20000 in
theorem u_L_law_511 (L : xL) (x : Int32) (h : xH) (hv : x = 0 ∨ x = 1) : xf 178 511 L [.int x] h = some (.inl (some (.int x)), h) := xo_ireturn (n := 512) (by decide +kernel) (by rcases hv with rfl | rfl <;> rfl)
set_option maxRecDepth 20000 in
theorem u_L_law_512 (L : xL) (st : List Value) (h : xH) : xf 178 512 L st h = xf 178 1237 L st h := xo_goto (n := 515) (t := 1237) (by decide +kernel) rfl
set_option maxRecDepth 20000 in
theorem u_L_law_515 (l0 l2 l3 l4 l5 l6 l7 l8 : Option Value) (x : Nat) (st : List Value) (h : xH) : xf 178 515 [l0, some (.ref x), l2, l3, l4, l5, l6, l7, l8] st h = xf 178 516 [l0, some (.ref x), l2, l3, l4, l5, l6, l7, l8] (.ref x :: st) h := xo_aload (k := 1) (by decide +kernel) rfl
set_option maxRecDepth 20000 in
theorem u_L_law_516 (l1 l2 l3 l4 l5 l6 l7 l8 : Option Value) (x : Nat) (st : List Value) (h : xH) : xf 178 516 [some (.ref x), l1, l2, l3, l4, l5, l6, l7, l8] st h = xf 178 517 [some (.ref x), l1, l2, l3, l4, l5, l6, l7, l8] (.ref x :: st) h := xo_aload (k := 0) (by decide +kernel) rfl
set_option maxRecDepth 20000 in
theorem u_L_law_517 (l0 l1 l2 l3 l5 l6 l7 l8 : Option Value) (x : Int32) (st : List Value) (h : xH) : xf 178 517 [l0, l1, l2, l3, some (.int x), l5, l6, l7, l8] st h = xf 178 519 [l0, l1, l2, l3, some (.int x), l5, l6, l7, l8] (.int x :: st) h := xo_iload (k := 4) (by decide +kernel) rfl
set_option maxRecDepth 20000 in
theorem u_L_law_519 (L : xL) (st : List Value) (h : xH) : xf 178 519 L st h = xf 178 520 L (.int 1 :: st) h := xo_iconst (k := 1) (by decide +kernel) (by decide)
set_option maxRecDepth 20000 in
theorem u_L_law_520 (L : xL) (a b : Int32) (st : List Value) (h : xH) : xf 178 520 L (.int b :: .int a :: st) h = xf 178 521 L (.int (a + b) :: st) h := xo_iadd (by decide +kernel)
set_option maxRecDepth 20000 in
theorem u_L_law_521 (L : xL) (i : Int32) (a : Nat) (st : List Value) (h : xH) (hx : xix i (xa3 h a).1) : xf 178 521 L (.int i :: .ref a :: st) h = xf 178 522 L (.int ((xa3 h a).2 i.toNatClampNeg) :: st) h := xo_iaload3 (by decide +kernel) hx
set_option maxRecDepth 20000 in
theorem u_L_law_522 (l0 l1 l2 l4 l5 l6 l7 l8 : Option Value) (x : Nat) (st : List Value) (h : xH) : xf 178 522 [l0, l1, l2, some (.ref x), l4, l5, l6, l7, l8] st h = xf 178 523 [l0, l1, l2, some (.ref x), l4, l5, l6, l7, l8] (.ref x :: st) h := xo_aload (k := 3) (by decide +kernel) rfl
set_option maxRecDepth 20000 in
theorem u_L_law_523 (L : xL) (v0 : Nat) (v1 : Int32) (v2 : Nat) (st : List Value) (h : xH) (hl : st.length ≤ 4) : xf 178 523 L (.ref v2 :: .int v1 :: .ref v0 :: st) h = xgo 178 523 526 L st (xev 167 [.ref v0, .int v1, .ref v2] h) := xo_callS (as := [.ref v0, .int v1, .ref v2]) (by decide +kernel) rfl ⟨(by decide +kernel : xna 167 = 3), Nat.le_of_ble_eq_true rfl, by decide⟩ hl
set_option maxRecDepth 20000 in
theorem u_L_law_526 (l0 l1 l2 l3 l4 l5 l6 l7 l8 : Option Value) (x : Int32) (st : List Value) (h : xH) : xf 178 526 [l0, l1, l2, l3, l4, l5, l6, l7, l8] (.int x :: st) h = xf 178 528 [l0, l1, l2, l3, xcat l4, some (.int x), l6, l7, l8] st h := xo_istore (k := 5) (by decide +kernel) (Nat.le_of_ble_eq_true rfl) rfl
set_option maxRecDepth 20000 in
theorem u_L_law_528 (l0 l1 l3 l4 l5 l6 l7 l8 : Option Value) (x : Nat) (st : List Value) (h : xH) : xf 178 528 [l0, l1, some (.ref x), l3, l4, l5, l6, l7, l8] st h = xf 178 529 [l0, l1, some (.ref x), l3, l4, l5, l6, l7, l8] (.ref x :: st) h := xo_aload (k := 2) (by decide +kernel) rfl
set_option maxRecDepth 20000 in
theorem u_L_law_529 (l1 l2 l3 l4 l5 l6 l7 l8 : Option Value) (x : Nat) (st : List Value) (h : xH) : xf 178 529 [some (.ref x), l1, l2, l3, l4, l5, l6, l7, l8] st h = xf 178 530 [some (.ref x), l1, l2, l3, l4, l5, l6, l7, l8] (.ref x :: st) h := xo_aload (k := 0) (by decide +kernel) rfl
set_option maxRecDepth 20000 in
theorem u_L_law_530 (l0 l1 l2 l3 l5 l6 l7 l8 : Option Value) (x : Int32) (st : List Value) (h : xH) : xf 178 530 [l0, l1, l2, l3, some (.int x), l5, l6, l7, l8] st h = xf 178 532 [l0, l1, l2, l3, some (.int x), l5, l6, l7, l8] (.int x :: st) h := xo_iload (k := 4) (by decide +kernel) rfl
set_option maxRecDepth 20000 in
theorem u_L_law_532 (L : xL) (st : List Value) (h : xH) : xf 178 532 L st h = xf 178 533 L (.int 1 :: st) h := xo_iconst (k := 1) (by decide +kernel) (by decide)
set_option maxRecDepth 20000 in
theorem u_L_law_533 (L : xL) (a b : Int32) (st : List Value) (h : xH) : xf 178 533 L (.int b :: .int a :: st) h = xf 178 534 L (.int (a + b) :: st) h := xo_iadd (by decide +kernel)
set_option maxRecDepth 20000 in
theorem u_L_law_534 (L : xL) (i : Int32) (a : Nat) (st : List Value) (h : xH) (hx : xix i (xa3 h a).1) : xf 178 534 L (.int i :: .ref a :: st) h = xf 178 535 L (.int ((xa3 h a).2 i.toNatClampNeg) :: st) h := xo_iaload3 (by decide +kernel) hx
set_option maxRecDepth 20000 in
theorem u_L_law_535 (L : xL) (v0 : Int32) (b : Nat) (st : List Value) (h : xH) (hb : (xob h b).1 = 8) (hl : st.length ≤ 4) : xf 178 535 L (.int v0 :: .ref b :: st) h = xgo 178 535 538 L st (xev 133 [.ref b, .int v0] h) := xo_callV (as := [.int v0]) (by decide +kernel) rfl ⟨(by decide +kernel : xna 133 = 1), Nat.le_of_ble_eq_true rfl, rfl, by decide⟩ hb hl
set_option maxRecDepth 20000 in
theorem u_L_law_538 (l0 l1 l2 l3 l4 l5 l6 l7 l8 : Option Value) (x : Int32) (st : List Value) (h : xH) : xf 178 538 [l0, l1, l2, l3, l4, l5, l6, l7, l8] (.int x :: st) h = xf 178 540 [l0, l1, l2, l3, l4, xcat l5, some (.int x), l7, l8] st h := xo_istore (k := 6) (by decide +kernel) (Nat.le_of_ble_eq_true rfl) rfl
set_option maxRecDepth 20000 in
theorem u_L_law_540 (l0 l1 l3 l4 l5 l6 l7 l8 : Option Value) (x : Nat) (st : List Value) (h : xH) : xf 178 540 [l0, l1, some (.ref x), l3, l4, l5, l6, l7, l8] st h = xf 178 541 [l0, l1, some (.ref x), l3, l4, l5, l6, l7, l8] (.ref x :: st) h := xo_aload (k := 2) (by decide +kernel) rfl
set_option maxRecDepth 20000 in
theorem u_L_law_541 (L : xL) (b : Nat) (st : List Value) (h : xH) (hb : (xob h b).1 = 8) (hl : st.length ≤ 4) : xf 178 541 L (.ref b :: st) h = xgo 178 541 544 L st (xev 98 [.ref b] h) := xo_callV (as := []) (by decide +kernel) rfl ⟨(by decide +kernel : xna 98 = 0), Nat.le_of_ble_eq_true rfl, rfl, by decide⟩ hb hl
set_option maxRecDepth 20000 in
theorem u_L_law_544 (l0 l1 l2 l3 l4 l6 l7 l8 : Option Value) (x : Int32) (st : List Value) (h : xH) : xf 178 544 [l0, l1, l2, l3, l4, some (.int x), l6, l7, l8] st h = xf 178 546 [l0, l1, l2, l3, l4, some (.int x), l6, l7, l8] (.int x :: st) h := xo_iload (k := 5) (by decide +kernel) rfl
set_option maxRecDepth 20000 in
theorem u_L_law_546 (L : xL) (a b : Int32) (st : List Value) (h : xH) : xf 178 546 L (.int b :: .int a :: st) h = if a = b then xf 178 551 L st h else xf 178 549 L st h := xo_icmp_eq (t := 551) (by decide +kernel) rfl
set_option maxRecDepth 20000 in
theorem u_L_law_549 (L : xL) (st : List Value) (h : xH) : xf 178 549 L st h = xf 178 550 L (.int 0 :: st) h := xo_iconst (k := 0) (by decide +kernel) (by decide)
set_option maxRecDepth 20000 in
theorem u_L_law_550 (L : xL) (x : Int32) (h : xH) (hv : x = 0 ∨ x = 1) : xf 178 550 L [.int x] h = some (.inl (some (.int x)), h) := xo_ireturn (n := 551) (by decide +kernel) (by rcases hv with rfl | rfl <;> rfl)
set_option maxRecDepth 20000 in
theorem u_L_law_551 (l0 l1 l2 l3 l4 l6 l7 l8 : Option Value) (x : Int32) (st : List Value) (h : xH) : xf 178 551 [l0, l1, l2, l3, l4, some (.int x), l6, l7, l8] st h = xf 178 553 [l0, l1, l2, l3, l4, some (.int x), l6, l7, l8] (.int x :: st) h := xo_iload (k := 5) (by decide +kernel) rfl
set_option maxRecDepth 20000 in
theorem u_L_law_553 (L : xL) (a : Int32) (st : List Value) (h : xH) : xf 178 553 L (.int a :: st) h = if a = 0 then xf 178 556 L st h else xf 178 568 L st h := xo_if_ne (t := 568) (by decide +kernel) rfl
set_option maxRecDepth 20000 in
theorem u_L_law_556 (l0 l1 l2 l4 l5 l6 l7 l8 : Option Value) (x : Nat) (st : List Value) (h : xH) : xf 178 556 [l0, l1, l2, some (.ref x), l4, l5, l6, l7, l8] st h = xf 178 557 [l0, l1, l2, some (.ref x), l4, l5, l6, l7, l8] (.ref x :: st) h := xo_aload (k := 3) (by decide +kernel) rfl
set_option maxRecDepth 20000 in
theorem u_L_law_557 (L : xL) (st : List Value) (h : xH) : xf 178 557 L st h = xf 178 558 L (.int 0 :: st) h := xo_iconst (k := 0) (by decide +kernel) (by decide)
set_option maxRecDepth 20000 in
theorem u_L_law_558 (L : xL) (i : Int32) (a : Nat) (st : List Value) (h : xH) (hx : xix i (xal h a).1) : xf 178 558 L (.int i :: .ref a :: st) h = xf 178 559 L (.long ((xal h a).2 i.toNatClampNeg) :: st) h := xo_laload (by decide +kernel) hx
set_option maxRecDepth 20000 in
theorem u_L_law_559 (l0 l1 l2 l3 l4 l5 l7 l8 : Option Value) (x : Int32) (st : List Value) (h : xH) : xf 178 559 [l0, l1, l2, l3, l4, l5, some (.int x), l7, l8] st h = xf 178 561 [l0, l1, l2, l3, l4, l5, some (.int x), l7, l8] (.int x :: st) h := xo_iload (k := 6) (by decide +kernel) rfl
set_option maxRecDepth 20000 in
theorem u_L_law_561 (L : xL) (a : Int32) (st : List Value) (h : xH) : xf 178 561 L (.int a :: st) h = xf 178 562 L (.long a.toInt64 :: st) h := xo_i2l (by decide +kernel)
set_option maxRecDepth 20000 in
theorem u_L_law_562 (L : xL) (a b : Int64) (st : List Value) (h : xH) : xf 178 562 L (.long b :: .long a :: st) h = xf 178 563 L (.int (lg_cmp a b) :: st) h := xo_lcmp (by decide +kernel)
set_option maxRecDepth 20000 in
theorem u_L_law_563 (L : xL) (a : Int32) (st : List Value) (h : xH) : xf 178 563 L (.int a :: st) h = if a = 0 then xf 178 568 L st h else xf 178 566 L st h := xo_if_eq (t := 568) (by decide +kernel) rfl
set_option maxRecDepth 20000 in
theorem u_L_law_566 (L : xL) (st : List Value) (h : xH) : xf 178 566 L st h = xf 178 567 L (.int 0 :: st) h := xo_iconst (k := 0) (by decide +kernel) (by decide)
set_option maxRecDepth 20000 in
theorem u_L_law_567 (L : xL) (x : Int32) (h : xH) (hv : x = 0 ∨ x = 1) : xf 178 567 L [.int x] h = some (.inl (some (.int x)), h) := xo_ireturn (n := 568) (by decide +kernel) (by rcases hv with rfl | rfl <;> rfl)
set_option maxRecDepth 20000 in
theorem u_L_law_568 (L : xL) (st : List Value) (h : xH) : xf 178 568 L st h = xf 178 1237 L st h := xo_goto (n := 571) (t := 1237) (by decide +kernel) rfl
set_option maxRecDepth 20000 in
theorem u_L_law_571 (l0 l2 l3 l4 l5 l6 l7 l8 : Option Value) (x : Nat) (st : List Value) (h : xH) : xf 178 571 [l0, some (.ref x), l2, l3, l4, l5, l6, l7, l8] st h = xf 178 572 [l0, some (.ref x), l2, l3, l4, l5, l6, l7, l8] (.ref x :: st) h := xo_aload (k := 1) (by decide +kernel) rfl
set_option maxRecDepth 20000 in
theorem u_L_law_572 (L : xL) (b : Nat) (st : List Value) (h : xH) (hb : (xob h b).1 = 7) (hl : st.length ≤ 4) : xf 178 572 L (.ref b :: st) h = xgo 178 572 575 L st (xev 73 [.ref b] h) := xo_callV (as := []) (by decide +kernel) rfl ⟨(by decide +kernel : xna 73 = 0), Nat.le_of_ble_eq_true rfl, rfl, by decide⟩ hb hl
set_option maxRecDepth 20000 in
theorem u_L_law_575 (l0 l1 l3 l4 l5 l6 l7 l8 : Option Value) (x : Nat) (st : List Value) (h : xH) : xf 178 575 [l0, l1, some (.ref x), l3, l4, l5, l6, l7, l8] st h = xf 178 576 [l0, l1, some (.ref x), l3, l4, l5, l6, l7, l8] (.ref x :: st) h := xo_aload (k := 2) (by decide +kernel) rfl
set_option maxRecDepth 20000 in
theorem u_L_law_576 (L : xL) (b : Nat) (st : List Value) (h : xH) (hb : (xob h b).1 = 8) (hl : st.length ≤ 4) : xf 178 576 L (.ref b :: st) h = xgo 178 576 579 L st (xev 134 [.ref b] h) := xo_callV (as := []) (by decide +kernel) rfl ⟨(by decide +kernel : xna 134 = 0), Nat.le_of_ble_eq_true rfl, rfl, by decide⟩ hb hl
set_option maxRecDepth 20000 in
theorem u_L_law_579 (L : xL) (a b : Int32) (st : List Value) (h : xH) : xf 178 579 L (.int b :: .int a :: st) h = if a = b then xf 178 1237 L st h else xf 178 582 L st h := xo_icmp_eq (t := 1237) (by decide +kernel) rfl
set_option maxRecDepth 20000 in
theorem u_L_law_582 (L : xL) (st : List Value) (h : xH) : xf 178 582 L st h = xf 178 583 L (.int 0 :: st) h := xo_iconst (k := 0) (by decide +kernel) (by decide)
set_option maxRecDepth 20000 in
theorem u_L_law_583 (L : xL) (x : Int32) (h : xH) (hv : x = 0 ∨ x = 1) : xf 178 583 L [.int x] h = some (.inl (some (.int x)), h) := xo_ireturn (n := 584) (by decide +kernel) (by rcases hv with rfl | rfl <;> rfl)
set_option maxRecDepth 20000 in
theorem u_L_law_584 (l0 l2 l3 l4 l5 l6 l7 l8 : Option Value) (x : Nat) (st : List Value) (h : xH) : xf 178 584 [l0, some (.ref x), l2, l3, l4, l5, l6, l7, l8] st h = xf 178 585 [l0, some (.ref x), l2, l3, l4, l5, l6, l7, l8] (.ref x :: st) h := xo_aload (k := 1) (by decide +kernel) rfl
set_option maxRecDepth 20000 in
theorem u_L_law_585 (L : xL) (b : Nat) (st : List Value) (h : xH) (hb : (xob h b).1 = 7) (hl : st.length ≤ 4) : xf 178 585 L (.ref b :: st) h = xgo 178 585 588 L st (xev 74 [.ref b] h) := xo_callV (as := []) (by decide +kernel) rfl ⟨(by decide +kernel : xna 74 = 0), Nat.le_of_ble_eq_true rfl, rfl, by decide⟩ hb hl
set_option maxRecDepth 20000 in
theorem u_L_law_588 (l0 l1 l3 l4 l5 l6 l7 l8 : Option Value) (x : Nat) (st : List Value) (h : xH) : xf 178 588 [l0, l1, some (.ref x), l3, l4, l5, l6, l7, l8] st h = xf 178 589 [l0, l1, some (.ref x), l3, l4, l5, l6, l7, l8] (.ref x :: st) h := xo_aload (k := 2) (by decide +kernel) rfl
set_option maxRecDepth 20000 in
theorem u_L_law_589 (L : xL) (b : Nat) (st : List Value) (h : xH) (hb : (xob h b).1 = 8) (hl : st.length ≤ 4) : xf 178 589 L (.ref b :: st) h = xgo 178 589 592 L st (xev 135 [.ref b] h) := xo_callV (as := []) (by decide +kernel) rfl ⟨(by decide +kernel : xna 135 = 0), Nat.le_of_ble_eq_true rfl, rfl, by decide⟩ hb hl
set_option maxRecDepth 20000 in
theorem u_L_law_592 (L : xL) (a b : Int32) (st : List Value) (h : xH) : xf 178 592 L (.int b :: .int a :: st) h = if a = b then xf 178 1237 L st h else xf 178 595 L st h := xo_icmp_eq (t := 1237) (by decide +kernel) rfl
set_option maxRecDepth 20000 in
theorem u_L_law_595 (L : xL) (st : List Value) (h : xH) : xf 178 595 L st h = xf 178 596 L (.int 0 :: st) h := xo_iconst (k := 0) (by decide +kernel) (by decide)
set_option maxRecDepth 20000 in
theorem u_L_law_596 (L : xL) (x : Int32) (h : xH) (hv : x = 0 ∨ x = 1) : xf 178 596 L [.int x] h = some (.inl (some (.int x)), h) := xo_ireturn (n := 597) (by decide +kernel) (by rcases hv with rfl | rfl <;> rfl)
set_option maxRecDepth 20000 in
theorem u_L_law_597 (l0 l2 l3 l4 l5 l6 l7 l8 : Option Value) (x : Nat) (st : List Value) (h : xH) : xf 178 597 [l0, some (.ref x), l2, l3, l4, l5, l6, l7, l8] st h = xf 178 598 [l0, some (.ref x), l2, l3, l4, l5, l6, l7, l8] (.ref x :: st) h := xo_aload (k := 1) (by decide +kernel) rfl
set_option maxRecDepth 20000 in
theorem u_L_law_598 (l0 l1 l2 l4 l5 l6 l7 l8 : Option Value) (x : Nat) (st : List Value) (h : xH) : xf 178 598 [l0, l1, l2, some (.ref x), l4, l5, l6, l7, l8] st h = xf 178 599 [l0, l1, l2, some (.ref x), l4, l5, l6, l7, l8] (.ref x :: st) h := xo_aload (k := 3) (by decide +kernel) rfl
set_option maxRecDepth 20000 in
theorem u_L_law_599 (L : xL) (v0 : Nat) (v1 : Nat) (st : List Value) (h : xH) (hl : st.length ≤ 4) : xf 178 599 L (.ref v1 :: .ref v0 :: st) h = xgo 178 599 602 L st (xev 168 [.ref v0, .ref v1] h) := xo_callS (as := [.ref v0, .ref v1]) (by decide +kernel) rfl ⟨(by decide +kernel : xna 168 = 2), Nat.le_of_ble_eq_true rfl, by decide⟩ hl
set_option maxRecDepth 20000 in
theorem u_L_law_602 (l0 l1 l2 l3 l4 l5 l6 l7 l8 : Option Value) (x : Int32) (st : List Value) (h : xH) : xf 178 602 [l0, l1, l2, l3, l4, l5, l6, l7, l8] (.int x :: st) h = xf 178 604 [l0, l1, l2, l3, xcat l4, some (.int x), l6, l7, l8] st h := xo_istore (k := 5) (by decide +kernel) (Nat.le_of_ble_eq_true rfl) rfl
set_option maxRecDepth 20000 in
theorem u_L_law_604 (l0 l1 l3 l4 l5 l6 l7 l8 : Option Value) (x : Nat) (st : List Value) (h : xH) : xf 178 604 [l0, l1, some (.ref x), l3, l4, l5, l6, l7, l8] st h = xf 178 605 [l0, l1, some (.ref x), l3, l4, l5, l6, l7, l8] (.ref x :: st) h := xo_aload (k := 2) (by decide +kernel) rfl
set_option maxRecDepth 20000 in
theorem u_L_law_605 (L : xL) (b : Nat) (st : List Value) (h : xH) (hb : (xob h b).1 = 8) (hl : st.length ≤ 4) : xf 178 605 L (.ref b :: st) h = xgo 178 605 608 L st (xev 136 [.ref b] h) := xo_callV (as := []) (by decide +kernel) rfl ⟨(by decide +kernel : xna 136 = 0), Nat.le_of_ble_eq_true rfl, rfl, by decide⟩ hb hl
set_option maxRecDepth 20000 in
theorem u_L_law_608 (l0 l1 l2 l3 l4 l5 l6 l7 l8 : Option Value) (x : Int32) (st : List Value) (h : xH) : xf 178 608 [l0, l1, l2, l3, l4, l5, l6, l7, l8] (.int x :: st) h = xf 178 610 [l0, l1, l2, l3, l4, xcat l5, some (.int x), l7, l8] st h := xo_istore (k := 6) (by decide +kernel) (Nat.le_of_ble_eq_true rfl) rfl
set_option maxRecDepth 20000 in
theorem u_L_law_610 (l0 l1 l3 l4 l5 l6 l7 l8 : Option Value) (x : Nat) (st : List Value) (h : xH) : xf 178 610 [l0, l1, some (.ref x), l3, l4, l5, l6, l7, l8] st h = xf 178 611 [l0, l1, some (.ref x), l3, l4, l5, l6, l7, l8] (.ref x :: st) h := xo_aload (k := 2) (by decide +kernel) rfl
set_option maxRecDepth 20000 in
theorem u_L_law_611 (L : xL) (b : Nat) (st : List Value) (h : xH) (hb : (xob h b).1 = 8) (hl : st.length ≤ 4) : xf 178 611 L (.ref b :: st) h = xgo 178 611 614 L st (xev 98 [.ref b] h) := xo_callV (as := []) (by decide +kernel) rfl ⟨(by decide +kernel : xna 98 = 0), Nat.le_of_ble_eq_true rfl, rfl, by decide⟩ hb hl
set_option maxRecDepth 20000 in
theorem u_L_law_614 (l0 l1 l2 l3 l4 l6 l7 l8 : Option Value) (x : Int32) (st : List Value) (h : xH) : xf 178 614 [l0, l1, l2, l3, l4, some (.int x), l6, l7, l8] st h = xf 178 616 [l0, l1, l2, l3, l4, some (.int x), l6, l7, l8] (.int x :: st) h := xo_iload (k := 5) (by decide +kernel) rfl
set_option maxRecDepth 20000 in
theorem u_L_law_616 (L : xL) (a b : Int32) (st : List Value) (h : xH) : xf 178 616 L (.int b :: .int a :: st) h = if a = b then xf 178 621 L st h else xf 178 619 L st h := xo_icmp_eq (t := 621) (by decide +kernel) rfl
set_option maxRecDepth 20000 in
theorem u_L_law_619 (L : xL) (st : List Value) (h : xH) : xf 178 619 L st h = xf 178 620 L (.int 0 :: st) h := xo_iconst (k := 0) (by decide +kernel) (by decide)
set_option maxRecDepth 20000 in
theorem u_L_law_620 (L : xL) (x : Int32) (h : xH) (hv : x = 0 ∨ x = 1) : xf 178 620 L [.int x] h = some (.inl (some (.int x)), h) := xo_ireturn (n := 621) (by decide +kernel) (by rcases hv with rfl | rfl <;> rfl)
set_option maxRecDepth 20000 in
theorem u_L_law_621 (l0 l1 l2 l3 l4 l6 l7 l8 : Option Value) (x : Int32) (st : List Value) (h : xH) : xf 178 621 [l0, l1, l2, l3, l4, some (.int x), l6, l7, l8] st h = xf 178 623 [l0, l1, l2, l3, l4, some (.int x), l6, l7, l8] (.int x :: st) h := xo_iload (k := 5) (by decide +kernel) rfl
set_option maxRecDepth 20000 in
theorem u_L_law_623 (L : xL) (a : Int32) (st : List Value) (h : xH) : xf 178 623 L (.int a :: st) h = if a = 0 then xf 178 626 L st h else xf 178 638 L st h := xo_if_ne (t := 638) (by decide +kernel) rfl
set_option maxRecDepth 20000 in
theorem u_L_law_626 (l0 l1 l2 l4 l5 l6 l7 l8 : Option Value) (x : Nat) (st : List Value) (h : xH) : xf 178 626 [l0, l1, l2, some (.ref x), l4, l5, l6, l7, l8] st h = xf 178 627 [l0, l1, l2, some (.ref x), l4, l5, l6, l7, l8] (.ref x :: st) h := xo_aload (k := 3) (by decide +kernel) rfl
set_option maxRecDepth 20000 in
theorem u_L_law_627 (L : xL) (st : List Value) (h : xH) : xf 178 627 L st h = xf 178 628 L (.int 0 :: st) h := xo_iconst (k := 0) (by decide +kernel) (by decide)
set_option maxRecDepth 20000 in
theorem u_L_law_628 (L : xL) (i : Int32) (a : Nat) (st : List Value) (h : xH) (hx : xix i (xal h a).1) : xf 178 628 L (.int i :: .ref a :: st) h = xf 178 629 L (.long ((xal h a).2 i.toNatClampNeg) :: st) h := xo_laload (by decide +kernel) hx
set_option maxRecDepth 20000 in
theorem u_L_law_629 (l0 l1 l2 l3 l4 l5 l7 l8 : Option Value) (x : Int32) (st : List Value) (h : xH) : xf 178 629 [l0, l1, l2, l3, l4, l5, some (.int x), l7, l8] st h = xf 178 631 [l0, l1, l2, l3, l4, l5, some (.int x), l7, l8] (.int x :: st) h := xo_iload (k := 6) (by decide +kernel) rfl
set_option maxRecDepth 20000 in
theorem u_L_law_631 (L : xL) (a : Int32) (st : List Value) (h : xH) : xf 178 631 L (.int a :: st) h = xf 178 632 L (.long a.toInt64 :: st) h := xo_i2l (by decide +kernel)
set_option maxRecDepth 20000 in
theorem u_L_law_632 (L : xL) (a b : Int64) (st : List Value) (h : xH) : xf 178 632 L (.long b :: .long a :: st) h = xf 178 633 L (.int (lg_cmp a b) :: st) h := xo_lcmp (by decide +kernel)
set_option maxRecDepth 20000 in
theorem u_L_law_633 (L : xL) (a : Int32) (st : List Value) (h : xH) : xf 178 633 L (.int a :: st) h = if a = 0 then xf 178 638 L st h else xf 178 636 L st h := xo_if_eq (t := 638) (by decide +kernel) rfl
set_option maxRecDepth 20000 in
theorem u_L_law_636 (L : xL) (st : List Value) (h : xH) : xf 178 636 L st h = xf 178 637 L (.int 0 :: st) h := xo_iconst (k := 0) (by decide +kernel) (by decide)
set_option maxRecDepth 20000 in
theorem u_L_law_637 (L : xL) (x : Int32) (h : xH) (hv : x = 0 ∨ x = 1) : xf 178 637 L [.int x] h = some (.inl (some (.int x)), h) := xo_ireturn (n := 638) (by decide +kernel) (by rcases hv with rfl | rfl <;> rfl)
set_option maxRecDepth 20000 in
theorem u_L_law_638 (L : xL) (st : List Value) (h : xH) : xf 178 638 L st h = xf 178 1237 L st h := xo_goto (n := 641) (t := 1237) (by decide +kernel) rfl
set_option maxRecDepth 20000 in
theorem u_L_law_641 (l0 l2 l3 l4 l5 l6 l7 l8 : Option Value) (x : Nat) (st : List Value) (h : xH) : xf 178 641 [l0, some (.ref x), l2, l3, l4, l5, l6, l7, l8] st h = xf 178 642 [l0, some (.ref x), l2, l3, l4, l5, l6, l7, l8] (.ref x :: st) h := xo_aload (k := 1) (by decide +kernel) rfl
set_option maxRecDepth 20000 in
theorem u_L_law_642 (l1 l2 l3 l4 l5 l6 l7 l8 : Option Value) (x : Nat) (st : List Value) (h : xH) : xf 178 642 [some (.ref x), l1, l2, l3, l4, l5, l6, l7, l8] st h = xf 178 643 [some (.ref x), l1, l2, l3, l4, l5, l6, l7, l8] (.ref x :: st) h := xo_aload (k := 0) (by decide +kernel) rfl
set_option maxRecDepth 20000 in
theorem u_L_law_643 (l0 l1 l2 l3 l5 l6 l7 l8 : Option Value) (x : Int32) (st : List Value) (h : xH) : xf 178 643 [l0, l1, l2, l3, some (.int x), l5, l6, l7, l8] st h = xf 178 645 [l0, l1, l2, l3, some (.int x), l5, l6, l7, l8] (.int x :: st) h := xo_iload (k := 4) (by decide +kernel) rfl
set_option maxRecDepth 20000 in
theorem u_L_law_645 (L : xL) (st : List Value) (h : xH) : xf 178 645 L st h = xf 178 646 L (.int 1 :: st) h := xo_iconst (k := 1) (by decide +kernel) (by decide)
set_option maxRecDepth 20000 in
theorem u_L_law_646 (L : xL) (a b : Int32) (st : List Value) (h : xH) : xf 178 646 L (.int b :: .int a :: st) h = xf 178 647 L (.int (a + b) :: st) h := xo_iadd (by decide +kernel)
set_option maxRecDepth 20000 in
theorem u_L_law_647 (L : xL) (i : Int32) (a : Nat) (st : List Value) (h : xH) (hx : xix i (xa3 h a).1) : xf 178 647 L (.int i :: .ref a :: st) h = xf 178 648 L (.int ((xa3 h a).2 i.toNatClampNeg) :: st) h := xo_iaload3 (by decide +kernel) hx
set_option maxRecDepth 20000 in
theorem u_L_law_648 (l0 l1 l2 l4 l5 l6 l7 l8 : Option Value) (x : Nat) (st : List Value) (h : xH) : xf 178 648 [l0, l1, l2, some (.ref x), l4, l5, l6, l7, l8] st h = xf 178 649 [l0, l1, l2, some (.ref x), l4, l5, l6, l7, l8] (.ref x :: st) h := xo_aload (k := 3) (by decide +kernel) rfl
set_option maxRecDepth 20000 in
theorem u_L_law_649 (L : xL) (v0 : Nat) (v1 : Int32) (v2 : Nat) (st : List Value) (h : xH) (hl : st.length ≤ 4) : xf 178 649 L (.ref v2 :: .int v1 :: .ref v0 :: st) h = xgo 178 649 652 L st (xev 169 [.ref v0, .int v1, .ref v2] h) := xo_callS (as := [.ref v0, .int v1, .ref v2]) (by decide +kernel) rfl ⟨(by decide +kernel : xna 169 = 3), Nat.le_of_ble_eq_true rfl, by decide⟩ hl
set_option maxRecDepth 20000 in
theorem u_L_law_652 (l0 l1 l2 l3 l4 l5 l6 l7 l8 : Option Value) (x : Int32) (st : List Value) (h : xH) : xf 178 652 [l0, l1, l2, l3, l4, l5, l6, l7, l8] (.int x :: st) h = xf 178 654 [l0, l1, l2, l3, xcat l4, some (.int x), l6, l7, l8] st h := xo_istore (k := 5) (by decide +kernel) (Nat.le_of_ble_eq_true rfl) rfl
set_option maxRecDepth 20000 in
theorem u_L_law_654 (l0 l1 l3 l4 l5 l6 l7 l8 : Option Value) (x : Nat) (st : List Value) (h : xH) : xf 178 654 [l0, l1, some (.ref x), l3, l4, l5, l6, l7, l8] st h = xf 178 655 [l0, l1, some (.ref x), l3, l4, l5, l6, l7, l8] (.ref x :: st) h := xo_aload (k := 2) (by decide +kernel) rfl
set_option maxRecDepth 20000 in
theorem u_L_law_655 (l1 l2 l3 l4 l5 l6 l7 l8 : Option Value) (x : Nat) (st : List Value) (h : xH) : xf 178 655 [some (.ref x), l1, l2, l3, l4, l5, l6, l7, l8] st h = xf 178 656 [some (.ref x), l1, l2, l3, l4, l5, l6, l7, l8] (.ref x :: st) h := xo_aload (k := 0) (by decide +kernel) rfl
set_option maxRecDepth 20000 in
theorem u_L_law_656 (l0 l1 l2 l3 l5 l6 l7 l8 : Option Value) (x : Int32) (st : List Value) (h : xH) : xf 178 656 [l0, l1, l2, l3, some (.int x), l5, l6, l7, l8] st h = xf 178 658 [l0, l1, l2, l3, some (.int x), l5, l6, l7, l8] (.int x :: st) h := xo_iload (k := 4) (by decide +kernel) rfl
set_option maxRecDepth 20000 in
theorem u_L_law_658 (L : xL) (st : List Value) (h : xH) : xf 178 658 L st h = xf 178 659 L (.int 1 :: st) h := xo_iconst (k := 1) (by decide +kernel) (by decide)
set_option maxRecDepth 20000 in
theorem u_L_law_659 (L : xL) (a b : Int32) (st : List Value) (h : xH) : xf 178 659 L (.int b :: .int a :: st) h = xf 178 660 L (.int (a + b) :: st) h := xo_iadd (by decide +kernel)
set_option maxRecDepth 20000 in
theorem u_L_law_660 (L : xL) (i : Int32) (a : Nat) (st : List Value) (h : xH) (hx : xix i (xa3 h a).1) : xf 178 660 L (.int i :: .ref a :: st) h = xf 178 661 L (.int ((xa3 h a).2 i.toNatClampNeg) :: st) h := xo_iaload3 (by decide +kernel) hx
set_option maxRecDepth 20000 in
theorem u_L_law_661 (L : xL) (v0 : Int32) (b : Nat) (st : List Value) (h : xH) (hb : (xob h b).1 = 8) (hl : st.length ≤ 4) : xf 178 661 L (.int v0 :: .ref b :: st) h = xgo 178 661 664 L st (xev 137 [.ref b, .int v0] h) := xo_callV (as := [.int v0]) (by decide +kernel) rfl ⟨(by decide +kernel : xna 137 = 1), Nat.le_of_ble_eq_true rfl, rfl, by decide⟩ hb hl
set_option maxRecDepth 20000 in
theorem u_L_law_664 (l0 l1 l2 l3 l4 l5 l6 l7 l8 : Option Value) (x : Int32) (st : List Value) (h : xH) : xf 178 664 [l0, l1, l2, l3, l4, l5, l6, l7, l8] (.int x :: st) h = xf 178 666 [l0, l1, l2, l3, l4, xcat l5, some (.int x), l7, l8] st h := xo_istore (k := 6) (by decide +kernel) (Nat.le_of_ble_eq_true rfl) rfl
set_option maxRecDepth 20000 in
theorem u_L_law_666 (l0 l1 l3 l4 l5 l6 l7 l8 : Option Value) (x : Nat) (st : List Value) (h : xH) : xf 178 666 [l0, l1, some (.ref x), l3, l4, l5, l6, l7, l8] st h = xf 178 667 [l0, l1, some (.ref x), l3, l4, l5, l6, l7, l8] (.ref x :: st) h := xo_aload (k := 2) (by decide +kernel) rfl
set_option maxRecDepth 20000 in
theorem u_L_law_667 (L : xL) (b : Nat) (st : List Value) (h : xH) (hb : (xob h b).1 = 8) (hl : st.length ≤ 4) : xf 178 667 L (.ref b :: st) h = xgo 178 667 670 L st (xev 98 [.ref b] h) := xo_callV (as := []) (by decide +kernel) rfl ⟨(by decide +kernel : xna 98 = 0), Nat.le_of_ble_eq_true rfl, rfl, by decide⟩ hb hl
set_option maxRecDepth 20000 in
theorem u_L_law_670 (l0 l1 l2 l3 l4 l6 l7 l8 : Option Value) (x : Int32) (st : List Value) (h : xH) : xf 178 670 [l0, l1, l2, l3, l4, some (.int x), l6, l7, l8] st h = xf 178 672 [l0, l1, l2, l3, l4, some (.int x), l6, l7, l8] (.int x :: st) h := xo_iload (k := 5) (by decide +kernel) rfl
set_option maxRecDepth 20000 in
theorem u_L_law_672 (L : xL) (a b : Int32) (st : List Value) (h : xH) : xf 178 672 L (.int b :: .int a :: st) h = if a = b then xf 178 677 L st h else xf 178 675 L st h := xo_icmp_eq (t := 677) (by decide +kernel) rfl
set_option maxRecDepth 20000 in
theorem u_L_law_675 (L : xL) (st : List Value) (h : xH) : xf 178 675 L st h = xf 178 676 L (.int 0 :: st) h := xo_iconst (k := 0) (by decide +kernel) (by decide)
set_option maxRecDepth 20000 in
theorem u_L_law_676 (L : xL) (x : Int32) (h : xH) (hv : x = 0 ∨ x = 1) : xf 178 676 L [.int x] h = some (.inl (some (.int x)), h) := xo_ireturn (n := 677) (by decide +kernel) (by rcases hv with rfl | rfl <;> rfl)
set_option maxRecDepth 20000 in
theorem u_L_law_677 (l0 l1 l2 l3 l4 l6 l7 l8 : Option Value) (x : Int32) (st : List Value) (h : xH) : xf 178 677 [l0, l1, l2, l3, l4, some (.int x), l6, l7, l8] st h = xf 178 679 [l0, l1, l2, l3, l4, some (.int x), l6, l7, l8] (.int x :: st) h := xo_iload (k := 5) (by decide +kernel) rfl
set_option maxRecDepth 20000 in
theorem u_L_law_679 (L : xL) (a : Int32) (st : List Value) (h : xH) : xf 178 679 L (.int a :: st) h = if a = 0 then xf 178 682 L st h else xf 178 694 L st h := xo_if_ne (t := 694) (by decide +kernel) rfl
set_option maxRecDepth 20000 in
theorem u_L_law_682 (l0 l1 l2 l4 l5 l6 l7 l8 : Option Value) (x : Nat) (st : List Value) (h : xH) : xf 178 682 [l0, l1, l2, some (.ref x), l4, l5, l6, l7, l8] st h = xf 178 683 [l0, l1, l2, some (.ref x), l4, l5, l6, l7, l8] (.ref x :: st) h := xo_aload (k := 3) (by decide +kernel) rfl
set_option maxRecDepth 20000 in
theorem u_L_law_683 (L : xL) (st : List Value) (h : xH) : xf 178 683 L st h = xf 178 684 L (.int 0 :: st) h := xo_iconst (k := 0) (by decide +kernel) (by decide)
set_option maxRecDepth 20000 in
theorem u_L_law_684 (L : xL) (i : Int32) (a : Nat) (st : List Value) (h : xH) (hx : xix i (xal h a).1) : xf 178 684 L (.int i :: .ref a :: st) h = xf 178 685 L (.long ((xal h a).2 i.toNatClampNeg) :: st) h := xo_laload (by decide +kernel) hx
set_option maxRecDepth 20000 in
theorem u_L_law_685 (l0 l1 l2 l3 l4 l5 l7 l8 : Option Value) (x : Int32) (st : List Value) (h : xH) : xf 178 685 [l0, l1, l2, l3, l4, l5, some (.int x), l7, l8] st h = xf 178 687 [l0, l1, l2, l3, l4, l5, some (.int x), l7, l8] (.int x :: st) h := xo_iload (k := 6) (by decide +kernel) rfl
set_option maxRecDepth 20000 in
theorem u_L_law_687 (L : xL) (a : Int32) (st : List Value) (h : xH) : xf 178 687 L (.int a :: st) h = xf 178 688 L (.long a.toInt64 :: st) h := xo_i2l (by decide +kernel)
set_option maxRecDepth 20000 in
theorem u_L_law_688 (L : xL) (a b : Int64) (st : List Value) (h : xH) : xf 178 688 L (.long b :: .long a :: st) h = xf 178 689 L (.int (lg_cmp a b) :: st) h := xo_lcmp (by decide +kernel)
set_option maxRecDepth 20000 in
theorem u_L_law_689 (L : xL) (a : Int32) (st : List Value) (h : xH) : xf 178 689 L (.int a :: st) h = if a = 0 then xf 178 694 L st h else xf 178 692 L st h := xo_if_eq (t := 694) (by decide +kernel) rfl
set_option maxRecDepth 20000 in
theorem u_L_law_692 (L : xL) (st : List Value) (h : xH) : xf 178 692 L st h = xf 178 693 L (.int 0 :: st) h := xo_iconst (k := 0) (by decide +kernel) (by decide)
set_option maxRecDepth 20000 in
theorem u_L_law_693 (L : xL) (x : Int32) (h : xH) (hv : x = 0 ∨ x = 1) : xf 178 693 L [.int x] h = some (.inl (some (.int x)), h) := xo_ireturn (n := 694) (by decide +kernel) (by rcases hv with rfl | rfl <;> rfl)
set_option maxRecDepth 20000 in
theorem u_L_law_694 (L : xL) (st : List Value) (h : xH) : xf 178 694 L st h = xf 178 1237 L st h := xo_goto (n := 697) (t := 1237) (by decide +kernel) rfl
set_option maxRecDepth 20000 in
theorem u_L_law_697 (l0 l2 l3 l4 l5 l6 l7 l8 : Option Value) (x : Nat) (st : List Value) (h : xH) : xf 178 697 [l0, some (.ref x), l2, l3, l4, l5, l6, l7, l8] st h = xf 178 698 [l0, some (.ref x), l2, l3, l4, l5, l6, l7, l8] (.ref x :: st) h := xo_aload (k := 1) (by decide +kernel) rfl
set_option maxRecDepth 20000 in
theorem u_L_law_698 (l1 l2 l3 l4 l5 l6 l7 l8 : Option Value) (x : Nat) (st : List Value) (h : xH) : xf 178 698 [some (.ref x), l1, l2, l3, l4, l5, l6, l7, l8] st h = xf 178 699 [some (.ref x), l1, l2, l3, l4, l5, l6, l7, l8] (.ref x :: st) h := xo_aload (k := 0) (by decide +kernel) rfl
set_option maxRecDepth 20000 in
theorem u_L_law_699 (l0 l1 l2 l3 l5 l6 l7 l8 : Option Value) (x : Int32) (st : List Value) (h : xH) : xf 178 699 [l0, l1, l2, l3, some (.int x), l5, l6, l7, l8] st h = xf 178 701 [l0, l1, l2, l3, some (.int x), l5, l6, l7, l8] (.int x :: st) h := xo_iload (k := 4) (by decide +kernel) rfl
set_option maxRecDepth 20000 in
theorem u_L_law_701 (L : xL) (st : List Value) (h : xH) : xf 178 701 L st h = xf 178 702 L (.int 1 :: st) h := xo_iconst (k := 1) (by decide +kernel) (by decide)
set_option maxRecDepth 20000 in
theorem u_L_law_702 (L : xL) (a b : Int32) (st : List Value) (h : xH) : xf 178 702 L (.int b :: .int a :: st) h = xf 178 703 L (.int (a + b) :: st) h := xo_iadd (by decide +kernel)
set_option maxRecDepth 20000 in
theorem u_L_law_703 (L : xL) (i : Int32) (a : Nat) (st : List Value) (h : xH) (hx : xix i (xa3 h a).1) : xf 178 703 L (.int i :: .ref a :: st) h = xf 178 704 L (.int ((xa3 h a).2 i.toNatClampNeg) :: st) h := xo_iaload3 (by decide +kernel) hx
set_option maxRecDepth 20000 in
theorem u_L_law_704 (l0 l1 l2 l4 l5 l6 l7 l8 : Option Value) (x : Nat) (st : List Value) (h : xH) : xf 178 704 [l0, l1, l2, some (.ref x), l4, l5, l6, l7, l8] st h = xf 178 705 [l0, l1, l2, some (.ref x), l4, l5, l6, l7, l8] (.ref x :: st) h := xo_aload (k := 3) (by decide +kernel) rfl
set_option maxRecDepth 20000 in
theorem u_L_law_705 (L : xL) (v0 : Nat) (v1 : Int32) (v2 : Nat) (st : List Value) (h : xH) (hl : st.length ≤ 4) : xf 178 705 L (.ref v2 :: .int v1 :: .ref v0 :: st) h = xgo 178 705 708 L st (xev 170 [.ref v0, .int v1, .ref v2] h) := xo_callS (as := [.ref v0, .int v1, .ref v2]) (by decide +kernel) rfl ⟨(by decide +kernel : xna 170 = 3), Nat.le_of_ble_eq_true rfl, by decide⟩ hl
set_option maxRecDepth 20000 in
theorem u_L_law_708 (l0 l1 l2 l3 l4 l5 l6 l7 l8 : Option Value) (x : Int32) (st : List Value) (h : xH) : xf 178 708 [l0, l1, l2, l3, l4, l5, l6, l7, l8] (.int x :: st) h = xf 178 710 [l0, l1, l2, l3, xcat l4, some (.int x), l6, l7, l8] st h := xo_istore (k := 5) (by decide +kernel) (Nat.le_of_ble_eq_true rfl) rfl
set_option maxRecDepth 20000 in
theorem u_L_law_710 (l0 l1 l3 l4 l5 l6 l7 l8 : Option Value) (x : Nat) (st : List Value) (h : xH) : xf 178 710 [l0, l1, some (.ref x), l3, l4, l5, l6, l7, l8] st h = xf 178 711 [l0, l1, some (.ref x), l3, l4, l5, l6, l7, l8] (.ref x :: st) h := xo_aload (k := 2) (by decide +kernel) rfl
set_option maxRecDepth 20000 in
theorem u_L_law_711 (l1 l2 l3 l4 l5 l6 l7 l8 : Option Value) (x : Nat) (st : List Value) (h : xH) : xf 178 711 [some (.ref x), l1, l2, l3, l4, l5, l6, l7, l8] st h = xf 178 712 [some (.ref x), l1, l2, l3, l4, l5, l6, l7, l8] (.ref x :: st) h := xo_aload (k := 0) (by decide +kernel) rfl
set_option maxRecDepth 20000 in
theorem u_L_law_712 (l0 l1 l2 l3 l5 l6 l7 l8 : Option Value) (x : Int32) (st : List Value) (h : xH) : xf 178 712 [l0, l1, l2, l3, some (.int x), l5, l6, l7, l8] st h = xf 178 714 [l0, l1, l2, l3, some (.int x), l5, l6, l7, l8] (.int x :: st) h := xo_iload (k := 4) (by decide +kernel) rfl
set_option maxRecDepth 20000 in
theorem u_L_law_714 (L : xL) (st : List Value) (h : xH) : xf 178 714 L st h = xf 178 715 L (.int 1 :: st) h := xo_iconst (k := 1) (by decide +kernel) (by decide)
set_option maxRecDepth 20000 in
theorem u_L_law_715 (L : xL) (a b : Int32) (st : List Value) (h : xH) : xf 178 715 L (.int b :: .int a :: st) h = xf 178 716 L (.int (a + b) :: st) h := xo_iadd (by decide +kernel)
set_option maxRecDepth 20000 in
theorem u_L_law_716 (L : xL) (i : Int32) (a : Nat) (st : List Value) (h : xH) (hx : xix i (xa3 h a).1) : xf 178 716 L (.int i :: .ref a :: st) h = xf 178 717 L (.int ((xa3 h a).2 i.toNatClampNeg) :: st) h := xo_iaload3 (by decide +kernel) hx
set_option maxRecDepth 20000 in
theorem u_L_law_717 (L : xL) (v0 : Int32) (b : Nat) (st : List Value) (h : xH) (hb : (xob h b).1 = 8) (hl : st.length ≤ 4) : xf 178 717 L (.int v0 :: .ref b :: st) h = xgo 178 717 720 L st (xev 138 [.ref b, .int v0] h) := xo_callV (as := [.int v0]) (by decide +kernel) rfl ⟨(by decide +kernel : xna 138 = 1), Nat.le_of_ble_eq_true rfl, rfl, by decide⟩ hb hl
set_option maxRecDepth 20000 in
theorem u_L_law_720 (l0 l1 l2 l3 l4 l5 l6 l7 l8 : Option Value) (x : Int32) (st : List Value) (h : xH) : xf 178 720 [l0, l1, l2, l3, l4, l5, l6, l7, l8] (.int x :: st) h = xf 178 722 [l0, l1, l2, l3, l4, xcat l5, some (.int x), l7, l8] st h := xo_istore (k := 6) (by decide +kernel) (Nat.le_of_ble_eq_true rfl) rfl
set_option maxRecDepth 20000 in
theorem u_L_law_722 (l0 l1 l3 l4 l5 l6 l7 l8 : Option Value) (x : Nat) (st : List Value) (h : xH) : xf 178 722 [l0, l1, some (.ref x), l3, l4, l5, l6, l7, l8] st h = xf 178 723 [l0, l1, some (.ref x), l3, l4, l5, l6, l7, l8] (.ref x :: st) h := xo_aload (k := 2) (by decide +kernel) rfl
set_option maxRecDepth 20000 in
theorem u_L_law_723 (L : xL) (b : Nat) (st : List Value) (h : xH) (hb : (xob h b).1 = 8) (hl : st.length ≤ 4) : xf 178 723 L (.ref b :: st) h = xgo 178 723 726 L st (xev 98 [.ref b] h) := xo_callV (as := []) (by decide +kernel) rfl ⟨(by decide +kernel : xna 98 = 0), Nat.le_of_ble_eq_true rfl, rfl, by decide⟩ hb hl
set_option maxRecDepth 20000 in
theorem u_L_law_726 (l0 l1 l2 l3 l4 l6 l7 l8 : Option Value) (x : Int32) (st : List Value) (h : xH) : xf 178 726 [l0, l1, l2, l3, l4, some (.int x), l6, l7, l8] st h = xf 178 728 [l0, l1, l2, l3, l4, some (.int x), l6, l7, l8] (.int x :: st) h := xo_iload (k := 5) (by decide +kernel) rfl
set_option maxRecDepth 20000 in
theorem u_L_law_728 (L : xL) (a b : Int32) (st : List Value) (h : xH) : xf 178 728 L (.int b :: .int a :: st) h = if a = b then xf 178 733 L st h else xf 178 731 L st h := xo_icmp_eq (t := 733) (by decide +kernel) rfl
set_option maxRecDepth 20000 in
theorem u_L_law_731 (L : xL) (st : List Value) (h : xH) : xf 178 731 L st h = xf 178 732 L (.int 0 :: st) h := xo_iconst (k := 0) (by decide +kernel) (by decide)
set_option maxRecDepth 20000 in
theorem u_L_law_732 (L : xL) (x : Int32) (h : xH) (hv : x = 0 ∨ x = 1) : xf 178 732 L [.int x] h = some (.inl (some (.int x)), h) := xo_ireturn (n := 733) (by decide +kernel) (by rcases hv with rfl | rfl <;> rfl)
set_option maxRecDepth 20000 in
theorem u_L_law_733 (l0 l1 l2 l3 l4 l6 l7 l8 : Option Value) (x : Int32) (st : List Value) (h : xH) : xf 178 733 [l0, l1, l2, l3, l4, some (.int x), l6, l7, l8] st h = xf 178 735 [l0, l1, l2, l3, l4, some (.int x), l6, l7, l8] (.int x :: st) h := xo_iload (k := 5) (by decide +kernel) rfl
set_option maxRecDepth 20000 in
theorem u_L_law_735 (L : xL) (a : Int32) (st : List Value) (h : xH) : xf 178 735 L (.int a :: st) h = if a = 0 then xf 178 738 L st h else xf 178 750 L st h := xo_if_ne (t := 750) (by decide +kernel) rfl
set_option maxRecDepth 20000 in
theorem u_L_law_738 (l0 l1 l2 l4 l5 l6 l7 l8 : Option Value) (x : Nat) (st : List Value) (h : xH) : xf 178 738 [l0, l1, l2, some (.ref x), l4, l5, l6, l7, l8] st h = xf 178 739 [l0, l1, l2, some (.ref x), l4, l5, l6, l7, l8] (.ref x :: st) h := xo_aload (k := 3) (by decide +kernel) rfl
set_option maxRecDepth 20000 in
theorem u_L_law_739 (L : xL) (st : List Value) (h : xH) : xf 178 739 L st h = xf 178 740 L (.int 0 :: st) h := xo_iconst (k := 0) (by decide +kernel) (by decide)
set_option maxRecDepth 20000 in
theorem u_L_law_740 (L : xL) (i : Int32) (a : Nat) (st : List Value) (h : xH) (hx : xix i (xal h a).1) : xf 178 740 L (.int i :: .ref a :: st) h = xf 178 741 L (.long ((xal h a).2 i.toNatClampNeg) :: st) h := xo_laload (by decide +kernel) hx
set_option maxRecDepth 20000 in
theorem u_L_law_741 (l0 l1 l2 l3 l4 l5 l7 l8 : Option Value) (x : Int32) (st : List Value) (h : xH) : xf 178 741 [l0, l1, l2, l3, l4, l5, some (.int x), l7, l8] st h = xf 178 743 [l0, l1, l2, l3, l4, l5, some (.int x), l7, l8] (.int x :: st) h := xo_iload (k := 6) (by decide +kernel) rfl
set_option maxRecDepth 20000 in
theorem u_L_law_743 (L : xL) (a : Int32) (st : List Value) (h : xH) : xf 178 743 L (.int a :: st) h = xf 178 744 L (.long a.toInt64 :: st) h := xo_i2l (by decide +kernel)
set_option maxRecDepth 20000 in
theorem u_L_law_744 (L : xL) (a b : Int64) (st : List Value) (h : xH) : xf 178 744 L (.long b :: .long a :: st) h = xf 178 745 L (.int (lg_cmp a b) :: st) h := xo_lcmp (by decide +kernel)
set_option maxRecDepth 20000 in
theorem u_L_law_745 (L : xL) (a : Int32) (st : List Value) (h : xH) : xf 178 745 L (.int a :: st) h = if a = 0 then xf 178 750 L st h else xf 178 748 L st h := xo_if_eq (t := 750) (by decide +kernel) rfl
set_option maxRecDepth 20000 in
theorem u_L_law_748 (L : xL) (st : List Value) (h : xH) : xf 178 748 L st h = xf 178 749 L (.int 0 :: st) h := xo_iconst (k := 0) (by decide +kernel) (by decide)
set_option maxRecDepth 20000 in
theorem u_L_law_749 (L : xL) (x : Int32) (h : xH) (hv : x = 0 ∨ x = 1) : xf 178 749 L [.int x] h = some (.inl (some (.int x)), h) := xo_ireturn (n := 750) (by decide +kernel) (by rcases hv with rfl | rfl <;> rfl)
set_option maxRecDepth 20000 in
theorem u_L_law_750 (L : xL) (st : List Value) (h : xH) : xf 178 750 L st h = xf 178 1237 L st h := xo_goto (n := 753) (t := 1237) (by decide +kernel) rfl
set_option maxRecDepth 20000 in
theorem u_L_law_753 (l0 l2 l3 l4 l5 l6 l7 l8 : Option Value) (x : Nat) (st : List Value) (h : xH) : xf 178 753 [l0, some (.ref x), l2, l3, l4, l5, l6, l7, l8] st h = xf 178 754 [l0, some (.ref x), l2, l3, l4, l5, l6, l7, l8] (.ref x :: st) h := xo_aload (k := 1) (by decide +kernel) rfl
set_option maxRecDepth 20000 in
theorem u_L_law_754 (l1 l2 l3 l4 l5 l6 l7 l8 : Option Value) (x : Nat) (st : List Value) (h : xH) : xf 178 754 [some (.ref x), l1, l2, l3, l4, l5, l6, l7, l8] st h = xf 178 755 [some (.ref x), l1, l2, l3, l4, l5, l6, l7, l8] (.ref x :: st) h := xo_aload (k := 0) (by decide +kernel) rfl
set_option maxRecDepth 20000 in
theorem u_L_law_755 (l0 l1 l2 l3 l5 l6 l7 l8 : Option Value) (x : Int32) (st : List Value) (h : xH) : xf 178 755 [l0, l1, l2, l3, some (.int x), l5, l6, l7, l8] st h = xf 178 757 [l0, l1, l2, l3, some (.int x), l5, l6, l7, l8] (.int x :: st) h := xo_iload (k := 4) (by decide +kernel) rfl
set_option maxRecDepth 20000 in
theorem u_L_law_757 (L : xL) (st : List Value) (h : xH) : xf 178 757 L st h = xf 178 758 L (.int 1 :: st) h := xo_iconst (k := 1) (by decide +kernel) (by decide)
set_option maxRecDepth 20000 in
theorem u_L_law_758 (L : xL) (a b : Int32) (st : List Value) (h : xH) : xf 178 758 L (.int b :: .int a :: st) h = xf 178 759 L (.int (a + b) :: st) h := xo_iadd (by decide +kernel)
set_option maxRecDepth 20000 in
theorem u_L_law_759 (L : xL) (i : Int32) (a : Nat) (st : List Value) (h : xH) (hx : xix i (xa3 h a).1) : xf 178 759 L (.int i :: .ref a :: st) h = xf 178 760 L (.int ((xa3 h a).2 i.toNatClampNeg) :: st) h := xo_iaload3 (by decide +kernel) hx
set_option maxRecDepth 20000 in
theorem u_L_law_760 (l1 l2 l3 l4 l5 l6 l7 l8 : Option Value) (x : Nat) (st : List Value) (h : xH) : xf 178 760 [some (.ref x), l1, l2, l3, l4, l5, l6, l7, l8] st h = xf 178 761 [some (.ref x), l1, l2, l3, l4, l5, l6, l7, l8] (.ref x :: st) h := xo_aload (k := 0) (by decide +kernel) rfl
set_option maxRecDepth 20000 in
theorem u_L_law_761 (l0 l1 l2 l3 l5 l6 l7 l8 : Option Value) (x : Int32) (st : List Value) (h : xH) : xf 178 761 [l0, l1, l2, l3, some (.int x), l5, l6, l7, l8] st h = xf 178 763 [l0, l1, l2, l3, some (.int x), l5, l6, l7, l8] (.int x :: st) h := xo_iload (k := 4) (by decide +kernel) rfl
set_option maxRecDepth 20000 in
theorem u_L_law_763 (L : xL) (st : List Value) (h : xH) : xf 178 763 L st h = xf 178 764 L (.int 2 :: st) h := xo_iconst (k := 2) (by decide +kernel) (by decide)
set_option maxRecDepth 20000 in
theorem u_L_law_764 (L : xL) (a b : Int32) (st : List Value) (h : xH) : xf 178 764 L (.int b :: .int a :: st) h = xf 178 765 L (.int (a + b) :: st) h := xo_iadd (by decide +kernel)
set_option maxRecDepth 20000 in
theorem u_L_law_765 (L : xL) (i : Int32) (a : Nat) (st : List Value) (h : xH) (hx : xix i (xa3 h a).1) : xf 178 765 L (.int i :: .ref a :: st) h = xf 178 766 L (.int ((xa3 h a).2 i.toNatClampNeg) :: st) h := xo_iaload3 (by decide +kernel) hx
set_option maxRecDepth 20000 in
theorem u_L_law_766 (l0 l1 l2 l4 l5 l6 l7 l8 : Option Value) (x : Nat) (st : List Value) (h : xH) : xf 178 766 [l0, l1, l2, some (.ref x), l4, l5, l6, l7, l8] st h = xf 178 767 [l0, l1, l2, some (.ref x), l4, l5, l6, l7, l8] (.ref x :: st) h := xo_aload (k := 3) (by decide +kernel) rfl
set_option maxRecDepth 20000 in
theorem u_L_law_767 (L : xL) (v0 : Nat) (v1 : Int32) (v2 : Int32) (v3 : Nat) (st : List Value) (h : xH) (hl : st.length ≤ 4) : xf 178 767 L (.ref v3 :: .int v2 :: .int v1 :: .ref v0 :: st) h = xgo 178 767 770 L st (xev 171 [.ref v0, .int v1, .int v2, .ref v3] h) := xo_callS (as := [.ref v0, .int v1, .int v2, .ref v3]) (by decide +kernel) rfl ⟨(by decide +kernel : xna 171 = 4), Nat.le_of_ble_eq_true rfl, by decide⟩ hl
set_option maxRecDepth 20000 in
theorem u_L_law_770 (l0 l1 l2 l3 l4 l5 l6 l7 l8 : Option Value) (x : Int32) (st : List Value) (h : xH) : xf 178 770 [l0, l1, l2, l3, l4, l5, l6, l7, l8] (.int x :: st) h = xf 178 772 [l0, l1, l2, l3, xcat l4, some (.int x), l6, l7, l8] st h := xo_istore (k := 5) (by decide +kernel) (Nat.le_of_ble_eq_true rfl) rfl
set_option maxRecDepth 20000 in
theorem u_L_law_772 (l0 l1 l3 l4 l5 l6 l7 l8 : Option Value) (x : Nat) (st : List Value) (h : xH) : xf 178 772 [l0, l1, some (.ref x), l3, l4, l5, l6, l7, l8] st h = xf 178 773 [l0, l1, some (.ref x), l3, l4, l5, l6, l7, l8] (.ref x :: st) h := xo_aload (k := 2) (by decide +kernel) rfl
set_option maxRecDepth 20000 in
theorem u_L_law_773 (l1 l2 l3 l4 l5 l6 l7 l8 : Option Value) (x : Nat) (st : List Value) (h : xH) : xf 178 773 [some (.ref x), l1, l2, l3, l4, l5, l6, l7, l8] st h = xf 178 774 [some (.ref x), l1, l2, l3, l4, l5, l6, l7, l8] (.ref x :: st) h := xo_aload (k := 0) (by decide +kernel) rfl
set_option maxRecDepth 20000 in
theorem u_L_law_774 (l0 l1 l2 l3 l5 l6 l7 l8 : Option Value) (x : Int32) (st : List Value) (h : xH) : xf 178 774 [l0, l1, l2, l3, some (.int x), l5, l6, l7, l8] st h = xf 178 776 [l0, l1, l2, l3, some (.int x), l5, l6, l7, l8] (.int x :: st) h := xo_iload (k := 4) (by decide +kernel) rfl
set_option maxRecDepth 20000 in
theorem u_L_law_776 (L : xL) (st : List Value) (h : xH) : xf 178 776 L st h = xf 178 777 L (.int 1 :: st) h := xo_iconst (k := 1) (by decide +kernel) (by decide)
set_option maxRecDepth 20000 in
theorem u_L_law_777 (L : xL) (a b : Int32) (st : List Value) (h : xH) : xf 178 777 L (.int b :: .int a :: st) h = xf 178 778 L (.int (a + b) :: st) h := xo_iadd (by decide +kernel)
set_option maxRecDepth 20000 in
theorem u_L_law_778 (L : xL) (i : Int32) (a : Nat) (st : List Value) (h : xH) (hx : xix i (xa3 h a).1) : xf 178 778 L (.int i :: .ref a :: st) h = xf 178 779 L (.int ((xa3 h a).2 i.toNatClampNeg) :: st) h := xo_iaload3 (by decide +kernel) hx
set_option maxRecDepth 20000 in
theorem u_L_law_779 (l1 l2 l3 l4 l5 l6 l7 l8 : Option Value) (x : Nat) (st : List Value) (h : xH) : xf 178 779 [some (.ref x), l1, l2, l3, l4, l5, l6, l7, l8] st h = xf 178 780 [some (.ref x), l1, l2, l3, l4, l5, l6, l7, l8] (.ref x :: st) h := xo_aload (k := 0) (by decide +kernel) rfl
set_option maxRecDepth 20000 in
theorem u_L_law_780 (l0 l1 l2 l3 l5 l6 l7 l8 : Option Value) (x : Int32) (st : List Value) (h : xH) : xf 178 780 [l0, l1, l2, l3, some (.int x), l5, l6, l7, l8] st h = xf 178 782 [l0, l1, l2, l3, some (.int x), l5, l6, l7, l8] (.int x :: st) h := xo_iload (k := 4) (by decide +kernel) rfl
set_option maxRecDepth 20000 in
theorem u_L_law_782 (L : xL) (st : List Value) (h : xH) : xf 178 782 L st h = xf 178 783 L (.int 2 :: st) h := xo_iconst (k := 2) (by decide +kernel) (by decide)
set_option maxRecDepth 20000 in
theorem u_L_law_783 (L : xL) (a b : Int32) (st : List Value) (h : xH) : xf 178 783 L (.int b :: .int a :: st) h = xf 178 784 L (.int (a + b) :: st) h := xo_iadd (by decide +kernel)
set_option maxRecDepth 20000 in
theorem u_L_law_784 (L : xL) (i : Int32) (a : Nat) (st : List Value) (h : xH) (hx : xix i (xa3 h a).1) : xf 178 784 L (.int i :: .ref a :: st) h = xf 178 785 L (.int ((xa3 h a).2 i.toNatClampNeg) :: st) h := xo_iaload3 (by decide +kernel) hx
set_option maxRecDepth 20000 in
theorem u_L_law_785 (L : xL) (v0 : Int32) (v1 : Int32) (b : Nat) (st : List Value) (h : xH) (hb : (xob h b).1 = 8) (hl : st.length ≤ 4) : xf 178 785 L (.int v1 :: .int v0 :: .ref b :: st) h = xgo 178 785 788 L st (xev 140 [.ref b, .int v0, .int v1] h) := xo_callV (as := [.int v0, .int v1]) (by decide +kernel) rfl ⟨(by decide +kernel : xna 140 = 2), Nat.le_of_ble_eq_true rfl, rfl, by decide⟩ hb hl
set_option maxRecDepth 20000 in
theorem u_L_law_788 (l0 l1 l2 l3 l4 l5 l6 l7 l8 : Option Value) (x : Int32) (st : List Value) (h : xH) : xf 178 788 [l0, l1, l2, l3, l4, l5, l6, l7, l8] (.int x :: st) h = xf 178 790 [l0, l1, l2, l3, l4, xcat l5, some (.int x), l7, l8] st h := xo_istore (k := 6) (by decide +kernel) (Nat.le_of_ble_eq_true rfl) rfl
set_option maxRecDepth 20000 in
theorem u_L_law_790 (l0 l1 l3 l4 l5 l6 l7 l8 : Option Value) (x : Nat) (st : List Value) (h : xH) : xf 178 790 [l0, l1, some (.ref x), l3, l4, l5, l6, l7, l8] st h = xf 178 791 [l0, l1, some (.ref x), l3, l4, l5, l6, l7, l8] (.ref x :: st) h := xo_aload (k := 2) (by decide +kernel) rfl
set_option maxRecDepth 20000 in
theorem u_L_law_791 (L : xL) (b : Nat) (st : List Value) (h : xH) (hb : (xob h b).1 = 8) (hl : st.length ≤ 4) : xf 178 791 L (.ref b :: st) h = xgo 178 791 794 L st (xev 98 [.ref b] h) := xo_callV (as := []) (by decide +kernel) rfl ⟨(by decide +kernel : xna 98 = 0), Nat.le_of_ble_eq_true rfl, rfl, by decide⟩ hb hl
set_option maxRecDepth 20000 in
theorem u_L_law_794 (l0 l1 l2 l3 l4 l6 l7 l8 : Option Value) (x : Int32) (st : List Value) (h : xH) : xf 178 794 [l0, l1, l2, l3, l4, some (.int x), l6, l7, l8] st h = xf 178 796 [l0, l1, l2, l3, l4, some (.int x), l6, l7, l8] (.int x :: st) h := xo_iload (k := 5) (by decide +kernel) rfl
set_option maxRecDepth 20000 in
theorem u_L_law_796 (L : xL) (a b : Int32) (st : List Value) (h : xH) : xf 178 796 L (.int b :: .int a :: st) h = if a = b then xf 178 801 L st h else xf 178 799 L st h := xo_icmp_eq (t := 801) (by decide +kernel) rfl
set_option maxRecDepth 20000 in
theorem u_L_law_799 (L : xL) (st : List Value) (h : xH) : xf 178 799 L st h = xf 178 800 L (.int 0 :: st) h := xo_iconst (k := 0) (by decide +kernel) (by decide)
set_option maxRecDepth 20000 in
theorem u_L_law_800 (L : xL) (x : Int32) (h : xH) (hv : x = 0 ∨ x = 1) : xf 178 800 L [.int x] h = some (.inl (some (.int x)), h) := xo_ireturn (n := 801) (by decide +kernel) (by rcases hv with rfl | rfl <;> rfl)
set_option maxRecDepth 20000 in
theorem u_L_law_801 (l0 l1 l2 l3 l4 l6 l7 l8 : Option Value) (x : Int32) (st : List Value) (h : xH) : xf 178 801 [l0, l1, l2, l3, l4, some (.int x), l6, l7, l8] st h = xf 178 803 [l0, l1, l2, l3, l4, some (.int x), l6, l7, l8] (.int x :: st) h := xo_iload (k := 5) (by decide +kernel) rfl
set_option maxRecDepth 20000 in
theorem u_L_law_803 (L : xL) (a : Int32) (st : List Value) (h : xH) : xf 178 803 L (.int a :: st) h = if a = 0 then xf 178 806 L st h else xf 178 818 L st h := xo_if_ne (t := 818) (by decide +kernel) rfl
set_option maxRecDepth 20000 in
theorem u_L_law_806 (l0 l1 l2 l4 l5 l6 l7 l8 : Option Value) (x : Nat) (st : List Value) (h : xH) : xf 178 806 [l0, l1, l2, some (.ref x), l4, l5, l6, l7, l8] st h = xf 178 807 [l0, l1, l2, some (.ref x), l4, l5, l6, l7, l8] (.ref x :: st) h := xo_aload (k := 3) (by decide +kernel) rfl
set_option maxRecDepth 20000 in
theorem u_L_law_807 (L : xL) (st : List Value) (h : xH) : xf 178 807 L st h = xf 178 808 L (.int 0 :: st) h := xo_iconst (k := 0) (by decide +kernel) (by decide)
set_option maxRecDepth 20000 in
theorem u_L_law_808 (L : xL) (i : Int32) (a : Nat) (st : List Value) (h : xH) (hx : xix i (xal h a).1) : xf 178 808 L (.int i :: .ref a :: st) h = xf 178 809 L (.long ((xal h a).2 i.toNatClampNeg) :: st) h := xo_laload (by decide +kernel) hx
set_option maxRecDepth 20000 in
theorem u_L_law_809 (l0 l1 l2 l3 l4 l5 l7 l8 : Option Value) (x : Int32) (st : List Value) (h : xH) : xf 178 809 [l0, l1, l2, l3, l4, l5, some (.int x), l7, l8] st h = xf 178 811 [l0, l1, l2, l3, l4, l5, some (.int x), l7, l8] (.int x :: st) h := xo_iload (k := 6) (by decide +kernel) rfl
set_option maxRecDepth 20000 in
theorem u_L_law_811 (L : xL) (a : Int32) (st : List Value) (h : xH) : xf 178 811 L (.int a :: st) h = xf 178 812 L (.long a.toInt64 :: st) h := xo_i2l (by decide +kernel)
set_option maxRecDepth 20000 in
theorem u_L_law_812 (L : xL) (a b : Int64) (st : List Value) (h : xH) : xf 178 812 L (.long b :: .long a :: st) h = xf 178 813 L (.int (lg_cmp a b) :: st) h := xo_lcmp (by decide +kernel)
set_option maxRecDepth 20000 in
theorem u_L_law_813 (L : xL) (a : Int32) (st : List Value) (h : xH) : xf 178 813 L (.int a :: st) h = if a = 0 then xf 178 818 L st h else xf 178 816 L st h := xo_if_eq (t := 818) (by decide +kernel) rfl
set_option maxRecDepth 20000 in
theorem u_L_law_816 (L : xL) (st : List Value) (h : xH) : xf 178 816 L st h = xf 178 817 L (.int 0 :: st) h := xo_iconst (k := 0) (by decide +kernel) (by decide)
set_option maxRecDepth 20000 in
theorem u_L_law_817 (L : xL) (x : Int32) (h : xH) (hv : x = 0 ∨ x = 1) : xf 178 817 L [.int x] h = some (.inl (some (.int x)), h) := xo_ireturn (n := 818) (by decide +kernel) (by rcases hv with rfl | rfl <;> rfl)
set_option maxRecDepth 20000 in
theorem u_L_law_818 (L : xL) (st : List Value) (h : xH) : xf 178 818 L st h = xf 178 1237 L st h := xo_goto (n := 821) (t := 1237) (by decide +kernel) rfl
set_option maxRecDepth 20000 in
theorem u_L_law_821 (l0 l2 l3 l4 l5 l6 l7 l8 : Option Value) (x : Nat) (st : List Value) (h : xH) : xf 178 821 [l0, some (.ref x), l2, l3, l4, l5, l6, l7, l8] st h = xf 178 822 [l0, some (.ref x), l2, l3, l4, l5, l6, l7, l8] (.ref x :: st) h := xo_aload (k := 1) (by decide +kernel) rfl
set_option maxRecDepth 20000 in
theorem u_L_law_822 (l1 l2 l3 l4 l5 l6 l7 l8 : Option Value) (x : Nat) (st : List Value) (h : xH) : xf 178 822 [some (.ref x), l1, l2, l3, l4, l5, l6, l7, l8] st h = xf 178 823 [some (.ref x), l1, l2, l3, l4, l5, l6, l7, l8] (.ref x :: st) h := xo_aload (k := 0) (by decide +kernel) rfl
set_option maxRecDepth 20000 in
theorem u_L_law_823 (l0 l1 l2 l3 l5 l6 l7 l8 : Option Value) (x : Int32) (st : List Value) (h : xH) : xf 178 823 [l0, l1, l2, l3, some (.int x), l5, l6, l7, l8] st h = xf 178 825 [l0, l1, l2, l3, some (.int x), l5, l6, l7, l8] (.int x :: st) h := xo_iload (k := 4) (by decide +kernel) rfl
set_option maxRecDepth 20000 in
theorem u_L_law_825 (L : xL) (st : List Value) (h : xH) : xf 178 825 L st h = xf 178 826 L (.int 1 :: st) h := xo_iconst (k := 1) (by decide +kernel) (by decide)
set_option maxRecDepth 20000 in
theorem u_L_law_826 (L : xL) (a b : Int32) (st : List Value) (h : xH) : xf 178 826 L (.int b :: .int a :: st) h = xf 178 827 L (.int (a + b) :: st) h := xo_iadd (by decide +kernel)
set_option maxRecDepth 20000 in
theorem u_L_law_827 (L : xL) (i : Int32) (a : Nat) (st : List Value) (h : xH) (hx : xix i (xa3 h a).1) : xf 178 827 L (.int i :: .ref a :: st) h = xf 178 828 L (.int ((xa3 h a).2 i.toNatClampNeg) :: st) h := xo_iaload3 (by decide +kernel) hx
set_option maxRecDepth 20000 in
theorem u_L_law_828 (l1 l2 l3 l4 l5 l6 l7 l8 : Option Value) (x : Nat) (st : List Value) (h : xH) : xf 178 828 [some (.ref x), l1, l2, l3, l4, l5, l6, l7, l8] st h = xf 178 829 [some (.ref x), l1, l2, l3, l4, l5, l6, l7, l8] (.ref x :: st) h := xo_aload (k := 0) (by decide +kernel) rfl
set_option maxRecDepth 20000 in
theorem u_L_law_829 (l0 l1 l2 l3 l5 l6 l7 l8 : Option Value) (x : Int32) (st : List Value) (h : xH) : xf 178 829 [l0, l1, l2, l3, some (.int x), l5, l6, l7, l8] st h = xf 178 831 [l0, l1, l2, l3, some (.int x), l5, l6, l7, l8] (.int x :: st) h := xo_iload (k := 4) (by decide +kernel) rfl
set_option maxRecDepth 20000 in
theorem u_L_law_831 (L : xL) (st : List Value) (h : xH) : xf 178 831 L st h = xf 178 832 L (.int 2 :: st) h := xo_iconst (k := 2) (by decide +kernel) (by decide)
set_option maxRecDepth 20000 in
theorem u_L_law_832 (L : xL) (a b : Int32) (st : List Value) (h : xH) : xf 178 832 L (.int b :: .int a :: st) h = xf 178 833 L (.int (a + b) :: st) h := xo_iadd (by decide +kernel)
set_option maxRecDepth 20000 in
theorem u_L_law_833 (L : xL) (i : Int32) (a : Nat) (st : List Value) (h : xH) (hx : xix i (xa3 h a).1) : xf 178 833 L (.int i :: .ref a :: st) h = xf 178 834 L (.int ((xa3 h a).2 i.toNatClampNeg) :: st) h := xo_iaload3 (by decide +kernel) hx
set_option maxRecDepth 20000 in
theorem u_L_law_834 (l0 l1 l2 l4 l5 l6 l7 l8 : Option Value) (x : Nat) (st : List Value) (h : xH) : xf 178 834 [l0, l1, l2, some (.ref x), l4, l5, l6, l7, l8] st h = xf 178 835 [l0, l1, l2, some (.ref x), l4, l5, l6, l7, l8] (.ref x :: st) h := xo_aload (k := 3) (by decide +kernel) rfl
set_option maxRecDepth 20000 in
theorem u_L_law_835 (L : xL) (v0 : Nat) (v1 : Int32) (v2 : Int32) (v3 : Nat) (st : List Value) (h : xH) (hl : st.length ≤ 4) : xf 178 835 L (.ref v3 :: .int v2 :: .int v1 :: .ref v0 :: st) h = xgo 178 835 838 L st (xev 172 [.ref v0, .int v1, .int v2, .ref v3] h) := xo_callS (as := [.ref v0, .int v1, .int v2, .ref v3]) (by decide +kernel) rfl ⟨(by decide +kernel : xna 172 = 4), Nat.le_of_ble_eq_true rfl, by decide⟩ hl
set_option maxRecDepth 20000 in
theorem u_L_law_838 (l0 l1 l2 l3 l4 l5 l6 l7 l8 : Option Value) (x : Int32) (st : List Value) (h : xH) : xf 178 838 [l0, l1, l2, l3, l4, l5, l6, l7, l8] (.int x :: st) h = xf 178 840 [l0, l1, l2, l3, xcat l4, some (.int x), l6, l7, l8] st h := xo_istore (k := 5) (by decide +kernel) (Nat.le_of_ble_eq_true rfl) rfl
set_option maxRecDepth 20000 in
theorem u_L_law_840 (l0 l1 l3 l4 l5 l6 l7 l8 : Option Value) (x : Nat) (st : List Value) (h : xH) : xf 178 840 [l0, l1, some (.ref x), l3, l4, l5, l6, l7, l8] st h = xf 178 841 [l0, l1, some (.ref x), l3, l4, l5, l6, l7, l8] (.ref x :: st) h := xo_aload (k := 2) (by decide +kernel) rfl
set_option maxRecDepth 20000 in
theorem u_L_law_841 (l1 l2 l3 l4 l5 l6 l7 l8 : Option Value) (x : Nat) (st : List Value) (h : xH) : xf 178 841 [some (.ref x), l1, l2, l3, l4, l5, l6, l7, l8] st h = xf 178 842 [some (.ref x), l1, l2, l3, l4, l5, l6, l7, l8] (.ref x :: st) h := xo_aload (k := 0) (by decide +kernel) rfl
set_option maxRecDepth 20000 in
theorem u_L_law_842 (l0 l1 l2 l3 l5 l6 l7 l8 : Option Value) (x : Int32) (st : List Value) (h : xH) : xf 178 842 [l0, l1, l2, l3, some (.int x), l5, l6, l7, l8] st h = xf 178 844 [l0, l1, l2, l3, some (.int x), l5, l6, l7, l8] (.int x :: st) h := xo_iload (k := 4) (by decide +kernel) rfl
set_option maxRecDepth 20000 in
theorem u_L_law_844 (L : xL) (st : List Value) (h : xH) : xf 178 844 L st h = xf 178 845 L (.int 1 :: st) h := xo_iconst (k := 1) (by decide +kernel) (by decide)
set_option maxRecDepth 20000 in
theorem u_L_law_845 (L : xL) (a b : Int32) (st : List Value) (h : xH) : xf 178 845 L (.int b :: .int a :: st) h = xf 178 846 L (.int (a + b) :: st) h := xo_iadd (by decide +kernel)
set_option maxRecDepth 20000 in
theorem u_L_law_846 (L : xL) (i : Int32) (a : Nat) (st : List Value) (h : xH) (hx : xix i (xa3 h a).1) : xf 178 846 L (.int i :: .ref a :: st) h = xf 178 847 L (.int ((xa3 h a).2 i.toNatClampNeg) :: st) h := xo_iaload3 (by decide +kernel) hx
set_option maxRecDepth 20000 in
theorem u_L_law_847 (l1 l2 l3 l4 l5 l6 l7 l8 : Option Value) (x : Nat) (st : List Value) (h : xH) : xf 178 847 [some (.ref x), l1, l2, l3, l4, l5, l6, l7, l8] st h = xf 178 848 [some (.ref x), l1, l2, l3, l4, l5, l6, l7, l8] (.ref x :: st) h := xo_aload (k := 0) (by decide +kernel) rfl
set_option maxRecDepth 20000 in
theorem u_L_law_848 (l0 l1 l2 l3 l5 l6 l7 l8 : Option Value) (x : Int32) (st : List Value) (h : xH) : xf 178 848 [l0, l1, l2, l3, some (.int x), l5, l6, l7, l8] st h = xf 178 850 [l0, l1, l2, l3, some (.int x), l5, l6, l7, l8] (.int x :: st) h := xo_iload (k := 4) (by decide +kernel) rfl
set_option maxRecDepth 20000 in
theorem u_L_law_850 (L : xL) (st : List Value) (h : xH) : xf 178 850 L st h = xf 178 851 L (.int 2 :: st) h := xo_iconst (k := 2) (by decide +kernel) (by decide)
set_option maxRecDepth 20000 in
theorem u_L_law_851 (L : xL) (a b : Int32) (st : List Value) (h : xH) : xf 178 851 L (.int b :: .int a :: st) h = xf 178 852 L (.int (a + b) :: st) h := xo_iadd (by decide +kernel)
set_option maxRecDepth 20000 in
theorem u_L_law_852 (L : xL) (i : Int32) (a : Nat) (st : List Value) (h : xH) (hx : xix i (xa3 h a).1) : xf 178 852 L (.int i :: .ref a :: st) h = xf 178 853 L (.int ((xa3 h a).2 i.toNatClampNeg) :: st) h := xo_iaload3 (by decide +kernel) hx
set_option maxRecDepth 20000 in
theorem u_L_law_853 (L : xL) (v0 : Int32) (v1 : Int32) (b : Nat) (st : List Value) (h : xH) (hb : (xob h b).1 = 8) (hl : st.length ≤ 4) : xf 178 853 L (.int v1 :: .int v0 :: .ref b :: st) h = xgo 178 853 856 L st (xev 141 [.ref b, .int v0, .int v1] h) := xo_callV (as := [.int v0, .int v1]) (by decide +kernel) rfl ⟨(by decide +kernel : xna 141 = 2), Nat.le_of_ble_eq_true rfl, rfl, by decide⟩ hb hl
set_option maxRecDepth 20000 in
theorem u_L_law_856 (l0 l1 l2 l3 l4 l5 l6 l7 l8 : Option Value) (x : Int32) (st : List Value) (h : xH) : xf 178 856 [l0, l1, l2, l3, l4, l5, l6, l7, l8] (.int x :: st) h = xf 178 858 [l0, l1, l2, l3, l4, xcat l5, some (.int x), l7, l8] st h := xo_istore (k := 6) (by decide +kernel) (Nat.le_of_ble_eq_true rfl) rfl
set_option maxRecDepth 20000 in
theorem u_L_law_858 (l0 l1 l3 l4 l5 l6 l7 l8 : Option Value) (x : Nat) (st : List Value) (h : xH) : xf 178 858 [l0, l1, some (.ref x), l3, l4, l5, l6, l7, l8] st h = xf 178 859 [l0, l1, some (.ref x), l3, l4, l5, l6, l7, l8] (.ref x :: st) h := xo_aload (k := 2) (by decide +kernel) rfl
set_option maxRecDepth 20000 in
theorem u_L_law_859 (L : xL) (b : Nat) (st : List Value) (h : xH) (hb : (xob h b).1 = 8) (hl : st.length ≤ 4) : xf 178 859 L (.ref b :: st) h = xgo 178 859 862 L st (xev 98 [.ref b] h) := xo_callV (as := []) (by decide +kernel) rfl ⟨(by decide +kernel : xna 98 = 0), Nat.le_of_ble_eq_true rfl, rfl, by decide⟩ hb hl
set_option maxRecDepth 20000 in
theorem u_L_law_862 (l0 l1 l2 l3 l4 l6 l7 l8 : Option Value) (x : Int32) (st : List Value) (h : xH) : xf 178 862 [l0, l1, l2, l3, l4, some (.int x), l6, l7, l8] st h = xf 178 864 [l0, l1, l2, l3, l4, some (.int x), l6, l7, l8] (.int x :: st) h := xo_iload (k := 5) (by decide +kernel) rfl
set_option maxRecDepth 20000 in
theorem u_L_law_864 (L : xL) (a b : Int32) (st : List Value) (h : xH) : xf 178 864 L (.int b :: .int a :: st) h = if a = b then xf 178 869 L st h else xf 178 867 L st h := xo_icmp_eq (t := 869) (by decide +kernel) rfl
set_option maxRecDepth 20000 in
theorem u_L_law_867 (L : xL) (st : List Value) (h : xH) : xf 178 867 L st h = xf 178 868 L (.int 0 :: st) h := xo_iconst (k := 0) (by decide +kernel) (by decide)
set_option maxRecDepth 20000 in
theorem u_L_law_868 (L : xL) (x : Int32) (h : xH) (hv : x = 0 ∨ x = 1) : xf 178 868 L [.int x] h = some (.inl (some (.int x)), h) := xo_ireturn (n := 869) (by decide +kernel) (by rcases hv with rfl | rfl <;> rfl)
set_option maxRecDepth 20000 in
theorem u_L_law_869 (l0 l1 l2 l3 l4 l6 l7 l8 : Option Value) (x : Int32) (st : List Value) (h : xH) : xf 178 869 [l0, l1, l2, l3, l4, some (.int x), l6, l7, l8] st h = xf 178 871 [l0, l1, l2, l3, l4, some (.int x), l6, l7, l8] (.int x :: st) h := xo_iload (k := 5) (by decide +kernel) rfl
set_option maxRecDepth 20000 in
theorem u_L_law_871 (L : xL) (a : Int32) (st : List Value) (h : xH) : xf 178 871 L (.int a :: st) h = if a = 0 then xf 178 874 L st h else xf 178 886 L st h := xo_if_ne (t := 886) (by decide +kernel) rfl
set_option maxRecDepth 20000 in
theorem u_L_law_874 (l0 l1 l2 l4 l5 l6 l7 l8 : Option Value) (x : Nat) (st : List Value) (h : xH) : xf 178 874 [l0, l1, l2, some (.ref x), l4, l5, l6, l7, l8] st h = xf 178 875 [l0, l1, l2, some (.ref x), l4, l5, l6, l7, l8] (.ref x :: st) h := xo_aload (k := 3) (by decide +kernel) rfl
set_option maxRecDepth 20000 in
theorem u_L_law_875 (L : xL) (st : List Value) (h : xH) : xf 178 875 L st h = xf 178 876 L (.int 0 :: st) h := xo_iconst (k := 0) (by decide +kernel) (by decide)
set_option maxRecDepth 20000 in
theorem u_L_law_876 (L : xL) (i : Int32) (a : Nat) (st : List Value) (h : xH) (hx : xix i (xal h a).1) : xf 178 876 L (.int i :: .ref a :: st) h = xf 178 877 L (.long ((xal h a).2 i.toNatClampNeg) :: st) h := xo_laload (by decide +kernel) hx
set_option maxRecDepth 20000 in
theorem u_L_law_877 (l0 l1 l2 l3 l4 l5 l7 l8 : Option Value) (x : Int32) (st : List Value) (h : xH) : xf 178 877 [l0, l1, l2, l3, l4, l5, some (.int x), l7, l8] st h = xf 178 879 [l0, l1, l2, l3, l4, l5, some (.int x), l7, l8] (.int x :: st) h := xo_iload (k := 6) (by decide +kernel) rfl
set_option maxRecDepth 20000 in
theorem u_L_law_879 (L : xL) (a : Int32) (st : List Value) (h : xH) : xf 178 879 L (.int a :: st) h = xf 178 880 L (.long a.toInt64 :: st) h := xo_i2l (by decide +kernel)
set_option maxRecDepth 20000 in
theorem u_L_law_880 (L : xL) (a b : Int64) (st : List Value) (h : xH) : xf 178 880 L (.long b :: .long a :: st) h = xf 178 881 L (.int (lg_cmp a b) :: st) h := xo_lcmp (by decide +kernel)
set_option maxRecDepth 20000 in
theorem u_L_law_881 (L : xL) (a : Int32) (st : List Value) (h : xH) : xf 178 881 L (.int a :: st) h = if a = 0 then xf 178 886 L st h else xf 178 884 L st h := xo_if_eq (t := 886) (by decide +kernel) rfl
set_option maxRecDepth 20000 in
theorem u_L_law_884 (L : xL) (st : List Value) (h : xH) : xf 178 884 L st h = xf 178 885 L (.int 0 :: st) h := xo_iconst (k := 0) (by decide +kernel) (by decide)
set_option maxRecDepth 20000 in
theorem u_L_law_885 (L : xL) (x : Int32) (h : xH) (hv : x = 0 ∨ x = 1) : xf 178 885 L [.int x] h = some (.inl (some (.int x)), h) := xo_ireturn (n := 886) (by decide +kernel) (by rcases hv with rfl | rfl <;> rfl)
set_option maxRecDepth 20000 in
theorem u_L_law_886 (L : xL) (st : List Value) (h : xH) : xf 178 886 L st h = xf 178 1237 L st h := xo_goto (n := 889) (t := 1237) (by decide +kernel) rfl
set_option maxRecDepth 20000 in
theorem u_L_law_889 (l0 l2 l3 l4 l5 l6 l7 l8 : Option Value) (x : Nat) (st : List Value) (h : xH) : xf 178 889 [l0, some (.ref x), l2, l3, l4, l5, l6, l7, l8] st h = xf 178 890 [l0, some (.ref x), l2, l3, l4, l5, l6, l7, l8] (.ref x :: st) h := xo_aload (k := 1) (by decide +kernel) rfl
set_option maxRecDepth 20000 in
theorem u_L_law_890 (l1 l2 l3 l4 l5 l6 l7 l8 : Option Value) (x : Nat) (st : List Value) (h : xH) : xf 178 890 [some (.ref x), l1, l2, l3, l4, l5, l6, l7, l8] st h = xf 178 891 [some (.ref x), l1, l2, l3, l4, l5, l6, l7, l8] (.ref x :: st) h := xo_aload (k := 0) (by decide +kernel) rfl
set_option maxRecDepth 20000 in
theorem u_L_law_891 (l0 l1 l2 l3 l5 l6 l7 l8 : Option Value) (x : Int32) (st : List Value) (h : xH) : xf 178 891 [l0, l1, l2, l3, some (.int x), l5, l6, l7, l8] st h = xf 178 893 [l0, l1, l2, l3, some (.int x), l5, l6, l7, l8] (.int x :: st) h := xo_iload (k := 4) (by decide +kernel) rfl
set_option maxRecDepth 20000 in
theorem u_L_law_893 (L : xL) (st : List Value) (h : xH) : xf 178 893 L st h = xf 178 894 L (.int 1 :: st) h := xo_iconst (k := 1) (by decide +kernel) (by decide)
set_option maxRecDepth 20000 in
theorem u_L_law_894 (L : xL) (a b : Int32) (st : List Value) (h : xH) : xf 178 894 L (.int b :: .int a :: st) h = xf 178 895 L (.int (a + b) :: st) h := xo_iadd (by decide +kernel)
set_option maxRecDepth 20000 in
theorem u_L_law_895 (L : xL) (i : Int32) (a : Nat) (st : List Value) (h : xH) (hx : xix i (xa3 h a).1) : xf 178 895 L (.int i :: .ref a :: st) h = xf 178 896 L (.int ((xa3 h a).2 i.toNatClampNeg) :: st) h := xo_iaload3 (by decide +kernel) hx
set_option maxRecDepth 20000 in
theorem u_L_law_896 (l0 l1 l2 l4 l5 l6 l7 l8 : Option Value) (x : Nat) (st : List Value) (h : xH) : xf 178 896 [l0, l1, l2, some (.ref x), l4, l5, l6, l7, l8] st h = xf 178 897 [l0, l1, l2, some (.ref x), l4, l5, l6, l7, l8] (.ref x :: st) h := xo_aload (k := 3) (by decide +kernel) rfl
set_option maxRecDepth 20000 in
theorem u_L_law_897 (L : xL) (v0 : Nat) (v1 : Int32) (v2 : Nat) (st : List Value) (h : xH) (hl : st.length ≤ 4) : xf 178 897 L (.ref v2 :: .int v1 :: .ref v0 :: st) h = xgo 178 897 900 L st (xev 173 [.ref v0, .int v1, .ref v2] h) := xo_callS (as := [.ref v0, .int v1, .ref v2]) (by decide +kernel) rfl ⟨(by decide +kernel : xna 173 = 3), Nat.le_of_ble_eq_true rfl, by decide⟩ hl
set_option maxRecDepth 20000 in
theorem u_L_law_900 (l0 l1 l2 l3 l4 l5 l6 l7 l8 : Option Value) (x : Int32) (st : List Value) (h : xH) : xf 178 900 [l0, l1, l2, l3, l4, l5, l6, l7, l8] (.int x :: st) h = xf 178 902 [l0, l1, l2, l3, xcat l4, some (.int x), l6, l7, l8] st h := xo_istore (k := 5) (by decide +kernel) (Nat.le_of_ble_eq_true rfl) rfl
set_option maxRecDepth 20000 in
theorem u_L_law_902 (l0 l1 l3 l4 l5 l6 l7 l8 : Option Value) (x : Nat) (st : List Value) (h : xH) : xf 178 902 [l0, l1, some (.ref x), l3, l4, l5, l6, l7, l8] st h = xf 178 903 [l0, l1, some (.ref x), l3, l4, l5, l6, l7, l8] (.ref x :: st) h := xo_aload (k := 2) (by decide +kernel) rfl
set_option maxRecDepth 20000 in
theorem u_L_law_903 (l1 l2 l3 l4 l5 l6 l7 l8 : Option Value) (x : Nat) (st : List Value) (h : xH) : xf 178 903 [some (.ref x), l1, l2, l3, l4, l5, l6, l7, l8] st h = xf 178 904 [some (.ref x), l1, l2, l3, l4, l5, l6, l7, l8] (.ref x :: st) h := xo_aload (k := 0) (by decide +kernel) rfl
set_option maxRecDepth 20000 in
theorem u_L_law_904 (l0 l1 l2 l3 l5 l6 l7 l8 : Option Value) (x : Int32) (st : List Value) (h : xH) : xf 178 904 [l0, l1, l2, l3, some (.int x), l5, l6, l7, l8] st h = xf 178 906 [l0, l1, l2, l3, some (.int x), l5, l6, l7, l8] (.int x :: st) h := xo_iload (k := 4) (by decide +kernel) rfl
set_option maxRecDepth 20000 in
theorem u_L_law_906 (L : xL) (st : List Value) (h : xH) : xf 178 906 L st h = xf 178 907 L (.int 1 :: st) h := xo_iconst (k := 1) (by decide +kernel) (by decide)
set_option maxRecDepth 20000 in
theorem u_L_law_907 (L : xL) (a b : Int32) (st : List Value) (h : xH) : xf 178 907 L (.int b :: .int a :: st) h = xf 178 908 L (.int (a + b) :: st) h := xo_iadd (by decide +kernel)
set_option maxRecDepth 20000 in
theorem u_L_law_908 (L : xL) (i : Int32) (a : Nat) (st : List Value) (h : xH) (hx : xix i (xa3 h a).1) : xf 178 908 L (.int i :: .ref a :: st) h = xf 178 909 L (.int ((xa3 h a).2 i.toNatClampNeg) :: st) h := xo_iaload3 (by decide +kernel) hx
set_option maxRecDepth 20000 in
theorem u_L_law_909 (L : xL) (v0 : Int32) (b : Nat) (st : List Value) (h : xH) (hb : (xob h b).1 = 8) (hl : st.length ≤ 4) : xf 178 909 L (.int v0 :: .ref b :: st) h = xgo 178 909 912 L st (xev 143 [.ref b, .int v0] h) := xo_callV (as := [.int v0]) (by decide +kernel) rfl ⟨(by decide +kernel : xna 143 = 1), Nat.le_of_ble_eq_true rfl, rfl, by decide⟩ hb hl
set_option maxRecDepth 20000 in
theorem u_L_law_912 (l0 l1 l2 l3 l4 l5 l6 l7 l8 : Option Value) (x : Int32) (st : List Value) (h : xH) : xf 178 912 [l0, l1, l2, l3, l4, l5, l6, l7, l8] (.int x :: st) h = xf 178 914 [l0, l1, l2, l3, l4, xcat l5, some (.int x), l7, l8] st h := xo_istore (k := 6) (by decide +kernel) (Nat.le_of_ble_eq_true rfl) rfl
set_option maxRecDepth 20000 in
theorem u_L_law_914 (l0 l1 l3 l4 l5 l6 l7 l8 : Option Value) (x : Nat) (st : List Value) (h : xH) : xf 178 914 [l0, l1, some (.ref x), l3, l4, l5, l6, l7, l8] st h = xf 178 915 [l0, l1, some (.ref x), l3, l4, l5, l6, l7, l8] (.ref x :: st) h := xo_aload (k := 2) (by decide +kernel) rfl
set_option maxRecDepth 20000 in
theorem u_L_law_915 (L : xL) (b : Nat) (st : List Value) (h : xH) (hb : (xob h b).1 = 8) (hl : st.length ≤ 4) : xf 178 915 L (.ref b :: st) h = xgo 178 915 918 L st (xev 98 [.ref b] h) := xo_callV (as := []) (by decide +kernel) rfl ⟨(by decide +kernel : xna 98 = 0), Nat.le_of_ble_eq_true rfl, rfl, by decide⟩ hb hl
set_option maxRecDepth 20000 in
theorem u_L_law_918 (l0 l1 l2 l3 l4 l6 l7 l8 : Option Value) (x : Int32) (st : List Value) (h : xH) : xf 178 918 [l0, l1, l2, l3, l4, some (.int x), l6, l7, l8] st h = xf 178 920 [l0, l1, l2, l3, l4, some (.int x), l6, l7, l8] (.int x :: st) h := xo_iload (k := 5) (by decide +kernel) rfl
set_option maxRecDepth 20000 in
theorem u_L_law_920 (L : xL) (a b : Int32) (st : List Value) (h : xH) : xf 178 920 L (.int b :: .int a :: st) h = if a = b then xf 178 925 L st h else xf 178 923 L st h := xo_icmp_eq (t := 925) (by decide +kernel) rfl
set_option maxRecDepth 20000 in
theorem u_L_law_923 (L : xL) (st : List Value) (h : xH) : xf 178 923 L st h = xf 178 924 L (.int 0 :: st) h := xo_iconst (k := 0) (by decide +kernel) (by decide)
set_option maxRecDepth 20000 in
theorem u_L_law_924 (L : xL) (x : Int32) (h : xH) (hv : x = 0 ∨ x = 1) : xf 178 924 L [.int x] h = some (.inl (some (.int x)), h) := xo_ireturn (n := 925) (by decide +kernel) (by rcases hv with rfl | rfl <;> rfl)
set_option maxRecDepth 20000 in
theorem u_L_law_925 (l0 l1 l2 l3 l4 l6 l7 l8 : Option Value) (x : Int32) (st : List Value) (h : xH) : xf 178 925 [l0, l1, l2, l3, l4, some (.int x), l6, l7, l8] st h = xf 178 927 [l0, l1, l2, l3, l4, some (.int x), l6, l7, l8] (.int x :: st) h := xo_iload (k := 5) (by decide +kernel) rfl
set_option maxRecDepth 20000 in
theorem u_L_law_927 (L : xL) (a : Int32) (st : List Value) (h : xH) : xf 178 927 L (.int a :: st) h = if a = 0 then xf 178 930 L st h else xf 178 942 L st h := xo_if_ne (t := 942) (by decide +kernel) rfl
set_option maxRecDepth 20000 in
theorem u_L_law_930 (l0 l1 l2 l4 l5 l6 l7 l8 : Option Value) (x : Nat) (st : List Value) (h : xH) : xf 178 930 [l0, l1, l2, some (.ref x), l4, l5, l6, l7, l8] st h = xf 178 931 [l0, l1, l2, some (.ref x), l4, l5, l6, l7, l8] (.ref x :: st) h := xo_aload (k := 3) (by decide +kernel) rfl
set_option maxRecDepth 20000 in
theorem u_L_law_931 (L : xL) (st : List Value) (h : xH) : xf 178 931 L st h = xf 178 932 L (.int 0 :: st) h := xo_iconst (k := 0) (by decide +kernel) (by decide)
set_option maxRecDepth 20000 in
theorem u_L_law_932 (L : xL) (i : Int32) (a : Nat) (st : List Value) (h : xH) (hx : xix i (xal h a).1) : xf 178 932 L (.int i :: .ref a :: st) h = xf 178 933 L (.long ((xal h a).2 i.toNatClampNeg) :: st) h := xo_laload (by decide +kernel) hx
set_option maxRecDepth 20000 in
theorem u_L_law_933 (l0 l1 l2 l3 l4 l5 l7 l8 : Option Value) (x : Int32) (st : List Value) (h : xH) : xf 178 933 [l0, l1, l2, l3, l4, l5, some (.int x), l7, l8] st h = xf 178 935 [l0, l1, l2, l3, l4, l5, some (.int x), l7, l8] (.int x :: st) h := xo_iload (k := 6) (by decide +kernel) rfl
set_option maxRecDepth 20000 in
theorem u_L_law_935 (L : xL) (a : Int32) (st : List Value) (h : xH) : xf 178 935 L (.int a :: st) h = xf 178 936 L (.long a.toInt64 :: st) h := xo_i2l (by decide +kernel)
set_option maxRecDepth 20000 in
theorem u_L_law_936 (L : xL) (a b : Int64) (st : List Value) (h : xH) : xf 178 936 L (.long b :: .long a :: st) h = xf 178 937 L (.int (lg_cmp a b) :: st) h := xo_lcmp (by decide +kernel)
set_option maxRecDepth 20000 in
theorem u_L_law_937 (L : xL) (a : Int32) (st : List Value) (h : xH) : xf 178 937 L (.int a :: st) h = if a = 0 then xf 178 942 L st h else xf 178 940 L st h := xo_if_eq (t := 942) (by decide +kernel) rfl
set_option maxRecDepth 20000 in
theorem u_L_law_940 (L : xL) (st : List Value) (h : xH) : xf 178 940 L st h = xf 178 941 L (.int 0 :: st) h := xo_iconst (k := 0) (by decide +kernel) (by decide)
set_option maxRecDepth 20000 in
theorem u_L_law_941 (L : xL) (x : Int32) (h : xH) (hv : x = 0 ∨ x = 1) : xf 178 941 L [.int x] h = some (.inl (some (.int x)), h) := xo_ireturn (n := 942) (by decide +kernel) (by rcases hv with rfl | rfl <;> rfl)
set_option maxRecDepth 20000 in
theorem u_L_law_942 (L : xL) (st : List Value) (h : xH) : xf 178 942 L st h = xf 178 1237 L st h := xo_goto (n := 945) (t := 1237) (by decide +kernel) rfl
set_option maxRecDepth 20000 in
theorem u_L_law_945 (l0 l2 l3 l4 l5 l6 l7 l8 : Option Value) (x : Nat) (st : List Value) (h : xH) : xf 178 945 [l0, some (.ref x), l2, l3, l4, l5, l6, l7, l8] st h = xf 178 946 [l0, some (.ref x), l2, l3, l4, l5, l6, l7, l8] (.ref x :: st) h := xo_aload (k := 1) (by decide +kernel) rfl
set_option maxRecDepth 20000 in
theorem u_L_law_946 (l1 l2 l3 l4 l5 l6 l7 l8 : Option Value) (x : Nat) (st : List Value) (h : xH) : xf 178 946 [some (.ref x), l1, l2, l3, l4, l5, l6, l7, l8] st h = xf 178 947 [some (.ref x), l1, l2, l3, l4, l5, l6, l7, l8] (.ref x :: st) h := xo_aload (k := 0) (by decide +kernel) rfl
set_option maxRecDepth 20000 in
theorem u_L_law_947 (l0 l1 l2 l3 l5 l6 l7 l8 : Option Value) (x : Int32) (st : List Value) (h : xH) : xf 178 947 [l0, l1, l2, l3, some (.int x), l5, l6, l7, l8] st h = xf 178 949 [l0, l1, l2, l3, some (.int x), l5, l6, l7, l8] (.int x :: st) h := xo_iload (k := 4) (by decide +kernel) rfl
set_option maxRecDepth 20000 in
theorem u_L_law_949 (L : xL) (st : List Value) (h : xH) : xf 178 949 L st h = xf 178 950 L (.int 1 :: st) h := xo_iconst (k := 1) (by decide +kernel) (by decide)
set_option maxRecDepth 20000 in
theorem u_L_law_950 (L : xL) (a b : Int32) (st : List Value) (h : xH) : xf 178 950 L (.int b :: .int a :: st) h = xf 178 951 L (.int (a + b) :: st) h := xo_iadd (by decide +kernel)
set_option maxRecDepth 20000 in
theorem u_L_law_951 (L : xL) (i : Int32) (a : Nat) (st : List Value) (h : xH) (hx : xix i (xa3 h a).1) : xf 178 951 L (.int i :: .ref a :: st) h = xf 178 952 L (.int ((xa3 h a).2 i.toNatClampNeg) :: st) h := xo_iaload3 (by decide +kernel) hx
set_option maxRecDepth 20000 in
theorem u_L_law_952 (l0 l1 l2 l4 l5 l6 l7 l8 : Option Value) (x : Nat) (st : List Value) (h : xH) : xf 178 952 [l0, l1, l2, some (.ref x), l4, l5, l6, l7, l8] st h = xf 178 953 [l0, l1, l2, some (.ref x), l4, l5, l6, l7, l8] (.ref x :: st) h := xo_aload (k := 3) (by decide +kernel) rfl
set_option maxRecDepth 20000 in
theorem u_L_law_953 (L : xL) (v0 : Nat) (v1 : Int32) (v2 : Nat) (st : List Value) (h : xH) (hl : st.length ≤ 4) : xf 178 953 L (.ref v2 :: .int v1 :: .ref v0 :: st) h = xgo 178 953 956 L st (xev 174 [.ref v0, .int v1, .ref v2] h) := xo_callS (as := [.ref v0, .int v1, .ref v2]) (by decide +kernel) rfl ⟨(by decide +kernel : xna 174 = 3), Nat.le_of_ble_eq_true rfl, by decide⟩ hl
set_option maxRecDepth 20000 in
theorem u_L_law_956 (l0 l1 l2 l3 l4 l5 l6 l7 l8 : Option Value) (x : Int32) (st : List Value) (h : xH) : xf 178 956 [l0, l1, l2, l3, l4, l5, l6, l7, l8] (.int x :: st) h = xf 178 958 [l0, l1, l2, l3, xcat l4, some (.int x), l6, l7, l8] st h := xo_istore (k := 5) (by decide +kernel) (Nat.le_of_ble_eq_true rfl) rfl
set_option maxRecDepth 20000 in
theorem u_L_law_958 (l0 l1 l3 l4 l5 l6 l7 l8 : Option Value) (x : Nat) (st : List Value) (h : xH) : xf 178 958 [l0, l1, some (.ref x), l3, l4, l5, l6, l7, l8] st h = xf 178 959 [l0, l1, some (.ref x), l3, l4, l5, l6, l7, l8] (.ref x :: st) h := xo_aload (k := 2) (by decide +kernel) rfl
set_option maxRecDepth 20000 in
theorem u_L_law_959 (l1 l2 l3 l4 l5 l6 l7 l8 : Option Value) (x : Nat) (st : List Value) (h : xH) : xf 178 959 [some (.ref x), l1, l2, l3, l4, l5, l6, l7, l8] st h = xf 178 960 [some (.ref x), l1, l2, l3, l4, l5, l6, l7, l8] (.ref x :: st) h := xo_aload (k := 0) (by decide +kernel) rfl
set_option maxRecDepth 20000 in
theorem u_L_law_960 (l0 l1 l2 l3 l5 l6 l7 l8 : Option Value) (x : Int32) (st : List Value) (h : xH) : xf 178 960 [l0, l1, l2, l3, some (.int x), l5, l6, l7, l8] st h = xf 178 962 [l0, l1, l2, l3, some (.int x), l5, l6, l7, l8] (.int x :: st) h := xo_iload (k := 4) (by decide +kernel) rfl
set_option maxRecDepth 20000 in
theorem u_L_law_962 (L : xL) (st : List Value) (h : xH) : xf 178 962 L st h = xf 178 963 L (.int 1 :: st) h := xo_iconst (k := 1) (by decide +kernel) (by decide)
set_option maxRecDepth 20000 in
theorem u_L_law_963 (L : xL) (a b : Int32) (st : List Value) (h : xH) : xf 178 963 L (.int b :: .int a :: st) h = xf 178 964 L (.int (a + b) :: st) h := xo_iadd (by decide +kernel)
set_option maxRecDepth 20000 in
theorem u_L_law_964 (L : xL) (i : Int32) (a : Nat) (st : List Value) (h : xH) (hx : xix i (xa3 h a).1) : xf 178 964 L (.int i :: .ref a :: st) h = xf 178 965 L (.int ((xa3 h a).2 i.toNatClampNeg) :: st) h := xo_iaload3 (by decide +kernel) hx
set_option maxRecDepth 20000 in
theorem u_L_law_965 (L : xL) (v0 : Int32) (b : Nat) (st : List Value) (h : xH) (hb : (xob h b).1 = 8) (hl : st.length ≤ 4) : xf 178 965 L (.int v0 :: .ref b :: st) h = xgo 178 965 968 L st (xev 146 [.ref b, .int v0] h) := xo_callV (as := [.int v0]) (by decide +kernel) rfl ⟨(by decide +kernel : xna 146 = 1), Nat.le_of_ble_eq_true rfl, rfl, by decide⟩ hb hl
set_option maxRecDepth 20000 in
theorem u_L_law_968 (l0 l1 l2 l3 l4 l5 l6 l7 l8 : Option Value) (x : Int32) (st : List Value) (h : xH) : xf 178 968 [l0, l1, l2, l3, l4, l5, l6, l7, l8] (.int x :: st) h = xf 178 970 [l0, l1, l2, l3, l4, xcat l5, some (.int x), l7, l8] st h := xo_istore (k := 6) (by decide +kernel) (Nat.le_of_ble_eq_true rfl) rfl
set_option maxRecDepth 20000 in
theorem u_L_law_970 (l0 l1 l3 l4 l5 l6 l7 l8 : Option Value) (x : Nat) (st : List Value) (h : xH) : xf 178 970 [l0, l1, some (.ref x), l3, l4, l5, l6, l7, l8] st h = xf 178 971 [l0, l1, some (.ref x), l3, l4, l5, l6, l7, l8] (.ref x :: st) h := xo_aload (k := 2) (by decide +kernel) rfl
set_option maxRecDepth 20000 in
theorem u_L_law_971 (L : xL) (b : Nat) (st : List Value) (h : xH) (hb : (xob h b).1 = 8) (hl : st.length ≤ 4) : xf 178 971 L (.ref b :: st) h = xgo 178 971 974 L st (xev 98 [.ref b] h) := xo_callV (as := []) (by decide +kernel) rfl ⟨(by decide +kernel : xna 98 = 0), Nat.le_of_ble_eq_true rfl, rfl, by decide⟩ hb hl
set_option maxRecDepth 20000 in
theorem u_L_law_974 (l0 l1 l2 l3 l4 l6 l7 l8 : Option Value) (x : Int32) (st : List Value) (h : xH) : xf 178 974 [l0, l1, l2, l3, l4, some (.int x), l6, l7, l8] st h = xf 178 976 [l0, l1, l2, l3, l4, some (.int x), l6, l7, l8] (.int x :: st) h := xo_iload (k := 5) (by decide +kernel) rfl
set_option maxRecDepth 20000 in
theorem u_L_law_976 (L : xL) (a b : Int32) (st : List Value) (h : xH) : xf 178 976 L (.int b :: .int a :: st) h = if a = b then xf 178 981 L st h else xf 178 979 L st h := xo_icmp_eq (t := 981) (by decide +kernel) rfl
set_option maxRecDepth 20000 in
theorem u_L_law_979 (L : xL) (st : List Value) (h : xH) : xf 178 979 L st h = xf 178 980 L (.int 0 :: st) h := xo_iconst (k := 0) (by decide +kernel) (by decide)
set_option maxRecDepth 20000 in
theorem u_L_law_980 (L : xL) (x : Int32) (h : xH) (hv : x = 0 ∨ x = 1) : xf 178 980 L [.int x] h = some (.inl (some (.int x)), h) := xo_ireturn (n := 981) (by decide +kernel) (by rcases hv with rfl | rfl <;> rfl)
set_option maxRecDepth 20000 in
theorem u_L_law_981 (l0 l1 l2 l3 l4 l6 l7 l8 : Option Value) (x : Int32) (st : List Value) (h : xH) : xf 178 981 [l0, l1, l2, l3, l4, some (.int x), l6, l7, l8] st h = xf 178 983 [l0, l1, l2, l3, l4, some (.int x), l6, l7, l8] (.int x :: st) h := xo_iload (k := 5) (by decide +kernel) rfl
set_option maxRecDepth 20000 in
theorem u_L_law_983 (L : xL) (a : Int32) (st : List Value) (h : xH) : xf 178 983 L (.int a :: st) h = if a = 0 then xf 178 986 L st h else xf 178 998 L st h := xo_if_ne (t := 998) (by decide +kernel) rfl
set_option maxRecDepth 20000 in
theorem u_L_law_986 (l0 l1 l2 l4 l5 l6 l7 l8 : Option Value) (x : Nat) (st : List Value) (h : xH) : xf 178 986 [l0, l1, l2, some (.ref x), l4, l5, l6, l7, l8] st h = xf 178 987 [l0, l1, l2, some (.ref x), l4, l5, l6, l7, l8] (.ref x :: st) h := xo_aload (k := 3) (by decide +kernel) rfl
set_option maxRecDepth 20000 in
theorem u_L_law_987 (L : xL) (st : List Value) (h : xH) : xf 178 987 L st h = xf 178 988 L (.int 0 :: st) h := xo_iconst (k := 0) (by decide +kernel) (by decide)
set_option maxRecDepth 20000 in
theorem u_L_law_988 (L : xL) (i : Int32) (a : Nat) (st : List Value) (h : xH) (hx : xix i (xal h a).1) : xf 178 988 L (.int i :: .ref a :: st) h = xf 178 989 L (.long ((xal h a).2 i.toNatClampNeg) :: st) h := xo_laload (by decide +kernel) hx
set_option maxRecDepth 20000 in
theorem u_L_law_989 (l0 l1 l2 l3 l4 l5 l7 l8 : Option Value) (x : Int32) (st : List Value) (h : xH) : xf 178 989 [l0, l1, l2, l3, l4, l5, some (.int x), l7, l8] st h = xf 178 991 [l0, l1, l2, l3, l4, l5, some (.int x), l7, l8] (.int x :: st) h := xo_iload (k := 6) (by decide +kernel) rfl
set_option maxRecDepth 20000 in
theorem u_L_law_991 (L : xL) (a : Int32) (st : List Value) (h : xH) : xf 178 991 L (.int a :: st) h = xf 178 992 L (.long a.toInt64 :: st) h := xo_i2l (by decide +kernel)
set_option maxRecDepth 20000 in
theorem u_L_law_992 (L : xL) (a b : Int64) (st : List Value) (h : xH) : xf 178 992 L (.long b :: .long a :: st) h = xf 178 993 L (.int (lg_cmp a b) :: st) h := xo_lcmp (by decide +kernel)
set_option maxRecDepth 20000 in
theorem u_L_law_993 (L : xL) (a : Int32) (st : List Value) (h : xH) : xf 178 993 L (.int a :: st) h = if a = 0 then xf 178 998 L st h else xf 178 996 L st h := xo_if_eq (t := 998) (by decide +kernel) rfl
set_option maxRecDepth 20000 in
theorem u_L_law_996 (L : xL) (st : List Value) (h : xH) : xf 178 996 L st h = xf 178 997 L (.int 0 :: st) h := xo_iconst (k := 0) (by decide +kernel) (by decide)
set_option maxRecDepth 20000 in
theorem u_L_law_997 (L : xL) (x : Int32) (h : xH) (hv : x = 0 ∨ x = 1) : xf 178 997 L [.int x] h = some (.inl (some (.int x)), h) := xo_ireturn (n := 998) (by decide +kernel) (by rcases hv with rfl | rfl <;> rfl)
set_option maxRecDepth 20000 in
theorem u_L_law_998 (L : xL) (st : List Value) (h : xH) : xf 178 998 L st h = xf 178 1237 L st h := xo_goto (n := 1001) (t := 1237) (by decide +kernel) rfl
set_option maxRecDepth 20000 in
theorem u_L_law_1001 (l0 l2 l3 l4 l5 l6 l7 l8 : Option Value) (x : Nat) (st : List Value) (h : xH) : xf 178 1001 [l0, some (.ref x), l2, l3, l4, l5, l6, l7, l8] st h = xf 178 1002 [l0, some (.ref x), l2, l3, l4, l5, l6, l7, l8] (.ref x :: st) h := xo_aload (k := 1) (by decide +kernel) rfl
set_option maxRecDepth 20000 in
theorem u_L_law_1002 (l1 l2 l3 l4 l5 l6 l7 l8 : Option Value) (x : Nat) (st : List Value) (h : xH) : xf 178 1002 [some (.ref x), l1, l2, l3, l4, l5, l6, l7, l8] st h = xf 178 1003 [some (.ref x), l1, l2, l3, l4, l5, l6, l7, l8] (.ref x :: st) h := xo_aload (k := 0) (by decide +kernel) rfl
set_option maxRecDepth 20000 in
theorem u_L_law_1003 (l0 l1 l2 l3 l5 l6 l7 l8 : Option Value) (x : Int32) (st : List Value) (h : xH) : xf 178 1003 [l0, l1, l2, l3, some (.int x), l5, l6, l7, l8] st h = xf 178 1005 [l0, l1, l2, l3, some (.int x), l5, l6, l7, l8] (.int x :: st) h := xo_iload (k := 4) (by decide +kernel) rfl
set_option maxRecDepth 20000 in
theorem u_L_law_1005 (L : xL) (st : List Value) (h : xH) : xf 178 1005 L st h = xf 178 1006 L (.int 1 :: st) h := xo_iconst (k := 1) (by decide +kernel) (by decide)
set_option maxRecDepth 20000 in
theorem u_L_law_1006 (L : xL) (a b : Int32) (st : List Value) (h : xH) : xf 178 1006 L (.int b :: .int a :: st) h = xf 178 1007 L (.int (a + b) :: st) h := xo_iadd (by decide +kernel)
set_option maxRecDepth 20000 in
theorem u_L_law_1007 (L : xL) (i : Int32) (a : Nat) (st : List Value) (h : xH) (hx : xix i (xa3 h a).1) : xf 178 1007 L (.int i :: .ref a :: st) h = xf 178 1008 L (.int ((xa3 h a).2 i.toNatClampNeg) :: st) h := xo_iaload3 (by decide +kernel) hx
set_option maxRecDepth 20000 in
theorem u_L_law_1008 (l0 l1 l2 l4 l5 l6 l7 l8 : Option Value) (x : Nat) (st : List Value) (h : xH) : xf 178 1008 [l0, l1, l2, some (.ref x), l4, l5, l6, l7, l8] st h = xf 178 1009 [l0, l1, l2, some (.ref x), l4, l5, l6, l7, l8] (.ref x :: st) h := xo_aload (k := 3) (by decide +kernel) rfl
set_option maxRecDepth 20000 in
theorem u_L_law_1009 (L : xL) (v0 : Nat) (v1 : Int32) (v2 : Nat) (st : List Value) (h : xH) (hl : st.length ≤ 4) : xf 178 1009 L (.ref v2 :: .int v1 :: .ref v0 :: st) h = xgo 178 1009 1012 L st (xev 175 [.ref v0, .int v1, .ref v2] h) := xo_callS (as := [.ref v0, .int v1, .ref v2]) (by decide +kernel) rfl ⟨(by decide +kernel : xna 175 = 3), Nat.le_of_ble_eq_true rfl, by decide⟩ hl
set_option maxRecDepth 20000 in
theorem u_L_law_1012 (l0 l1 l2 l3 l4 l5 l6 l7 l8 : Option Value) (x : Int32) (st : List Value) (h : xH) : xf 178 1012 [l0, l1, l2, l3, l4, l5, l6, l7, l8] (.int x :: st) h = xf 178 1014 [l0, l1, l2, l3, xcat l4, some (.int x), l6, l7, l8] st h := xo_istore (k := 5) (by decide +kernel) (Nat.le_of_ble_eq_true rfl) rfl
set_option maxRecDepth 20000 in
theorem u_L_law_1014 (l0 l1 l3 l4 l5 l6 l7 l8 : Option Value) (x : Nat) (st : List Value) (h : xH) : xf 178 1014 [l0, l1, some (.ref x), l3, l4, l5, l6, l7, l8] st h = xf 178 1015 [l0, l1, some (.ref x), l3, l4, l5, l6, l7, l8] (.ref x :: st) h := xo_aload (k := 2) (by decide +kernel) rfl
set_option maxRecDepth 20000 in
theorem u_L_law_1015 (l1 l2 l3 l4 l5 l6 l7 l8 : Option Value) (x : Nat) (st : List Value) (h : xH) : xf 178 1015 [some (.ref x), l1, l2, l3, l4, l5, l6, l7, l8] st h = xf 178 1016 [some (.ref x), l1, l2, l3, l4, l5, l6, l7, l8] (.ref x :: st) h := xo_aload (k := 0) (by decide +kernel) rfl
set_option maxRecDepth 20000 in
theorem u_L_law_1016 (l0 l1 l2 l3 l5 l6 l7 l8 : Option Value) (x : Int32) (st : List Value) (h : xH) : xf 178 1016 [l0, l1, l2, l3, some (.int x), l5, l6, l7, l8] st h = xf 178 1018 [l0, l1, l2, l3, some (.int x), l5, l6, l7, l8] (.int x :: st) h := xo_iload (k := 4) (by decide +kernel) rfl
set_option maxRecDepth 20000 in
theorem u_L_law_1018 (L : xL) (st : List Value) (h : xH) : xf 178 1018 L st h = xf 178 1019 L (.int 1 :: st) h := xo_iconst (k := 1) (by decide +kernel) (by decide)
set_option maxRecDepth 20000 in
theorem u_L_law_1019 (L : xL) (a b : Int32) (st : List Value) (h : xH) : xf 178 1019 L (.int b :: .int a :: st) h = xf 178 1020 L (.int (a + b) :: st) h := xo_iadd (by decide +kernel)
set_option maxRecDepth 20000 in
theorem u_L_law_1020 (L : xL) (i : Int32) (a : Nat) (st : List Value) (h : xH) (hx : xix i (xa3 h a).1) : xf 178 1020 L (.int i :: .ref a :: st) h = xf 178 1021 L (.int ((xa3 h a).2 i.toNatClampNeg) :: st) h := xo_iaload3 (by decide +kernel) hx
set_option maxRecDepth 20000 in
theorem u_L_law_1021 (L : xL) (v0 : Int32) (b : Nat) (st : List Value) (h : xH) (hb : (xob h b).1 = 8) (hl : st.length ≤ 4) : xf 178 1021 L (.int v0 :: .ref b :: st) h = xgo 178 1021 1024 L st (xev 148 [.ref b, .int v0] h) := xo_callV (as := [.int v0]) (by decide +kernel) rfl ⟨(by decide +kernel : xna 148 = 1), Nat.le_of_ble_eq_true rfl, rfl, by decide⟩ hb hl
set_option maxRecDepth 20000 in
theorem u_L_law_1024 (l0 l1 l2 l3 l4 l5 l6 l7 l8 : Option Value) (x : Int32) (st : List Value) (h : xH) : xf 178 1024 [l0, l1, l2, l3, l4, l5, l6, l7, l8] (.int x :: st) h = xf 178 1026 [l0, l1, l2, l3, l4, xcat l5, some (.int x), l7, l8] st h := xo_istore (k := 6) (by decide +kernel) (Nat.le_of_ble_eq_true rfl) rfl
set_option maxRecDepth 20000 in
theorem u_L_law_1026 (l0 l1 l3 l4 l5 l6 l7 l8 : Option Value) (x : Nat) (st : List Value) (h : xH) : xf 178 1026 [l0, l1, some (.ref x), l3, l4, l5, l6, l7, l8] st h = xf 178 1027 [l0, l1, some (.ref x), l3, l4, l5, l6, l7, l8] (.ref x :: st) h := xo_aload (k := 2) (by decide +kernel) rfl
set_option maxRecDepth 20000 in
theorem u_L_law_1027 (L : xL) (b : Nat) (st : List Value) (h : xH) (hb : (xob h b).1 = 8) (hl : st.length ≤ 4) : xf 178 1027 L (.ref b :: st) h = xgo 178 1027 1030 L st (xev 98 [.ref b] h) := xo_callV (as := []) (by decide +kernel) rfl ⟨(by decide +kernel : xna 98 = 0), Nat.le_of_ble_eq_true rfl, rfl, by decide⟩ hb hl
set_option maxRecDepth 20000 in
theorem u_L_law_1030 (l0 l1 l2 l3 l4 l6 l7 l8 : Option Value) (x : Int32) (st : List Value) (h : xH) : xf 178 1030 [l0, l1, l2, l3, l4, some (.int x), l6, l7, l8] st h = xf 178 1032 [l0, l1, l2, l3, l4, some (.int x), l6, l7, l8] (.int x :: st) h := xo_iload (k := 5) (by decide +kernel) rfl
set_option maxRecDepth 20000 in
theorem u_L_law_1032 (L : xL) (a b : Int32) (st : List Value) (h : xH) : xf 178 1032 L (.int b :: .int a :: st) h = if a = b then xf 178 1037 L st h else xf 178 1035 L st h := xo_icmp_eq (t := 1037) (by decide +kernel) rfl
set_option maxRecDepth 20000 in
theorem u_L_law_1035 (L : xL) (st : List Value) (h : xH) : xf 178 1035 L st h = xf 178 1036 L (.int 0 :: st) h := xo_iconst (k := 0) (by decide +kernel) (by decide)
set_option maxRecDepth 20000 in
theorem u_L_law_1036 (L : xL) (x : Int32) (h : xH) (hv : x = 0 ∨ x = 1) : xf 178 1036 L [.int x] h = some (.inl (some (.int x)), h) := xo_ireturn (n := 1037) (by decide +kernel) (by rcases hv with rfl | rfl <;> rfl)
set_option maxRecDepth 20000 in
theorem u_L_law_1037 (l0 l1 l2 l3 l4 l6 l7 l8 : Option Value) (x : Int32) (st : List Value) (h : xH) : xf 178 1037 [l0, l1, l2, l3, l4, some (.int x), l6, l7, l8] st h = xf 178 1039 [l0, l1, l2, l3, l4, some (.int x), l6, l7, l8] (.int x :: st) h := xo_iload (k := 5) (by decide +kernel) rfl
set_option maxRecDepth 20000 in
theorem u_L_law_1039 (L : xL) (a : Int32) (st : List Value) (h : xH) : xf 178 1039 L (.int a :: st) h = if a = 0 then xf 178 1042 L st h else xf 178 1054 L st h := xo_if_ne (t := 1054) (by decide +kernel) rfl
set_option maxRecDepth 20000 in
theorem u_L_law_1042 (l0 l1 l2 l4 l5 l6 l7 l8 : Option Value) (x : Nat) (st : List Value) (h : xH) : xf 178 1042 [l0, l1, l2, some (.ref x), l4, l5, l6, l7, l8] st h = xf 178 1043 [l0, l1, l2, some (.ref x), l4, l5, l6, l7, l8] (.ref x :: st) h := xo_aload (k := 3) (by decide +kernel) rfl
set_option maxRecDepth 20000 in
theorem u_L_law_1043 (L : xL) (st : List Value) (h : xH) : xf 178 1043 L st h = xf 178 1044 L (.int 0 :: st) h := xo_iconst (k := 0) (by decide +kernel) (by decide)
set_option maxRecDepth 20000 in
theorem u_L_law_1044 (L : xL) (i : Int32) (a : Nat) (st : List Value) (h : xH) (hx : xix i (xal h a).1) : xf 178 1044 L (.int i :: .ref a :: st) h = xf 178 1045 L (.long ((xal h a).2 i.toNatClampNeg) :: st) h := xo_laload (by decide +kernel) hx
set_option maxRecDepth 20000 in
theorem u_L_law_1045 (l0 l1 l2 l3 l4 l5 l7 l8 : Option Value) (x : Int32) (st : List Value) (h : xH) : xf 178 1045 [l0, l1, l2, l3, l4, l5, some (.int x), l7, l8] st h = xf 178 1047 [l0, l1, l2, l3, l4, l5, some (.int x), l7, l8] (.int x :: st) h := xo_iload (k := 6) (by decide +kernel) rfl
set_option maxRecDepth 20000 in
theorem u_L_law_1047 (L : xL) (a : Int32) (st : List Value) (h : xH) : xf 178 1047 L (.int a :: st) h = xf 178 1048 L (.long a.toInt64 :: st) h := xo_i2l (by decide +kernel)
set_option maxRecDepth 20000 in
theorem u_L_law_1048 (L : xL) (a b : Int64) (st : List Value) (h : xH) : xf 178 1048 L (.long b :: .long a :: st) h = xf 178 1049 L (.int (lg_cmp a b) :: st) h := xo_lcmp (by decide +kernel)
set_option maxRecDepth 20000 in
theorem u_L_law_1049 (L : xL) (a : Int32) (st : List Value) (h : xH) : xf 178 1049 L (.int a :: st) h = if a = 0 then xf 178 1054 L st h else xf 178 1052 L st h := xo_if_eq (t := 1054) (by decide +kernel) rfl
set_option maxRecDepth 20000 in
theorem u_L_law_1052 (L : xL) (st : List Value) (h : xH) : xf 178 1052 L st h = xf 178 1053 L (.int 0 :: st) h := xo_iconst (k := 0) (by decide +kernel) (by decide)
set_option maxRecDepth 20000 in
theorem u_L_law_1053 (L : xL) (x : Int32) (h : xH) (hv : x = 0 ∨ x = 1) : xf 178 1053 L [.int x] h = some (.inl (some (.int x)), h) := xo_ireturn (n := 1054) (by decide +kernel) (by rcases hv with rfl | rfl <;> rfl)
set_option maxRecDepth 20000 in
theorem u_L_law_1054 (L : xL) (st : List Value) (h : xH) : xf 178 1054 L st h = xf 178 1237 L st h := xo_goto (n := 1057) (t := 1237) (by decide +kernel) rfl
set_option maxRecDepth 20000 in
theorem u_L_law_1057 (l0 l2 l3 l4 l5 l6 l7 l8 : Option Value) (x : Nat) (st : List Value) (h : xH) : xf 178 1057 [l0, some (.ref x), l2, l3, l4, l5, l6, l7, l8] st h = xf 178 1058 [l0, some (.ref x), l2, l3, l4, l5, l6, l7, l8] (.ref x :: st) h := xo_aload (k := 1) (by decide +kernel) rfl
set_option maxRecDepth 20000 in
theorem u_L_law_1058 (l1 l2 l3 l4 l5 l6 l7 l8 : Option Value) (x : Nat) (st : List Value) (h : xH) : xf 178 1058 [some (.ref x), l1, l2, l3, l4, l5, l6, l7, l8] st h = xf 178 1059 [some (.ref x), l1, l2, l3, l4, l5, l6, l7, l8] (.ref x :: st) h := xo_aload (k := 0) (by decide +kernel) rfl
set_option maxRecDepth 20000 in
theorem u_L_law_1059 (l0 l1 l2 l3 l5 l6 l7 l8 : Option Value) (x : Int32) (st : List Value) (h : xH) : xf 178 1059 [l0, l1, l2, l3, some (.int x), l5, l6, l7, l8] st h = xf 178 1061 [l0, l1, l2, l3, some (.int x), l5, l6, l7, l8] (.int x :: st) h := xo_iload (k := 4) (by decide +kernel) rfl
set_option maxRecDepth 20000 in
theorem u_L_law_1061 (L : xL) (st : List Value) (h : xH) : xf 178 1061 L st h = xf 178 1062 L (.int 1 :: st) h := xo_iconst (k := 1) (by decide +kernel) (by decide)
set_option maxRecDepth 20000 in
theorem u_L_law_1062 (L : xL) (a b : Int32) (st : List Value) (h : xH) : xf 178 1062 L (.int b :: .int a :: st) h = xf 178 1063 L (.int (a + b) :: st) h := xo_iadd (by decide +kernel)
set_option maxRecDepth 20000 in
theorem u_L_law_1063 (L : xL) (i : Int32) (a : Nat) (st : List Value) (h : xH) (hx : xix i (xa3 h a).1) : xf 178 1063 L (.int i :: .ref a :: st) h = xf 178 1064 L (.int ((xa3 h a).2 i.toNatClampNeg) :: st) h := xo_iaload3 (by decide +kernel) hx
set_option maxRecDepth 20000 in
theorem u_L_law_1064 (l0 l1 l2 l4 l5 l6 l7 l8 : Option Value) (x : Nat) (st : List Value) (h : xH) : xf 178 1064 [l0, l1, l2, some (.ref x), l4, l5, l6, l7, l8] st h = xf 178 1065 [l0, l1, l2, some (.ref x), l4, l5, l6, l7, l8] (.ref x :: st) h := xo_aload (k := 3) (by decide +kernel) rfl
set_option maxRecDepth 20000 in
theorem u_L_law_1065 (L : xL) (v0 : Nat) (v1 : Int32) (v2 : Nat) (st : List Value) (h : xH) (hl : st.length ≤ 4) : xf 178 1065 L (.ref v2 :: .int v1 :: .ref v0 :: st) h = xgo 178 1065 1068 L st (xev 176 [.ref v0, .int v1, .ref v2] h) := xo_callS (as := [.ref v0, .int v1, .ref v2]) (by decide +kernel) rfl ⟨(by decide +kernel : xna 176 = 3), Nat.le_of_ble_eq_true rfl, by decide⟩ hl
set_option maxRecDepth 20000 in
theorem u_L_law_1068 (l0 l1 l2 l3 l4 l5 l6 l7 l8 : Option Value) (x : Int32) (st : List Value) (h : xH) : xf 178 1068 [l0, l1, l2, l3, l4, l5, l6, l7, l8] (.int x :: st) h = xf 178 1070 [l0, l1, l2, l3, xcat l4, some (.int x), l6, l7, l8] st h := xo_istore (k := 5) (by decide +kernel) (Nat.le_of_ble_eq_true rfl) rfl
set_option maxRecDepth 20000 in
theorem u_L_law_1070 (l0 l1 l3 l4 l5 l6 l7 l8 : Option Value) (x : Nat) (st : List Value) (h : xH) : xf 178 1070 [l0, l1, some (.ref x), l3, l4, l5, l6, l7, l8] st h = xf 178 1071 [l0, l1, some (.ref x), l3, l4, l5, l6, l7, l8] (.ref x :: st) h := xo_aload (k := 2) (by decide +kernel) rfl
set_option maxRecDepth 20000 in
theorem u_L_law_1071 (l1 l2 l3 l4 l5 l6 l7 l8 : Option Value) (x : Nat) (st : List Value) (h : xH) : xf 178 1071 [some (.ref x), l1, l2, l3, l4, l5, l6, l7, l8] st h = xf 178 1072 [some (.ref x), l1, l2, l3, l4, l5, l6, l7, l8] (.ref x :: st) h := xo_aload (k := 0) (by decide +kernel) rfl
set_option maxRecDepth 20000 in
theorem u_L_law_1072 (l0 l1 l2 l3 l5 l6 l7 l8 : Option Value) (x : Int32) (st : List Value) (h : xH) : xf 178 1072 [l0, l1, l2, l3, some (.int x), l5, l6, l7, l8] st h = xf 178 1074 [l0, l1, l2, l3, some (.int x), l5, l6, l7, l8] (.int x :: st) h := xo_iload (k := 4) (by decide +kernel) rfl
set_option maxRecDepth 20000 in
theorem u_L_law_1074 (L : xL) (st : List Value) (h : xH) : xf 178 1074 L st h = xf 178 1075 L (.int 1 :: st) h := xo_iconst (k := 1) (by decide +kernel) (by decide)
set_option maxRecDepth 20000 in
theorem u_L_law_1075 (L : xL) (a b : Int32) (st : List Value) (h : xH) : xf 178 1075 L (.int b :: .int a :: st) h = xf 178 1076 L (.int (a + b) :: st) h := xo_iadd (by decide +kernel)
set_option maxRecDepth 20000 in
theorem u_L_law_1076 (L : xL) (i : Int32) (a : Nat) (st : List Value) (h : xH) (hx : xix i (xa3 h a).1) : xf 178 1076 L (.int i :: .ref a :: st) h = xf 178 1077 L (.int ((xa3 h a).2 i.toNatClampNeg) :: st) h := xo_iaload3 (by decide +kernel) hx
set_option maxRecDepth 20000 in
theorem u_L_law_1077 (L : xL) (v0 : Int32) (b : Nat) (st : List Value) (h : xH) (hb : (xob h b).1 = 8) (hl : st.length ≤ 4) : xf 178 1077 L (.int v0 :: .ref b :: st) h = xgo 178 1077 1080 L st (xev 149 [.ref b, .int v0] h) := xo_callV (as := [.int v0]) (by decide +kernel) rfl ⟨(by decide +kernel : xna 149 = 1), Nat.le_of_ble_eq_true rfl, rfl, by decide⟩ hb hl
set_option maxRecDepth 20000 in
theorem u_L_law_1080 (l0 l1 l2 l3 l4 l5 l6 l7 l8 : Option Value) (x : Int32) (st : List Value) (h : xH) : xf 178 1080 [l0, l1, l2, l3, l4, l5, l6, l7, l8] (.int x :: st) h = xf 178 1082 [l0, l1, l2, l3, l4, xcat l5, some (.int x), l7, l8] st h := xo_istore (k := 6) (by decide +kernel) (Nat.le_of_ble_eq_true rfl) rfl
set_option maxRecDepth 20000 in
theorem u_L_law_1082 (l0 l1 l3 l4 l5 l6 l7 l8 : Option Value) (x : Nat) (st : List Value) (h : xH) : xf 178 1082 [l0, l1, some (.ref x), l3, l4, l5, l6, l7, l8] st h = xf 178 1083 [l0, l1, some (.ref x), l3, l4, l5, l6, l7, l8] (.ref x :: st) h := xo_aload (k := 2) (by decide +kernel) rfl
set_option maxRecDepth 20000 in
theorem u_L_law_1083 (L : xL) (b : Nat) (st : List Value) (h : xH) (hb : (xob h b).1 = 8) (hl : st.length ≤ 4) : xf 178 1083 L (.ref b :: st) h = xgo 178 1083 1086 L st (xev 98 [.ref b] h) := xo_callV (as := []) (by decide +kernel) rfl ⟨(by decide +kernel : xna 98 = 0), Nat.le_of_ble_eq_true rfl, rfl, by decide⟩ hb hl
set_option maxRecDepth 20000 in
theorem u_L_law_1086 (l0 l1 l2 l3 l4 l6 l7 l8 : Option Value) (x : Int32) (st : List Value) (h : xH) : xf 178 1086 [l0, l1, l2, l3, l4, some (.int x), l6, l7, l8] st h = xf 178 1088 [l0, l1, l2, l3, l4, some (.int x), l6, l7, l8] (.int x :: st) h := xo_iload (k := 5) (by decide +kernel) rfl
set_option maxRecDepth 20000 in
theorem u_L_law_1088 (L : xL) (a b : Int32) (st : List Value) (h : xH) : xf 178 1088 L (.int b :: .int a :: st) h = if a = b then xf 178 1093 L st h else xf 178 1091 L st h := xo_icmp_eq (t := 1093) (by decide +kernel) rfl
set_option maxRecDepth 20000 in
theorem u_L_law_1091 (L : xL) (st : List Value) (h : xH) : xf 178 1091 L st h = xf 178 1092 L (.int 0 :: st) h := xo_iconst (k := 0) (by decide +kernel) (by decide)
set_option maxRecDepth 20000 in
theorem u_L_law_1092 (L : xL) (x : Int32) (h : xH) (hv : x = 0 ∨ x = 1) : xf 178 1092 L [.int x] h = some (.inl (some (.int x)), h) := xo_ireturn (n := 1093) (by decide +kernel) (by rcases hv with rfl | rfl <;> rfl)
set_option maxRecDepth 20000 in
theorem u_L_law_1093 (l0 l1 l2 l3 l4 l6 l7 l8 : Option Value) (x : Int32) (st : List Value) (h : xH) : xf 178 1093 [l0, l1, l2, l3, l4, some (.int x), l6, l7, l8] st h = xf 178 1095 [l0, l1, l2, l3, l4, some (.int x), l6, l7, l8] (.int x :: st) h := xo_iload (k := 5) (by decide +kernel) rfl
set_option maxRecDepth 20000 in
theorem u_L_law_1095 (L : xL) (a : Int32) (st : List Value) (h : xH) : xf 178 1095 L (.int a :: st) h = if a = 0 then xf 178 1098 L st h else xf 178 1110 L st h := xo_if_ne (t := 1110) (by decide +kernel) rfl
set_option maxRecDepth 20000 in
theorem u_L_law_1098 (l0 l1 l2 l4 l5 l6 l7 l8 : Option Value) (x : Nat) (st : List Value) (h : xH) : xf 178 1098 [l0, l1, l2, some (.ref x), l4, l5, l6, l7, l8] st h = xf 178 1099 [l0, l1, l2, some (.ref x), l4, l5, l6, l7, l8] (.ref x :: st) h := xo_aload (k := 3) (by decide +kernel) rfl
set_option maxRecDepth 20000 in
theorem u_L_law_1099 (L : xL) (st : List Value) (h : xH) : xf 178 1099 L st h = xf 178 1100 L (.int 0 :: st) h := xo_iconst (k := 0) (by decide +kernel) (by decide)
set_option maxRecDepth 20000 in
theorem u_L_law_1100 (L : xL) (i : Int32) (a : Nat) (st : List Value) (h : xH) (hx : xix i (xal h a).1) : xf 178 1100 L (.int i :: .ref a :: st) h = xf 178 1101 L (.long ((xal h a).2 i.toNatClampNeg) :: st) h := xo_laload (by decide +kernel) hx
set_option maxRecDepth 20000 in
theorem u_L_law_1101 (l0 l1 l2 l3 l4 l5 l7 l8 : Option Value) (x : Int32) (st : List Value) (h : xH) : xf 178 1101 [l0, l1, l2, l3, l4, l5, some (.int x), l7, l8] st h = xf 178 1103 [l0, l1, l2, l3, l4, l5, some (.int x), l7, l8] (.int x :: st) h := xo_iload (k := 6) (by decide +kernel) rfl
set_option maxRecDepth 20000 in
theorem u_L_law_1103 (L : xL) (a : Int32) (st : List Value) (h : xH) : xf 178 1103 L (.int a :: st) h = xf 178 1104 L (.long a.toInt64 :: st) h := xo_i2l (by decide +kernel)
set_option maxRecDepth 20000 in
theorem u_L_law_1104 (L : xL) (a b : Int64) (st : List Value) (h : xH) : xf 178 1104 L (.long b :: .long a :: st) h = xf 178 1105 L (.int (lg_cmp a b) :: st) h := xo_lcmp (by decide +kernel)
set_option maxRecDepth 20000 in
theorem u_L_law_1105 (L : xL) (a : Int32) (st : List Value) (h : xH) : xf 178 1105 L (.int a :: st) h = if a = 0 then xf 178 1110 L st h else xf 178 1108 L st h := xo_if_eq (t := 1110) (by decide +kernel) rfl
set_option maxRecDepth 20000 in
theorem u_L_law_1108 (L : xL) (st : List Value) (h : xH) : xf 178 1108 L st h = xf 178 1109 L (.int 0 :: st) h := xo_iconst (k := 0) (by decide +kernel) (by decide)
set_option maxRecDepth 20000 in
theorem u_L_law_1109 (L : xL) (x : Int32) (h : xH) (hv : x = 0 ∨ x = 1) : xf 178 1109 L [.int x] h = some (.inl (some (.int x)), h) := xo_ireturn (n := 1110) (by decide +kernel) (by rcases hv with rfl | rfl <;> rfl)
set_option maxRecDepth 20000 in
theorem u_L_law_1110 (L : xL) (st : List Value) (h : xH) : xf 178 1110 L st h = xf 178 1237 L st h := xo_goto (n := 1113) (t := 1237) (by decide +kernel) rfl
set_option maxRecDepth 20000 in
theorem u_L_law_1113 (l0 l2 l3 l4 l5 l6 l7 l8 : Option Value) (x : Nat) (st : List Value) (h : xH) : xf 178 1113 [l0, some (.ref x), l2, l3, l4, l5, l6, l7, l8] st h = xf 178 1114 [l0, some (.ref x), l2, l3, l4, l5, l6, l7, l8] (.ref x :: st) h := xo_aload (k := 1) (by decide +kernel) rfl
set_option maxRecDepth 20000 in
theorem u_L_law_1114 (l1 l2 l3 l4 l5 l6 l7 l8 : Option Value) (x : Nat) (st : List Value) (h : xH) : xf 178 1114 [some (.ref x), l1, l2, l3, l4, l5, l6, l7, l8] st h = xf 178 1115 [some (.ref x), l1, l2, l3, l4, l5, l6, l7, l8] (.ref x :: st) h := xo_aload (k := 0) (by decide +kernel) rfl
set_option maxRecDepth 20000 in
theorem u_L_law_1115 (l0 l1 l2 l3 l5 l6 l7 l8 : Option Value) (x : Int32) (st : List Value) (h : xH) : xf 178 1115 [l0, l1, l2, l3, some (.int x), l5, l6, l7, l8] st h = xf 178 1117 [l0, l1, l2, l3, some (.int x), l5, l6, l7, l8] (.int x :: st) h := xo_iload (k := 4) (by decide +kernel) rfl
set_option maxRecDepth 20000 in
theorem u_L_law_1117 (L : xL) (st : List Value) (h : xH) : xf 178 1117 L st h = xf 178 1118 L (.int 1 :: st) h := xo_iconst (k := 1) (by decide +kernel) (by decide)
set_option maxRecDepth 20000 in
theorem u_L_law_1118 (L : xL) (a b : Int32) (st : List Value) (h : xH) : xf 178 1118 L (.int b :: .int a :: st) h = xf 178 1119 L (.int (a + b) :: st) h := xo_iadd (by decide +kernel)
set_option maxRecDepth 20000 in
theorem u_L_law_1119 (L : xL) (i : Int32) (a : Nat) (st : List Value) (h : xH) (hx : xix i (xa3 h a).1) : xf 178 1119 L (.int i :: .ref a :: st) h = xf 178 1120 L (.int ((xa3 h a).2 i.toNatClampNeg) :: st) h := xo_iaload3 (by decide +kernel) hx
set_option maxRecDepth 20000 in
theorem u_L_law_1120 (l0 l1 l2 l4 l5 l6 l7 l8 : Option Value) (x : Nat) (st : List Value) (h : xH) : xf 178 1120 [l0, l1, l2, some (.ref x), l4, l5, l6, l7, l8] st h = xf 178 1121 [l0, l1, l2, some (.ref x), l4, l5, l6, l7, l8] (.ref x :: st) h := xo_aload (k := 3) (by decide +kernel) rfl
set_option maxRecDepth 20000 in
theorem u_L_law_1121 (L : xL) (v0 : Nat) (v1 : Int32) (v2 : Nat) (st : List Value) (h : xH) (hl : st.length ≤ 4) : xf 178 1121 L (.ref v2 :: .int v1 :: .ref v0 :: st) h = xgo 178 1121 1124 L st (xev 177 [.ref v0, .int v1, .ref v2] h) := xo_callS (as := [.ref v0, .int v1, .ref v2]) (by decide +kernel) rfl ⟨(by decide +kernel : xna 177 = 3), Nat.le_of_ble_eq_true rfl, by decide⟩ hl
set_option maxRecDepth 20000 in
theorem u_L_law_1124 (l0 l1 l2 l3 l4 l5 l6 l7 l8 : Option Value) (x : Int32) (st : List Value) (h : xH) : xf 178 1124 [l0, l1, l2, l3, l4, l5, l6, l7, l8] (.int x :: st) h = xf 178 1126 [l0, l1, l2, l3, xcat l4, some (.int x), l6, l7, l8] st h := xo_istore (k := 5) (by decide +kernel) (Nat.le_of_ble_eq_true rfl) rfl
set_option maxRecDepth 20000 in
theorem u_L_law_1126 (l0 l1 l3 l4 l5 l6 l7 l8 : Option Value) (x : Nat) (st : List Value) (h : xH) : xf 178 1126 [l0, l1, some (.ref x), l3, l4, l5, l6, l7, l8] st h = xf 178 1127 [l0, l1, some (.ref x), l3, l4, l5, l6, l7, l8] (.ref x :: st) h := xo_aload (k := 2) (by decide +kernel) rfl
set_option maxRecDepth 20000 in
theorem u_L_law_1127 (l1 l2 l3 l4 l5 l6 l7 l8 : Option Value) (x : Nat) (st : List Value) (h : xH) : xf 178 1127 [some (.ref x), l1, l2, l3, l4, l5, l6, l7, l8] st h = xf 178 1128 [some (.ref x), l1, l2, l3, l4, l5, l6, l7, l8] (.ref x :: st) h := xo_aload (k := 0) (by decide +kernel) rfl
set_option maxRecDepth 20000 in
theorem u_L_law_1128 (l0 l1 l2 l3 l5 l6 l7 l8 : Option Value) (x : Int32) (st : List Value) (h : xH) : xf 178 1128 [l0, l1, l2, l3, some (.int x), l5, l6, l7, l8] st h = xf 178 1130 [l0, l1, l2, l3, some (.int x), l5, l6, l7, l8] (.int x :: st) h := xo_iload (k := 4) (by decide +kernel) rfl
set_option maxRecDepth 20000 in
theorem u_L_law_1130 (L : xL) (st : List Value) (h : xH) : xf 178 1130 L st h = xf 178 1131 L (.int 1 :: st) h := xo_iconst (k := 1) (by decide +kernel) (by decide)
set_option maxRecDepth 20000 in
theorem u_L_law_1131 (L : xL) (a b : Int32) (st : List Value) (h : xH) : xf 178 1131 L (.int b :: .int a :: st) h = xf 178 1132 L (.int (a + b) :: st) h := xo_iadd (by decide +kernel)
set_option maxRecDepth 20000 in
theorem u_L_law_1132 (L : xL) (i : Int32) (a : Nat) (st : List Value) (h : xH) (hx : xix i (xa3 h a).1) : xf 178 1132 L (.int i :: .ref a :: st) h = xf 178 1133 L (.int ((xa3 h a).2 i.toNatClampNeg) :: st) h := xo_iaload3 (by decide +kernel) hx
set_option maxRecDepth 20000 in
theorem u_L_law_1133 (L : xL) (v0 : Int32) (b : Nat) (st : List Value) (h : xH) (hb : (xob h b).1 = 8) (hl : st.length ≤ 4) : xf 178 1133 L (.int v0 :: .ref b :: st) h = xgo 178 1133 1136 L st (xev 151 [.ref b, .int v0] h) := xo_callV (as := [.int v0]) (by decide +kernel) rfl ⟨(by decide +kernel : xna 151 = 1), Nat.le_of_ble_eq_true rfl, rfl, by decide⟩ hb hl
set_option maxRecDepth 20000 in
theorem u_L_law_1136 (l0 l1 l2 l3 l4 l5 l6 l7 l8 : Option Value) (x : Int32) (st : List Value) (h : xH) : xf 178 1136 [l0, l1, l2, l3, l4, l5, l6, l7, l8] (.int x :: st) h = xf 178 1138 [l0, l1, l2, l3, l4, xcat l5, some (.int x), l7, l8] st h := xo_istore (k := 6) (by decide +kernel) (Nat.le_of_ble_eq_true rfl) rfl
set_option maxRecDepth 20000 in
theorem u_L_law_1138 (l0 l1 l3 l4 l5 l6 l7 l8 : Option Value) (x : Nat) (st : List Value) (h : xH) : xf 178 1138 [l0, l1, some (.ref x), l3, l4, l5, l6, l7, l8] st h = xf 178 1139 [l0, l1, some (.ref x), l3, l4, l5, l6, l7, l8] (.ref x :: st) h := xo_aload (k := 2) (by decide +kernel) rfl
set_option maxRecDepth 20000 in
theorem u_L_law_1139 (L : xL) (b : Nat) (st : List Value) (h : xH) (hb : (xob h b).1 = 8) (hl : st.length ≤ 4) : xf 178 1139 L (.ref b :: st) h = xgo 178 1139 1142 L st (xev 98 [.ref b] h) := xo_callV (as := []) (by decide +kernel) rfl ⟨(by decide +kernel : xna 98 = 0), Nat.le_of_ble_eq_true rfl, rfl, by decide⟩ hb hl
set_option maxRecDepth 20000 in
theorem u_L_law_1142 (l0 l1 l2 l3 l4 l6 l7 l8 : Option Value) (x : Int32) (st : List Value) (h : xH) : xf 178 1142 [l0, l1, l2, l3, l4, some (.int x), l6, l7, l8] st h = xf 178 1144 [l0, l1, l2, l3, l4, some (.int x), l6, l7, l8] (.int x :: st) h := xo_iload (k := 5) (by decide +kernel) rfl
set_option maxRecDepth 20000 in
theorem u_L_law_1144 (L : xL) (a b : Int32) (st : List Value) (h : xH) : xf 178 1144 L (.int b :: .int a :: st) h = if a = b then xf 178 1149 L st h else xf 178 1147 L st h := xo_icmp_eq (t := 1149) (by decide +kernel) rfl
set_option maxRecDepth 20000 in
theorem u_L_law_1147 (L : xL) (st : List Value) (h : xH) : xf 178 1147 L st h = xf 178 1148 L (.int 0 :: st) h := xo_iconst (k := 0) (by decide +kernel) (by decide)
set_option maxRecDepth 20000 in
theorem u_L_law_1148 (L : xL) (x : Int32) (h : xH) (hv : x = 0 ∨ x = 1) : xf 178 1148 L [.int x] h = some (.inl (some (.int x)), h) := xo_ireturn (n := 1149) (by decide +kernel) (by rcases hv with rfl | rfl <;> rfl)
set_option maxRecDepth 20000 in
theorem u_L_law_1149 (l0 l1 l2 l3 l4 l6 l7 l8 : Option Value) (x : Int32) (st : List Value) (h : xH) : xf 178 1149 [l0, l1, l2, l3, l4, some (.int x), l6, l7, l8] st h = xf 178 1151 [l0, l1, l2, l3, l4, some (.int x), l6, l7, l8] (.int x :: st) h := xo_iload (k := 5) (by decide +kernel) rfl
set_option maxRecDepth 20000 in
theorem u_L_law_1151 (L : xL) (a : Int32) (st : List Value) (h : xH) : xf 178 1151 L (.int a :: st) h = if a = 0 then xf 178 1154 L st h else xf 178 1166 L st h := xo_if_ne (t := 1166) (by decide +kernel) rfl
set_option maxRecDepth 20000 in
theorem u_L_law_1154 (l0 l1 l2 l4 l5 l6 l7 l8 : Option Value) (x : Nat) (st : List Value) (h : xH) : xf 178 1154 [l0, l1, l2, some (.ref x), l4, l5, l6, l7, l8] st h = xf 178 1155 [l0, l1, l2, some (.ref x), l4, l5, l6, l7, l8] (.ref x :: st) h := xo_aload (k := 3) (by decide +kernel) rfl
set_option maxRecDepth 20000 in
theorem u_L_law_1155 (L : xL) (st : List Value) (h : xH) : xf 178 1155 L st h = xf 178 1156 L (.int 0 :: st) h := xo_iconst (k := 0) (by decide +kernel) (by decide)
set_option maxRecDepth 20000 in
theorem u_L_law_1156 (L : xL) (i : Int32) (a : Nat) (st : List Value) (h : xH) (hx : xix i (xal h a).1) : xf 178 1156 L (.int i :: .ref a :: st) h = xf 178 1157 L (.long ((xal h a).2 i.toNatClampNeg) :: st) h := xo_laload (by decide +kernel) hx
set_option maxRecDepth 20000 in
theorem u_L_law_1157 (l0 l1 l2 l3 l4 l5 l7 l8 : Option Value) (x : Int32) (st : List Value) (h : xH) : xf 178 1157 [l0, l1, l2, l3, l4, l5, some (.int x), l7, l8] st h = xf 178 1159 [l0, l1, l2, l3, l4, l5, some (.int x), l7, l8] (.int x :: st) h := xo_iload (k := 6) (by decide +kernel) rfl
set_option maxRecDepth 20000 in
theorem u_L_law_1159 (L : xL) (a : Int32) (st : List Value) (h : xH) : xf 178 1159 L (.int a :: st) h = xf 178 1160 L (.long a.toInt64 :: st) h := xo_i2l (by decide +kernel)
set_option maxRecDepth 20000 in
theorem u_L_law_1160 (L : xL) (a b : Int64) (st : List Value) (h : xH) : xf 178 1160 L (.long b :: .long a :: st) h = xf 178 1161 L (.int (lg_cmp a b) :: st) h := xo_lcmp (by decide +kernel)
set_option maxRecDepth 20000 in
theorem u_L_law_1161 (L : xL) (a : Int32) (st : List Value) (h : xH) : xf 178 1161 L (.int a :: st) h = if a = 0 then xf 178 1166 L st h else xf 178 1164 L st h := xo_if_eq (t := 1166) (by decide +kernel) rfl
set_option maxRecDepth 20000 in
theorem u_L_law_1164 (L : xL) (st : List Value) (h : xH) : xf 178 1164 L st h = xf 178 1165 L (.int 0 :: st) h := xo_iconst (k := 0) (by decide +kernel) (by decide)
set_option maxRecDepth 20000 in
theorem u_L_law_1165 (L : xL) (x : Int32) (h : xH) (hv : x = 0 ∨ x = 1) : xf 178 1165 L [.int x] h = some (.inl (some (.int x)), h) := xo_ireturn (n := 1166) (by decide +kernel) (by rcases hv with rfl | rfl <;> rfl)
set_option maxRecDepth 20000 in
theorem u_L_law_1166 (L : xL) (st : List Value) (h : xH) : xf 178 1166 L st h = xf 178 1237 L st h := xo_goto (n := 1169) (t := 1237) (by decide +kernel) rfl
set_option maxRecDepth 20000 in
theorem u_L_law_1169 (l0 l2 l3 l4 l5 l6 l7 l8 : Option Value) (x : Nat) (st : List Value) (h : xH) : xf 178 1169 [l0, some (.ref x), l2, l3, l4, l5, l6, l7, l8] st h = xf 178 1170 [l0, some (.ref x), l2, l3, l4, l5, l6, l7, l8] (.ref x :: st) h := xo_aload (k := 1) (by decide +kernel) rfl
set_option maxRecDepth 20000 in
theorem u_L_law_1170 (L : xL) (b : Nat) (st : List Value) (h : xH) (hb : (xob h b).1 = 7) (hl : st.length ≤ 4) : xf 178 1170 L (.ref b :: st) h = xgo 178 1170 1173 L st (xev 85 [.ref b] h) := xo_callV (as := []) (by decide +kernel) rfl ⟨(by decide +kernel : xna 85 = 0), Nat.le_of_ble_eq_true rfl, rfl, by decide⟩ hb hl
set_option maxRecDepth 20000 in
theorem u_L_law_1173 (l0 l1 l3 l4 l5 l6 l7 l8 : Option Value) (x : Nat) (st : List Value) (h : xH) : xf 178 1173 [l0, l1, some (.ref x), l3, l4, l5, l6, l7, l8] st h = xf 178 1174 [l0, l1, some (.ref x), l3, l4, l5, l6, l7, l8] (.ref x :: st) h := xo_aload (k := 2) (by decide +kernel) rfl
set_option maxRecDepth 20000 in
theorem u_L_law_1174 (L : xL) (b : Nat) (st : List Value) (h : xH) (hb : (xob h b).1 = 8) (hl : st.length ≤ 4) : xf 178 1174 L (.ref b :: st) h = xgo 178 1174 1177 L st (xev 153 [.ref b] h) := xo_callV (as := []) (by decide +kernel) rfl ⟨(by decide +kernel : xna 153 = 0), Nat.le_of_ble_eq_true rfl, rfl, by decide⟩ hb hl
set_option maxRecDepth 20000 in
theorem u_L_law_1177 (L : xL) (a b : Int32) (st : List Value) (h : xH) : xf 178 1177 L (.int b :: .int a :: st) h = if a = b then xf 178 1237 L st h else xf 178 1180 L st h := xo_icmp_eq (t := 1237) (by decide +kernel) rfl
set_option maxRecDepth 20000 in
theorem u_L_law_1180 (L : xL) (st : List Value) (h : xH) : xf 178 1180 L st h = xf 178 1181 L (.int 0 :: st) h := xo_iconst (k := 0) (by decide +kernel) (by decide)
set_option maxRecDepth 20000 in
theorem u_L_law_1181 (L : xL) (x : Int32) (h : xH) (hv : x = 0 ∨ x = 1) : xf 178 1181 L [.int x] h = some (.inl (some (.int x)), h) := xo_ireturn (n := 1182) (by decide +kernel) (by rcases hv with rfl | rfl <;> rfl)
set_option maxRecDepth 20000 in
theorem u_L_law_1182 (l0 l2 l3 l4 l5 l6 l7 l8 : Option Value) (x : Nat) (st : List Value) (h : xH) : xf 178 1182 [l0, some (.ref x), l2, l3, l4, l5, l6, l7, l8] st h = xf 178 1183 [l0, some (.ref x), l2, l3, l4, l5, l6, l7, l8] (.ref x :: st) h := xo_aload (k := 1) (by decide +kernel) rfl
set_option maxRecDepth 20000 in
theorem u_L_law_1183 (L : xL) (b : Nat) (st : List Value) (h : xH) (hb : (xob h b).1 = 7) (hl : st.length ≤ 4) : xf 178 1183 L (.ref b :: st) h = xgo 178 1183 1186 L st (xev 86 [.ref b] h) := xo_callV (as := []) (by decide +kernel) rfl ⟨(by decide +kernel : xna 86 = 0), Nat.le_of_ble_eq_true rfl, rfl, by decide⟩ hb hl
set_option maxRecDepth 20000 in
theorem u_L_law_1186 (l0 l1 l2 l3 l4 l5 l6 l7 l8 : Option Value) (x : UInt64) (st : List Value) (h : xH) : xf 178 1186 [l0, l1, l2, l3, l4, l5, l6, l7, l8] (.double x :: st) h = xf 178 1188 [l0, l1, l2, l3, xcat l4, some (.double x), none, l7, l8] st h := xo_dstore (k := 5) (by decide +kernel) (Nat.le_of_ble_eq_true rfl) rfl
set_option maxRecDepth 20000 in
theorem u_L_law_1188 (l0 l1 l3 l4 l5 l6 l7 l8 : Option Value) (x : Nat) (st : List Value) (h : xH) : xf 178 1188 [l0, l1, some (.ref x), l3, l4, l5, l6, l7, l8] st h = xf 178 1189 [l0, l1, some (.ref x), l3, l4, l5, l6, l7, l8] (.ref x :: st) h := xo_aload (k := 2) (by decide +kernel) rfl
set_option maxRecDepth 20000 in
theorem u_L_law_1189 (L : xL) (b : Nat) (st : List Value) (h : xH) (hb : (xob h b).1 = 8) (hl : st.length ≤ 4) : xf 178 1189 L (.ref b :: st) h = xgo 178 1189 1192 L st (xev 155 [.ref b] h) := xo_callV (as := []) (by decide +kernel) rfl ⟨(by decide +kernel : xna 155 = 0), Nat.le_of_ble_eq_true rfl, rfl, by decide⟩ hb hl
set_option maxRecDepth 20000 in
theorem u_L_law_1192 (l0 l1 l2 l3 l4 l5 l6 l7 l8 : Option Value) (x : UInt64) (st : List Value) (h : xH) : xf 178 1192 [l0, l1, l2, l3, l4, l5, l6, l7, l8] (.double x :: st) h = xf 178 1194 [l0, l1, l2, l3, l4, l5, xcat l6, some (.double x), none] st h := xo_dstore (k := 7) (by decide +kernel) (Nat.le_of_ble_eq_true rfl) rfl
set_option maxRecDepth 20000 in
theorem u_L_law_1194 (l0 l1 l2 l3 l4 l6 l7 l8 : Option Value) (x : UInt64) (st : List Value) (h : xH) : xf 178 1194 [l0, l1, l2, l3, l4, some (.double x), l6, l7, l8] st h = xf 178 1196 [l0, l1, l2, l3, l4, some (.double x), l6, l7, l8] (.double x :: st) h := xo_dload (k := 5) (by decide +kernel) rfl
set_option maxRecDepth 20000 in
theorem u_L_law_1196 (l0 l1 l2 l3 l4 l5 l6 l8 : Option Value) (x : UInt64) (st : List Value) (h : xH) : xf 178 1196 [l0, l1, l2, l3, l4, l5, l6, some (.double x), l8] st h = xf 178 1198 [l0, l1, l2, l3, l4, l5, l6, some (.double x), l8] (.double x :: st) h := xo_dload (k := 7) (by decide +kernel) rfl
set_option maxRecDepth 20000 in
theorem u_L_law_1198 (L : xL) (a b : UInt64) (st : List Value) (h : xH) : xf 178 1198 L (.double b :: .double a :: st) h = xf 178 1199 L (.int (Op.cmpValue (FP.dcmp a b) .l) :: st) h := xo_dcmp (by decide +kernel)
set_option maxRecDepth 20000 in
theorem u_L_law_1199 (L : xL) (a : Int32) (st : List Value) (h : xH) : xf 178 1199 L (.int a :: st) h = if a = 0 then xf 178 1220 L st h else xf 178 1202 L st h := xo_if_eq (t := 1220) (by decide +kernel) rfl
set_option maxRecDepth 20000 in
theorem u_L_law_1202 (l0 l1 l2 l3 l4 l6 l7 l8 : Option Value) (x : UInt64) (st : List Value) (h : xH) : xf 178 1202 [l0, l1, l2, l3, l4, some (.double x), l6, l7, l8] st h = xf 178 1204 [l0, l1, l2, l3, l4, some (.double x), l6, l7, l8] (.double x :: st) h := xo_dload (k := 5) (by decide +kernel) rfl
set_option maxRecDepth 20000 in
theorem u_L_law_1204 (l0 l1 l2 l3 l4 l6 l7 l8 : Option Value) (x : UInt64) (st : List Value) (h : xH) : xf 178 1204 [l0, l1, l2, l3, l4, some (.double x), l6, l7, l8] st h = xf 178 1206 [l0, l1, l2, l3, l4, some (.double x), l6, l7, l8] (.double x :: st) h := xo_dload (k := 5) (by decide +kernel) rfl
set_option maxRecDepth 20000 in
theorem u_L_law_1206 (L : xL) (a b : UInt64) (st : List Value) (h : xH) : xf 178 1206 L (.double b :: .double a :: st) h = xf 178 1207 L (.int (Op.cmpValue (FP.dcmp a b) .l) :: st) h := xo_dcmp (by decide +kernel)
set_option maxRecDepth 20000 in
theorem u_L_law_1207 (L : xL) (a : Int32) (st : List Value) (h : xH) : xf 178 1207 L (.int a :: st) h = if a = 0 then xf 178 1218 L st h else xf 178 1210 L st h := xo_if_eq (t := 1218) (by decide +kernel) rfl
set_option maxRecDepth 20000 in
theorem u_L_law_1210 (l0 l1 l2 l3 l4 l5 l6 l8 : Option Value) (x : UInt64) (st : List Value) (h : xH) : xf 178 1210 [l0, l1, l2, l3, l4, l5, l6, some (.double x), l8] st h = xf 178 1212 [l0, l1, l2, l3, l4, l5, l6, some (.double x), l8] (.double x :: st) h := xo_dload (k := 7) (by decide +kernel) rfl
set_option maxRecDepth 20000 in
theorem u_L_law_1212 (l0 l1 l2 l3 l4 l5 l6 l8 : Option Value) (x : UInt64) (st : List Value) (h : xH) : xf 178 1212 [l0, l1, l2, l3, l4, l5, l6, some (.double x), l8] st h = xf 178 1214 [l0, l1, l2, l3, l4, l5, l6, some (.double x), l8] (.double x :: st) h := xo_dload (k := 7) (by decide +kernel) rfl
set_option maxRecDepth 20000 in
theorem u_L_law_1214 (L : xL) (a b : UInt64) (st : List Value) (h : xH) : xf 178 1214 L (.double b :: .double a :: st) h = xf 178 1215 L (.int (Op.cmpValue (FP.dcmp a b) .l) :: st) h := xo_dcmp (by decide +kernel)
set_option maxRecDepth 20000 in
theorem u_L_law_1215 (L : xL) (a : Int32) (st : List Value) (h : xH) : xf 178 1215 L (.int a :: st) h = if a = 0 then xf 178 1218 L st h else xf 178 1220 L st h := xo_if_ne (t := 1220) (by decide +kernel) rfl
set_option maxRecDepth 20000 in
theorem u_L_law_1218 (L : xL) (st : List Value) (h : xH) : xf 178 1218 L st h = xf 178 1219 L (.int 0 :: st) h := xo_iconst (k := 0) (by decide +kernel) (by decide)
set_option maxRecDepth 20000 in
theorem u_L_law_1219 (L : xL) (x : Int32) (h : xH) (hv : x = 0 ∨ x = 1) : xf 178 1219 L [.int x] h = some (.inl (some (.int x)), h) := xo_ireturn (n := 1220) (by decide +kernel) (by rcases hv with rfl | rfl <;> rfl)
set_option maxRecDepth 20000 in
theorem u_L_law_1220 (L : xL) (st : List Value) (h : xH) : xf 178 1220 L st h = xf 178 1237 L st h := xo_goto (n := 1223) (t := 1237) (by decide +kernel) rfl
set_option maxRecDepth 20000 in
theorem u_L_law_1223 (l0 l2 l3 l4 l5 l6 l7 l8 : Option Value) (x : Nat) (st : List Value) (h : xH) : xf 178 1223 [l0, some (.ref x), l2, l3, l4, l5, l6, l7, l8] st h = xf 178 1224 [l0, some (.ref x), l2, l3, l4, l5, l6, l7, l8] (.ref x :: st) h := xo_aload (k := 1) (by decide +kernel) rfl
set_option maxRecDepth 20000 in
theorem u_L_law_1224 (L : xL) (b : Nat) (st : List Value) (h : xH) (hb : (xob h b).1 = 7) (hl : st.length ≤ 4) : xf 178 1224 L (.ref b :: st) h = xgo 178 1224 1227 L st (xev 87 [.ref b] h) := xo_callV (as := []) (by decide +kernel) rfl ⟨(by decide +kernel : xna 87 = 0), Nat.le_of_ble_eq_true rfl, rfl, by decide⟩ hb hl
set_option maxRecDepth 20000 in
theorem u_L_law_1227 (l0 l1 l3 l4 l5 l6 l7 l8 : Option Value) (x : Nat) (st : List Value) (h : xH) : xf 178 1227 [l0, l1, some (.ref x), l3, l4, l5, l6, l7, l8] st h = xf 178 1228 [l0, l1, some (.ref x), l3, l4, l5, l6, l7, l8] (.ref x :: st) h := xo_aload (k := 2) (by decide +kernel) rfl
set_option maxRecDepth 20000 in
theorem u_L_law_1228 (L : xL) (b : Nat) (st : List Value) (h : xH) (hb : (xob h b).1 = 8) (hl : st.length ≤ 4) : xf 178 1228 L (.ref b :: st) h = xgo 178 1228 1231 L st (xev 158 [.ref b] h) := xo_callV (as := []) (by decide +kernel) rfl ⟨(by decide +kernel : xna 158 = 0), Nat.le_of_ble_eq_true rfl, rfl, by decide⟩ hb hl
set_option maxRecDepth 20000 in
theorem u_L_law_1231 (L : xL) (a b : Int64) (st : List Value) (h : xH) : xf 178 1231 L (.long b :: .long a :: st) h = xf 178 1232 L (.int (lg_cmp a b) :: st) h := xo_lcmp (by decide +kernel)
set_option maxRecDepth 20000 in
theorem u_L_law_1232 (L : xL) (a : Int32) (st : List Value) (h : xH) : xf 178 1232 L (.int a :: st) h = if a = 0 then xf 178 1237 L st h else xf 178 1235 L st h := xo_if_eq (t := 1237) (by decide +kernel) rfl
set_option maxRecDepth 20000 in
theorem u_L_law_1235 (L : xL) (st : List Value) (h : xH) : xf 178 1235 L st h = xf 178 1236 L (.int 0 :: st) h := xo_iconst (k := 0) (by decide +kernel) (by decide)
set_option maxRecDepth 20000 in
theorem u_L_law_1236 (L : xL) (x : Int32) (h : xH) (hv : x = 0 ∨ x = 1) : xf 178 1236 L [.int x] h = some (.inl (some (.int x)), h) := xo_ireturn (n := 1237) (by decide +kernel) (by rcases hv with rfl | rfl <;> rfl)
set_option maxRecDepth 20000 in
theorem u_L_law_1237 (l0 l1 l2 l3 l5 l6 l7 l8 : Option Value) (x : Int32) (st : List Value) (h : xH) : xf 178 1237 [l0, l1, l2, l3, some (.int x), l5, l6, l7, l8] st h = xf 178 1240 [l0, l1, l2, xcat l3, some (.int (x + 3)), l5, l6, l7, l8] st h := xo_iinc (k := 4) (c := 3) (by decide +kernel) rfl (by decide) rfl
set_option maxRecDepth 20000 in
theorem u_L_law_1240 (L : xL) (st : List Value) (h : xH) : xf 178 1240 L st h = xf 178 23 L st h := xo_goto (n := 1243) (t := 23) (by decide +kernel) rfl
set_option maxRecDepth 20000 in
theorem u_L_law_1243 (L : xL) (st : List Value) (h : xH) : xf 178 1243 L st h = xf 178 1244 L (.int 1 :: st) h := xo_iconst (k := 1) (by decide +kernel) (by decide)
set_option maxRecDepth 20000 in
theorem u_L_law_1244 (L : xL) (x : Int32) (h : xH) (hv : x = 0 ∨ x = 1) : xf 178 1244 L [.int x] h = some (.inl (some (.int x)), h) := xo_ireturn (n := 1245) (by decide +kernel) (by rcases hv with rfl | rfl <;> rfl)
set_option maxRecDepth 20000 in
theorem e_L_law (v0 : Nat) (h : xH) : xev 178 [.ref v0] h = xf 178 0 [some (.ref v0), none, none, none, none, none, none, none, none] [] h := rfl
