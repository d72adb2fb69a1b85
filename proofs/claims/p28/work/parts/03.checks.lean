/-! What the tables' numbers stand for, decided once. Written by gen_base.py. -/
def xgt : List Cond := lw_tbl.filter goodWord
theorem xmem {p : Nat} {w : Cond} (h : lw_tbl[p]? = some w) (g : goodWord w = true) : w ∈ xgt := List.mem_filter.mpr ⟨List.mem_of_getElem? h, g⟩
theorem xgt_good {w : Cond} (h : w ∈ xgt) : goodWord w = true := (List.mem_filter.mp h).2
theorem xgt_tbl {w : Cond} (h : w ∈ xgt) : w ∈ lw_tbl := (List.mem_filter.mp h).1
/-- a method's own word -/
def xcw (z : Nat) : Cond := if xmh z = [] then .code (xmy z) (xmb z) (xml z) (xmr z) else .codeWith (xmy z) (xmb z) (xml z) (xmr z) (xmh z)
/-- how many parameters -/
def xna (z : Nat) : Nat := ((parseMethodDescriptor (xmy z).desc).map (fun d => d.parameters.length)).getD 99
/-- the words of every method but the law's own -/
def xokc (z : Nat) : Prop := xcw z ∈ xgt ∧ Cond.initialized (xmy z).cls ∈ xgt ∧ (xmy z).cls = xcn (xmo z) ∧ plainName (xmy z).cls = true ∧ ((xmy z).cls ≠ "java/lang/invoke/MethodHandle" ∧ (xmy z).cls ≠ "java/lang/invoke/VarHandle") ∧ (parseMethodDescriptor (xmy z).desc).map (fun d => d.parameters.length) = some (xna z)
def xokS (z : Nat) : Prop := xokc z ∧ Cond.static (xmy z) ∈ xgt
def xokI (z : Nat) : Prop := xokc z ∧ Cond.instanceMethod (xmy z) ∈ xgt ∧ (xmy z).name = "<init>" ∧ xmr z = none ∧ xmh z = []
def xokV (z : Nat) : Prop := xokc z ∧ Cond.instanceMethod (xmy z) ∈ xgt ∧ Cond.selects (xmy z).cls (xmy z) (xmy z) ∈ xgt
def xokp (w : Nat) (q : Nat × Nat × Nat × Nat) : Prop := match q with
  | (i, 0, ci, k) => Cond.fieldLink (xcn w) i (xT ci k).1 (xT ci k).2.1 (xT ci k).2.2.1 ∈ xgt ∧ k < xN ci ∧ ci < 8
  | (i, 1, ci, k) => Cond.fieldLinkNest (xcn w) i (xT ci k).1 (xT ci k).2.1 (xT ci k).2.2.1 "PairNames" ∈ lw_tbl ∧ k < xN ci ∧ ci < 8
  | (i, 2, z, _) => Cond.methodLink (xcn w) i (xmy z) ∈ xgt ∧ xokV z
  | (i, 3, z, _) => Cond.methodLink (xcn w) i (xmy z) ∈ xgt ∧ xokS z
  | (i, 4, z, _) => Cond.methodLink (xcn w) i (xmy z) ∈ xgt ∧ xokI z
  | (i, 5, z, _) => Cond.methodLinkNest (xcn w) i (xmy z) "PairNames" ∈ lw_tbl ∧ xokI z
  | (i, 6, _, _) => Cond.methodLink (xcn w) i objectInit ∈ xgt
  | (i, 7, ci, _) => Cond.classLink (xcn w) i (xcn ci) ∈ xgt ∧ ci < 8
  | (i, 8, e, _) => Cond.classLink (xcn w) i (xec e) ∈ xgt ∧ e < 3
  | (i, 9, k, _) => Cond.constantLong (xcn w) i ((xls[k]?).getD 0) ∈ xgt
  | (i, 10, k, _) => Cond.constantDouble (xcn w) i ((xds[k]?).getD 0) ∈ xgt
  | (i, 11, k, _) => Cond.stringRef (xcn w) i ((xss[k]?).getD "") ∈ lw_tbl
  | (i, 14, k, _) => Cond.constant (xcn w) i ((xis[k]?).getD 0) ∈ xgt
  | (i, 12, _, _) => Cond.methodLink (xcn w) i Lib.Math.max.name ∈ xgt
  | (i, 13, _, _) => Cond.methodLink (xcn w) i Lib.Math.min.name ∈ xgt
  | _ => False

set_option maxRecDepth 100000 in
theorem xc_0 : xokc 0 := ⟨xmem (p := 149) rfl rfl, xmem (p := 17) rfl rfl, rfl, by decide +kernel, by decide +kernel, by decide +kernel⟩
set_option maxRecDepth 100000 in
theorem xd_0 : xokI 0 := ⟨xc_0, xmem (p := 148) rfl rfl, rfl, rfl, rfl⟩
set_option maxRecDepth 100000 in
theorem xc_1 : xokc 1 := ⟨xmem (p := 388) rfl rfl, xmem (p := 17) rfl rfl, rfl, by decide +kernel, by decide +kernel, by decide +kernel⟩
set_option maxRecDepth 100000 in
theorem xd_1 : xokV 1 := ⟨xc_1, xmem (p := 386) rfl rfl, xmem (p := 387) rfl rfl⟩
set_option maxRecDepth 100000 in
theorem xc_2 : xokc 2 := ⟨xmem (p := 367) rfl rfl, xmem (p := 17) rfl rfl, rfl, by decide +kernel, by decide +kernel, by decide +kernel⟩
set_option maxRecDepth 100000 in
theorem xd_2 : xokV 2 := ⟨xc_2, xmem (p := 365) rfl rfl, xmem (p := 366) rfl rfl⟩
set_option maxRecDepth 100000 in
theorem xc_3 : xokc 3 := ⟨xmem (p := 342) rfl rfl, xmem (p := 17) rfl rfl, rfl, by decide +kernel, by decide +kernel, by decide +kernel⟩
set_option maxRecDepth 100000 in
theorem xd_3 : xokV 3 := ⟨xc_3, xmem (p := 340) rfl rfl, xmem (p := 341) rfl rfl⟩
set_option maxRecDepth 100000 in
theorem xc_4 : xokc 4 := ⟨xmem (p := 384) rfl rfl, xmem (p := 17) rfl rfl, rfl, by decide +kernel, by decide +kernel, by decide +kernel⟩
set_option maxRecDepth 100000 in
theorem xd_4 : xokV 4 := ⟨xc_4, xmem (p := 383) rfl rfl, xmem (p := 1) rfl rfl⟩
set_option maxRecDepth 100000 in
theorem xc_5 : xokc 5 := ⟨xmem (p := 393) rfl rfl, xmem (p := 17) rfl rfl, rfl, by decide +kernel, by decide +kernel, by decide +kernel⟩
set_option maxRecDepth 100000 in
theorem xd_5 : xokV 5 := ⟨xc_5, xmem (p := 392) rfl rfl, xmem (p := 2) rfl rfl⟩
set_option maxRecDepth 100000 in
theorem xc_6 : xokc 6 := ⟨xmem (p := 380) rfl rfl, xmem (p := 17) rfl rfl, rfl, by decide +kernel, by decide +kernel, by decide +kernel⟩
set_option maxRecDepth 100000 in
theorem xd_6 : xokV 6 := ⟨xc_6, xmem (p := 378) rfl rfl, xmem (p := 379) rfl rfl⟩
set_option maxRecDepth 100000 in
theorem xc_7 : xokc 7 := ⟨xmem (p := 376) rfl rfl, xmem (p := 17) rfl rfl, rfl, by decide +kernel, by decide +kernel, by decide +kernel⟩
set_option maxRecDepth 100000 in
theorem xd_7 : xokV 7 := ⟨xc_7, xmem (p := 374) rfl rfl, xmem (p := 375) rfl rfl⟩
set_option maxRecDepth 100000 in
theorem xc_8 : xokc 8 := ⟨xmem (p := 402) rfl rfl, xmem (p := 17) rfl rfl, rfl, by decide +kernel, by decide +kernel, by decide +kernel⟩
set_option maxRecDepth 100000 in
theorem xd_8 : xokV 8 := ⟨xc_8, xmem (p := 401) rfl rfl, xmem (p := 3) rfl rfl⟩
set_option maxRecDepth 100000 in
theorem xc_9 : xokc 9 := ⟨xmem (p := 398) rfl rfl, xmem (p := 17) rfl rfl, rfl, by decide +kernel, by decide +kernel, by decide +kernel⟩
set_option maxRecDepth 100000 in
theorem xd_9 : xokV 9 := ⟨xc_9, xmem (p := 396) rfl rfl, xmem (p := 397) rfl rfl⟩
set_option maxRecDepth 100000 in
theorem xc_10 : xokc 10 := ⟨xmem (p := 439) rfl rfl, xmem (p := 17) rfl rfl, rfl, by decide +kernel, by decide +kernel, by decide +kernel⟩
set_option maxRecDepth 100000 in
theorem xd_10 : xokV 10 := ⟨xc_10, xmem (p := 437) rfl rfl, xmem (p := 438) rfl rfl⟩
set_option maxRecDepth 100000 in
theorem xc_11 : xokc 11 := ⟨xmem (p := 67) rfl rfl, xmem (p := 15) rfl rfl, rfl, by decide +kernel, by decide +kernel, by decide +kernel⟩
set_option maxRecDepth 100000 in
theorem xd_11 : xokI 11 := ⟨xc_11, xmem (p := 66) rfl rfl, rfl, rfl, rfl⟩
set_option maxRecDepth 100000 in
theorem xc_12 : xokc 12 := ⟨xmem (p := 298) rfl rfl, xmem (p := 15) rfl rfl, rfl, by decide +kernel, by decide +kernel, by decide +kernel⟩
set_option maxRecDepth 100000 in
theorem xd_12 : xokV 12 := ⟨xc_12, xmem (p := 296) rfl rfl, xmem (p := 297) rfl rfl⟩
set_option maxRecDepth 100000 in
theorem xc_13 : xokc 13 := ⟨xmem (p := 76) rfl rfl, xmem (p := 15) rfl rfl, rfl, by decide +kernel, by decide +kernel, by decide +kernel⟩
set_option maxRecDepth 100000 in
theorem xd_13 : xokV 13 := ⟨xc_13, xmem (p := 74) rfl rfl, xmem (p := 75) rfl rfl⟩
set_option maxRecDepth 100000 in
theorem xc_14 : xokc 14 := ⟨xmem (p := 645) rfl rfl, xmem (p := 15) rfl rfl, rfl, by decide +kernel, by decide +kernel, by decide +kernel⟩
set_option maxRecDepth 100000 in
theorem xd_14 : xokV 14 := ⟨xc_14, xmem (p := 643) rfl rfl, xmem (p := 644) rfl rfl⟩
set_option maxRecDepth 100000 in
theorem xc_15 : xokc 15 := ⟨xmem (p := 431) rfl rfl, xmem (p := 15) rfl rfl, rfl, by decide +kernel, by decide +kernel, by decide +kernel⟩
set_option maxRecDepth 100000 in
theorem xd_15 : xokV 15 := ⟨xc_15, xmem (p := 429) rfl rfl, xmem (p := 430) rfl rfl⟩
set_option maxRecDepth 100000 in
theorem xc_16 : xokc 16 := ⟨xmem (p := 129) rfl rfl, xmem (p := 16) rfl rfl, rfl, by decide +kernel, by decide +kernel, by decide +kernel⟩
set_option maxRecDepth 100000 in
theorem xd_16 : xokI 16 := ⟨xc_16, xmem (p := 128) rfl rfl, rfl, rfl, rfl⟩
set_option maxRecDepth 100000 in
theorem xc_17 : xokc 17 := ⟨xmem (p := 411) rfl rfl, xmem (p := 16) rfl rfl, rfl, by decide +kernel, by decide +kernel, by decide +kernel⟩
set_option maxRecDepth 100000 in
theorem xd_17 : xokV 17 := ⟨xc_17, xmem (p := 409) rfl rfl, xmem (p := 410) rfl rfl⟩
set_option maxRecDepth 100000 in
theorem xc_18 : xokc 18 := ⟨xmem (p := 684) rfl rfl, xmem (p := 16) rfl rfl, rfl, by decide +kernel, by decide +kernel, by decide +kernel⟩
set_option maxRecDepth 100000 in
theorem xd_18 : xokV 18 := ⟨xc_18, xmem (p := 682) rfl rfl, xmem (p := 683) rfl rfl⟩
set_option maxRecDepth 100000 in
theorem xc_19 : xokc 19 := ⟨xmem (p := 61) rfl rfl, xmem (p := 14) rfl rfl, rfl, by decide +kernel, by decide +kernel, by decide +kernel⟩
set_option maxRecDepth 100000 in
theorem xd_19 : xokI 19 := ⟨xc_19, xmem (p := 60) rfl rfl, rfl, rfl, rfl⟩
set_option maxRecDepth 100000 in
theorem xc_20 : xokc 20 := ⟨xmem (p := 427) rfl rfl, xmem (p := 14) rfl rfl, rfl, by decide +kernel, by decide +kernel, by decide +kernel⟩
set_option maxRecDepth 100000 in
theorem xd_20 : xokV 20 := ⟨xc_20, xmem (p := 425) rfl rfl, xmem (p := 426) rfl rfl⟩
set_option maxRecDepth 100000 in
theorem xc_21 : xokc 21 := ⟨xmem (p := 294) rfl rfl, xmem (p := 14) rfl rfl, rfl, by decide +kernel, by decide +kernel, by decide +kernel⟩
set_option maxRecDepth 100000 in
theorem xd_21 : xokV 21 := ⟨xc_21, xmem (p := 292) rfl rfl, xmem (p := 293) rfl rfl⟩
set_option maxRecDepth 100000 in
theorem xc_22 : xokc 22 := ⟨xmem (p := 290) rfl rfl, xmem (p := 14) rfl rfl, rfl, by decide +kernel, by decide +kernel, by decide +kernel⟩
set_option maxRecDepth 100000 in
theorem xd_22 : xokV 22 := ⟨xc_22, xmem (p := 288) rfl rfl, xmem (p := 289) rfl rfl⟩
set_option maxRecDepth 100000 in
theorem xc_23 : xokc 23 := ⟨xmem (p := 600) rfl rfl, xmem (p := 14) rfl rfl, rfl, by decide +kernel, by decide +kernel, by decide +kernel⟩
set_option maxRecDepth 100000 in
theorem xd_23 : xokV 23 := ⟨xc_23, xmem (p := 598) rfl rfl, xmem (p := 599) rfl rfl⟩
set_option maxRecDepth 100000 in
theorem xc_24 : xokc 24 := ⟨xmem (p := 495) rfl rfl, xmem (p := 14) rfl rfl, rfl, by decide +kernel, by decide +kernel, by decide +kernel⟩
set_option maxRecDepth 100000 in
theorem xd_24 : xokV 24 := ⟨xc_24, xmem (p := 493) rfl rfl, xmem (p := 494) rfl rfl⟩
set_option maxRecDepth 100000 in
theorem xc_25 : xokc 25 := ⟨xmem (p := 591) rfl rfl, xmem (p := 14) rfl rfl, rfl, by decide +kernel, by decide +kernel, by decide +kernel⟩
set_option maxRecDepth 100000 in
theorem xd_25 : xokV 25 := ⟨xc_25, xmem (p := 589) rfl rfl, xmem (p := 590) rfl rfl⟩
set_option maxRecDepth 100000 in
theorem xc_26 : xokc 26 := ⟨xmem (p := 491) rfl rfl, xmem (p := 14) rfl rfl, rfl, by decide +kernel, by decide +kernel, by decide +kernel⟩
set_option maxRecDepth 100000 in
theorem xd_26 : xokV 26 := ⟨xc_26, xmem (p := 489) rfl rfl, xmem (p := 490) rfl rfl⟩
set_option maxRecDepth 100000 in
theorem xc_27 : xokc 27 := ⟨xmem (p := 550) rfl rfl, xmem (p := 14) rfl rfl, rfl, by decide +kernel, by decide +kernel, by decide +kernel⟩
set_option maxRecDepth 100000 in
theorem xd_27 : xokV 27 := ⟨xc_27, xmem (p := 548) rfl rfl, xmem (p := 549) rfl rfl⟩
set_option maxRecDepth 100000 in
theorem xc_28 : xokc 28 := ⟨xmem (p := 165) rfl rfl, xmem (p := 18) rfl rfl, rfl, by decide +kernel, by decide +kernel, by decide +kernel⟩
set_option maxRecDepth 100000 in
theorem xd_28 : xokI 28 := ⟨xc_28, xmem (p := 164) rfl rfl, rfl, rfl, rfl⟩
set_option maxRecDepth 100000 in
theorem xc_29 : xokc 29 := ⟨xmem (p := 576) rfl rfl, xmem (p := 18) rfl rfl, rfl, by decide +kernel, by decide +kernel, by decide +kernel⟩
set_option maxRecDepth 100000 in
theorem xd_29 : xokV 29 := ⟨xc_29, xmem (p := 574) rfl rfl, xmem (p := 575) rfl rfl⟩
set_option maxRecDepth 100000 in
theorem xc_30 : xokc 30 := ⟨xmem (p := 580) rfl rfl, xmem (p := 18) rfl rfl, rfl, by decide +kernel, by decide +kernel, by decide +kernel⟩
set_option maxRecDepth 100000 in
theorem xd_30 : xokV 30 := ⟨xc_30, xmem (p := 579) rfl rfl, xmem (p := 6) rfl rfl⟩
set_option maxRecDepth 100000 in
theorem xc_31 : xokc 31 := ⟨xmem (p := 587) rfl rfl, xmem (p := 18) rfl rfl, rfl, by decide +kernel, by decide +kernel, by decide +kernel⟩
set_option maxRecDepth 100000 in
theorem xd_31 : xokV 31 := ⟨xc_31, xmem (p := 586) rfl rfl, xmem (p := 7) rfl rfl⟩
set_option maxRecDepth 100000 in
theorem xc_32 : xokc 32 := ⟨xmem (p := 663) rfl rfl, xmem (p := 18) rfl rfl, rfl, by decide +kernel, by decide +kernel, by decide +kernel⟩
set_option maxRecDepth 100000 in
theorem xd_32 : xokV 32 := ⟨xc_32, xmem (p := 661) rfl rfl, xmem (p := 662) rfl rfl⟩
set_option maxRecDepth 100000 in
theorem xc_33 : xokc 33 := ⟨xmem (p := 595) rfl rfl, xmem (p := 18) rfl rfl, rfl, by decide +kernel, by decide +kernel, by decide +kernel⟩
set_option maxRecDepth 100000 in
theorem xd_33 : xokV 33 := ⟨xc_33, xmem (p := 593) rfl rfl, xmem (p := 594) rfl rfl⟩
set_option maxRecDepth 100000 in
theorem xc_34 : xokc 34 := ⟨xmem (p := 572) rfl rfl, xmem (p := 18) rfl rfl, rfl, by decide +kernel, by decide +kernel, by decide +kernel⟩
set_option maxRecDepth 100000 in
theorem xd_34 : xokV 34 := ⟨xc_34, xmem (p := 570) rfl rfl, xmem (p := 571) rfl rfl⟩
set_option maxRecDepth 100000 in
theorem xc_35 : xokc 35 := ⟨xmem (p := 44) rfl rfl, xmem (p := 13) rfl rfl, rfl, by decide +kernel, by decide +kernel, by decide +kernel⟩
set_option maxRecDepth 100000 in
theorem xd_35 : xokI 35 := ⟨xc_35, xmem (p := 43) rfl rfl, rfl, rfl, rfl⟩
set_option maxRecDepth 100000 in
theorem xc_36 : xokc 36 := ⟨xmem (p := 306) rfl rfl, xmem (p := 13) rfl rfl, rfl, by decide +kernel, by decide +kernel, by decide +kernel⟩
set_option maxRecDepth 100000 in
theorem xd_36 : xokV 36 := ⟨xc_36, xmem (p := 304) rfl rfl, xmem (p := 305) rfl rfl⟩
set_option maxRecDepth 100000 in
theorem xc_37 : xokc 37 := ⟨xmem (p := 406) rfl rfl, xmem (p := 13) rfl rfl, rfl, by decide +kernel, by decide +kernel, by decide +kernel⟩
set_option maxRecDepth 100000 in
theorem xd_37 : xokV 37 := ⟨xc_37, xmem (p := 404) rfl rfl, xmem (p := 405) rfl rfl⟩
set_option maxRecDepth 100000 in
theorem xc_38 : xokc 38 := ⟨xmem (p := 423) rfl rfl, xmem (p := 13) rfl rfl, rfl, by decide +kernel, by decide +kernel, by decide +kernel⟩
set_option maxRecDepth 100000 in
theorem xd_38 : xokV 38 := ⟨xc_38, xmem (p := 421) rfl rfl, xmem (p := 422) rfl rfl⟩
set_option maxRecDepth 100000 in
theorem xc_39 : xokc 39 := ⟨xmem (p := 478) rfl rfl, xmem (p := 13) rfl rfl, rfl, by decide +kernel, by decide +kernel, by decide +kernel⟩
set_option maxRecDepth 100000 in
theorem xd_39 : xokV 39 := ⟨xc_39, xmem (p := 476) rfl rfl, xmem (p := 477) rfl rfl⟩
set_option maxRecDepth 100000 in
theorem xc_40 : xokc 40 := ⟨xmem (p := 419) rfl rfl, xmem (p := 13) rfl rfl, rfl, by decide +kernel, by decide +kernel, by decide +kernel⟩
set_option maxRecDepth 100000 in
theorem xd_40 : xokV 40 := ⟨xc_40, xmem (p := 417) rfl rfl, xmem (p := 418) rfl rfl⟩
set_option maxRecDepth 100000 in
theorem xc_41 : xokc 41 := ⟨xmem (p := 514) rfl rfl, xmem (p := 13) rfl rfl, rfl, by decide +kernel, by decide +kernel, by decide +kernel⟩
set_option maxRecDepth 100000 in
theorem xd_41 : xokV 41 := ⟨xc_41, xmem (p := 513) rfl rfl, xmem (p := 4) rfl rfl⟩
set_option maxRecDepth 100000 in
theorem xc_42 : xokc 42 := ⟨xmem (p := 509) rfl rfl, xmem (p := 13) rfl rfl, rfl, by decide +kernel, by decide +kernel, by decide +kernel⟩
set_option maxRecDepth 100000 in
theorem xd_42 : xokV 42 := ⟨xc_42, xmem (p := 507) rfl rfl, xmem (p := 508) rfl rfl⟩
set_option maxRecDepth 100000 in
theorem xc_43 : xokc 43 := ⟨xmem (p := 605) rfl rfl, xmem (p := 13) rfl rfl, rfl, by decide +kernel, by decide +kernel, by decide +kernel⟩
set_option maxRecDepth 100000 in
theorem xd_43 : xokV 43 := ⟨xc_43, xmem (p := 603) rfl rfl, xmem (p := 604) rfl rfl⟩
set_option maxRecDepth 100000 in
theorem xc_44 : xokc 44 := ⟨xmem (p := 675) rfl rfl, xmem (p := 13) rfl rfl, rfl, by decide +kernel, by decide +kernel, by decide +kernel⟩
set_option maxRecDepth 100000 in
theorem xd_44 : xokV 44 := ⟨xc_44, xmem (p := 673) rfl rfl, xmem (p := 674) rfl rfl⟩
set_option maxRecDepth 100000 in
theorem xc_45 : xokc 45 := ⟨xmem (p := 315) rfl rfl, xmem (p := 13) rfl rfl, rfl, by decide +kernel, by decide +kernel, by decide +kernel⟩
set_option maxRecDepth 100000 in
theorem xd_45 : xokV 45 := ⟨xc_45, xmem (p := 313) rfl rfl, xmem (p := 314) rfl rfl⟩
set_option maxRecDepth 100000 in
theorem xc_46 : xokc 46 := ⟨xmem (p := 311) rfl rfl, xmem (p := 13) rfl rfl, rfl, by decide +kernel, by decide +kernel, by decide +kernel⟩
set_option maxRecDepth 100000 in
theorem xd_46 : xokV 46 := ⟨xc_46, xmem (p := 309) rfl rfl, xmem (p := 310) rfl rfl⟩
set_option maxRecDepth 100000 in
theorem xc_47 : xokc 47 := ⟨xmem (p := 38) rfl rfl, xmem (p := 12) rfl rfl, rfl, by decide +kernel, by decide +kernel, by decide +kernel⟩
set_option maxRecDepth 100000 in
theorem xd_47 : xokI 47 := ⟨xc_47, xmem (p := 37) rfl rfl, rfl, rfl, rfl⟩
set_option maxRecDepth 100000 in
theorem xc_48 : xokc 48 := ⟨xmem (p := 415) rfl rfl, xmem (p := 12) rfl rfl, rfl, by decide +kernel, by decide +kernel, by decide +kernel⟩
set_option maxRecDepth 100000 in
theorem xd_48 : xokV 48 := ⟨xc_48, xmem (p := 413) rfl rfl, xmem (p := 414) rfl rfl⟩
set_option maxRecDepth 100000 in
theorem xc_49 : xokc 49 := ⟨xmem (p := 486) rfl rfl, xmem (p := 12) rfl rfl, rfl, by decide +kernel, by decide +kernel, by decide +kernel⟩
set_option maxRecDepth 100000 in
theorem xd_49 : xokV 49 := ⟨xc_49, xmem (p := 484) rfl rfl, xmem (p := 485) rfl rfl⟩
set_option maxRecDepth 100000 in
theorem xc_50 : xokc 50 := ⟨xmem (p := 327) rfl rfl, xmem (p := 12) rfl rfl, rfl, by decide +kernel, by decide +kernel, by decide +kernel⟩
set_option maxRecDepth 100000 in
theorem xd_50 : xokV 50 := ⟨xc_50, xmem (p := 325) rfl rfl, xmem (p := 326) rfl rfl⟩
set_option maxRecDepth 100000 in
theorem xc_51 : xokc 51 := ⟨xmem (p := 302) rfl rfl, xmem (p := 12) rfl rfl, rfl, by decide +kernel, by decide +kernel, by decide +kernel⟩
set_option maxRecDepth 100000 in
theorem xd_51 : xokV 51 := ⟨xc_51, xmem (p := 300) rfl rfl, xmem (p := 301) rfl rfl⟩
set_option maxRecDepth 100000 in
theorem xc_52 : xokc 52 := ⟨xmem (p := 320) rfl rfl, xmem (p := 12) rfl rfl, rfl, by decide +kernel, by decide +kernel, by decide +kernel⟩
set_option maxRecDepth 100000 in
theorem xd_52 : xokV 52 := ⟨xc_52, xmem (p := 318) rfl rfl, xmem (p := 319) rfl rfl⟩
set_option maxRecDepth 100000 in
theorem xc_53 : xokc 53 := ⟨xmem (p := 546) rfl rfl, xmem (p := 12) rfl rfl, rfl, by decide +kernel, by decide +kernel, by decide +kernel⟩
set_option maxRecDepth 100000 in
theorem xd_53 : xokV 53 := ⟨xc_53, xmem (p := 544) rfl rfl, xmem (p := 545) rfl rfl⟩
set_option maxRecDepth 100000 in
theorem xc_54 : xokc 54 := ⟨xmem (p := 641) rfl rfl, xmem (p := 12) rfl rfl, rfl, by decide +kernel, by decide +kernel, by decide +kernel⟩
set_option maxRecDepth 100000 in
theorem xd_54 : xokV 54 := ⟨xc_54, xmem (p := 639) rfl rfl, xmem (p := 640) rfl rfl⟩
set_option maxRecDepth 100000 in
theorem xc_55 : xokc 55 := ⟨xmem (p := 632) rfl rfl, xmem (p := 12) rfl rfl, rfl, by decide +kernel, by decide +kernel, by decide +kernel⟩
set_option maxRecDepth 100000 in
theorem xd_55 : xokV 55 := ⟨xc_55, xmem (p := 630) rfl rfl, xmem (p := 631) rfl rfl⟩
set_option maxRecDepth 100000 in
theorem xc_56 : xokc 56 := ⟨xmem (p := 286) rfl rfl, xmem (p := 12) rfl rfl, rfl, by decide +kernel, by decide +kernel, by decide +kernel⟩
set_option maxRecDepth 100000 in
theorem xd_56 : xokV 56 := ⟨xc_56, xmem (p := 284) rfl rfl, xmem (p := 285) rfl rfl⟩
set_option maxRecDepth 100000 in
theorem xc_57 : xokc 57 := ⟨xmem (p := 505) rfl rfl, xmem (p := 12) rfl rfl, rfl, by decide +kernel, by decide +kernel, by decide +kernel⟩
set_option maxRecDepth 100000 in
theorem xd_57 : xokV 57 := ⟨xc_57, xmem (p := 503) rfl rfl, xmem (p := 504) rfl rfl⟩
set_option maxRecDepth 100000 in
theorem xc_58 : xokc 58 := ⟨xmem (p := 482) rfl rfl, xmem (p := 12) rfl rfl, rfl, by decide +kernel, by decide +kernel, by decide +kernel⟩
set_option maxRecDepth 100000 in
theorem xd_58 : xokV 58 := ⟨xc_58, xmem (p := 480) rfl rfl, xmem (p := 481) rfl rfl⟩
set_option maxRecDepth 100000 in
theorem xc_59 : xokc 59 := ⟨xmem (p := 524) rfl rfl, xmem (p := 12) rfl rfl, rfl, by decide +kernel, by decide +kernel, by decide +kernel⟩
set_option maxRecDepth 100000 in
theorem xd_59 : xokV 59 := ⟨xc_59, xmem (p := 522) rfl rfl, xmem (p := 523) rfl rfl⟩
set_option maxRecDepth 100000 in
theorem xc_60 : xokc 60 := ⟨xmem (p := 529) rfl rfl, xmem (p := 12) rfl rfl, rfl, by decide +kernel, by decide +kernel, by decide +kernel⟩
set_option maxRecDepth 100000 in
theorem xd_60 : xokV 60 := ⟨xc_60, xmem (p := 528) rfl rfl, xmem (p := 5) rfl rfl⟩
set_option maxRecDepth 100000 in
theorem xc_61 : xokc 61 := ⟨xmem (p := 534) rfl rfl, xmem (p := 12) rfl rfl, rfl, by decide +kernel, by decide +kernel, by decide +kernel⟩
set_option maxRecDepth 100000 in
theorem xd_61 : xokV 61 := ⟨xc_61, xmem (p := 532) rfl rfl, xmem (p := 533) rfl rfl⟩
set_option maxRecDepth 100000 in
theorem xc_62 : xokc 62 := ⟨xmem (p := 30) rfl rfl, xmem (p := 11) rfl rfl, rfl, by decide +kernel, by decide +kernel, by decide +kernel⟩
set_option maxRecDepth 100000 in
theorem xd_62 : xokI 62 := ⟨xc_62, xmem (p := 29) rfl rfl, rfl, rfl, rfl⟩
set_option maxRecDepth 100000 in
theorem xc_63 : xokc 63 := ⟨xmem (p := 372) rfl rfl, xmem (p := 11) rfl rfl, rfl, by decide +kernel, by decide +kernel, by decide +kernel⟩
set_option maxRecDepth 100000 in
theorem xd_63 : xokV 63 := ⟨xc_63, xmem (p := 370) rfl rfl, xmem (p := 371) rfl rfl⟩
set_option maxRecDepth 100000 in
theorem xc_64 : xokc 64 := ⟨xmem (p := 444) rfl rfl, xmem (p := 11) rfl rfl, rfl, by decide +kernel, by decide +kernel, by decide +kernel⟩
set_option maxRecDepth 100000 in
theorem xd_64 : xokV 64 := ⟨xc_64, xmem (p := 442) rfl rfl, xmem (p := 443) rfl rfl⟩
set_option maxRecDepth 100000 in
theorem xc_65 : xokc 65 := ⟨xmem (p := 473) rfl rfl, xmem (p := 11) rfl rfl, rfl, by decide +kernel, by decide +kernel, by decide +kernel⟩
set_option maxRecDepth 100000 in
theorem xd_65 : xokV 65 := ⟨xc_65, xmem (p := 471) rfl rfl, xmem (p := 472) rfl rfl⟩
set_option maxRecDepth 100000 in
theorem xc_66 : xokc 66 := ⟨xmem (p := 500) rfl rfl, xmem (p := 11) rfl rfl, rfl, by decide +kernel, by decide +kernel, by decide +kernel⟩
set_option maxRecDepth 100000 in
theorem xd_66 : xokV 66 := ⟨xc_66, xmem (p := 498) rfl rfl, xmem (p := 499) rfl rfl⟩
set_option maxRecDepth 100000 in
theorem xc_67 : xokc 67 := ⟨xmem (p := 610) rfl rfl, xmem (p := 11) rfl rfl, rfl, by decide +kernel, by decide +kernel, by decide +kernel⟩
set_option maxRecDepth 100000 in
theorem xd_67 : xokV 67 := ⟨xc_67, xmem (p := 608) rfl rfl, xmem (p := 609) rfl rfl⟩
set_option maxRecDepth 100000 in
theorem xc_68 : xokc 68 := ⟨xmem (p := 568) rfl rfl, xmem (p := 11) rfl rfl, rfl, by decide +kernel, by decide +kernel, by decide +kernel⟩
set_option maxRecDepth 100000 in
theorem xd_68 : xokV 68 := ⟨xc_68, xmem (p := 566) rfl rfl, xmem (p := 567) rfl rfl⟩
set_option maxRecDepth 100000 in
theorem xc_69 : xokc 69 := ⟨xmem (p := 520) rfl rfl, xmem (p := 11) rfl rfl, rfl, by decide +kernel, by decide +kernel, by decide +kernel⟩
set_option maxRecDepth 100000 in
theorem xd_69 : xokV 69 := ⟨xc_69, xmem (p := 518) rfl rfl, xmem (p := 519) rfl rfl⟩
set_option maxRecDepth 100000 in
theorem xc_70 : xokc 70 := ⟨xmem (p := 539) rfl rfl, xmem (p := 11) rfl rfl, rfl, by decide +kernel, by decide +kernel, by decide +kernel⟩
set_option maxRecDepth 100000 in
theorem xd_70 : xokV 70 := ⟨xc_70, xmem (p := 537) rfl rfl, xmem (p := 538) rfl rfl⟩
set_option maxRecDepth 100000 in
theorem xc_71 : xokc 71 := ⟨xmem (p := 554) rfl rfl, xmem (p := 11) rfl rfl, rfl, by decide +kernel, by decide +kernel, by decide +kernel⟩
set_option maxRecDepth 100000 in
theorem xd_71 : xokV 71 := ⟨xc_71, xmem (p := 552) rfl rfl, xmem (p := 553) rfl rfl⟩
set_option maxRecDepth 100000 in
theorem xc_72 : xokc 72 := ⟨xmem (p := 346) rfl rfl, xmem (p := 11) rfl rfl, rfl, by decide +kernel, by decide +kernel, by decide +kernel⟩
set_option maxRecDepth 100000 in
theorem xd_72 : xokV 72 := ⟨xc_72, xmem (p := 344) rfl rfl, xmem (p := 345) rfl rfl⟩
set_option maxRecDepth 100000 in
theorem xc_73 : xokc 73 := ⟨xmem (p := 338) rfl rfl, xmem (p := 11) rfl rfl, rfl, by decide +kernel, by decide +kernel, by decide +kernel⟩
set_option maxRecDepth 100000 in
theorem xd_73 : xokV 73 := ⟨xc_73, xmem (p := 336) rfl rfl, xmem (p := 337) rfl rfl⟩
set_option maxRecDepth 100000 in
theorem xc_74 : xokc 74 := ⟨xmem (p := 679) rfl rfl, xmem (p := 11) rfl rfl, rfl, by decide +kernel, by decide +kernel, by decide +kernel⟩
set_option maxRecDepth 100000 in
theorem xd_74 : xokV 74 := ⟨xc_74, xmem (p := 677) rfl rfl, xmem (p := 678) rfl rfl⟩
set_option maxRecDepth 100000 in
theorem xc_75 : xokc 75 := ⟨xmem (p := 467) rfl rfl, xmem (p := 11) rfl rfl, rfl, by decide +kernel, by decide +kernel, by decide +kernel⟩
set_option maxRecDepth 100000 in
theorem xd_75 : xokV 75 := ⟨xc_75, xmem (p := 465) rfl rfl, xmem (p := 466) rfl rfl⟩
set_option maxRecDepth 100000 in
theorem xc_76 : xokc 76 := ⟨xmem (p := 620) rfl rfl, xmem (p := 11) rfl rfl, rfl, by decide +kernel, by decide +kernel, by decide +kernel⟩
set_option maxRecDepth 100000 in
theorem xd_76 : xokV 76 := ⟨xc_76, xmem (p := 618) rfl rfl, xmem (p := 619) rfl rfl⟩
set_option maxRecDepth 100000 in
theorem xc_77 : xokc 77 := ⟨xmem (p := 627) rfl rfl, xmem (p := 11) rfl rfl, rfl, by decide +kernel, by decide +kernel, by decide +kernel⟩
set_option maxRecDepth 100000 in
theorem xd_77 : xokV 77 := ⟨xc_77, xmem (p := 625) rfl rfl, xmem (p := 626) rfl rfl⟩
set_option maxRecDepth 100000 in
theorem xc_78 : xokc 78 := ⟨xmem (p := 671) rfl rfl, xmem (p := 11) rfl rfl, rfl, by decide +kernel, by decide +kernel, by decide +kernel⟩
set_option maxRecDepth 100000 in
theorem xd_78 : xokV 78 := ⟨xc_78, xmem (p := 669) rfl rfl, xmem (p := 670) rfl rfl⟩
set_option maxRecDepth 100000 in
theorem xc_79 : xokc 79 := ⟨xmem (p := 658) rfl rfl, xmem (p := 11) rfl rfl, rfl, by decide +kernel, by decide +kernel, by decide +kernel⟩
set_option maxRecDepth 100000 in
theorem xd_79 : xokV 79 := ⟨xc_79, xmem (p := 656) rfl rfl, xmem (p := 657) rfl rfl⟩
set_option maxRecDepth 100000 in
theorem xc_80 : xokc 80 := ⟨xmem (p := 214) rfl rfl, xmem (p := 11) rfl rfl, rfl, by decide +kernel, by decide +kernel, by decide +kernel⟩
set_option maxRecDepth 100000 in
theorem xd_80 : xokV 80 := ⟨xc_80, xmem (p := 212) rfl rfl, xmem (p := 213) rfl rfl⟩
set_option maxRecDepth 100000 in
theorem xc_81 : xokc 81 := ⟨xmem (p := 636) rfl rfl, xmem (p := 11) rfl rfl, rfl, by decide +kernel, by decide +kernel, by decide +kernel⟩
set_option maxRecDepth 100000 in
theorem xd_81 : xokV 81 := ⟨xc_81, xmem (p := 634) rfl rfl, xmem (p := 635) rfl rfl⟩
set_option maxRecDepth 100000 in
theorem xc_82 : xokc 82 := ⟨xmem (p := 667) rfl rfl, xmem (p := 11) rfl rfl, rfl, by decide +kernel, by decide +kernel, by decide +kernel⟩
set_option maxRecDepth 100000 in
theorem xd_82 : xokV 82 := ⟨xc_82, xmem (p := 665) rfl rfl, xmem (p := 666) rfl rfl⟩
set_option maxRecDepth 100000 in
theorem xc_83 : xokc 83 := ⟨xmem (p := 688) rfl rfl, xmem (p := 11) rfl rfl, rfl, by decide +kernel, by decide +kernel, by decide +kernel⟩
set_option maxRecDepth 100000 in
theorem xd_83 : xokV 83 := ⟨xc_83, xmem (p := 686) rfl rfl, xmem (p := 687) rfl rfl⟩
set_option maxRecDepth 100000 in
theorem xc_84 : xokc 84 := ⟨xmem (p := 705) rfl rfl, xmem (p := 11) rfl rfl, rfl, by decide +kernel, by decide +kernel, by decide +kernel⟩
set_option maxRecDepth 100000 in
theorem xd_84 : xokV 84 := ⟨xc_84, xmem (p := 703) rfl rfl, xmem (p := 704) rfl rfl⟩
set_option maxRecDepth 100000 in
theorem xc_85 : xokc 85 := ⟨xmem (p := 557) rfl rfl, xmem (p := 11) rfl rfl, rfl, by decide +kernel, by decide +kernel, by decide +kernel⟩
set_option maxRecDepth 100000 in
theorem xd_85 : xokS 85 := ⟨xc_85, xmem (p := 556) rfl rfl⟩
set_option maxRecDepth 100000 in
theorem xc_86 : xokc 86 := ⟨xmem (p := 561) rfl rfl, xmem (p := 11) rfl rfl, rfl, by decide +kernel, by decide +kernel, by decide +kernel⟩
set_option maxRecDepth 100000 in
theorem xd_86 : xokS 86 := ⟨xc_86, xmem (p := 560) rfl rfl⟩
set_option maxRecDepth 100000 in
theorem xc_87 : xokc 87 := ⟨xmem (p := 692) rfl rfl, xmem (p := 11) rfl rfl, rfl, by decide +kernel, by decide +kernel, by decide +kernel⟩
set_option maxRecDepth 100000 in
theorem xd_87 : xokV 87 := ⟨xc_87, xmem (p := 691) rfl rfl, xmem (p := 8) rfl rfl⟩
set_option maxRecDepth 100000 in
theorem xc_88 : xokc 88 := ⟨xmem (p := 696) rfl rfl, xmem (p := 11) rfl rfl, rfl, by decide +kernel, by decide +kernel, by decide +kernel⟩
set_option maxRecDepth 100000 in
theorem xd_88 : xokV 88 := ⟨xc_88, xmem (p := 695) rfl rfl, xmem (p := 9) rfl rfl⟩
set_option maxRecDepth 100000 in
theorem xc_91 : xokc 91 := ⟨xmem (p := 207) rfl rfl, xmem (p := 10) rfl rfl, rfl, by decide +kernel, by decide +kernel, by decide +kernel⟩
set_option maxRecDepth 100000 in
theorem xd_91 : xokS 91 := ⟨xc_91, xmem (p := 206) rfl rfl⟩
set_option maxRecDepth 100000 in
theorem xc_92 : xokc 92 := ⟨xmem (p := 330) rfl rfl, xmem (p := 10) rfl rfl, rfl, by decide +kernel, by decide +kernel, by decide +kernel⟩
set_option maxRecDepth 100000 in
theorem xd_92 : xokS 92 := ⟨xc_92, xmem (p := 329) rfl rfl⟩
set_option maxRecDepth 100000 in
theorem xc_93 : xokc 93 := ⟨xmem (p := 648) rfl rfl, xmem (p := 10) rfl rfl, rfl, by decide +kernel, by decide +kernel, by decide +kernel⟩
set_option maxRecDepth 100000 in
theorem xd_93 : xokS 93 := ⟨xc_93, xmem (p := 647) rfl rfl⟩
set_option maxRecDepth 100000 in
theorem xc_94 : xokc 94 := ⟨xmem (p := 651) rfl rfl, xmem (p := 10) rfl rfl, rfl, by decide +kernel, by decide +kernel, by decide +kernel⟩
set_option maxRecDepth 100000 in
theorem xd_94 : xokS 94 := ⟨xc_94, xmem (p := 650) rfl rfl⟩
set_option maxRecDepth 100000 in
theorem xc_95 : xokc 95 := ⟨xmem (p := 334) rfl rfl, xmem (p := 10) rfl rfl, rfl, by decide +kernel, by decide +kernel, by decide +kernel⟩
set_option maxRecDepth 100000 in
theorem xd_95 : xokS 95 := ⟨xc_95, xmem (p := 333) rfl rfl⟩
set_option maxRecDepth 100000 in
theorem xc_96 : xokc 96 := ⟨xmem (p := 210) rfl rfl, xmem (p := 10) rfl rfl, rfl, by decide +kernel, by decide +kernel, by decide +kernel⟩
set_option maxRecDepth 100000 in
theorem xd_96 : xokS 96 := ⟨xc_96, xmem (p := 209) rfl rfl⟩
set_option maxRecDepth 100000 in
theorem xc_97 : xokc 97 := ⟨xmem (p := 615) rfl rfl, xmem (p := 10) rfl rfl, rfl, by decide +kernel, by decide +kernel, by decide +kernel⟩
set_option maxRecDepth 100000 in
theorem xd_97 : xokS 97 := ⟨xc_97, xmem (p := 614) rfl rfl⟩
set_option maxRecDepth 100000 in
theorem xc_98 : xokc 98 := ⟨xmem (p := 623) rfl rfl, xmem (p := 10) rfl rfl, rfl, by decide +kernel, by decide +kernel, by decide +kernel⟩
set_option maxRecDepth 100000 in
theorem xd_98 : xokS 98 := ⟨xc_98, xmem (p := 622) rfl rfl⟩
set_option maxRecDepth 100000 in
theorem xc_99 : xokc 99 := ⟨xmem (p := 654) rfl rfl, xmem (p := 10) rfl rfl, rfl, by decide +kernel, by decide +kernel, by decide +kernel⟩
set_option maxRecDepth 100000 in
theorem xd_99 : xokS 99 := ⟨xc_99, xmem (p := 653) rfl rfl⟩
set_option maxRecDepth 100000 in
theorem xc_100 : xokc 100 := ⟨xmem (p := 701) rfl rfl, xmem (p := 10) rfl rfl, rfl, by decide +kernel, by decide +kernel, by decide +kernel⟩
set_option maxRecDepth 100000 in
theorem xd_100 : xokS 100 := ⟨xc_100, xmem (p := 700) rfl rfl⟩
set_option maxRecDepth 100000 in
theorem xr_0_0 : xokp 0 (3, 6, 0, 0) := xmem (p := 150) rfl rfl
set_option maxRecDepth 100000 in
theorem xr_0_1 : xokp 0 (9, 7, 1, 0) := ⟨xmem (p := 151) rfl rfl, by decide⟩
set_option maxRecDepth 100000 in
theorem xr_0_2 : xokp 0 (11, 4, 11, 0) := ⟨xmem (p := 152) rfl rfl, xd_11⟩
set_option maxRecDepth 100000 in
theorem xr_0_3 : xokp 0 (14, 0, 0, 0) := ⟨xmem (p := 153) rfl rfl, by decide, by decide⟩
set_option maxRecDepth 100000 in
theorem xr_0_4 : xokp 0 (20, 0, 0, 1) := ⟨xmem (p := 154) rfl rfl, by decide, by decide⟩
set_option maxRecDepth 100000 in
theorem xr_0_5 : xokp 0 (28, 2, 13, 0) := ⟨xmem (p := 368) rfl rfl, xd_13⟩
set_option maxRecDepth 100000 in
theorem xr_0_6 : xokp 0 (40, 2, 6, 0) := ⟨xmem (p := 377) rfl rfl, xd_6⟩
set_option maxRecDepth 100000 in
theorem xr_0_7 : xokp 0 (33, 2, 4, 0) := ⟨xmem (p := 381) rfl rfl, xd_4⟩
set_option maxRecDepth 100000 in
theorem xr_0_8 : xokp 0 (32, 2, 1, 0) := ⟨xmem (p := 385) rfl rfl, xd_1⟩
set_option maxRecDepth 100000 in
theorem xr_0_9 : xokp 0 (24, 2, 12, 0) := ⟨xmem (p := 389) rfl rfl, xd_12⟩
set_option maxRecDepth 100000 in
theorem xr_0_10 : xokp 0 (37, 2, 5, 0) := ⟨xmem (p := 390) rfl rfl, xd_5⟩
set_option maxRecDepth 100000 in
theorem xr_0_11 : xokp 0 (44, 2, 8, 0) := ⟨xmem (p := 399) rfl rfl, xd_8⟩
set_option maxRecDepth 100000 in
theorem xr_0_12 : xokp 0 (47, 2, 38, 0) := ⟨xmem (p := 440) rfl rfl, xd_38⟩
set_option maxRecDepth 100000 in
theorem xq_0 : ∀ q ∈ xpl_0, xokp 0 q := (List.forall_mem_cons.mpr ⟨xr_0_0, (List.forall_mem_cons.mpr ⟨xr_0_1, (List.forall_mem_cons.mpr ⟨xr_0_2, (List.forall_mem_cons.mpr ⟨xr_0_3, (List.forall_mem_cons.mpr ⟨xr_0_4, (List.forall_mem_cons.mpr ⟨xr_0_5, (List.forall_mem_cons.mpr ⟨xr_0_6, (List.forall_mem_cons.mpr ⟨xr_0_7, (List.forall_mem_cons.mpr ⟨xr_0_8, (List.forall_mem_cons.mpr ⟨xr_0_9, (List.forall_mem_cons.mpr ⟨xr_0_10, (List.forall_mem_cons.mpr ⟨xr_0_11, (List.forall_mem_cons.mpr ⟨xr_0_12, (fun _ h => nomatch h)⟩)⟩)⟩)⟩)⟩)⟩)⟩)⟩)⟩)⟩)⟩)⟩)⟩)
set_option maxRecDepth 100000 in
theorem xr_1_0 : xokp 1 (3, 6, 0, 0) := xmem (p := 68) rfl rfl
set_option maxRecDepth 100000 in
theorem xr_1_1 : xokp 1 (9, 0, 1, 0) := ⟨xmem (p := 69) rfl rfl, by decide, by decide⟩
set_option maxRecDepth 100000 in
theorem xq_1 : ∀ q ∈ xpl_1, xokp 1 q := (List.forall_mem_cons.mpr ⟨xr_1_0, (List.forall_mem_cons.mpr ⟨xr_1_1, (fun _ h => nomatch h)⟩)⟩)
set_option maxRecDepth 100000 in
theorem xr_2_0 : xokp 2 (3, 6, 0, 0) := xmem (p := 130) rfl rfl
set_option maxRecDepth 100000 in
theorem xr_2_1 : xokp 2 (9, 7, 6, 0) := ⟨xmem (p := 131) rfl rfl, by decide⟩
set_option maxRecDepth 100000 in
theorem xr_2_2 : xokp 2 (17, 4, 47, 0) := ⟨xmem (p := 133) rfl rfl, xd_47⟩
set_option maxRecDepth 100000 in
theorem xr_2_3 : xokp 2 (11, 0, 2, 0) := ⟨xmem (p := 134) rfl rfl, by decide, by decide⟩
set_option maxRecDepth 100000 in
theorem xr_2_4 : xokp 2 (26, 0, 2, 1) := ⟨xmem (p := 135) rfl rfl, by decide, by decide⟩
set_option maxRecDepth 100000 in
theorem xr_2_5 : xokp 2 (18, 0, 2, 2) := ⟨xmem (p := 137) rfl rfl, by decide, by decide⟩
set_option maxRecDepth 100000 in
theorem xr_2_6 : xokp 2 (22, 2, 48, 0) := ⟨xmem (p := 412) rfl rfl, xd_48⟩
set_option maxRecDepth 100000 in
theorem xr_2_7 : xokp 2 (29, 13, 0, 0) := xmem (p := 433) rfl rfl
set_option maxRecDepth 100000 in
theorem xq_2 : ∀ q ∈ xpl_2, xokp 2 q := (List.forall_mem_cons.mpr ⟨xr_2_0, (List.forall_mem_cons.mpr ⟨xr_2_1, (List.forall_mem_cons.mpr ⟨xr_2_2, (List.forall_mem_cons.mpr ⟨xr_2_3, (List.forall_mem_cons.mpr ⟨xr_2_4, (List.forall_mem_cons.mpr ⟨xr_2_5, (List.forall_mem_cons.mpr ⟨xr_2_6, (List.forall_mem_cons.mpr ⟨xr_2_7, (fun _ h => nomatch h)⟩)⟩)⟩)⟩)⟩)⟩)⟩)⟩)
set_option maxRecDepth 100000 in
theorem xr_3_0 : xokp 3 (3, 6, 0, 0) := xmem (p := 62) rfl rfl
set_option maxRecDepth 100000 in
theorem xr_3_1 : xokp 3 (9, 7, 1, 0) := ⟨xmem (p := 63) rfl rfl, by decide⟩
set_option maxRecDepth 100000 in
theorem xr_3_2 : xokp 3 (11, 4, 11, 0) := ⟨xmem (p := 65) rfl rfl, xd_11⟩
set_option maxRecDepth 100000 in
theorem xr_3_3 : xokp 3 (29, 2, 13, 0) := ⟨xmem (p := 73) rfl rfl, xd_13⟩
set_option maxRecDepth 100000 in
theorem xr_3_4 : xokp 3 (14, 0, 3, 0) := ⟨xmem (p := 77) rfl rfl, by decide, by decide⟩
set_option maxRecDepth 100000 in
theorem xr_3_5 : xokp 3 (20, 0, 3, 1) := ⟨xmem (p := 79) rfl rfl, by decide, by decide⟩
set_option maxRecDepth 100000 in
theorem xr_3_6 : xokp 3 (23, 0, 3, 2) := ⟨xmem (p := 81) rfl rfl, by decide, by decide⟩
set_option maxRecDepth 100000 in
theorem xr_3_7 : xokp 3 (26, 0, 3, 3) := ⟨xmem (p := 83) rfl rfl, by decide, by decide⟩
set_option maxRecDepth 100000 in
theorem xr_3_8 : xokp 3 (41, 2, 21, 0) := ⟨xmem (p := 291) rfl rfl, xd_21⟩
set_option maxRecDepth 100000 in
theorem xr_3_9 : xokp 3 (37, 2, 12, 0) := ⟨xmem (p := 295) rfl rfl, xd_12⟩
set_option maxRecDepth 100000 in
theorem xr_3_10 : xokp 3 (33, 2, 15, 0) := ⟨xmem (p := 428) rfl rfl, xd_15⟩
set_option maxRecDepth 100000 in
theorem xr_3_11 : xokp 3 (45, 12, 0, 0) := xmem (p := 601) rfl rfl
set_option maxRecDepth 100000 in
theorem xq_3 : ∀ q ∈ xpl_3, xokp 3 q := (List.forall_mem_cons.mpr ⟨xr_3_0, (List.forall_mem_cons.mpr ⟨xr_3_1, (List.forall_mem_cons.mpr ⟨xr_3_2, (List.forall_mem_cons.mpr ⟨xr_3_3, (List.forall_mem_cons.mpr ⟨xr_3_4, (List.forall_mem_cons.mpr ⟨xr_3_5, (List.forall_mem_cons.mpr ⟨xr_3_6, (List.forall_mem_cons.mpr ⟨xr_3_7, (List.forall_mem_cons.mpr ⟨xr_3_8, (List.forall_mem_cons.mpr ⟨xr_3_9, (List.forall_mem_cons.mpr ⟨xr_3_10, (List.forall_mem_cons.mpr ⟨xr_3_11, (fun _ h => nomatch h)⟩)⟩)⟩)⟩)⟩)⟩)⟩)⟩)⟩)⟩)⟩)⟩)
set_option maxRecDepth 100000 in
theorem xr_4_0 : xokp 4 (66, 1, 5, 1) := ⟨List.mem_of_getElem? (i := 49) rfl, by decide, by decide⟩
set_option maxRecDepth 100000 in
theorem xr_4_1 : xokp 4 (36, 1, 6, 0) := ⟨List.mem_of_getElem? (i := 98) rfl, by decide, by decide⟩
set_option maxRecDepth 100000 in
theorem xr_4_2 : xokp 4 (56, 1, 6, 1) := ⟨List.mem_of_getElem? (i := 101) rfl, by decide, by decide⟩
set_option maxRecDepth 100000 in
theorem xr_4_3 : xokp 4 (49, 1, 6, 2) := ⟨List.mem_of_getElem? (i := 104) rfl, by decide, by decide⟩
set_option maxRecDepth 100000 in
theorem xr_4_4 : xokp 4 (87, 1, 6, 3) := ⟨List.mem_of_getElem? (i := 107) rfl, by decide, by decide⟩
set_option maxRecDepth 100000 in
theorem xr_4_5 : xokp 4 (3, 6, 0, 0) := xmem (p := 166) rfl rfl
set_option maxRecDepth 100000 in
theorem xr_4_6 : xokp 4 (9, 7, 1, 0) := ⟨xmem (p := 167) rfl rfl, by decide⟩
set_option maxRecDepth 100000 in
theorem xr_4_7 : xokp 4 (11, 4, 11, 0) := ⟨xmem (p := 168) rfl rfl, xd_11⟩
set_option maxRecDepth 100000 in
theorem xr_4_8 : xokp 4 (14, 0, 4, 0) := ⟨xmem (p := 169) rfl rfl, by decide, by decide⟩
set_option maxRecDepth 100000 in
theorem xr_4_9 : xokp 4 (20, 0, 4, 1) := ⟨xmem (p := 170) rfl rfl, by decide, by decide⟩
set_option maxRecDepth 100000 in
theorem xr_4_10 : xokp 4 (23, 0, 4, 2) := ⟨xmem (p := 171) rfl rfl, by decide, by decide⟩
set_option maxRecDepth 100000 in
theorem xr_4_11 : xokp 4 (27, 0, 4, 3) := ⟨xmem (p := 172) rfl rfl, by decide, by decide⟩
set_option maxRecDepth 100000 in
theorem xr_4_12 : xokp 4 (30, 0, 4, 4) := ⟨xmem (p := 173) rfl rfl, by decide, by decide⟩
set_option maxRecDepth 100000 in
theorem xr_4_13 : xokp 4 (33, 0, 4, 5) := ⟨xmem (p := 174) rfl rfl, by decide, by decide⟩
set_option maxRecDepth 100000 in
theorem xr_4_14 : xokp 4 (90, 2, 29, 0) := ⟨xmem (p := 573) rfl rfl, xd_29⟩
set_option maxRecDepth 100000 in
theorem xr_4_15 : xokp 4 (42, 2, 30, 0) := ⟨xmem (p := 577) rfl rfl, xd_30⟩
set_option maxRecDepth 100000 in
theorem xr_4_16 : xokp 4 (71, 2, 36, 0) := ⟨xmem (p := 581) rfl rfl, xd_36⟩
set_option maxRecDepth 100000 in
theorem xr_4_17 : xokp 4 (72, 2, 13, 0) := ⟨xmem (p := 582) rfl rfl, xd_13⟩
set_option maxRecDepth 100000 in
theorem xr_4_18 : xokp 4 (52, 2, 12, 0) := ⟨xmem (p := 583) rfl rfl, xd_12⟩
set_option maxRecDepth 100000 in
theorem xr_4_19 : xokp 4 (46, 2, 31, 0) := ⟨xmem (p := 584) rfl rfl, xd_31⟩
set_option maxRecDepth 100000 in
theorem xr_4_20 : xokp 4 (60, 2, 25, 0) := ⟨xmem (p := 588) rfl rfl, xd_25⟩
set_option maxRecDepth 100000 in
theorem xr_4_21 : xokp 4 (94, 2, 33, 0) := ⟨xmem (p := 592) rfl rfl, xd_33⟩
set_option maxRecDepth 100000 in
theorem xr_4_22 : xokp 4 (76, 2, 21, 0) := ⟨xmem (p := 596) rfl rfl, xd_21⟩
set_option maxRecDepth 100000 in
theorem xr_4_23 : xokp 4 (80, 2, 23, 0) := ⟨xmem (p := 597) rfl rfl, xd_23⟩
set_option maxRecDepth 100000 in
theorem xr_4_24 : xokp 4 (84, 2, 43, 0) := ⟨xmem (p := 602) rfl rfl, xd_43⟩
set_option maxRecDepth 100000 in
theorem xq_4 : ∀ q ∈ xpl_4, xokp 4 q := (List.forall_mem_cons.mpr ⟨xr_4_0, (List.forall_mem_cons.mpr ⟨xr_4_1, (List.forall_mem_cons.mpr ⟨xr_4_2, (List.forall_mem_cons.mpr ⟨xr_4_3, (List.forall_mem_cons.mpr ⟨xr_4_4, (List.forall_mem_cons.mpr ⟨xr_4_5, (List.forall_mem_cons.mpr ⟨xr_4_6, (List.forall_mem_cons.mpr ⟨xr_4_7, (List.forall_mem_cons.mpr ⟨xr_4_8, (List.forall_mem_cons.mpr ⟨xr_4_9, (List.forall_mem_cons.mpr ⟨xr_4_10, (List.forall_mem_cons.mpr ⟨xr_4_11, (List.forall_mem_cons.mpr ⟨xr_4_12, (List.forall_mem_cons.mpr ⟨xr_4_13, (List.forall_mem_cons.mpr ⟨xr_4_14, (List.forall_mem_cons.mpr ⟨xr_4_15, (List.forall_mem_cons.mpr ⟨xr_4_16, (List.forall_mem_cons.mpr ⟨xr_4_17, (List.forall_mem_cons.mpr ⟨xr_4_18, (List.forall_mem_cons.mpr ⟨xr_4_19, (List.forall_mem_cons.mpr ⟨xr_4_20, (List.forall_mem_cons.mpr ⟨xr_4_21, (List.forall_mem_cons.mpr ⟨xr_4_22, (List.forall_mem_cons.mpr ⟨xr_4_23, (List.forall_mem_cons.mpr ⟨xr_4_24, (fun _ h => nomatch h)⟩)⟩)⟩)⟩)⟩)⟩)⟩)⟩)⟩)⟩)⟩)⟩)⟩)⟩)⟩)⟩)⟩)⟩)⟩)⟩)⟩)⟩)⟩)⟩)⟩)
set_option maxRecDepth 100000 in
theorem xr_5_0 : xokp 5 (3, 6, 0, 0) := xmem (p := 45) rfl rfl
set_option maxRecDepth 100000 in
theorem xr_5_1 : xokp 5 (9, 0, 5, 0) := ⟨xmem (p := 46) rfl rfl, by decide, by decide⟩
set_option maxRecDepth 100000 in
theorem xr_5_2 : xokp 5 (15, 0, 5, 1) := ⟨xmem (p := 47) rfl rfl, by decide, by decide⟩
set_option maxRecDepth 100000 in
theorem xr_5_3 : xokp 5 (38, 2, 45, 0) := ⟨xmem (p := 312) rfl rfl, xd_45⟩
set_option maxRecDepth 100000 in
theorem xr_5_4 : xokp 5 (19, 2, 36, 0) := ⟨xmem (p := 316) rfl rfl, xd_36⟩
set_option maxRecDepth 100000 in
theorem xr_5_5 : xokp 5 (23, 2, 38, 0) := ⟨xmem (p := 420) rfl rfl, xd_38⟩
set_option maxRecDepth 100000 in
theorem xr_5_6 : xokp 5 (27, 2, 37, 0) := ⟨xmem (p := 510) rfl rfl, xd_37⟩
set_option maxRecDepth 100000 in
theorem xr_5_7 : xokp 5 (31, 2, 41, 0) := ⟨xmem (p := 511) rfl rfl, xd_41⟩
set_option maxRecDepth 100000 in
theorem xr_5_8 : xokp 5 (35, 2, 39, 0) := ⟨xmem (p := 606) rfl rfl, xd_39⟩
set_option maxRecDepth 100000 in
theorem xq_5 : ∀ q ∈ xpl_5, xokp 5 q := (List.forall_mem_cons.mpr ⟨xr_5_0, (List.forall_mem_cons.mpr ⟨xr_5_1, (List.forall_mem_cons.mpr ⟨xr_5_2, (List.forall_mem_cons.mpr ⟨xr_5_3, (List.forall_mem_cons.mpr ⟨xr_5_4, (List.forall_mem_cons.mpr ⟨xr_5_5, (List.forall_mem_cons.mpr ⟨xr_5_6, (List.forall_mem_cons.mpr ⟨xr_5_7, (List.forall_mem_cons.mpr ⟨xr_5_8, (fun _ h => nomatch h)⟩)⟩)⟩)⟩)⟩)⟩)⟩)⟩)⟩)
set_option maxRecDepth 100000 in
theorem xr_6_0 : xokp 6 (3, 6, 0, 0) := xmem (p := 39) rfl rfl
set_option maxRecDepth 100000 in
theorem xr_6_1 : xokp 6 (9, 7, 5, 0) := ⟨xmem (p := 40) rfl rfl, by decide⟩
set_option maxRecDepth 100000 in
theorem xr_6_2 : xokp 6 (11, 5, 35, 0) := ⟨List.mem_of_getElem? (i := 42) rfl, xd_35⟩
set_option maxRecDepth 100000 in
theorem xr_6_3 : xokp 6 (63, 1, 5, 1) := ⟨List.mem_of_getElem? (i := 50) rfl, by decide, by decide⟩
set_option maxRecDepth 100000 in
theorem xr_6_4 : xokp 6 (18, 7, 3, 0) := ⟨xmem (p := 57) rfl rfl, by decide⟩
set_option maxRecDepth 100000 in
theorem xr_6_5 : xokp 6 (20, 4, 19, 0) := ⟨xmem (p := 59) rfl rfl, xd_19⟩
set_option maxRecDepth 100000 in
theorem xr_6_6 : xokp 6 (92, 1, 3, 0) := ⟨List.mem_of_getElem? (i := 78) rfl, by decide, by decide⟩
set_option maxRecDepth 100000 in
theorem xr_6_7 : xokp 6 (95, 1, 3, 1) := ⟨List.mem_of_getElem? (i := 80) rfl, by decide, by decide⟩
set_option maxRecDepth 100000 in
theorem xr_6_8 : xokp 6 (77, 1, 3, 2) := ⟨List.mem_of_getElem? (i := 82) rfl, by decide, by decide⟩
set_option maxRecDepth 100000 in
theorem xr_6_9 : xokp 6 (70, 1, 3, 3) := ⟨List.mem_of_getElem? (i := 84) rfl, by decide, by decide⟩
set_option maxRecDepth 100000 in
theorem xr_6_10 : xokp 6 (25, 7, 1, 0) := ⟨xmem (p := 94) rfl rfl, by decide⟩
set_option maxRecDepth 100000 in
theorem xr_6_11 : xokp 6 (27, 4, 11, 0) := ⟨xmem (p := 95) rfl rfl, xd_11⟩
set_option maxRecDepth 100000 in
theorem xr_6_12 : xokp 6 (37, 2, 13, 0) := ⟨xmem (p := 96) rfl rfl, xd_13⟩
set_option maxRecDepth 100000 in
theorem xr_6_13 : xokp 6 (12, 0, 6, 0) := ⟨xmem (p := 97) rfl rfl, by decide, by decide⟩
set_option maxRecDepth 100000 in
theorem xr_6_14 : xokp 6 (21, 0, 6, 1) := ⟨xmem (p := 100) rfl rfl, by decide, by decide⟩
set_option maxRecDepth 100000 in
theorem xr_6_15 : xokp 6 (30, 0, 6, 2) := ⟨xmem (p := 103) rfl rfl, by decide, by decide⟩
set_option maxRecDepth 100000 in
theorem xr_6_16 : xokp 6 (51, 0, 6, 3) := ⟨xmem (p := 106) rfl rfl, by decide, by decide⟩
set_option maxRecDepth 100000 in
theorem xr_6_17 : xokp 6 (55, 0, 6, 4) := ⟨xmem (p := 109) rfl rfl, by decide, by decide⟩
set_option maxRecDepth 100000 in
theorem xr_6_18 : xokp 6 (34, 0, 6, 5) := ⟨xmem (p := 111) rfl rfl, by decide, by decide⟩
set_option maxRecDepth 100000 in
theorem xr_6_19 : xokp 6 (66, 2, 22, 0) := ⟨xmem (p := 287) rfl rfl, xd_22⟩
set_option maxRecDepth 100000 in
theorem xr_6_20 : xokp 6 (99, 2, 51, 0) := ⟨xmem (p := 299) rfl rfl, xd_51⟩
set_option maxRecDepth 100000 in
theorem xr_6_21 : xokp 6 (73, 2, 36, 0) := ⟨xmem (p := 303) rfl rfl, xd_36⟩
set_option maxRecDepth 100000 in
theorem xr_6_22 : xokp 6 (76, 2, 12, 0) := ⟨xmem (p := 307) rfl rfl, xd_12⟩
set_option maxRecDepth 100000 in
theorem xr_6_23 : xokp 6 (102, 2, 46, 0) := ⟨xmem (p := 308) rfl rfl, xd_46⟩
set_option maxRecDepth 100000 in
theorem xr_6_24 : xokp 6 (105, 2, 52, 0) := ⟨xmem (p := 317) rfl rfl, xd_52⟩
set_option maxRecDepth 100000 in
theorem xr_6_25 : xokp 6 (80, 12, 0, 0) := xmem (p := 321) rfl rfl
set_option maxRecDepth 100000 in
theorem xr_6_26 : xokp 6 (108, 2, 50, 0) := ⟨xmem (p := 324) rfl rfl, xd_50⟩
set_option maxRecDepth 100000 in
theorem xr_6_27 : xokp 6 (41, 2, 40, 0) := ⟨xmem (p := 416) rfl rfl, xd_40⟩
set_option maxRecDepth 100000 in
theorem xr_6_28 : xokp 6 (45, 2, 20, 0) := ⟨xmem (p := 424) rfl rfl, xd_20⟩
set_option maxRecDepth 100000 in
theorem xr_6_29 : xokp 6 (48, 2, 15, 0) := ⟨xmem (p := 432) rfl rfl, xd_15⟩
set_option maxRecDepth 100000 in
theorem xr_6_30 : xokp 6 (98, 2, 49, 0) := ⟨xmem (p := 483) rfl rfl, xd_49⟩
set_option maxRecDepth 100000 in
theorem xr_6_31 : xokp 6 (58, 2, 45, 0) := ⟨xmem (p := 487) rfl rfl, xd_45⟩
set_option maxRecDepth 100000 in
theorem xr_6_32 : xokp 6 (62, 2, 26, 0) := ⟨xmem (p := 488) rfl rfl, xd_26⟩
set_option maxRecDepth 100000 in
theorem xr_6_33 : xokp 6 (115, 2, 24, 0) := ⟨xmem (p := 492) rfl rfl, xd_24⟩
set_option maxRecDepth 100000 in
theorem xr_6_34 : xokp 6 (111, 2, 42, 0) := ⟨xmem (p := 506) rfl rfl, xd_42⟩
set_option maxRecDepth 100000 in
theorem xr_6_35 : xokp 6 (118, 2, 21, 0) := ⟨xmem (p := 525) rfl rfl, xd_21⟩
set_option maxRecDepth 100000 in
theorem xr_6_36 : xokp 6 (122, 2, 60, 0) := ⟨xmem (p := 526) rfl rfl, xd_60⟩
set_option maxRecDepth 100000 in
theorem xr_6_37 : xokp 6 (125, 2, 37, 0) := ⟨xmem (p := 530) rfl rfl, xd_37⟩
set_option maxRecDepth 100000 in
theorem xr_6_38 : xokp 6 (128, 2, 57, 0) := ⟨xmem (p := 535) rfl rfl, xd_57⟩
set_option maxRecDepth 100000 in
theorem xr_6_39 : xokp 6 (86, 2, 27, 0) := ⟨xmem (p := 547) rfl rfl, xd_27⟩
set_option maxRecDepth 100000 in
theorem xr_6_40 : xokp 6 (89, 2, 14, 0) := ⟨xmem (p := 642) rfl rfl, xd_14⟩
set_option maxRecDepth 100000 in
theorem xq_6 : ∀ q ∈ xpl_6, xokp 6 q := (List.forall_mem_cons.mpr ⟨xr_6_0, (List.forall_mem_cons.mpr ⟨xr_6_1, (List.forall_mem_cons.mpr ⟨xr_6_2, (List.forall_mem_cons.mpr ⟨xr_6_3, (List.forall_mem_cons.mpr ⟨xr_6_4, (List.forall_mem_cons.mpr ⟨xr_6_5, (List.forall_mem_cons.mpr ⟨xr_6_6, (List.forall_mem_cons.mpr ⟨xr_6_7, (List.forall_mem_cons.mpr ⟨xr_6_8, (List.forall_mem_cons.mpr ⟨xr_6_9, (List.forall_mem_cons.mpr ⟨xr_6_10, (List.forall_mem_cons.mpr ⟨xr_6_11, (List.forall_mem_cons.mpr ⟨xr_6_12, (List.forall_mem_cons.mpr ⟨xr_6_13, (List.forall_mem_cons.mpr ⟨xr_6_14, (List.forall_mem_cons.mpr ⟨xr_6_15, (List.forall_mem_cons.mpr ⟨xr_6_16, (List.forall_mem_cons.mpr ⟨xr_6_17, (List.forall_mem_cons.mpr ⟨xr_6_18, (List.forall_mem_cons.mpr ⟨xr_6_19, (List.forall_mem_cons.mpr ⟨xr_6_20, (List.forall_mem_cons.mpr ⟨xr_6_21, (List.forall_mem_cons.mpr ⟨xr_6_22, (List.forall_mem_cons.mpr ⟨xr_6_23, (List.forall_mem_cons.mpr ⟨xr_6_24, (List.forall_mem_cons.mpr ⟨xr_6_25, (List.forall_mem_cons.mpr ⟨xr_6_26, (List.forall_mem_cons.mpr ⟨xr_6_27, (List.forall_mem_cons.mpr ⟨xr_6_28, (List.forall_mem_cons.mpr ⟨xr_6_29, (List.forall_mem_cons.mpr ⟨xr_6_30, (List.forall_mem_cons.mpr ⟨xr_6_31, (List.forall_mem_cons.mpr ⟨xr_6_32, (List.forall_mem_cons.mpr ⟨xr_6_33, (List.forall_mem_cons.mpr ⟨xr_6_34, (List.forall_mem_cons.mpr ⟨xr_6_35, (List.forall_mem_cons.mpr ⟨xr_6_36, (List.forall_mem_cons.mpr ⟨xr_6_37, (List.forall_mem_cons.mpr ⟨xr_6_38, (List.forall_mem_cons.mpr ⟨xr_6_39, (List.forall_mem_cons.mpr ⟨xr_6_40, (fun _ h => nomatch h)⟩)⟩)⟩)⟩)⟩)⟩)⟩)⟩)⟩)⟩)⟩)⟩)⟩)⟩)⟩)⟩)⟩)⟩)⟩)⟩)⟩)⟩)⟩)⟩)⟩)⟩)⟩)⟩)⟩)⟩)⟩)⟩)⟩)⟩)⟩)⟩)⟩)⟩)⟩)⟩)⟩)
set_option maxRecDepth 100000 in
theorem xr_7_0 : xokp 7 (3, 6, 0, 0) := xmem (p := 31) rfl rfl
set_option maxRecDepth 100000 in
theorem xr_7_1 : xokp 7 (9, 7, 6, 0) := ⟨xmem (p := 34) rfl rfl, by decide⟩
set_option maxRecDepth 100000 in
theorem xr_7_2 : xokp 7 (11, 4, 47, 0) := ⟨xmem (p := 36) rfl rfl, xd_47⟩
set_option maxRecDepth 100000 in
theorem xr_7_3 : xokp 7 (81, 1, 5, 1) := ⟨List.mem_of_getElem? (i := 48) rfl, by decide, by decide⟩
set_option maxRecDepth 100000 in
theorem xr_7_4 : xokp 7 (51, 1, 6, 0) := ⟨List.mem_of_getElem? (i := 99) rfl, by decide, by decide⟩
set_option maxRecDepth 100000 in
theorem xr_7_5 : xokp 7 (85, 1, 6, 1) := ⟨List.mem_of_getElem? (i := 102) rfl, by decide, by decide⟩
set_option maxRecDepth 100000 in
theorem xr_7_6 : xokp 7 (174, 1, 6, 2) := ⟨List.mem_of_getElem? (i := 105) rfl, by decide, by decide⟩
set_option maxRecDepth 100000 in
theorem xr_7_7 : xokp 7 (263, 1, 6, 3) := ⟨List.mem_of_getElem? (i := 108) rfl, by decide, by decide⟩
set_option maxRecDepth 100000 in
theorem xr_7_8 : xokp 7 (144, 1, 6, 4) := ⟨List.mem_of_getElem? (i := 110) rfl, by decide, by decide⟩
set_option maxRecDepth 100000 in
theorem xr_7_9 : xokp 7 (16, 7, 2, 0) := ⟨xmem (p := 125) rfl rfl, by decide⟩
set_option maxRecDepth 100000 in
theorem xr_7_10 : xokp 7 (18, 4, 16, 0) := ⟨xmem (p := 127) rfl rfl, xd_16⟩
set_option maxRecDepth 100000 in
theorem xr_7_11 : xokp 7 (194, 1, 2, 1) := ⟨List.mem_of_getElem? (i := 136) rfl, by decide, by decide⟩
set_option maxRecDepth 100000 in
theorem xr_7_12 : xokp 7 (23, 7, 0, 0) := ⟨xmem (p := 145) rfl rfl, by decide⟩
set_option maxRecDepth 100000 in
theorem xr_7_13 : xokp 7 (25, 5, 0, 0) := ⟨List.mem_of_getElem? (i := 147) rfl, xd_0⟩
set_option maxRecDepth 100000 in
theorem xr_7_14 : xokp 7 (187, 1, 0, 1) := ⟨List.mem_of_getElem? (i := 155) rfl, by decide, by decide⟩
set_option maxRecDepth 100000 in
theorem xr_7_15 : xokp 7 (30, 7, 4, 0) := ⟨xmem (p := 161) rfl rfl, by decide⟩
set_option maxRecDepth 100000 in
theorem xr_7_16 : xokp 7 (32, 5, 28, 0) := ⟨List.mem_of_getElem? (i := 163) rfl, xd_28⟩
set_option maxRecDepth 100000 in
theorem xr_7_17 : xokp 7 (137, 1, 4, 5) := ⟨List.mem_of_getElem? (i := 175) rfl, by decide, by decide⟩
set_option maxRecDepth 100000 in
theorem xr_7_18 : xokp 7 (12, 0, 7, 0) := ⟨xmem (p := 189) rfl rfl, by decide, by decide⟩
set_option maxRecDepth 100000 in
theorem xr_7_19 : xokp 7 (19, 0, 7, 1) := ⟨xmem (p := 190) rfl rfl, by decide, by decide⟩
set_option maxRecDepth 100000 in
theorem xr_7_20 : xokp 7 (26, 0, 7, 2) := ⟨xmem (p := 191) rfl rfl, by decide, by decide⟩
set_option maxRecDepth 100000 in
theorem xr_7_21 : xokp 7 (33, 0, 7, 3) := ⟨xmem (p := 192) rfl rfl, by decide, by decide⟩
set_option maxRecDepth 100000 in
theorem xr_7_22 : xokp 7 (37, 0, 7, 4) := ⟨xmem (p := 193) rfl rfl, by decide, by decide⟩
set_option maxRecDepth 100000 in
theorem xr_7_23 : xokp 7 (44, 8, 0, 0) := ⟨xmem (p := 215) rfl rfl, by decide⟩
set_option maxRecDepth 100000 in
theorem xr_7_24 : xokp 7 (217, 11, 0, 0) := List.mem_of_getElem? (i := 256) rfl
set_option maxRecDepth 100000 in
theorem xr_7_25 : xokp 7 (219, 2, 56, 0) := ⟨xmem (p := 283) rfl rfl, xd_56⟩
set_option maxRecDepth 100000 in
theorem xr_7_26 : xokp 7 (78, 2, 3, 0) := ⟨xmem (p := 339) rfl rfl, xd_3⟩
set_option maxRecDepth 100000 in
theorem xr_7_27 : xokp 7 (185, 11, 1, 0) := List.mem_of_getElem? (i := 347) rfl
set_option maxRecDepth 100000 in
theorem xr_7_28 : xokp 7 (65, 8, 1, 0) := ⟨xmem (p := 348) rfl rfl, by decide⟩
set_option maxRecDepth 100000 in
theorem xr_7_29 : xokp 7 (188, 11, 2, 0) := List.mem_of_getElem? (i := 357) rfl
set_option maxRecDepth 100000 in
theorem xr_7_30 : xokp 7 (190, 2, 2, 0) := ⟨xmem (p := 364) rfl rfl, xd_2⟩
set_option maxRecDepth 100000 in
theorem xr_7_31 : xokp 7 (40, 2, 7, 0) := ⟨xmem (p := 373) rfl rfl, xd_7⟩
set_option maxRecDepth 100000 in
theorem xr_7_32 : xokp 7 (46, 11, 3, 0) := List.mem_of_getElem? (i := 394) rfl
set_option maxRecDepth 100000 in
theorem xr_7_33 : xokp 7 (55, 2, 9, 0) := ⟨xmem (p := 395) rfl rfl, xd_9⟩
set_option maxRecDepth 100000 in
theorem xr_7_34 : xokp 7 (59, 2, 37, 0) := ⟨xmem (p := 403) rfl rfl, xd_37⟩
set_option maxRecDepth 100000 in
theorem xr_7_35 : xokp 7 (67, 11, 4, 0) := List.mem_of_getElem? (i := 407) rfl
set_option maxRecDepth 100000 in
theorem xr_7_36 : xokp 7 (70, 2, 17, 0) := ⟨xmem (p := 408) rfl rfl, xd_17⟩
set_option maxRecDepth 100000 in
theorem xr_7_37 : xokp 7 (74, 2, 10, 0) := ⟨xmem (p := 436) rfl rfl, xd_10⟩
set_option maxRecDepth 100000 in
theorem xr_7_38 : xokp 7 (89, 2, 21, 0) := ⟨xmem (p := 445) rfl rfl, xd_21⟩
set_option maxRecDepth 100000 in
theorem xr_7_39 : xokp 7 (94, 8, 2, 0) := ⟨xmem (p := 446) rfl rfl, by decide⟩
set_option maxRecDepth 100000 in
theorem xr_7_40 : xokp 7 (96, 11, 5, 0) := List.mem_of_getElem? (i := 455) rfl
set_option maxRecDepth 100000 in
theorem xr_7_41 : xokp 7 (99, 11, 6, 0) := List.mem_of_getElem? (i := 462) rfl
set_option maxRecDepth 100000 in
theorem xr_7_42 : xokp 7 (101, 2, 38, 0) := ⟨xmem (p := 463) rfl rfl, xd_38⟩
set_option maxRecDepth 100000 in
theorem xr_7_43 : xokp 7 (201, 11, 7, 0) := List.mem_of_getElem? (i := 468) rfl
set_option maxRecDepth 100000 in
theorem xr_7_44 : xokp 7 (116, 2, 36, 0) := ⟨xmem (p := 469) rfl rfl, xd_36⟩
set_option maxRecDepth 100000 in
theorem xr_7_45 : xokp 7 (105, 11, 8, 0) := List.mem_of_getElem? (i := 474) rfl
set_option maxRecDepth 100000 in
theorem xr_7_46 : xokp 7 (107, 2, 39, 0) := ⟨xmem (p := 475) rfl rfl, xd_39⟩
set_option maxRecDepth 100000 in
theorem xr_7_47 : xokp 7 (110, 2, 58, 0) := ⟨xmem (p := 479) rfl rfl, xd_58⟩
set_option maxRecDepth 100000 in
theorem xr_7_48 : xokp 7 (113, 2, 22, 0) := ⟨xmem (p := 496) rfl rfl, xd_22⟩
set_option maxRecDepth 100000 in
theorem xr_7_49 : xokp 7 (120, 11, 9, 0) := List.mem_of_getElem? (i := 501) rfl
set_option maxRecDepth 100000 in
theorem xr_7_50 : xokp 7 (122, 2, 57, 0) := ⟨xmem (p := 502) rfl rfl, xd_57⟩
set_option maxRecDepth 100000 in
theorem xr_7_51 : xokp 7 (125, 2, 49, 0) := ⟨xmem (p := 515) rfl rfl, xd_49⟩
set_option maxRecDepth 100000 in
theorem xr_7_52 : xokp 7 (128, 2, 24, 0) := ⟨xmem (p := 516) rfl rfl, xd_24⟩
set_option maxRecDepth 100000 in
theorem xr_7_53 : xokp 7 (147, 2, 59, 0) := ⟨xmem (p := 521) rfl rfl, xd_59⟩
set_option maxRecDepth 100000 in
theorem xr_7_54 : xokp 7 (150, 2, 61, 0) := ⟨xmem (p := 531) rfl rfl, xd_61⟩
set_option maxRecDepth 100000 in
theorem xr_7_55 : xokp 7 (153, 2, 51, 0) := ⟨xmem (p := 540) rfl rfl, xd_51⟩
set_option maxRecDepth 100000 in
theorem xr_7_56 : xokp 7 (156, 11, 10, 0) := List.mem_of_getElem? (i := 541) rfl
set_option maxRecDepth 100000 in
theorem xr_7_57 : xokp 7 (158, 2, 48, 0) := ⟨xmem (p := 542) rfl rfl, xd_48⟩
set_option maxRecDepth 100000 in
theorem xr_7_58 : xokp 7 (161, 2, 53, 0) := ⟨xmem (p := 543) rfl rfl, xd_53⟩
set_option maxRecDepth 100000 in
theorem xr_7_59 : xokp 7 (164, 3, 85, 0) := ⟨xmem (p := 555) rfl rfl, xd_85⟩
set_option maxRecDepth 100000 in
theorem xr_7_60 : xokp 7 (167, 11, 11, 0) := List.mem_of_getElem? (i := 558) rfl
set_option maxRecDepth 100000 in
theorem xr_7_61 : xokp 7 (169, 3, 86, 0) := ⟨xmem (p := 559) rfl rfl, xd_86⟩
set_option maxRecDepth 100000 in
theorem xr_7_62 : xokp 7 (172, 11, 12, 0) := List.mem_of_getElem? (i := 562) rfl
set_option maxRecDepth 100000 in
theorem xr_7_63 : xokp 7 (178, 2, 12, 0) := ⟨xmem (p := 563) rfl rfl, xd_12⟩
set_option maxRecDepth 100000 in
theorem xr_7_64 : xokp 7 (181, 2, 13, 0) := ⟨xmem (p := 564) rfl rfl, xd_13⟩
set_option maxRecDepth 100000 in
theorem xr_7_65 : xokp 7 (140, 2, 34, 0) := ⟨xmem (p := 569) rfl rfl, xd_34⟩
set_option maxRecDepth 100000 in
theorem xr_7_66 : xokp 7 (131, 2, 29, 0) := ⟨xmem (p := 611) rfl rfl, xd_29⟩
set_option maxRecDepth 100000 in
theorem xr_7_67 : xokp 7 (134, 2, 33, 0) := ⟨xmem (p := 612) rfl rfl, xd_33⟩
set_option maxRecDepth 100000 in
theorem xr_7_68 : xokp 7 (203, 11, 13, 0) := List.mem_of_getElem? (i := 628) rfl
set_option maxRecDepth 100000 in
theorem xr_7_69 : xokp 7 (205, 2, 55, 0) := ⟨xmem (p := 629) rfl rfl, xd_55⟩
set_option maxRecDepth 100000 in
theorem xr_7_70 : xokp 7 (222, 11, 14, 0) := List.mem_of_getElem? (i := 637) rfl
set_option maxRecDepth 100000 in
theorem xr_7_71 : xokp 7 (224, 2, 54, 0) := ⟨xmem (p := 638) rfl rfl, xd_54⟩
set_option maxRecDepth 100000 in
theorem xr_7_72 : xokp 7 (212, 11, 15, 0) := List.mem_of_getElem? (i := 659) rfl
set_option maxRecDepth 100000 in
theorem xr_7_73 : xokp 7 (214, 2, 32, 0) := ⟨xmem (p := 660) rfl rfl, xd_32⟩
set_option maxRecDepth 100000 in
theorem xr_7_74 : xokp 7 (209, 2, 44, 0) := ⟨xmem (p := 672) rfl rfl, xd_44⟩
set_option maxRecDepth 100000 in
theorem xr_7_75 : xokp 7 (196, 11, 16, 0) := List.mem_of_getElem? (i := 680) rfl
set_option maxRecDepth 100000 in
theorem xr_7_76 : xokp 7 (198, 2, 18, 0) := ⟨xmem (p := 681) rfl rfl, xd_18⟩
set_option maxRecDepth 100000 in
theorem xr_7_77 : xokp 7 (227, 2, 87, 0) := ⟨xmem (p := 689) rfl rfl, xd_87⟩
set_option maxRecDepth 100000 in
theorem xr_7_78 : xokp 7 (230, 2, 88, 0) := ⟨xmem (p := 693) rfl rfl, xd_88⟩
set_option maxRecDepth 100000 in
theorem xr_7_79 : xokp 7 (233, 2, 50, 0) := ⟨xmem (p := 697) rfl rfl, xd_50⟩
set_option maxRecDepth 100000 in
theorem xr_7_80 : xokp 7 (266, 2, 52, 0) := ⟨xmem (p := 698) rfl rfl, xd_52⟩
set_option maxRecDepth 100000 in
theorem xq_7 : ∀ q ∈ xpl_7, xokp 7 q := (List.forall_mem_cons.mpr ⟨xr_7_0, (List.forall_mem_cons.mpr ⟨xr_7_1, (List.forall_mem_cons.mpr ⟨xr_7_2, (List.forall_mem_cons.mpr ⟨xr_7_3, (List.forall_mem_cons.mpr ⟨xr_7_4, (List.forall_mem_cons.mpr ⟨xr_7_5, (List.forall_mem_cons.mpr ⟨xr_7_6, (List.forall_mem_cons.mpr ⟨xr_7_7, (List.forall_mem_cons.mpr ⟨xr_7_8, (List.forall_mem_cons.mpr ⟨xr_7_9, (List.forall_mem_cons.mpr ⟨xr_7_10, (List.forall_mem_cons.mpr ⟨xr_7_11, (List.forall_mem_cons.mpr ⟨xr_7_12, (List.forall_mem_cons.mpr ⟨xr_7_13, (List.forall_mem_cons.mpr ⟨xr_7_14, (List.forall_mem_cons.mpr ⟨xr_7_15, (List.forall_mem_cons.mpr ⟨xr_7_16, (List.forall_mem_cons.mpr ⟨xr_7_17, (List.forall_mem_cons.mpr ⟨xr_7_18, (List.forall_mem_cons.mpr ⟨xr_7_19, (List.forall_mem_cons.mpr ⟨xr_7_20, (List.forall_mem_cons.mpr ⟨xr_7_21, (List.forall_mem_cons.mpr ⟨xr_7_22, (List.forall_mem_cons.mpr ⟨xr_7_23, (List.forall_mem_cons.mpr ⟨xr_7_24, (List.forall_mem_cons.mpr ⟨xr_7_25, (List.forall_mem_cons.mpr ⟨xr_7_26, (List.forall_mem_cons.mpr ⟨xr_7_27, (List.forall_mem_cons.mpr ⟨xr_7_28, (List.forall_mem_cons.mpr ⟨xr_7_29, (List.forall_mem_cons.mpr ⟨xr_7_30, (List.forall_mem_cons.mpr ⟨xr_7_31, (List.forall_mem_cons.mpr ⟨xr_7_32, (List.forall_mem_cons.mpr ⟨xr_7_33, (List.forall_mem_cons.mpr ⟨xr_7_34, (List.forall_mem_cons.mpr ⟨xr_7_35, (List.forall_mem_cons.mpr ⟨xr_7_36, (List.forall_mem_cons.mpr ⟨xr_7_37, (List.forall_mem_cons.mpr ⟨xr_7_38, (List.forall_mem_cons.mpr ⟨xr_7_39, (List.forall_mem_cons.mpr ⟨xr_7_40, (List.forall_mem_cons.mpr ⟨xr_7_41, (List.forall_mem_cons.mpr ⟨xr_7_42, (List.forall_mem_cons.mpr ⟨xr_7_43, (List.forall_mem_cons.mpr ⟨xr_7_44, (List.forall_mem_cons.mpr ⟨xr_7_45, (List.forall_mem_cons.mpr ⟨xr_7_46, (List.forall_mem_cons.mpr ⟨xr_7_47, (List.forall_mem_cons.mpr ⟨xr_7_48, (List.forall_mem_cons.mpr ⟨xr_7_49, (List.forall_mem_cons.mpr ⟨xr_7_50, (List.forall_mem_cons.mpr ⟨xr_7_51, (List.forall_mem_cons.mpr ⟨xr_7_52, (List.forall_mem_cons.mpr ⟨xr_7_53, (List.forall_mem_cons.mpr ⟨xr_7_54, (List.forall_mem_cons.mpr ⟨xr_7_55, (List.forall_mem_cons.mpr ⟨xr_7_56, (List.forall_mem_cons.mpr ⟨xr_7_57, (List.forall_mem_cons.mpr ⟨xr_7_58, (List.forall_mem_cons.mpr ⟨xr_7_59, (List.forall_mem_cons.mpr ⟨xr_7_60, (List.forall_mem_cons.mpr ⟨xr_7_61, (List.forall_mem_cons.mpr ⟨xr_7_62, (List.forall_mem_cons.mpr ⟨xr_7_63, (List.forall_mem_cons.mpr ⟨xr_7_64, (List.forall_mem_cons.mpr ⟨xr_7_65, (List.forall_mem_cons.mpr ⟨xr_7_66, (List.forall_mem_cons.mpr ⟨xr_7_67, (List.forall_mem_cons.mpr ⟨xr_7_68, (List.forall_mem_cons.mpr ⟨xr_7_69, (List.forall_mem_cons.mpr ⟨xr_7_70, (List.forall_mem_cons.mpr ⟨xr_7_71, (List.forall_mem_cons.mpr ⟨xr_7_72, (List.forall_mem_cons.mpr ⟨xr_7_73, (List.forall_mem_cons.mpr ⟨xr_7_74, (List.forall_mem_cons.mpr ⟨xr_7_75, (List.forall_mem_cons.mpr ⟨xr_7_76, (List.forall_mem_cons.mpr ⟨xr_7_77, (List.forall_mem_cons.mpr ⟨xr_7_78, (List.forall_mem_cons.mpr ⟨xr_7_79, (List.forall_mem_cons.mpr ⟨xr_7_80, (fun _ h => nomatch h)⟩)⟩)⟩)⟩)⟩)⟩)⟩)⟩)⟩)⟩)⟩)⟩)⟩)⟩)⟩)⟩)⟩)⟩)⟩)⟩)⟩)⟩)⟩)⟩)⟩)⟩)⟩)⟩)⟩)⟩)⟩)⟩)⟩)⟩)⟩)⟩)⟩)⟩)⟩)⟩)⟩)⟩)⟩)⟩)⟩)⟩)⟩)⟩)⟩)⟩)⟩)⟩)⟩)⟩)⟩)⟩)⟩)⟩)⟩)⟩)⟩)⟩)⟩)⟩)⟩)⟩)⟩)⟩)⟩)⟩)⟩)⟩)⟩)⟩)⟩)⟩)⟩)⟩)⟩)⟩)⟩)
set_option maxRecDepth 100000 in
theorem xq_8 : ∀ q ∈ xpl_8, xokp 8 q := (fun _ h => nomatch h)
set_option maxRecDepth 100000 in
theorem xr_9_0 : xokp 9 (9, 7, 7, 0) := ⟨xmem (p := 26) rfl rfl, by decide⟩
set_option maxRecDepth 100000 in
theorem xr_9_1 : xokp 9 (97, 4, 62, 0) := ⟨xmem (p := 28) rfl rfl, xd_62⟩
set_option maxRecDepth 100000 in
theorem xr_9_2 : xokp 9 (98, 3, 91, 0) := ⟨xmem (p := 205) rfl rfl, xd_91⟩
set_option maxRecDepth 100000 in
theorem xr_9_3 : xokp 9 (106, 3, 96, 0) := ⟨xmem (p := 208) rfl rfl, xd_96⟩
set_option maxRecDepth 100000 in
theorem xr_9_4 : xokp 9 (8, 2, 80, 0) := ⟨xmem (p := 211) rfl rfl, xd_80⟩
set_option maxRecDepth 100000 in
theorem xr_9_5 : xokp 9 (31, 3, 92, 0) := ⟨xmem (p := 328) rfl rfl, xd_92⟩
set_option maxRecDepth 100000 in
theorem xr_9_6 : xokp 9 (7, 14, 0, 0) := xmem (p := 331) rfl rfl
set_option maxRecDepth 100000 in
theorem xr_9_7 : xokp 9 (40, 3, 95, 0) := ⟨xmem (p := 332) rfl rfl, xd_95⟩
set_option maxRecDepth 100000 in
theorem xr_9_8 : xokp 9 (27, 2, 73, 0) := ⟨xmem (p := 335) rfl rfl, xd_73⟩
set_option maxRecDepth 100000 in
theorem xr_9_9 : xokp 9 (34, 2, 72, 0) := ⟨xmem (p := 343) rfl rfl, xd_72⟩
set_option maxRecDepth 100000 in
theorem xr_9_10 : xokp 9 (37, 2, 63, 0) := ⟨xmem (p := 369) rfl rfl, xd_63⟩
set_option maxRecDepth 100000 in
theorem xr_9_11 : xokp 9 (43, 2, 64, 0) := ⟨xmem (p := 441) rfl rfl, xd_64⟩
set_option maxRecDepth 100000 in
theorem xr_9_12 : xokp 9 (14, 2, 75, 0) := ⟨xmem (p := 464) rfl rfl, xd_75⟩
set_option maxRecDepth 100000 in
theorem xr_9_13 : xokp 9 (46, 2, 65, 0) := ⟨xmem (p := 470) rfl rfl, xd_65⟩
set_option maxRecDepth 100000 in
theorem xr_9_14 : xokp 9 (49, 2, 66, 0) := ⟨xmem (p := 497) rfl rfl, xd_66⟩
set_option maxRecDepth 100000 in
theorem xr_9_15 : xokp 9 (52, 2, 69, 0) := ⟨xmem (p := 517) rfl rfl, xd_69⟩
set_option maxRecDepth 100000 in
theorem xr_9_16 : xokp 9 (55, 2, 70, 0) := ⟨xmem (p := 536) rfl rfl, xd_70⟩
set_option maxRecDepth 100000 in
theorem xr_9_17 : xokp 9 (58, 2, 71, 0) := ⟨xmem (p := 551) rfl rfl, xd_71⟩
set_option maxRecDepth 100000 in
theorem xr_9_18 : xokp 9 (61, 2, 68, 0) := ⟨xmem (p := 565) rfl rfl, xd_68⟩
set_option maxRecDepth 100000 in
theorem xr_9_19 : xokp 9 (64, 2, 67, 0) := ⟨xmem (p := 607) rfl rfl, xd_67⟩
set_option maxRecDepth 100000 in
theorem xr_9_20 : xokp 9 (102, 3, 97, 0) := ⟨xmem (p := 613) rfl rfl, xd_97⟩
set_option maxRecDepth 100000 in
theorem xr_9_21 : xokp 9 (67, 9, 0, 0) := xmem (p := 616) rfl rfl
set_option maxRecDepth 100000 in
theorem xr_9_22 : xokp 9 (69, 2, 76, 0) := ⟨xmem (p := 617) rfl rfl, xd_76⟩
set_option maxRecDepth 100000 in
theorem xr_9_23 : xokp 9 (109, 3, 98, 0) := ⟨xmem (p := 621) rfl rfl, xd_98⟩
set_option maxRecDepth 100000 in
theorem xr_9_24 : xokp 9 (23, 2, 77, 0) := ⟨xmem (p := 624) rfl rfl, xd_77⟩
set_option maxRecDepth 100000 in
theorem xr_9_25 : xokp 9 (72, 2, 81, 0) := ⟨xmem (p := 633) rfl rfl, xd_81⟩
set_option maxRecDepth 100000 in
theorem xr_9_26 : xokp 9 (75, 3, 93, 0) := ⟨xmem (p := 646) rfl rfl, xd_93⟩
set_option maxRecDepth 100000 in
theorem xr_9_27 : xokp 9 (17, 3, 94, 0) := ⟨xmem (p := 649) rfl rfl, xd_94⟩
set_option maxRecDepth 100000 in
theorem xr_9_28 : xokp 9 (113, 3, 99, 0) := ⟨xmem (p := 652) rfl rfl, xd_99⟩
set_option maxRecDepth 100000 in
theorem xr_9_29 : xokp 9 (79, 2, 79, 0) := ⟨xmem (p := 655) rfl rfl, xd_79⟩
set_option maxRecDepth 100000 in
theorem xr_9_30 : xokp 9 (82, 2, 82, 0) := ⟨xmem (p := 664) rfl rfl, xd_82⟩
set_option maxRecDepth 100000 in
theorem xr_9_31 : xokp 9 (85, 2, 78, 0) := ⟨xmem (p := 668) rfl rfl, xd_78⟩
set_option maxRecDepth 100000 in
theorem xr_9_32 : xokp 9 (88, 2, 74, 0) := ⟨xmem (p := 676) rfl rfl, xd_74⟩
set_option maxRecDepth 100000 in
theorem xr_9_33 : xokp 9 (91, 2, 83, 0) := ⟨xmem (p := 685) rfl rfl, xd_83⟩
set_option maxRecDepth 100000 in
theorem xr_9_34 : xokp 9 (116, 3, 100, 0) := ⟨xmem (p := 699) rfl rfl, xd_100⟩
set_option maxRecDepth 100000 in
theorem xr_9_35 : xokp 9 (94, 2, 84, 0) := ⟨xmem (p := 702) rfl rfl, xd_84⟩
set_option maxRecDepth 100000 in
theorem xq_9 : ∀ q ∈ xpl_9, xokp 9 q := (List.forall_mem_cons.mpr ⟨xr_9_0, (List.forall_mem_cons.mpr ⟨xr_9_1, (List.forall_mem_cons.mpr ⟨xr_9_2, (List.forall_mem_cons.mpr ⟨xr_9_3, (List.forall_mem_cons.mpr ⟨xr_9_4, (List.forall_mem_cons.mpr ⟨xr_9_5, (List.forall_mem_cons.mpr ⟨xr_9_6, (List.forall_mem_cons.mpr ⟨xr_9_7, (List.forall_mem_cons.mpr ⟨xr_9_8, (List.forall_mem_cons.mpr ⟨xr_9_9, (List.forall_mem_cons.mpr ⟨xr_9_10, (List.forall_mem_cons.mpr ⟨xr_9_11, (List.forall_mem_cons.mpr ⟨xr_9_12, (List.forall_mem_cons.mpr ⟨xr_9_13, (List.forall_mem_cons.mpr ⟨xr_9_14, (List.forall_mem_cons.mpr ⟨xr_9_15, (List.forall_mem_cons.mpr ⟨xr_9_16, (List.forall_mem_cons.mpr ⟨xr_9_17, (List.forall_mem_cons.mpr ⟨xr_9_18, (List.forall_mem_cons.mpr ⟨xr_9_19, (List.forall_mem_cons.mpr ⟨xr_9_20, (List.forall_mem_cons.mpr ⟨xr_9_21, (List.forall_mem_cons.mpr ⟨xr_9_22, (List.forall_mem_cons.mpr ⟨xr_9_23, (List.forall_mem_cons.mpr ⟨xr_9_24, (List.forall_mem_cons.mpr ⟨xr_9_25, (List.forall_mem_cons.mpr ⟨xr_9_26, (List.forall_mem_cons.mpr ⟨xr_9_27, (List.forall_mem_cons.mpr ⟨xr_9_28, (List.forall_mem_cons.mpr ⟨xr_9_29, (List.forall_mem_cons.mpr ⟨xr_9_30, (List.forall_mem_cons.mpr ⟨xr_9_31, (List.forall_mem_cons.mpr ⟨xr_9_32, (List.forall_mem_cons.mpr ⟨xr_9_33, (List.forall_mem_cons.mpr ⟨xr_9_34, (List.forall_mem_cons.mpr ⟨xr_9_35, (fun _ h => nomatch h)⟩)⟩)⟩)⟩)⟩)⟩)⟩)⟩)⟩)⟩)⟩)⟩)⟩)⟩)⟩)⟩)⟩)⟩)⟩)⟩)⟩)⟩)⟩)⟩)⟩)⟩)⟩)⟩)⟩)⟩)⟩)⟩)⟩)⟩)⟩)⟩)
theorem xpl_ok (w : Nat) : ∀ q ∈ xpl w, xokp w q := by
  unfold xpl
  split
  · exact xq_0
  · exact xq_1
  · exact xq_2
  · exact xq_3
  · exact xq_4
  · exact xq_5
  · exact xq_6
  · exact xq_7
  · exact xq_8
  · exact xq_9
  · exact fun _ h => nomatch h
theorem xpf_ok {w i k a b : Nat} (h : xpf w i = some (k, a, b)) : xokp w (i, k, a, b) := by
  unfold xpf at h
  obtain ⟨q, hq, he⟩ := Option.map_eq_some_iff.mp h
  have h1 := List.mem_of_find?_eq_some hq
  have h2 := List.find?_some hq
  have h3 := xpl_ok w q h1
  obtain ⟨i', r⟩ := q
  have e1 : i' = i := by simpa using h2
  have e2 : r = (k, a, b) := he
  rw [e1, e2] at h3
  exact h3

