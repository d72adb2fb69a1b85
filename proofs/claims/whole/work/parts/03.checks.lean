/-! What the tables' numbers stand for, decided once. Written by gen_base.py. -/
def xgt : List Cond := lw_tbl.filter goodWord
theorem xmem {p : Nat} {w : Cond} (h : lw_tbl[p]? = some w) (g : goodWord w = true) : w ∈ xgt := List.mem_filter.mpr ⟨List.mem_of_getElem? h, g⟩
theorem xgt_good {w : Cond} (h : w ∈ xgt) : goodWord w = true := (List.mem_filter.mp h).2
theorem xgt_tbl {w : Cond} (h : w ∈ xgt) : w ∈ lw_tbl := (List.mem_filter.mp h).1
/-- a method's own word -/
def xcw (z : Nat) : Cond := if xmh z = [] then .code (xmy z) (xmb z) (xml z) (xmr z) else .codeWith (xmy z) (xmb z) (xml z) (xmr z) (xmh z)
/-- how many parameters -/
def xna (z : Nat) : Nat := ((parseMethodDescriptor (xmy z).desc).map (fun d => d.parameters.length)).getD 99
/-- the words of every method but the law's own -/
def xokc (z : Nat) : Prop := xcw z ∈ xgt ∧ Cond.initialized (xmy z).cls ∈ xgt ∧ (xmy z).cls = xcn (xmo z) ∧ plainName (xmy z).cls = true ∧ ((xmy z).cls ≠ "java/lang/invoke/MethodHandle" ∧ (xmy z).cls ≠ "java/lang/invoke/VarHandle") ∧ (parseMethodDescriptor (xmy z).desc).map (fun d => d.parameters.length) = some (xna z)
def xokS (z : Nat) : Prop := xokc z ∧ Cond.static (xmy z) ∈ xgt
def xokI (z : Nat) : Prop := xokc z ∧ Cond.instanceMethod (xmy z) ∈ xgt ∧ (xmy z).name = "<init>" ∧ xmr z = none ∧ xmh z = []
def xokV (z : Nat) : Prop := xokc z ∧ Cond.instanceMethod (xmy z) ∈ xgt ∧ Cond.selects (xmy z).cls (xmy z) (xmy z) ∈ xgt
def xokp (w : Nat) (q : Nat × Nat × Nat × Nat) : Prop := match q with
  | (i, 0, ci, k) => Cond.fieldLink (xcn w) i (xT ci k).1 (xT ci k).2.1 (xT ci k).2.2.1 ∈ xgt ∧ k < xN ci ∧ ci < 9
  | (i, 1, ci, k) => Cond.fieldLinkNest (xcn w) i (xT ci k).1 (xT ci k).2.1 (xT ci k).2.2.1 "PairNames" ∈ lw_tbl ∧ k < xN ci ∧ ci < 9
  | (i, 2, z, _) => Cond.methodLink (xcn w) i (xmy z) ∈ xgt ∧ xokV z
  | (i, 3, z, _) => Cond.methodLink (xcn w) i (xmy z) ∈ xgt ∧ xokS z
  | (i, 4, z, _) => Cond.methodLink (xcn w) i (xmy z) ∈ xgt ∧ xokI z
  | (i, 5, z, _) => Cond.methodLinkNest (xcn w) i (xmy z) "PairNames" ∈ lw_tbl ∧ xokI z
  | (i, 6, _, _) => Cond.methodLink (xcn w) i objectInit ∈ xgt
  | (i, 7, ci, _) => Cond.classLink (xcn w) i (xcn ci) ∈ xgt ∧ ci < 9
  | (i, 8, e, _) => Cond.classLink (xcn w) i (xec e) ∈ xgt ∧ e < 3
  | (i, 9, k, _) => Cond.constantLong (xcn w) i ((xls[k]?).getD 0) ∈ xgt
  | (i, 10, k, _) => Cond.constantDouble (xcn w) i ((xds[k]?).getD 0) ∈ xgt
  | (i, 11, k, _) => Cond.stringRef (xcn w) i ((xss[k]?).getD "") ∈ lw_tbl
  | (i, 12, _, _) => Cond.methodLink (xcn w) i Lib.Math.max.name ∈ xgt
  | (i, 13, _, _) => Cond.methodLink (xcn w) i Lib.Math.min.name ∈ xgt
  | _ => False

set_option maxRecDepth 100000 in
theorem xc_0 : xokc 0 := ⟨xmem (p := 186) rfl rfl, xmem (p := 53) rfl rfl, rfl, by decide +kernel, by decide +kernel, by decide +kernel⟩
set_option maxRecDepth 100000 in
theorem xd_0 : xokI 0 := ⟨xc_0, xmem (p := 185) rfl rfl, rfl, rfl, rfl⟩
set_option maxRecDepth 100000 in
theorem xc_1 : xokc 1 := ⟨xmem (p := 405) rfl rfl, xmem (p := 53) rfl rfl, rfl, by decide +kernel, by decide +kernel, by decide +kernel⟩
set_option maxRecDepth 100000 in
theorem xd_1 : xokV 1 := ⟨xc_1, xmem (p := 403) rfl rfl, xmem (p := 404) rfl rfl⟩
set_option maxRecDepth 100000 in
theorem xc_2 : xokc 2 := ⟨xmem (p := 723) rfl rfl, xmem (p := 53) rfl rfl, rfl, by decide +kernel, by decide +kernel, by decide +kernel⟩
set_option maxRecDepth 100000 in
theorem xd_2 : xokV 2 := ⟨xc_2, xmem (p := 721) rfl rfl, xmem (p := 722) rfl rfl⟩
set_option maxRecDepth 100000 in
theorem xc_3 : xokc 3 := ⟨xmem (p := 389) rfl rfl, xmem (p := 53) rfl rfl, rfl, by decide +kernel, by decide +kernel, by decide +kernel⟩
set_option maxRecDepth 100000 in
theorem xd_3 : xokV 3 := ⟨xc_3, xmem (p := 387) rfl rfl, xmem (p := 388) rfl rfl⟩
set_option maxRecDepth 100000 in
theorem xc_4 : xokc 4 := ⟨xmem (p := 401) rfl rfl, xmem (p := 53) rfl rfl, rfl, by decide +kernel, by decide +kernel, by decide +kernel⟩
set_option maxRecDepth 100000 in
theorem xd_4 : xokV 4 := ⟨xc_4, xmem (p := 400) rfl rfl, xmem (p := 4) rfl rfl⟩
set_option maxRecDepth 100000 in
theorem xc_5 : xokc 5 := ⟨xmem (p := 410) rfl rfl, xmem (p := 53) rfl rfl, rfl, by decide +kernel, by decide +kernel, by decide +kernel⟩
set_option maxRecDepth 100000 in
theorem xd_5 : xokV 5 := ⟨xc_5, xmem (p := 409) rfl rfl, xmem (p := 5) rfl rfl⟩
set_option maxRecDepth 100000 in
theorem xc_6 : xokc 6 := ⟨xmem (p := 397) rfl rfl, xmem (p := 53) rfl rfl, rfl, by decide +kernel, by decide +kernel, by decide +kernel⟩
set_option maxRecDepth 100000 in
theorem xd_6 : xokV 6 := ⟨xc_6, xmem (p := 395) rfl rfl, xmem (p := 396) rfl rfl⟩
set_option maxRecDepth 100000 in
theorem xc_7 : xokc 7 := ⟨xmem (p := 537) rfl rfl, xmem (p := 53) rfl rfl, rfl, by decide +kernel, by decide +kernel, by decide +kernel⟩
set_option maxRecDepth 100000 in
theorem xd_7 : xokV 7 := ⟨xc_7, xmem (p := 535) rfl rfl, xmem (p := 536) rfl rfl⟩
set_option maxRecDepth 100000 in
theorem xc_8 : xokc 8 := ⟨xmem (p := 614) rfl rfl, xmem (p := 53) rfl rfl, rfl, by decide +kernel, by decide +kernel, by decide +kernel⟩
set_option maxRecDepth 100000 in
theorem xd_8 : xokV 8 := ⟨xc_8, xmem (p := 613) rfl rfl, xmem (p := 12) rfl rfl⟩
set_option maxRecDepth 100000 in
theorem xc_9 : xokc 9 := ⟨xmem (p := 610) rfl rfl, xmem (p := 53) rfl rfl, rfl, by decide +kernel, by decide +kernel, by decide +kernel⟩
set_option maxRecDepth 100000 in
theorem xd_9 : xokV 9 := ⟨xc_9, xmem (p := 608) rfl rfl, xmem (p := 609) rfl rfl⟩
set_option maxRecDepth 100000 in
theorem xc_10 : xokc 10 := ⟨xmem (p := 635) rfl rfl, xmem (p := 53) rfl rfl, rfl, by decide +kernel, by decide +kernel, by decide +kernel⟩
set_option maxRecDepth 100000 in
theorem xd_10 : xokV 10 := ⟨xc_10, xmem (p := 633) rfl rfl, xmem (p := 634) rfl rfl⟩
set_option maxRecDepth 100000 in
theorem xc_11 : xokc 11 := ⟨xmem (p := 104) rfl rfl, xmem (p := 51) rfl rfl, rfl, by decide +kernel, by decide +kernel, by decide +kernel⟩
set_option maxRecDepth 100000 in
theorem xd_11 : xokI 11 := ⟨xc_11, xmem (p := 103) rfl rfl, rfl, rfl, rfl⟩
set_option maxRecDepth 100000 in
theorem xc_12 : xokc 12 := ⟨xmem (p := 291) rfl rfl, xmem (p := 51) rfl rfl, rfl, by decide +kernel, by decide +kernel, by decide +kernel⟩
set_option maxRecDepth 100000 in
theorem xd_12 : xokV 12 := ⟨xc_12, xmem (p := 289) rfl rfl, xmem (p := 290) rfl rfl⟩
set_option maxRecDepth 100000 in
theorem xc_13 : xokc 13 := ⟨xmem (p := 113) rfl rfl, xmem (p := 51) rfl rfl, rfl, by decide +kernel, by decide +kernel, by decide +kernel⟩
set_option maxRecDepth 100000 in
theorem xd_13 : xokV 13 := ⟨xc_13, xmem (p := 111) rfl rfl, xmem (p := 112) rfl rfl⟩
set_option maxRecDepth 100000 in
theorem xc_14 : xokc 14 := ⟨xmem (p := 480) rfl rfl, xmem (p := 51) rfl rfl, rfl, by decide +kernel, by decide +kernel, by decide +kernel⟩
set_option maxRecDepth 100000 in
theorem xd_14 : xokV 14 := ⟨xc_14, xmem (p := 478) rfl rfl, xmem (p := 479) rfl rfl⟩
set_option maxRecDepth 100000 in
theorem xc_15 : xokc 15 := ⟨xmem (p := 273) rfl rfl, xmem (p := 51) rfl rfl, rfl, by decide +kernel, by decide +kernel, by decide +kernel⟩
set_option maxRecDepth 100000 in
theorem xd_15 : xokV 15 := ⟨xc_15, xmem (p := 271) rfl rfl, xmem (p := 272) rfl rfl⟩
set_option maxRecDepth 100000 in
theorem xc_16 : xokc 16 := ⟨xmem (p := 166) rfl rfl, xmem (p := 52) rfl rfl, rfl, by decide +kernel, by decide +kernel, by decide +kernel⟩
set_option maxRecDepth 100000 in
theorem xd_16 : xokI 16 := ⟨xc_16, xmem (p := 165) rfl rfl, rfl, rfl, rfl⟩
set_option maxRecDepth 100000 in
theorem xc_17 : xokc 17 := ⟨xmem (p := 249) rfl rfl, xmem (p := 52) rfl rfl, rfl, by decide +kernel, by decide +kernel, by decide +kernel⟩
set_option maxRecDepth 100000 in
theorem xd_17 : xokV 17 := ⟨xc_17, xmem (p := 247) rfl rfl, xmem (p := 248) rfl rfl⟩
set_option maxRecDepth 100000 in
theorem xc_18 : xokc 18 := ⟨xmem (p := 736) rfl rfl, xmem (p := 52) rfl rfl, rfl, by decide +kernel, by decide +kernel, by decide +kernel⟩
set_option maxRecDepth 100000 in
theorem xd_18 : xokV 18 := ⟨xc_18, xmem (p := 734) rfl rfl, xmem (p := 735) rfl rfl⟩
set_option maxRecDepth 100000 in
theorem xc_19 : xokc 19 := ⟨xmem (p := 98) rfl rfl, xmem (p := 50) rfl rfl, rfl, by decide +kernel, by decide +kernel, by decide +kernel⟩
set_option maxRecDepth 100000 in
theorem xd_19 : xokI 19 := ⟨xc_19, xmem (p := 97) rfl rfl, rfl, rfl, rfl⟩
set_option maxRecDepth 100000 in
theorem xc_20 : xokc 20 := ⟨xmem (p := 269) rfl rfl, xmem (p := 50) rfl rfl, rfl, by decide +kernel, by decide +kernel, by decide +kernel⟩
set_option maxRecDepth 100000 in
theorem xd_20 : xokV 20 := ⟨xc_20, xmem (p := 267) rfl rfl, xmem (p := 268) rfl rfl⟩
set_option maxRecDepth 100000 in
theorem xc_21 : xokc 21 := ⟨xmem (p := 308) rfl rfl, xmem (p := 50) rfl rfl, rfl, by decide +kernel, by decide +kernel, by decide +kernel⟩
set_option maxRecDepth 100000 in
theorem xd_21 : xokV 21 := ⟨xc_21, xmem (p := 306) rfl rfl, xmem (p := 307) rfl rfl⟩
set_option maxRecDepth 100000 in
theorem xc_22 : xokc 22 := ⟨xmem (p := 428) rfl rfl, xmem (p := 50) rfl rfl, rfl, by decide +kernel, by decide +kernel, by decide +kernel⟩
set_option maxRecDepth 100000 in
theorem xd_22 : xokV 22 := ⟨xc_22, xmem (p := 426) rfl rfl, xmem (p := 427) rfl rfl⟩
set_option maxRecDepth 100000 in
theorem xc_23 : xokc 23 := ⟨xmem (p := 312) rfl rfl, xmem (p := 50) rfl rfl, rfl, by decide +kernel, by decide +kernel, by decide +kernel⟩
set_option maxRecDepth 100000 in
theorem xd_23 : xokV 23 := ⟨xc_23, xmem (p := 310) rfl rfl, xmem (p := 311) rfl rfl⟩
set_option maxRecDepth 100000 in
theorem xc_24 : xokc 24 := ⟨xmem (p := 381) rfl rfl, xmem (p := 50) rfl rfl, rfl, by decide +kernel, by decide +kernel, by decide +kernel⟩
set_option maxRecDepth 100000 in
theorem xd_24 : xokV 24 := ⟨xc_24, xmem (p := 379) rfl rfl, xmem (p := 380) rfl rfl⟩
set_option maxRecDepth 100000 in
theorem xc_25 : xokc 25 := ⟨xmem (p := 299) rfl rfl, xmem (p := 50) rfl rfl, rfl, by decide +kernel, by decide +kernel, by decide +kernel⟩
set_option maxRecDepth 100000 in
theorem xd_25 : xokV 25 := ⟨xc_25, xmem (p := 297) rfl rfl, xmem (p := 298) rfl rfl⟩
set_option maxRecDepth 100000 in
theorem xc_26 : xokc 26 := ⟨xmem (p := 359) rfl rfl, xmem (p := 50) rfl rfl, rfl, by decide +kernel, by decide +kernel, by decide +kernel⟩
set_option maxRecDepth 100000 in
theorem xd_26 : xokV 26 := ⟨xc_26, xmem (p := 357) rfl rfl, xmem (p := 358) rfl rfl⟩
set_option maxRecDepth 100000 in
theorem xc_27 : xokc 27 := ⟨xmem (p := 492) rfl rfl, xmem (p := 50) rfl rfl, rfl, by decide +kernel, by decide +kernel, by decide +kernel⟩
set_option maxRecDepth 100000 in
theorem xd_27 : xokV 27 := ⟨xc_27, xmem (p := 490) rfl rfl, xmem (p := 491) rfl rfl⟩
set_option maxRecDepth 100000 in
theorem xc_28 : xokc 28 := ⟨xmem (p := 202) rfl rfl, xmem (p := 54) rfl rfl, rfl, by decide +kernel, by decide +kernel, by decide +kernel⟩
set_option maxRecDepth 100000 in
theorem xd_28 : xokI 28 := ⟨xc_28, xmem (p := 201) rfl rfl, rfl, rfl, rfl⟩
set_option maxRecDepth 100000 in
theorem xc_29 : xokc 29 := ⟨xmem (p := 281) rfl rfl, xmem (p := 54) rfl rfl, rfl, by decide +kernel, by decide +kernel, by decide +kernel⟩
set_option maxRecDepth 100000 in
theorem xd_29 : xokV 29 := ⟨xc_29, xmem (p := 279) rfl rfl, xmem (p := 280) rfl rfl⟩
set_option maxRecDepth 100000 in
theorem xc_30 : xokc 30 := ⟨xmem (p := 285) rfl rfl, xmem (p := 54) rfl rfl, rfl, by decide +kernel, by decide +kernel, by decide +kernel⟩
set_option maxRecDepth 100000 in
theorem xd_30 : xokV 30 := ⟨xc_30, xmem (p := 284) rfl rfl, xmem (p := 0) rfl rfl⟩
set_option maxRecDepth 100000 in
theorem xc_31 : xokc 31 := ⟨xmem (p := 295) rfl rfl, xmem (p := 54) rfl rfl, rfl, by decide +kernel, by decide +kernel, by decide +kernel⟩
set_option maxRecDepth 100000 in
theorem xd_31 : xokV 31 := ⟨xc_31, xmem (p := 294) rfl rfl, xmem (p := 1) rfl rfl⟩
set_option maxRecDepth 100000 in
theorem xc_32 : xokc 32 := ⟨xmem (p := 501) rfl rfl, xmem (p := 54) rfl rfl, rfl, by decide +kernel, by decide +kernel, by decide +kernel⟩
set_option maxRecDepth 100000 in
theorem xd_32 : xokV 32 := ⟨xc_32, xmem (p := 499) rfl rfl, xmem (p := 500) rfl rfl⟩
set_option maxRecDepth 100000 in
theorem xc_33 : xokc 33 := ⟨xmem (p := 304) rfl rfl, xmem (p := 54) rfl rfl, rfl, by decide +kernel, by decide +kernel, by decide +kernel⟩
set_option maxRecDepth 100000 in
theorem xd_33 : xokV 33 := ⟨xc_33, xmem (p := 302) rfl rfl, xmem (p := 303) rfl rfl⟩
set_option maxRecDepth 100000 in
theorem xc_34 : xokc 34 := ⟨xmem (p := 335) rfl rfl, xmem (p := 54) rfl rfl, rfl, by decide +kernel, by decide +kernel, by decide +kernel⟩
set_option maxRecDepth 100000 in
theorem xd_34 : xokV 34 := ⟨xc_34, xmem (p := 333) rfl rfl, xmem (p := 334) rfl rfl⟩
set_option maxRecDepth 100000 in
theorem xc_35 : xokc 35 := ⟨xmem (p := 81) rfl rfl, xmem (p := 49) rfl rfl, rfl, by decide +kernel, by decide +kernel, by decide +kernel⟩
set_option maxRecDepth 100000 in
theorem xd_35 : xokI 35 := ⟨xc_35, xmem (p := 80) rfl rfl, rfl, rfl, rfl⟩
set_option maxRecDepth 100000 in
theorem xc_36 : xokc 36 := ⟨xmem (p := 261) rfl rfl, xmem (p := 49) rfl rfl, rfl, by decide +kernel, by decide +kernel, by decide +kernel⟩
set_option maxRecDepth 100000 in
theorem xd_36 : xokV 36 := ⟨xc_36, xmem (p := 259) rfl rfl, xmem (p := 260) rfl rfl⟩
set_option maxRecDepth 100000 in
theorem xc_37 : xokc 37 := ⟨xmem (p := 363) rfl rfl, xmem (p := 49) rfl rfl, rfl, by decide +kernel, by decide +kernel, by decide +kernel⟩
set_option maxRecDepth 100000 in
theorem xd_37 : xokV 37 := ⟨xc_37, xmem (p := 361) rfl rfl, xmem (p := 362) rfl rfl⟩
set_option maxRecDepth 100000 in
theorem xc_38 : xokc 38 := ⟨xmem (p := 265) rfl rfl, xmem (p := 49) rfl rfl, rfl, by decide +kernel, by decide +kernel, by decide +kernel⟩
set_option maxRecDepth 100000 in
theorem xd_38 : xokV 38 := ⟨xc_38, xmem (p := 263) rfl rfl, xmem (p := 264) rfl rfl⟩
set_option maxRecDepth 100000 in
theorem xc_39 : xokc 39 := ⟨xmem (p := 327) rfl rfl, xmem (p := 49) rfl rfl, rfl, by decide +kernel, by decide +kernel, by decide +kernel⟩
set_option maxRecDepth 100000 in
theorem xd_39 : xokV 39 := ⟨xc_39, xmem (p := 325) rfl rfl, xmem (p := 326) rfl rfl⟩
set_option maxRecDepth 100000 in
theorem xc_40 : xokc 40 := ⟨xmem (p := 257) rfl rfl, xmem (p := 49) rfl rfl, rfl, by decide +kernel, by decide +kernel, by decide +kernel⟩
set_option maxRecDepth 100000 in
theorem xd_40 : xokV 40 := ⟨xc_40, xmem (p := 255) rfl rfl, xmem (p := 256) rfl rfl⟩
set_option maxRecDepth 100000 in
theorem xc_41 : xokc 41 := ⟨xmem (p := 323) rfl rfl, xmem (p := 49) rfl rfl, rfl, by decide +kernel, by decide +kernel, by decide +kernel⟩
set_option maxRecDepth 100000 in
theorem xd_41 : xokV 41 := ⟨xc_41, xmem (p := 322) rfl rfl, xmem (p := 2) rfl rfl⟩
set_option maxRecDepth 100000 in
theorem xc_42 : xokc 42 := ⟨xmem (p := 376) rfl rfl, xmem (p := 49) rfl rfl, rfl, by decide +kernel, by decide +kernel, by decide +kernel⟩
set_option maxRecDepth 100000 in
theorem xd_42 : xokV 42 := ⟨xc_42, xmem (p := 374) rfl rfl, xmem (p := 375) rfl rfl⟩
set_option maxRecDepth 100000 in
theorem xc_43 : xokc 43 := ⟨xmem (p := 319) rfl rfl, xmem (p := 49) rfl rfl, rfl, by decide +kernel, by decide +kernel, by decide +kernel⟩
set_option maxRecDepth 100000 in
theorem xd_43 : xokV 43 := ⟨xc_43, xmem (p := 317) rfl rfl, xmem (p := 318) rfl rfl⟩
set_option maxRecDepth 100000 in
theorem xc_44 : xokc 44 := ⟨xmem (p := 505) rfl rfl, xmem (p := 49) rfl rfl, rfl, by decide +kernel, by decide +kernel, by decide +kernel⟩
set_option maxRecDepth 100000 in
theorem xd_44 : xokV 44 := ⟨xc_44, xmem (p := 503) rfl rfl, xmem (p := 504) rfl rfl⟩
set_option maxRecDepth 100000 in
theorem xc_45 : xokc 45 := ⟨xmem (p := 354) rfl rfl, xmem (p := 49) rfl rfl, rfl, by decide +kernel, by decide +kernel, by decide +kernel⟩
set_option maxRecDepth 100000 in
theorem xd_45 : xokV 45 := ⟨xc_45, xmem (p := 352) rfl rfl, xmem (p := 353) rfl rfl⟩
set_option maxRecDepth 100000 in
theorem xc_46 : xokc 46 := ⟨xmem (p := 455) rfl rfl, xmem (p := 49) rfl rfl, rfl, by decide +kernel, by decide +kernel, by decide +kernel⟩
set_option maxRecDepth 100000 in
theorem xd_46 : xokV 46 := ⟨xc_46, xmem (p := 453) rfl rfl, xmem (p := 454) rfl rfl⟩
set_option maxRecDepth 100000 in
theorem xc_47 : xokc 47 := ⟨xmem (p := 75) rfl rfl, xmem (p := 48) rfl rfl, rfl, by decide +kernel, by decide +kernel, by decide +kernel⟩
set_option maxRecDepth 100000 in
theorem xd_47 : xokI 47 := ⟨xc_47, xmem (p := 74) rfl rfl, rfl, rfl, rfl⟩
set_option maxRecDepth 100000 in
theorem xc_48 : xokc 48 := ⟨xmem (p := 253) rfl rfl, xmem (p := 48) rfl rfl, rfl, by decide +kernel, by decide +kernel, by decide +kernel⟩
set_option maxRecDepth 100000 in
theorem xd_48 : xokV 48 := ⟨xc_48, xmem (p := 251) rfl rfl, xmem (p := 252) rfl rfl⟩
set_option maxRecDepth 100000 in
theorem xc_49 : xokc 49 := ⟨xmem (p := 488) rfl rfl, xmem (p := 48) rfl rfl, rfl, by decide +kernel, by decide +kernel, by decide +kernel⟩
set_option maxRecDepth 100000 in
theorem xd_49 : xokV 49 := ⟨xc_49, xmem (p := 486) rfl rfl, xmem (p := 487) rfl rfl⟩
set_option maxRecDepth 100000 in
theorem xc_50 : xokc 50 := ⟨xmem (p := 424) rfl rfl, xmem (p := 48) rfl rfl, rfl, by decide +kernel, by decide +kernel, by decide +kernel⟩
set_option maxRecDepth 100000 in
theorem xd_50 : xokV 50 := ⟨xc_50, xmem (p := 422) rfl rfl, xmem (p := 423) rfl rfl⟩
set_option maxRecDepth 100000 in
theorem xc_51 : xokc 51 := ⟨xmem (p := 437) rfl rfl, xmem (p := 48) rfl rfl, rfl, by decide +kernel, by decide +kernel, by decide +kernel⟩
set_option maxRecDepth 100000 in
theorem xd_51 : xokV 51 := ⟨xc_51, xmem (p := 435) rfl rfl, xmem (p := 436) rfl rfl⟩
set_option maxRecDepth 100000 in
theorem xc_52 : xokc 52 := ⟨xmem (p := 460) rfl rfl, xmem (p := 48) rfl rfl, rfl, by decide +kernel, by decide +kernel, by decide +kernel⟩
set_option maxRecDepth 100000 in
theorem xd_52 : xokV 52 := ⟨xc_52, xmem (p := 458) rfl rfl, xmem (p := 459) rfl rfl⟩
set_option maxRecDepth 100000 in
theorem xc_53 : xokc 53 := ⟨xmem (p := 497) rfl rfl, xmem (p := 48) rfl rfl, rfl, by decide +kernel, by decide +kernel, by decide +kernel⟩
set_option maxRecDepth 100000 in
theorem xd_53 : xokV 53 := ⟨xc_53, xmem (p := 495) rfl rfl, xmem (p := 496) rfl rfl⟩
set_option maxRecDepth 100000 in
theorem xc_54 : xokc 54 := ⟨xmem (p := 476) rfl rfl, xmem (p := 48) rfl rfl, rfl, by decide +kernel, by decide +kernel, by decide +kernel⟩
set_option maxRecDepth 100000 in
theorem xd_54 : xokV 54 := ⟨xc_54, xmem (p := 474) rfl rfl, xmem (p := 475) rfl rfl⟩
set_option maxRecDepth 100000 in
theorem xc_55 : xokc 55 := ⟨xmem (p := 484) rfl rfl, xmem (p := 48) rfl rfl, rfl, by decide +kernel, by decide +kernel, by decide +kernel⟩
set_option maxRecDepth 100000 in
theorem xd_55 : xokV 55 := ⟨xc_55, xmem (p := 482) rfl rfl, xmem (p := 483) rfl rfl⟩
set_option maxRecDepth 100000 in
theorem xc_56 : xokc 56 := ⟨xmem (p := 450) rfl rfl, xmem (p := 48) rfl rfl, rfl, by decide +kernel, by decide +kernel, by decide +kernel⟩
set_option maxRecDepth 100000 in
theorem xd_56 : xokV 56 := ⟨xc_56, xmem (p := 448) rfl rfl, xmem (p := 449) rfl rfl⟩
set_option maxRecDepth 100000 in
theorem xc_57 : xokc 57 := ⟨xmem (p := 372) rfl rfl, xmem (p := 48) rfl rfl, rfl, by decide +kernel, by decide +kernel, by decide +kernel⟩
set_option maxRecDepth 100000 in
theorem xd_57 : xokV 57 := ⟨xc_57, xmem (p := 370) rfl rfl, xmem (p := 371) rfl rfl⟩
set_option maxRecDepth 100000 in
theorem xc_58 : xokc 58 := ⟨xmem (p := 675) rfl rfl, xmem (p := 48) rfl rfl, rfl, by decide +kernel, by decide +kernel, by decide +kernel⟩
set_option maxRecDepth 100000 in
theorem xd_58 : xokV 58 := ⟨xc_58, xmem (p := 673) rfl rfl, xmem (p := 674) rfl rfl⟩
set_option maxRecDepth 100000 in
theorem xc_59 : xokc 59 := ⟨xmem (p := 345) rfl rfl, xmem (p := 48) rfl rfl, rfl, by decide +kernel, by decide +kernel, by decide +kernel⟩
set_option maxRecDepth 100000 in
theorem xd_59 : xokV 59 := ⟨xc_59, xmem (p := 343) rfl rfl, xmem (p := 344) rfl rfl⟩
set_option maxRecDepth 100000 in
theorem xc_60 : xokc 60 := ⟨xmem (p := 350) rfl rfl, xmem (p := 48) rfl rfl, rfl, by decide +kernel, by decide +kernel, by decide +kernel⟩
set_option maxRecDepth 100000 in
theorem xd_60 : xokV 60 := ⟨xc_60, xmem (p := 349) rfl rfl, xmem (p := 3) rfl rfl⟩
set_option maxRecDepth 100000 in
theorem xc_61 : xokc 61 := ⟨xmem (p := 367) rfl rfl, xmem (p := 48) rfl rfl, rfl, by decide +kernel, by decide +kernel, by decide +kernel⟩
set_option maxRecDepth 100000 in
theorem xd_61 : xokV 61 := ⟨xc_61, xmem (p := 365) rfl rfl, xmem (p := 366) rfl rfl⟩
set_option maxRecDepth 100000 in
theorem xc_62 : xokc 62 := ⟨xmem (p := 67) rfl rfl, xmem (p := 47) rfl rfl, rfl, by decide +kernel, by decide +kernel, by decide +kernel⟩
set_option maxRecDepth 100000 in
theorem xd_62 : xokI 62 := ⟨xc_62, xmem (p := 66) rfl rfl, rfl, rfl, rfl⟩
set_option maxRecDepth 100000 in
theorem xc_63 : xokc 63 := ⟨xmem (p := 533) rfl rfl, xmem (p := 47) rfl rfl, rfl, by decide +kernel, by decide +kernel, by decide +kernel⟩
set_option maxRecDepth 100000 in
theorem xd_63 : xokV 63 := ⟨xc_63, xmem (p := 531) rfl rfl, xmem (p := 532) rfl rfl⟩
set_option maxRecDepth 100000 in
theorem xc_64 : xokc 64 := ⟨xmem (p := 644) rfl rfl, xmem (p := 47) rfl rfl, rfl, by decide +kernel, by decide +kernel, by decide +kernel⟩
set_option maxRecDepth 100000 in
theorem xd_64 : xokV 64 := ⟨xc_64, xmem (p := 642) rfl rfl, xmem (p := 643) rfl rfl⟩
set_option maxRecDepth 100000 in
theorem xc_65 : xokc 65 := ⟨xmem (p := 669) rfl rfl, xmem (p := 47) rfl rfl, rfl, by decide +kernel, by decide +kernel, by decide +kernel⟩
set_option maxRecDepth 100000 in
theorem xd_65 : xokV 65 := ⟨xc_65, xmem (p := 667) rfl rfl, xmem (p := 668) rfl rfl⟩
set_option maxRecDepth 100000 in
theorem xc_66 : xokc 66 := ⟨xmem (p := 683) rfl rfl, xmem (p := 47) rfl rfl, rfl, by decide +kernel, by decide +kernel, by decide +kernel⟩
set_option maxRecDepth 100000 in
theorem xd_66 : xokV 66 := ⟨xc_66, xmem (p := 681) rfl rfl, xmem (p := 682) rfl rfl⟩
set_option maxRecDepth 100000 in
theorem xc_67 : xokc 67 := ⟨xmem (p := 245) rfl rfl, xmem (p := 47) rfl rfl, rfl, by decide +kernel, by decide +kernel, by decide +kernel⟩
set_option maxRecDepth 100000 in
theorem xd_67 : xokV 67 := ⟨xc_67, xmem (p := 243) rfl rfl, xmem (p := 244) rfl rfl⟩
set_option maxRecDepth 100000 in
theorem xc_68 : xokc 68 := ⟨xmem (p := 331) rfl rfl, xmem (p := 47) rfl rfl, rfl, by decide +kernel, by decide +kernel, by decide +kernel⟩
set_option maxRecDepth 100000 in
theorem xd_68 : xokV 68 := ⟨xc_68, xmem (p := 329) rfl rfl, xmem (p := 330) rfl rfl⟩
set_option maxRecDepth 100000 in
theorem xc_69 : xokc 69 := ⟨xmem (p := 341) rfl rfl, xmem (p := 47) rfl rfl, rfl, by decide +kernel, by decide +kernel, by decide +kernel⟩
set_option maxRecDepth 100000 in
theorem xd_69 : xokV 69 := ⟨xc_69, xmem (p := 339) rfl rfl, xmem (p := 340) rfl rfl⟩
set_option maxRecDepth 100000 in
theorem xc_70 : xokc 70 := ⟨xmem (p := 694) rfl rfl, xmem (p := 47) rfl rfl, rfl, by decide +kernel, by decide +kernel, by decide +kernel⟩
set_option maxRecDepth 100000 in
theorem xd_70 : xokV 70 := ⟨xc_70, xmem (p := 692) rfl rfl, xmem (p := 693) rfl rfl⟩
set_option maxRecDepth 100000 in
theorem xc_71 : xokc 71 := ⟨xmem (p := 702) rfl rfl, xmem (p := 47) rfl rfl, rfl, by decide +kernel, by decide +kernel, by decide +kernel⟩
set_option maxRecDepth 100000 in
theorem xd_71 : xokV 71 := ⟨xc_71, xmem (p := 700) rfl rfl, xmem (p := 701) rfl rfl⟩
set_option maxRecDepth 100000 in
theorem xc_72 : xokc 72 := ⟨xmem (p := 717) rfl rfl, xmem (p := 47) rfl rfl, rfl, by decide +kernel, by decide +kernel, by decide +kernel⟩
set_option maxRecDepth 100000 in
theorem xd_72 : xokV 72 := ⟨xc_72, xmem (p := 715) rfl rfl, xmem (p := 716) rfl rfl⟩
set_option maxRecDepth 100000 in
theorem xc_73 : xokc 73 := ⟨xmem (p := 385) rfl rfl, xmem (p := 47) rfl rfl, rfl, by decide +kernel, by decide +kernel, by decide +kernel⟩
set_option maxRecDepth 100000 in
theorem xd_73 : xokV 73 := ⟨xc_73, xmem (p := 383) rfl rfl, xmem (p := 384) rfl rfl⟩
set_option maxRecDepth 100000 in
theorem xc_74 : xokc 74 := ⟨xmem (p := 393) rfl rfl, xmem (p := 47) rfl rfl, rfl, by decide +kernel, by decide +kernel, by decide +kernel⟩
set_option maxRecDepth 100000 in
theorem xd_74 : xokV 74 := ⟨xc_74, xmem (p := 391) rfl rfl, xmem (p := 392) rfl rfl⟩
set_option maxRecDepth 100000 in
theorem xc_75 : xokc 75 := ⟨xmem (p := 731) rfl rfl, xmem (p := 47) rfl rfl, rfl, by decide +kernel, by decide +kernel, by decide +kernel⟩
set_option maxRecDepth 100000 in
theorem xd_75 : xokV 75 := ⟨xc_75, xmem (p := 729) rfl rfl, xmem (p := 730) rfl rfl⟩
set_option maxRecDepth 100000 in
theorem xc_76 : xokc 76 := ⟨xmem (p := 743) rfl rfl, xmem (p := 47) rfl rfl, rfl, by decide +kernel, by decide +kernel, by decide +kernel⟩
set_option maxRecDepth 100000 in
theorem xd_76 : xokV 76 := ⟨xc_76, xmem (p := 741) rfl rfl, xmem (p := 742) rfl rfl⟩
set_option maxRecDepth 100000 in
theorem xc_77 : xokc 77 := ⟨xmem (p := 751) rfl rfl, xmem (p := 47) rfl rfl, rfl, by decide +kernel, by decide +kernel, by decide +kernel⟩
set_option maxRecDepth 100000 in
theorem xd_77 : xokV 77 := ⟨xc_77, xmem (p := 749) rfl rfl, xmem (p := 750) rfl rfl⟩
set_option maxRecDepth 100000 in
theorem xc_78 : xokc 78 := ⟨xmem (p := 758) rfl rfl, xmem (p := 47) rfl rfl, rfl, by decide +kernel, by decide +kernel, by decide +kernel⟩
set_option maxRecDepth 100000 in
theorem xd_78 : xokV 78 := ⟨xc_78, xmem (p := 756) rfl rfl, xmem (p := 757) rfl rfl⟩
set_option maxRecDepth 100000 in
theorem xc_79 : xokc 79 := ⟨xmem (p := 766) rfl rfl, xmem (p := 47) rfl rfl, rfl, by decide +kernel, by decide +kernel, by decide +kernel⟩
set_option maxRecDepth 100000 in
theorem xd_79 : xokV 79 := ⟨xc_79, xmem (p := 764) rfl rfl, xmem (p := 765) rfl rfl⟩
set_option maxRecDepth 100000 in
theorem xc_80 : xokc 80 := ⟨xmem (p := 773) rfl rfl, xmem (p := 47) rfl rfl, rfl, by decide +kernel, by decide +kernel, by decide +kernel⟩
set_option maxRecDepth 100000 in
theorem xd_80 : xokV 80 := ⟨xc_80, xmem (p := 771) rfl rfl, xmem (p := 772) rfl rfl⟩
set_option maxRecDepth 100000 in
theorem xc_81 : xokc 81 := ⟨xmem (p := 781) rfl rfl, xmem (p := 47) rfl rfl, rfl, by decide +kernel, by decide +kernel, by decide +kernel⟩
set_option maxRecDepth 100000 in
theorem xd_81 : xokV 81 := ⟨xc_81, xmem (p := 779) rfl rfl, xmem (p := 780) rfl rfl⟩
set_option maxRecDepth 100000 in
theorem xc_82 : xokc 82 := ⟨xmem (p := 789) rfl rfl, xmem (p := 47) rfl rfl, rfl, by decide +kernel, by decide +kernel, by decide +kernel⟩
set_option maxRecDepth 100000 in
theorem xd_82 : xokV 82 := ⟨xc_82, xmem (p := 787) rfl rfl, xmem (p := 788) rfl rfl⟩
set_option maxRecDepth 100000 in
theorem xc_83 : xokc 83 := ⟨xmem (p := 797) rfl rfl, xmem (p := 47) rfl rfl, rfl, by decide +kernel, by decide +kernel, by decide +kernel⟩
set_option maxRecDepth 100000 in
theorem xd_83 : xokV 83 := ⟨xc_83, xmem (p := 795) rfl rfl, xmem (p := 796) rfl rfl⟩
set_option maxRecDepth 100000 in
theorem xc_84 : xokc 84 := ⟨xmem (p := 804) rfl rfl, xmem (p := 47) rfl rfl, rfl, by decide +kernel, by decide +kernel, by decide +kernel⟩
set_option maxRecDepth 100000 in
theorem xd_84 : xokV 84 := ⟨xc_84, xmem (p := 802) rfl rfl, xmem (p := 803) rfl rfl⟩
set_option maxRecDepth 100000 in
theorem xc_85 : xokc 85 := ⟨xmem (p := 414) rfl rfl, xmem (p := 47) rfl rfl, rfl, by decide +kernel, by decide +kernel, by decide +kernel⟩
set_option maxRecDepth 100000 in
theorem xd_85 : xokV 85 := ⟨xc_85, xmem (p := 412) rfl rfl, xmem (p := 413) rfl rfl⟩
set_option maxRecDepth 100000 in
theorem xc_86 : xokc 86 := ⟨xmem (p := 433) rfl rfl, xmem (p := 47) rfl rfl, rfl, by decide +kernel, by decide +kernel, by decide +kernel⟩
set_option maxRecDepth 100000 in
theorem xd_86 : xokV 86 := ⟨xc_86, xmem (p := 431) rfl rfl, xmem (p := 432) rfl rfl⟩
set_option maxRecDepth 100000 in
theorem xc_87 : xokc 87 := ⟨xmem (p := 441) rfl rfl, xmem (p := 47) rfl rfl, rfl, by decide +kernel, by decide +kernel, by decide +kernel⟩
set_option maxRecDepth 100000 in
theorem xd_87 : xokV 87 := ⟨xc_87, xmem (p := 439) rfl rfl, xmem (p := 440) rfl rfl⟩
set_option maxRecDepth 100000 in
theorem xc_88 : xokc 88 := ⟨xmem (p := 705) rfl rfl, xmem (p := 47) rfl rfl, rfl, by decide +kernel, by decide +kernel, by decide +kernel⟩
set_option maxRecDepth 100000 in
theorem xd_88 : xokS 88 := ⟨xc_88, xmem (p := 704) rfl rfl⟩
set_option maxRecDepth 100000 in
theorem xc_89 : xokc 89 := ⟨xmem (p := 709) rfl rfl, xmem (p := 47) rfl rfl, rfl, by decide +kernel, by decide +kernel, by decide +kernel⟩
set_option maxRecDepth 100000 in
theorem xd_89 : xokS 89 := ⟨xc_89, xmem (p := 708) rfl rfl⟩
set_option maxRecDepth 100000 in
theorem xc_90 : xokc 90 := ⟨xmem (p := 418) rfl rfl, xmem (p := 47) rfl rfl, rfl, by decide +kernel, by decide +kernel, by decide +kernel⟩
set_option maxRecDepth 100000 in
theorem xd_90 : xokV 90 := ⟨xc_90, xmem (p := 417) rfl rfl, xmem (p := 6) rfl rfl⟩
set_option maxRecDepth 100000 in
theorem xc_91 : xokc 91 := ⟨xmem (p := 509) rfl rfl, xmem (p := 47) rfl rfl, rfl, by decide +kernel, by decide +kernel, by decide +kernel⟩
set_option maxRecDepth 100000 in
theorem xd_91 : xokV 91 := ⟨xc_91, xmem (p := 508) rfl rfl, xmem (p := 9) rfl rfl⟩
set_option maxRecDepth 100000 in
theorem xc_92 : xokc 92 := ⟨xmem (p := 465) rfl rfl, xmem (p := 47) rfl rfl, rfl, by decide +kernel, by decide +kernel, by decide +kernel⟩
set_option maxRecDepth 100000 in
theorem xd_92 : xokS 92 := ⟨xc_92, xmem (p := 464) rfl rfl⟩
set_option maxRecDepth 100000 in
theorem xc_93 : xokc 93 := ⟨xmem (p := 446) rfl rfl, xmem (p := 47) rfl rfl, rfl, by decide +kernel, by decide +kernel, by decide +kernel⟩
set_option maxRecDepth 100000 in
theorem xd_93 : xokV 93 := ⟨xc_93, xmem (p := 445) rfl rfl, xmem (p := 7) rfl rfl⟩
set_option maxRecDepth 100000 in
theorem xc_94 : xokc 94 := ⟨xmem (p := 471) rfl rfl, xmem (p := 47) rfl rfl, rfl, by decide +kernel, by decide +kernel, by decide +kernel⟩
set_option maxRecDepth 100000 in
theorem xd_94 : xokV 94 := ⟨xc_94, xmem (p := 470) rfl rfl, xmem (p := 8) rfl rfl⟩
set_option maxRecDepth 100000 in
theorem xc_95 : xokc 95 := ⟨xmem (p := 523) rfl rfl, xmem (p := 47) rfl rfl, rfl, by decide +kernel, by decide +kernel, by decide +kernel⟩
set_option maxRecDepth 100000 in
theorem xd_95 : xokV 95 := ⟨xc_95, xmem (p := 522) rfl rfl, xmem (p := 10) rfl rfl⟩
set_option maxRecDepth 100000 in
theorem xc_96 : xokc 96 := ⟨xmem (p := 515) rfl rfl, xmem (p := 47) rfl rfl, rfl, by decide +kernel, by decide +kernel, by decide +kernel⟩
set_option maxRecDepth 100000 in
theorem xd_96 : xokS 96 := ⟨xc_96, xmem (p := 514) rfl rfl⟩
set_option maxRecDepth 100000 in
theorem xc_97 : xokc 97 := ⟨xmem (p := 809) rfl rfl, xmem (p := 55) rfl rfl, rfl, by decide +kernel, by decide +kernel, by decide +kernel⟩
set_option maxRecDepth 100000 in
theorem xd_97 : xokI 97 := ⟨xc_97, xmem (p := 808) rfl rfl, rfl, rfl, rfl⟩
set_option maxRecDepth 100000 in
theorem xc_98 : xokc 98 := ⟨xmem (p := 875) rfl rfl, xmem (p := 55) rfl rfl, rfl, by decide +kernel, by decide +kernel, by decide +kernel⟩
set_option maxRecDepth 100000 in
theorem xd_98 : xokV 98 := ⟨xc_98, xmem (p := 873) rfl rfl, xmem (p := 874) rfl rfl⟩
set_option maxRecDepth 100000 in
theorem xc_99 : xokc 99 := ⟨xmem (p := 886) rfl rfl, xmem (p := 55) rfl rfl, rfl, by decide +kernel, by decide +kernel, by decide +kernel⟩
set_option maxRecDepth 100000 in
theorem xd_99 : xokS 99 := ⟨xc_99, xmem (p := 885) rfl rfl⟩
set_option maxRecDepth 100000 in
theorem xc_100 : xokc 100 := ⟨xmem (p := 890) rfl rfl, xmem (p := 55) rfl rfl, rfl, by decide +kernel, by decide +kernel, by decide +kernel⟩
set_option maxRecDepth 100000 in
theorem xd_100 : xokV 100 := ⟨xc_100, xmem (p := 889) rfl rfl, xmem (p := 14) rfl rfl⟩
set_option maxRecDepth 100000 in
theorem xc_101 : xokc 101 := ⟨xmem (p := 894) rfl rfl, xmem (p := 55) rfl rfl, rfl, by decide +kernel, by decide +kernel, by decide +kernel⟩
set_option maxRecDepth 100000 in
theorem xd_101 : xokV 101 := ⟨xc_101, xmem (p := 893) rfl rfl, xmem (p := 15) rfl rfl⟩
set_option maxRecDepth 100000 in
theorem xc_102 : xokc 102 := ⟨xmem (p := 1082) rfl rfl, xmem (p := 55) rfl rfl, rfl, by decide +kernel, by decide +kernel, by decide +kernel⟩
set_option maxRecDepth 100000 in
theorem xd_102 : xokV 102 := ⟨xc_102, xmem (p := 1081) rfl rfl, xmem (p := 41) rfl rfl⟩
set_option maxRecDepth 100000 in
theorem xc_103 : xokc 103 := ⟨xmem (p := 1086) rfl rfl, xmem (p := 55) rfl rfl, rfl, by decide +kernel, by decide +kernel, by decide +kernel⟩
set_option maxRecDepth 100000 in
theorem xd_103 : xokV 103 := ⟨xc_103, xmem (p := 1085) rfl rfl, xmem (p := 42) rfl rfl⟩
set_option maxRecDepth 100000 in
theorem xc_104 : xokc 104 := ⟨xmem (p := 902) rfl rfl, xmem (p := 55) rfl rfl, rfl, by decide +kernel, by decide +kernel, by decide +kernel⟩
set_option maxRecDepth 100000 in
theorem xd_104 : xokV 104 := ⟨xc_104, xmem (p := 901) rfl rfl, xmem (p := 16) rfl rfl⟩
set_option maxRecDepth 100000 in
theorem xc_105 : xokc 105 := ⟨xmem (p := 922) rfl rfl, xmem (p := 55) rfl rfl, rfl, by decide +kernel, by decide +kernel, by decide +kernel⟩
set_option maxRecDepth 100000 in
theorem xd_105 : xokV 105 := ⟨xc_105, xmem (p := 921) rfl rfl, xmem (p := 20) rfl rfl⟩
set_option maxRecDepth 100000 in
theorem xc_106 : xokc 106 := ⟨xmem (p := 926) rfl rfl, xmem (p := 55) rfl rfl, rfl, by decide +kernel, by decide +kernel, by decide +kernel⟩
set_option maxRecDepth 100000 in
theorem xd_106 : xokV 106 := ⟨xc_106, xmem (p := 925) rfl rfl, xmem (p := 21) rfl rfl⟩
set_option maxRecDepth 100000 in
theorem xc_107 : xokc 107 := ⟨xmem (p := 978) rfl rfl, xmem (p := 55) rfl rfl, rfl, by decide +kernel, by decide +kernel, by decide +kernel⟩
set_option maxRecDepth 100000 in
theorem xd_107 : xokV 107 := ⟨xc_107, xmem (p := 977) rfl rfl, xmem (p := 29) rfl rfl⟩
set_option maxRecDepth 100000 in
theorem xc_108 : xokc 108 := ⟨xmem (p := 982) rfl rfl, xmem (p := 55) rfl rfl, rfl, by decide +kernel, by decide +kernel, by decide +kernel⟩
set_option maxRecDepth 100000 in
theorem xd_108 : xokV 108 := ⟨xc_108, xmem (p := 981) rfl rfl, xmem (p := 30) rfl rfl⟩
set_option maxRecDepth 100000 in
theorem xc_109 : xokc 109 := ⟨xmem (p := 914) rfl rfl, xmem (p := 55) rfl rfl, rfl, by decide +kernel, by decide +kernel, by decide +kernel⟩
set_option maxRecDepth 100000 in
theorem xd_109 : xokV 109 := ⟨xc_109, xmem (p := 913) rfl rfl, xmem (p := 18) rfl rfl⟩
set_option maxRecDepth 100000 in
theorem xc_110 : xokc 110 := ⟨xmem (p := 918) rfl rfl, xmem (p := 55) rfl rfl, rfl, by decide +kernel, by decide +kernel, by decide +kernel⟩
set_option maxRecDepth 100000 in
theorem xd_110 : xokV 110 := ⟨xc_110, xmem (p := 917) rfl rfl, xmem (p := 19) rfl rfl⟩
set_option maxRecDepth 100000 in
theorem xc_111 : xokc 111 := ⟨xmem (p := 930) rfl rfl, xmem (p := 55) rfl rfl, rfl, by decide +kernel, by decide +kernel, by decide +kernel⟩
set_option maxRecDepth 100000 in
theorem xd_111 : xokV 111 := ⟨xc_111, xmem (p := 929) rfl rfl, xmem (p := 22) rfl rfl⟩
set_option maxRecDepth 100000 in
theorem xc_112 : xokc 112 := ⟨xmem (p := 1058) rfl rfl, xmem (p := 55) rfl rfl, rfl, by decide +kernel, by decide +kernel, by decide +kernel⟩
set_option maxRecDepth 100000 in
theorem xd_112 : xokV 112 := ⟨xc_112, xmem (p := 1057) rfl rfl, xmem (p := 38) rfl rfl⟩
set_option maxRecDepth 100000 in
theorem xc_113 : xokc 113 := ⟨xmem (p := 986) rfl rfl, xmem (p := 55) rfl rfl, rfl, by decide +kernel, by decide +kernel, by decide +kernel⟩
set_option maxRecDepth 100000 in
theorem xd_113 : xokV 113 := ⟨xc_113, xmem (p := 985) rfl rfl, xmem (p := 31) rfl rfl⟩
set_option maxRecDepth 100000 in
theorem xc_114 : xokc 114 := ⟨xmem (p := 1054) rfl rfl, xmem (p := 55) rfl rfl, rfl, by decide +kernel, by decide +kernel, by decide +kernel⟩
set_option maxRecDepth 100000 in
theorem xd_114 : xokV 114 := ⟨xc_114, xmem (p := 1053) rfl rfl, xmem (p := 37) rfl rfl⟩
set_option maxRecDepth 100000 in
theorem xc_115 : xokc 115 := ⟨xmem (p := 1018) rfl rfl, xmem (p := 55) rfl rfl, rfl, by decide +kernel, by decide +kernel, by decide +kernel⟩
set_option maxRecDepth 100000 in
theorem xd_115 : xokV 115 := ⟨xc_115, xmem (p := 1017) rfl rfl, xmem (p := 32) rfl rfl⟩
set_option maxRecDepth 100000 in
theorem xc_116 : xokc 116 := ⟨xmem (p := 883) rfl rfl, xmem (p := 55) rfl rfl, rfl, by decide +kernel, by decide +kernel, by decide +kernel⟩
set_option maxRecDepth 100000 in
theorem xd_116 : xokV 116 := ⟨xc_116, xmem (p := 882) rfl rfl, xmem (p := 13) rfl rfl⟩
set_option maxRecDepth 100000 in
theorem xc_117 : xokc 117 := ⟨xmem (p := 879) rfl rfl, xmem (p := 55) rfl rfl, rfl, by decide +kernel, by decide +kernel, by decide +kernel⟩
set_option maxRecDepth 100000 in
theorem xd_117 : xokV 117 := ⟨xc_117, xmem (p := 877) rfl rfl, xmem (p := 878) rfl rfl⟩
set_option maxRecDepth 100000 in
theorem xc_118 : xokc 118 := ⟨xmem (p := 898) rfl rfl, xmem (p := 55) rfl rfl, rfl, by decide +kernel, by decide +kernel, by decide +kernel⟩
set_option maxRecDepth 100000 in
theorem xd_118 : xokV 118 := ⟨xc_118, xmem (p := 896) rfl rfl, xmem (p := 897) rfl rfl⟩
set_option maxRecDepth 100000 in
theorem xc_119 : xokc 119 := ⟨xmem (p := 910) rfl rfl, xmem (p := 55) rfl rfl, rfl, by decide +kernel, by decide +kernel, by decide +kernel⟩
set_option maxRecDepth 100000 in
theorem xd_119 : xokV 119 := ⟨xc_119, xmem (p := 909) rfl rfl, xmem (p := 17) rfl rfl⟩
set_option maxRecDepth 100000 in
theorem xc_120 : xokc 120 := ⟨xmem (p := 906) rfl rfl, xmem (p := 55) rfl rfl, rfl, by decide +kernel, by decide +kernel, by decide +kernel⟩
set_option maxRecDepth 100000 in
theorem xd_120 : xokV 120 := ⟨xc_120, xmem (p := 904) rfl rfl, xmem (p := 905) rfl rfl⟩
set_option maxRecDepth 100000 in
theorem xc_121 : xokc 121 := ⟨xmem (p := 938) rfl rfl, xmem (p := 55) rfl rfl, rfl, by decide +kernel, by decide +kernel, by decide +kernel⟩
set_option maxRecDepth 100000 in
theorem xd_121 : xokV 121 := ⟨xc_121, xmem (p := 937) rfl rfl, xmem (p := 23) rfl rfl⟩
set_option maxRecDepth 100000 in
theorem xc_122 : xokc 122 := ⟨xmem (p := 934) rfl rfl, xmem (p := 55) rfl rfl, rfl, by decide +kernel, by decide +kernel, by decide +kernel⟩
set_option maxRecDepth 100000 in
theorem xd_122 : xokV 122 := ⟨xc_122, xmem (p := 932) rfl rfl, xmem (p := 933) rfl rfl⟩
set_option maxRecDepth 100000 in
theorem xc_123 : xokc 123 := ⟨xmem (p := 954) rfl rfl, xmem (p := 55) rfl rfl, rfl, by decide +kernel, by decide +kernel, by decide +kernel⟩
set_option maxRecDepth 100000 in
theorem xd_123 : xokV 123 := ⟨xc_123, xmem (p := 953) rfl rfl, xmem (p := 26) rfl rfl⟩
set_option maxRecDepth 100000 in
theorem xc_124 : xokc 124 := ⟨xmem (p := 950) rfl rfl, xmem (p := 55) rfl rfl, rfl, by decide +kernel, by decide +kernel, by decide +kernel⟩
set_option maxRecDepth 100000 in
theorem xd_124 : xokV 124 := ⟨xc_124, xmem (p := 949) rfl rfl, xmem (p := 25) rfl rfl⟩
set_option maxRecDepth 100000 in
theorem xc_125 : xokc 125 := ⟨xmem (p := 946) rfl rfl, xmem (p := 55) rfl rfl, rfl, by decide +kernel, by decide +kernel, by decide +kernel⟩
set_option maxRecDepth 100000 in
theorem xd_125 : xokV 125 := ⟨xc_125, xmem (p := 945) rfl rfl, xmem (p := 24) rfl rfl⟩
set_option maxRecDepth 100000 in
theorem xc_126 : xokc 126 := ⟨xmem (p := 962) rfl rfl, xmem (p := 55) rfl rfl, rfl, by decide +kernel, by decide +kernel, by decide +kernel⟩
set_option maxRecDepth 100000 in
theorem xd_126 : xokV 126 := ⟨xc_126, xmem (p := 961) rfl rfl, xmem (p := 27) rfl rfl⟩
set_option maxRecDepth 100000 in
theorem xc_127 : xokc 127 := ⟨xmem (p := 942) rfl rfl, xmem (p := 55) rfl rfl, rfl, by decide +kernel, by decide +kernel, by decide +kernel⟩
set_option maxRecDepth 100000 in
theorem xd_127 : xokV 127 := ⟨xc_127, xmem (p := 940) rfl rfl, xmem (p := 941) rfl rfl⟩
set_option maxRecDepth 100000 in
theorem xc_128 : xokc 128 := ⟨xmem (p := 958) rfl rfl, xmem (p := 55) rfl rfl, rfl, by decide +kernel, by decide +kernel, by decide +kernel⟩
set_option maxRecDepth 100000 in
theorem xd_128 : xokV 128 := ⟨xc_128, xmem (p := 956) rfl rfl, xmem (p := 957) rfl rfl⟩
set_option maxRecDepth 100000 in
theorem xc_129 : xokc 129 := ⟨xmem (p := 970) rfl rfl, xmem (p := 55) rfl rfl, rfl, by decide +kernel, by decide +kernel, by decide +kernel⟩
set_option maxRecDepth 100000 in
theorem xd_129 : xokV 129 := ⟨xc_129, xmem (p := 969) rfl rfl, xmem (p := 28) rfl rfl⟩
set_option maxRecDepth 100000 in
theorem xc_130 : xokc 130 := ⟨xmem (p := 966) rfl rfl, xmem (p := 55) rfl rfl, rfl, by decide +kernel, by decide +kernel, by decide +kernel⟩
set_option maxRecDepth 100000 in
theorem xd_130 : xokV 130 := ⟨xc_130, xmem (p := 964) rfl rfl, xmem (p := 965) rfl rfl⟩
set_option maxRecDepth 100000 in
theorem xc_131 : xokc 131 := ⟨xmem (p := 974) rfl rfl, xmem (p := 55) rfl rfl, rfl, by decide +kernel, by decide +kernel, by decide +kernel⟩
set_option maxRecDepth 100000 in
theorem xd_131 : xokV 131 := ⟨xc_131, xmem (p := 972) rfl rfl, xmem (p := 973) rfl rfl⟩
set_option maxRecDepth 100000 in
theorem xc_132 : xokc 132 := ⟨xmem (p := 990) rfl rfl, xmem (p := 55) rfl rfl, rfl, by decide +kernel, by decide +kernel, by decide +kernel⟩
set_option maxRecDepth 100000 in
theorem xd_132 : xokV 132 := ⟨xc_132, xmem (p := 988) rfl rfl, xmem (p := 989) rfl rfl⟩
set_option maxRecDepth 100000 in
theorem xc_133 : xokc 133 := ⟨xmem (p := 994) rfl rfl, xmem (p := 55) rfl rfl, rfl, by decide +kernel, by decide +kernel, by decide +kernel⟩
set_option maxRecDepth 100000 in
theorem xd_133 : xokV 133 := ⟨xc_133, xmem (p := 992) rfl rfl, xmem (p := 993) rfl rfl⟩
set_option maxRecDepth 100000 in
theorem xc_134 : xokc 134 := ⟨xmem (p := 998) rfl rfl, xmem (p := 55) rfl rfl, rfl, by decide +kernel, by decide +kernel, by decide +kernel⟩
set_option maxRecDepth 100000 in
theorem xd_134 : xokV 134 := ⟨xc_134, xmem (p := 996) rfl rfl, xmem (p := 997) rfl rfl⟩
set_option maxRecDepth 100000 in
theorem xc_135 : xokc 135 := ⟨xmem (p := 1002) rfl rfl, xmem (p := 55) rfl rfl, rfl, by decide +kernel, by decide +kernel, by decide +kernel⟩
set_option maxRecDepth 100000 in
theorem xd_135 : xokV 135 := ⟨xc_135, xmem (p := 1000) rfl rfl, xmem (p := 1001) rfl rfl⟩
set_option maxRecDepth 100000 in
theorem xc_136 : xokc 136 := ⟨xmem (p := 1006) rfl rfl, xmem (p := 55) rfl rfl, rfl, by decide +kernel, by decide +kernel, by decide +kernel⟩
set_option maxRecDepth 100000 in
theorem xd_136 : xokV 136 := ⟨xc_136, xmem (p := 1004) rfl rfl, xmem (p := 1005) rfl rfl⟩
set_option maxRecDepth 100000 in
theorem xc_137 : xokc 137 := ⟨xmem (p := 1010) rfl rfl, xmem (p := 55) rfl rfl, rfl, by decide +kernel, by decide +kernel, by decide +kernel⟩
set_option maxRecDepth 100000 in
theorem xd_137 : xokV 137 := ⟨xc_137, xmem (p := 1008) rfl rfl, xmem (p := 1009) rfl rfl⟩
set_option maxRecDepth 100000 in
theorem xc_138 : xokc 138 := ⟨xmem (p := 1014) rfl rfl, xmem (p := 55) rfl rfl, rfl, by decide +kernel, by decide +kernel, by decide +kernel⟩
set_option maxRecDepth 100000 in
theorem xd_138 : xokV 138 := ⟨xc_138, xmem (p := 1012) rfl rfl, xmem (p := 1013) rfl rfl⟩
set_option maxRecDepth 100000 in
theorem xc_139 : xokc 139 := ⟨xmem (p := 1026) rfl rfl, xmem (p := 55) rfl rfl, rfl, by decide +kernel, by decide +kernel, by decide +kernel⟩
set_option maxRecDepth 100000 in
theorem xd_139 : xokV 139 := ⟨xc_139, xmem (p := 1025) rfl rfl, xmem (p := 33) rfl rfl⟩
set_option maxRecDepth 100000 in
theorem xc_140 : xokc 140 := ⟨xmem (p := 1022) rfl rfl, xmem (p := 55) rfl rfl, rfl, by decide +kernel, by decide +kernel, by decide +kernel⟩
set_option maxRecDepth 100000 in
theorem xd_140 : xokV 140 := ⟨xc_140, xmem (p := 1020) rfl rfl, xmem (p := 1021) rfl rfl⟩
set_option maxRecDepth 100000 in
theorem xc_141 : xokc 141 := ⟨xmem (p := 1030) rfl rfl, xmem (p := 55) rfl rfl, rfl, by decide +kernel, by decide +kernel, by decide +kernel⟩
set_option maxRecDepth 100000 in
theorem xd_141 : xokV 141 := ⟨xc_141, xmem (p := 1028) rfl rfl, xmem (p := 1029) rfl rfl⟩
set_option maxRecDepth 100000 in
theorem xc_142 : xokc 142 := ⟨xmem (p := 1038) rfl rfl, xmem (p := 55) rfl rfl, rfl, by decide +kernel, by decide +kernel, by decide +kernel⟩
set_option maxRecDepth 100000 in
theorem xd_142 : xokV 142 := ⟨xc_142, xmem (p := 1037) rfl rfl, xmem (p := 34) rfl rfl⟩
set_option maxRecDepth 100000 in
theorem xc_143 : xokc 143 := ⟨xmem (p := 1034) rfl rfl, xmem (p := 55) rfl rfl, rfl, by decide +kernel, by decide +kernel, by decide +kernel⟩
set_option maxRecDepth 100000 in
theorem xd_143 : xokV 143 := ⟨xc_143, xmem (p := 1032) rfl rfl, xmem (p := 1033) rfl rfl⟩
set_option maxRecDepth 100000 in
theorem xc_144 : xokc 144 := ⟨xmem (p := 1050) rfl rfl, xmem (p := 55) rfl rfl, rfl, by decide +kernel, by decide +kernel, by decide +kernel⟩
set_option maxRecDepth 100000 in
theorem xd_144 : xokV 144 := ⟨xc_144, xmem (p := 1049) rfl rfl, xmem (p := 36) rfl rfl⟩
set_option maxRecDepth 100000 in
theorem xc_145 : xokc 145 := ⟨xmem (p := 1046) rfl rfl, xmem (p := 55) rfl rfl, rfl, by decide +kernel, by decide +kernel, by decide +kernel⟩
set_option maxRecDepth 100000 in
theorem xd_145 : xokV 145 := ⟨xc_145, xmem (p := 1045) rfl rfl, xmem (p := 35) rfl rfl⟩
set_option maxRecDepth 100000 in
theorem xc_146 : xokc 146 := ⟨xmem (p := 1042) rfl rfl, xmem (p := 55) rfl rfl, rfl, by decide +kernel, by decide +kernel, by decide +kernel⟩
set_option maxRecDepth 100000 in
theorem xd_146 : xokV 146 := ⟨xc_146, xmem (p := 1040) rfl rfl, xmem (p := 1041) rfl rfl⟩
set_option maxRecDepth 100000 in
theorem xc_147 : xokc 147 := ⟨xmem (p := 1066) rfl rfl, xmem (p := 55) rfl rfl, rfl, by decide +kernel, by decide +kernel, by decide +kernel⟩
set_option maxRecDepth 100000 in
theorem xd_147 : xokV 147 := ⟨xc_147, xmem (p := 1065) rfl rfl, xmem (p := 39) rfl rfl⟩
set_option maxRecDepth 100000 in
theorem xc_148 : xokc 148 := ⟨xmem (p := 1062) rfl rfl, xmem (p := 55) rfl rfl, rfl, by decide +kernel, by decide +kernel, by decide +kernel⟩
set_option maxRecDepth 100000 in
theorem xd_148 : xokV 148 := ⟨xc_148, xmem (p := 1060) rfl rfl, xmem (p := 1061) rfl rfl⟩
set_option maxRecDepth 100000 in
theorem xc_149 : xokc 149 := ⟨xmem (p := 1070) rfl rfl, xmem (p := 55) rfl rfl, rfl, by decide +kernel, by decide +kernel, by decide +kernel⟩
set_option maxRecDepth 100000 in
theorem xd_149 : xokV 149 := ⟨xc_149, xmem (p := 1068) rfl rfl, xmem (p := 1069) rfl rfl⟩
set_option maxRecDepth 100000 in
theorem xc_150 : xokc 150 := ⟨xmem (p := 1078) rfl rfl, xmem (p := 55) rfl rfl, rfl, by decide +kernel, by decide +kernel, by decide +kernel⟩
set_option maxRecDepth 100000 in
theorem xd_150 : xokV 150 := ⟨xc_150, xmem (p := 1077) rfl rfl, xmem (p := 40) rfl rfl⟩
set_option maxRecDepth 100000 in
theorem xc_151 : xokc 151 := ⟨xmem (p := 1074) rfl rfl, xmem (p := 55) rfl rfl, rfl, by decide +kernel, by decide +kernel, by decide +kernel⟩
set_option maxRecDepth 100000 in
theorem xd_151 : xokV 151 := ⟨xc_151, xmem (p := 1072) rfl rfl, xmem (p := 1073) rfl rfl⟩
set_option maxRecDepth 100000 in
theorem xc_152 : xokc 152 := ⟨xmem (p := 1094) rfl rfl, xmem (p := 55) rfl rfl, rfl, by decide +kernel, by decide +kernel, by decide +kernel⟩
set_option maxRecDepth 100000 in
theorem xd_152 : xokV 152 := ⟨xc_152, xmem (p := 1093) rfl rfl, xmem (p := 43) rfl rfl⟩
set_option maxRecDepth 100000 in
theorem xc_153 : xokc 153 := ⟨xmem (p := 1090) rfl rfl, xmem (p := 55) rfl rfl, rfl, by decide +kernel, by decide +kernel, by decide +kernel⟩
set_option maxRecDepth 100000 in
theorem xd_153 : xokV 153 := ⟨xc_153, xmem (p := 1088) rfl rfl, xmem (p := 1089) rfl rfl⟩
set_option maxRecDepth 100000 in
theorem xc_154 : xokc 154 := ⟨xmem (p := 1102) rfl rfl, xmem (p := 55) rfl rfl, rfl, by decide +kernel, by decide +kernel, by decide +kernel⟩
set_option maxRecDepth 100000 in
theorem xd_154 : xokV 154 := ⟨xc_154, xmem (p := 1101) rfl rfl, xmem (p := 44) rfl rfl⟩
set_option maxRecDepth 100000 in
theorem xc_155 : xokc 155 := ⟨xmem (p := 1098) rfl rfl, xmem (p := 55) rfl rfl, rfl, by decide +kernel, by decide +kernel, by decide +kernel⟩
set_option maxRecDepth 100000 in
theorem xd_155 : xokV 155 := ⟨xc_155, xmem (p := 1096) rfl rfl, xmem (p := 1097) rfl rfl⟩
set_option maxRecDepth 100000 in
theorem xc_156 : xokc 156 := ⟨xmem (p := 1115) rfl rfl, xmem (p := 55) rfl rfl, rfl, by decide +kernel, by decide +kernel, by decide +kernel⟩
set_option maxRecDepth 100000 in
theorem xd_156 : xokS 156 := ⟨xc_156, xmem (p := 1114) rfl rfl⟩
set_option maxRecDepth 100000 in
theorem xc_157 : xokc 157 := ⟨xmem (p := 1111) rfl rfl, xmem (p := 55) rfl rfl, rfl, by decide +kernel, by decide +kernel, by decide +kernel⟩
set_option maxRecDepth 100000 in
theorem xd_157 : xokV 157 := ⟨xc_157, xmem (p := 1110) rfl rfl, xmem (p := 45) rfl rfl⟩
set_option maxRecDepth 100000 in
theorem xc_158 : xokc 158 := ⟨xmem (p := 1106) rfl rfl, xmem (p := 55) rfl rfl, rfl, by decide +kernel, by decide +kernel, by decide +kernel⟩
set_option maxRecDepth 100000 in
theorem xd_158 : xokV 158 := ⟨xc_158, xmem (p := 1104) rfl rfl, xmem (p := 1105) rfl rfl⟩
set_option maxRecDepth 100000 in
theorem xc_161 : xokc 161 := ⟨xmem (p := 527) rfl rfl, xmem (p := 46) rfl rfl, rfl, by decide +kernel, by decide +kernel, by decide +kernel⟩
set_option maxRecDepth 100000 in
theorem xd_161 : xokS 161 := ⟨xc_161, xmem (p := 526) rfl rfl⟩
set_option maxRecDepth 100000 in
theorem xc_162 : xokc 162 := ⟨xmem (p := 639) rfl rfl, xmem (p := 46) rfl rfl, rfl, by decide +kernel, by decide +kernel, by decide +kernel⟩
set_option maxRecDepth 100000 in
theorem xd_162 : xokS 162 := ⟨xc_162, xmem (p := 638) rfl rfl⟩
set_option maxRecDepth 100000 in
theorem xc_163 : xokc 163 := ⟨xmem (p := 665) rfl rfl, xmem (p := 46) rfl rfl, rfl, by decide +kernel, by decide +kernel, by decide +kernel⟩
set_option maxRecDepth 100000 in
theorem xd_163 : xokS 163 := ⟨xc_163, xmem (p := 664) rfl rfl⟩
set_option maxRecDepth 100000 in
theorem xc_164 : xokc 164 := ⟨xmem (p := 679) rfl rfl, xmem (p := 46) rfl rfl, rfl, by decide +kernel, by decide +kernel, by decide +kernel⟩
set_option maxRecDepth 100000 in
theorem xd_164 : xokS 164 := ⟨xc_164, xmem (p := 678) rfl rfl⟩
set_option maxRecDepth 100000 in
theorem xc_165 : xokc 165 := ⟨xmem (p := 690) rfl rfl, xmem (p := 46) rfl rfl, rfl, by decide +kernel, by decide +kernel, by decide +kernel⟩
set_option maxRecDepth 100000 in
theorem xd_165 : xokS 165 := ⟨xc_165, xmem (p := 689) rfl rfl⟩
set_option maxRecDepth 100000 in
theorem xc_166 : xokc 166 := ⟨xmem (p := 698) rfl rfl, xmem (p := 46) rfl rfl, rfl, by decide +kernel, by decide +kernel, by decide +kernel⟩
set_option maxRecDepth 100000 in
theorem xd_166 : xokS 166 := ⟨xc_166, xmem (p := 697) rfl rfl⟩
set_option maxRecDepth 100000 in
theorem xc_167 : xokc 167 := ⟨xmem (p := 713) rfl rfl, xmem (p := 46) rfl rfl, rfl, by decide +kernel, by decide +kernel, by decide +kernel⟩
set_option maxRecDepth 100000 in
theorem xd_167 : xokS 167 := ⟨xc_167, xmem (p := 712) rfl rfl⟩
set_option maxRecDepth 100000 in
theorem xc_168 : xokc 168 := ⟨xmem (p := 727) rfl rfl, xmem (p := 46) rfl rfl, rfl, by decide +kernel, by decide +kernel, by decide +kernel⟩
set_option maxRecDepth 100000 in
theorem xd_168 : xokS 168 := ⟨xc_168, xmem (p := 726) rfl rfl⟩
set_option maxRecDepth 100000 in
theorem xc_169 : xokc 169 := ⟨xmem (p := 739) rfl rfl, xmem (p := 46) rfl rfl, rfl, by decide +kernel, by decide +kernel, by decide +kernel⟩
set_option maxRecDepth 100000 in
theorem xd_169 : xokS 169 := ⟨xc_169, xmem (p := 738) rfl rfl⟩
set_option maxRecDepth 100000 in
theorem xc_170 : xokc 170 := ⟨xmem (p := 747) rfl rfl, xmem (p := 46) rfl rfl, rfl, by decide +kernel, by decide +kernel, by decide +kernel⟩
set_option maxRecDepth 100000 in
theorem xd_170 : xokS 170 := ⟨xc_170, xmem (p := 746) rfl rfl⟩
set_option maxRecDepth 100000 in
theorem xc_171 : xokc 171 := ⟨xmem (p := 754) rfl rfl, xmem (p := 46) rfl rfl, rfl, by decide +kernel, by decide +kernel, by decide +kernel⟩
set_option maxRecDepth 100000 in
theorem xd_171 : xokS 171 := ⟨xc_171, xmem (p := 753) rfl rfl⟩
set_option maxRecDepth 100000 in
theorem xc_172 : xokc 172 := ⟨xmem (p := 762) rfl rfl, xmem (p := 46) rfl rfl, rfl, by decide +kernel, by decide +kernel, by decide +kernel⟩
set_option maxRecDepth 100000 in
theorem xd_172 : xokS 172 := ⟨xc_172, xmem (p := 761) rfl rfl⟩
set_option maxRecDepth 100000 in
theorem xc_173 : xokc 173 := ⟨xmem (p := 769) rfl rfl, xmem (p := 46) rfl rfl, rfl, by decide +kernel, by decide +kernel, by decide +kernel⟩
set_option maxRecDepth 100000 in
theorem xd_173 : xokS 173 := ⟨xc_173, xmem (p := 768) rfl rfl⟩
set_option maxRecDepth 100000 in
theorem xc_174 : xokc 174 := ⟨xmem (p := 777) rfl rfl, xmem (p := 46) rfl rfl, rfl, by decide +kernel, by decide +kernel, by decide +kernel⟩
set_option maxRecDepth 100000 in
theorem xd_174 : xokS 174 := ⟨xc_174, xmem (p := 776) rfl rfl⟩
set_option maxRecDepth 100000 in
theorem xc_175 : xokc 175 := ⟨xmem (p := 785) rfl rfl, xmem (p := 46) rfl rfl, rfl, by decide +kernel, by decide +kernel, by decide +kernel⟩
set_option maxRecDepth 100000 in
theorem xd_175 : xokS 175 := ⟨xc_175, xmem (p := 784) rfl rfl⟩
set_option maxRecDepth 100000 in
theorem xc_176 : xokc 176 := ⟨xmem (p := 793) rfl rfl, xmem (p := 46) rfl rfl, rfl, by decide +kernel, by decide +kernel, by decide +kernel⟩
set_option maxRecDepth 100000 in
theorem xd_176 : xokS 176 := ⟨xc_176, xmem (p := 792) rfl rfl⟩
set_option maxRecDepth 100000 in
theorem xc_177 : xokc 177 := ⟨xmem (p := 800) rfl rfl, xmem (p := 46) rfl rfl, rfl, by decide +kernel, by decide +kernel, by decide +kernel⟩
set_option maxRecDepth 100000 in
theorem xd_177 : xokS 177 := ⟨xc_177, xmem (p := 799) rfl rfl⟩
set_option maxRecDepth 100000 in
theorem xr_0_0 : xokp 0 (3, 6, 0, 0) := xmem (p := 187) rfl rfl
set_option maxRecDepth 100000 in
theorem xr_0_1 : xokp 0 (9, 7, 1, 0) := ⟨xmem (p := 188) rfl rfl, by decide⟩
set_option maxRecDepth 100000 in
theorem xr_0_2 : xokp 0 (11, 4, 11, 0) := ⟨xmem (p := 189) rfl rfl, xd_11⟩
set_option maxRecDepth 100000 in
theorem xr_0_3 : xokp 0 (14, 0, 0, 0) := ⟨xmem (p := 190) rfl rfl, by decide, by decide⟩
set_option maxRecDepth 100000 in
theorem xr_0_4 : xokp 0 (20, 0, 0, 1) := ⟨xmem (p := 191) rfl rfl, by decide, by decide⟩
set_option maxRecDepth 100000 in
theorem xr_0_5 : xokp 0 (33, 2, 4, 0) := ⟨xmem (p := 398) rfl rfl, xd_4⟩
set_option maxRecDepth 100000 in
theorem xr_0_6 : xokp 0 (32, 2, 1, 0) := ⟨xmem (p := 402) rfl rfl, xd_1⟩
set_option maxRecDepth 100000 in
theorem xr_0_7 : xokp 0 (24, 2, 12, 0) := ⟨xmem (p := 406) rfl rfl, xd_12⟩
set_option maxRecDepth 100000 in
theorem xr_0_8 : xokp 0 (37, 2, 5, 0) := ⟨xmem (p := 407) rfl rfl, xd_5⟩
set_option maxRecDepth 100000 in
theorem xr_0_9 : xokp 0 (40, 2, 6, 0) := ⟨xmem (p := 538) rfl rfl, xd_6⟩
set_option maxRecDepth 100000 in
theorem xr_0_10 : xokp 0 (44, 2, 8, 0) := ⟨xmem (p := 611) rfl rfl, xd_8⟩
set_option maxRecDepth 100000 in
theorem xr_0_11 : xokp 0 (47, 2, 38, 0) := ⟨xmem (p := 636) rfl rfl, xd_38⟩
set_option maxRecDepth 100000 in
theorem xr_0_12 : xokp 0 (28, 2, 13, 0) := ⟨xmem (p := 724) rfl rfl, xd_13⟩
set_option maxRecDepth 100000 in
theorem xq_0 : ∀ q ∈ xpl_0, xokp 0 q := (List.forall_mem_cons.mpr ⟨xr_0_0, (List.forall_mem_cons.mpr ⟨xr_0_1, (List.forall_mem_cons.mpr ⟨xr_0_2, (List.forall_mem_cons.mpr ⟨xr_0_3, (List.forall_mem_cons.mpr ⟨xr_0_4, (List.forall_mem_cons.mpr ⟨xr_0_5, (List.forall_mem_cons.mpr ⟨xr_0_6, (List.forall_mem_cons.mpr ⟨xr_0_7, (List.forall_mem_cons.mpr ⟨xr_0_8, (List.forall_mem_cons.mpr ⟨xr_0_9, (List.forall_mem_cons.mpr ⟨xr_0_10, (List.forall_mem_cons.mpr ⟨xr_0_11, (List.forall_mem_cons.mpr ⟨xr_0_12, (fun _ h => nomatch h)⟩)⟩)⟩)⟩)⟩)⟩)⟩)⟩)⟩)⟩)⟩)⟩)⟩)
set_option maxRecDepth 100000 in
theorem xr_1_0 : xokp 1 (3, 6, 0, 0) := xmem (p := 105) rfl rfl
set_option maxRecDepth 100000 in
theorem xr_1_1 : xokp 1 (9, 0, 1, 0) := ⟨xmem (p := 106) rfl rfl, by decide, by decide⟩
set_option maxRecDepth 100000 in
theorem xq_1 : ∀ q ∈ xpl_1, xokp 1 q := (List.forall_mem_cons.mpr ⟨xr_1_0, (List.forall_mem_cons.mpr ⟨xr_1_1, (fun _ h => nomatch h)⟩)⟩)
set_option maxRecDepth 100000 in
theorem xr_2_0 : xokp 2 (3, 6, 0, 0) := xmem (p := 167) rfl rfl
set_option maxRecDepth 100000 in
theorem xr_2_1 : xokp 2 (9, 7, 6, 0) := ⟨xmem (p := 168) rfl rfl, by decide⟩
set_option maxRecDepth 100000 in
theorem xr_2_2 : xokp 2 (17, 4, 47, 0) := ⟨xmem (p := 170) rfl rfl, xd_47⟩
set_option maxRecDepth 100000 in
theorem xr_2_3 : xokp 2 (11, 0, 2, 0) := ⟨xmem (p := 171) rfl rfl, by decide, by decide⟩
set_option maxRecDepth 100000 in
theorem xr_2_4 : xokp 2 (26, 0, 2, 1) := ⟨xmem (p := 172) rfl rfl, by decide, by decide⟩
set_option maxRecDepth 100000 in
theorem xr_2_5 : xokp 2 (18, 0, 2, 2) := ⟨xmem (p := 174) rfl rfl, by decide, by decide⟩
set_option maxRecDepth 100000 in
theorem xr_2_6 : xokp 2 (22, 2, 48, 0) := ⟨xmem (p := 250) rfl rfl, xd_48⟩
set_option maxRecDepth 100000 in
theorem xr_2_7 : xokp 2 (29, 13, 0, 0) := xmem (p := 275) rfl rfl
set_option maxRecDepth 100000 in
theorem xq_2 : ∀ q ∈ xpl_2, xokp 2 q := (List.forall_mem_cons.mpr ⟨xr_2_0, (List.forall_mem_cons.mpr ⟨xr_2_1, (List.forall_mem_cons.mpr ⟨xr_2_2, (List.forall_mem_cons.mpr ⟨xr_2_3, (List.forall_mem_cons.mpr ⟨xr_2_4, (List.forall_mem_cons.mpr ⟨xr_2_5, (List.forall_mem_cons.mpr ⟨xr_2_6, (List.forall_mem_cons.mpr ⟨xr_2_7, (fun _ h => nomatch h)⟩)⟩)⟩)⟩)⟩)⟩)⟩)⟩)
set_option maxRecDepth 100000 in
theorem xr_3_0 : xokp 3 (3, 6, 0, 0) := xmem (p := 99) rfl rfl
set_option maxRecDepth 100000 in
theorem xr_3_1 : xokp 3 (9, 7, 1, 0) := ⟨xmem (p := 100) rfl rfl, by decide⟩
set_option maxRecDepth 100000 in
theorem xr_3_2 : xokp 3 (11, 4, 11, 0) := ⟨xmem (p := 102) rfl rfl, xd_11⟩
set_option maxRecDepth 100000 in
theorem xr_3_3 : xokp 3 (29, 2, 13, 0) := ⟨xmem (p := 110) rfl rfl, xd_13⟩
set_option maxRecDepth 100000 in
theorem xr_3_4 : xokp 3 (14, 0, 3, 0) := ⟨xmem (p := 114) rfl rfl, by decide, by decide⟩
set_option maxRecDepth 100000 in
theorem xr_3_5 : xokp 3 (20, 0, 3, 1) := ⟨xmem (p := 116) rfl rfl, by decide, by decide⟩
set_option maxRecDepth 100000 in
theorem xr_3_6 : xokp 3 (23, 0, 3, 2) := ⟨xmem (p := 118) rfl rfl, by decide, by decide⟩
set_option maxRecDepth 100000 in
theorem xr_3_7 : xokp 3 (26, 0, 3, 3) := ⟨xmem (p := 120) rfl rfl, by decide, by decide⟩
set_option maxRecDepth 100000 in
theorem xr_3_8 : xokp 3 (33, 2, 15, 0) := ⟨xmem (p := 270) rfl rfl, xd_15⟩
set_option maxRecDepth 100000 in
theorem xr_3_9 : xokp 3 (37, 2, 12, 0) := ⟨xmem (p := 300) rfl rfl, xd_12⟩
set_option maxRecDepth 100000 in
theorem xr_3_10 : xokp 3 (45, 12, 0, 0) := xmem (p := 313) rfl rfl
set_option maxRecDepth 100000 in
theorem xr_3_11 : xokp 3 (41, 2, 21, 0) := ⟨xmem (p := 429) rfl rfl, xd_21⟩
set_option maxRecDepth 100000 in
theorem xq_3 : ∀ q ∈ xpl_3, xokp 3 q := (List.forall_mem_cons.mpr ⟨xr_3_0, (List.forall_mem_cons.mpr ⟨xr_3_1, (List.forall_mem_cons.mpr ⟨xr_3_2, (List.forall_mem_cons.mpr ⟨xr_3_3, (List.forall_mem_cons.mpr ⟨xr_3_4, (List.forall_mem_cons.mpr ⟨xr_3_5, (List.forall_mem_cons.mpr ⟨xr_3_6, (List.forall_mem_cons.mpr ⟨xr_3_7, (List.forall_mem_cons.mpr ⟨xr_3_8, (List.forall_mem_cons.mpr ⟨xr_3_9, (List.forall_mem_cons.mpr ⟨xr_3_10, (List.forall_mem_cons.mpr ⟨xr_3_11, (fun _ h => nomatch h)⟩)⟩)⟩)⟩)⟩)⟩)⟩)⟩)⟩)⟩)⟩)⟩)
set_option maxRecDepth 100000 in
theorem xr_4_0 : xokp 4 (66, 1, 5, 1) := ⟨List.mem_of_getElem? (i := 86) rfl, by decide, by decide⟩
set_option maxRecDepth 100000 in
theorem xr_4_1 : xokp 4 (36, 1, 6, 0) := ⟨List.mem_of_getElem? (i := 135) rfl, by decide, by decide⟩
set_option maxRecDepth 100000 in
theorem xr_4_2 : xokp 4 (56, 1, 6, 1) := ⟨List.mem_of_getElem? (i := 138) rfl, by decide, by decide⟩
set_option maxRecDepth 100000 in
theorem xr_4_3 : xokp 4 (49, 1, 6, 2) := ⟨List.mem_of_getElem? (i := 141) rfl, by decide, by decide⟩
set_option maxRecDepth 100000 in
theorem xr_4_4 : xokp 4 (87, 1, 6, 3) := ⟨List.mem_of_getElem? (i := 144) rfl, by decide, by decide⟩
set_option maxRecDepth 100000 in
theorem xr_4_5 : xokp 4 (3, 6, 0, 0) := xmem (p := 203) rfl rfl
set_option maxRecDepth 100000 in
theorem xr_4_6 : xokp 4 (9, 7, 1, 0) := ⟨xmem (p := 204) rfl rfl, by decide⟩
set_option maxRecDepth 100000 in
theorem xr_4_7 : xokp 4 (11, 4, 11, 0) := ⟨xmem (p := 205) rfl rfl, xd_11⟩
set_option maxRecDepth 100000 in
theorem xr_4_8 : xokp 4 (14, 0, 4, 0) := ⟨xmem (p := 206) rfl rfl, by decide, by decide⟩
set_option maxRecDepth 100000 in
theorem xr_4_9 : xokp 4 (20, 0, 4, 1) := ⟨xmem (p := 207) rfl rfl, by decide, by decide⟩
set_option maxRecDepth 100000 in
theorem xr_4_10 : xokp 4 (23, 0, 4, 2) := ⟨xmem (p := 208) rfl rfl, by decide, by decide⟩
set_option maxRecDepth 100000 in
theorem xr_4_11 : xokp 4 (27, 0, 4, 3) := ⟨xmem (p := 209) rfl rfl, by decide, by decide⟩
set_option maxRecDepth 100000 in
theorem xr_4_12 : xokp 4 (30, 0, 4, 4) := ⟨xmem (p := 210) rfl rfl, by decide, by decide⟩
set_option maxRecDepth 100000 in
theorem xr_4_13 : xokp 4 (33, 0, 4, 5) := ⟨xmem (p := 211) rfl rfl, by decide, by decide⟩
set_option maxRecDepth 100000 in
theorem xr_4_14 : xokp 4 (42, 2, 30, 0) := ⟨xmem (p := 282) rfl rfl, xd_30⟩
set_option maxRecDepth 100000 in
theorem xr_4_15 : xokp 4 (71, 2, 36, 0) := ⟨xmem (p := 286) rfl rfl, xd_36⟩
set_option maxRecDepth 100000 in
theorem xr_4_16 : xokp 4 (72, 2, 13, 0) := ⟨xmem (p := 287) rfl rfl, xd_13⟩
set_option maxRecDepth 100000 in
theorem xr_4_17 : xokp 4 (52, 2, 12, 0) := ⟨xmem (p := 288) rfl rfl, xd_12⟩
set_option maxRecDepth 100000 in
theorem xr_4_18 : xokp 4 (46, 2, 31, 0) := ⟨xmem (p := 292) rfl rfl, xd_31⟩
set_option maxRecDepth 100000 in
theorem xr_4_19 : xokp 4 (60, 2, 25, 0) := ⟨xmem (p := 296) rfl rfl, xd_25⟩
set_option maxRecDepth 100000 in
theorem xr_4_20 : xokp 4 (76, 2, 21, 0) := ⟨xmem (p := 305) rfl rfl, xd_21⟩
set_option maxRecDepth 100000 in
theorem xr_4_21 : xokp 4 (80, 2, 23, 0) := ⟨xmem (p := 309) rfl rfl, xd_23⟩
set_option maxRecDepth 100000 in
theorem xr_4_22 : xokp 4 (84, 2, 43, 0) := ⟨xmem (p := 316) rfl rfl, xd_43⟩
set_option maxRecDepth 100000 in
theorem xr_4_23 : xokp 4 (90, 2, 29, 0) := ⟨xmem (p := 336) rfl rfl, xd_29⟩
set_option maxRecDepth 100000 in
theorem xr_4_24 : xokp 4 (94, 2, 33, 0) := ⟨xmem (p := 337) rfl rfl, xd_33⟩
set_option maxRecDepth 100000 in
theorem xq_4 : ∀ q ∈ xpl_4, xokp 4 q := (List.forall_mem_cons.mpr ⟨xr_4_0, (List.forall_mem_cons.mpr ⟨xr_4_1, (List.forall_mem_cons.mpr ⟨xr_4_2, (List.forall_mem_cons.mpr ⟨xr_4_3, (List.forall_mem_cons.mpr ⟨xr_4_4, (List.forall_mem_cons.mpr ⟨xr_4_5, (List.forall_mem_cons.mpr ⟨xr_4_6, (List.forall_mem_cons.mpr ⟨xr_4_7, (List.forall_mem_cons.mpr ⟨xr_4_8, (List.forall_mem_cons.mpr ⟨xr_4_9, (List.forall_mem_cons.mpr ⟨xr_4_10, (List.forall_mem_cons.mpr ⟨xr_4_11, (List.forall_mem_cons.mpr ⟨xr_4_12, (List.forall_mem_cons.mpr ⟨xr_4_13, (List.forall_mem_cons.mpr ⟨xr_4_14, (List.forall_mem_cons.mpr ⟨xr_4_15, (List.forall_mem_cons.mpr ⟨xr_4_16, (List.forall_mem_cons.mpr ⟨xr_4_17, (List.forall_mem_cons.mpr ⟨xr_4_18, (List.forall_mem_cons.mpr ⟨xr_4_19, (List.forall_mem_cons.mpr ⟨xr_4_20, (List.forall_mem_cons.mpr ⟨xr_4_21, (List.forall_mem_cons.mpr ⟨xr_4_22, (List.forall_mem_cons.mpr ⟨xr_4_23, (List.forall_mem_cons.mpr ⟨xr_4_24, (fun _ h => nomatch h)⟩)⟩)⟩)⟩)⟩)⟩)⟩)⟩)⟩)⟩)⟩)⟩)⟩)⟩)⟩)⟩)⟩)⟩)⟩)⟩)⟩)⟩)⟩)⟩)⟩)
set_option maxRecDepth 100000 in
theorem xr_5_0 : xokp 5 (3, 6, 0, 0) := xmem (p := 82) rfl rfl
set_option maxRecDepth 100000 in
theorem xr_5_1 : xokp 5 (9, 0, 5, 0) := ⟨xmem (p := 83) rfl rfl, by decide, by decide⟩
set_option maxRecDepth 100000 in
theorem xr_5_2 : xokp 5 (15, 0, 5, 1) := ⟨xmem (p := 84) rfl rfl, by decide, by decide⟩
set_option maxRecDepth 100000 in
theorem xr_5_3 : xokp 5 (19, 2, 36, 0) := ⟨xmem (p := 258) rfl rfl, xd_36⟩
set_option maxRecDepth 100000 in
theorem xr_5_4 : xokp 5 (23, 2, 38, 0) := ⟨xmem (p := 262) rfl rfl, xd_38⟩
set_option maxRecDepth 100000 in
theorem xr_5_5 : xokp 5 (31, 2, 41, 0) := ⟨xmem (p := 320) rfl rfl, xd_41⟩
set_option maxRecDepth 100000 in
theorem xr_5_6 : xokp 5 (35, 2, 39, 0) := ⟨xmem (p := 324) rfl rfl, xd_39⟩
set_option maxRecDepth 100000 in
theorem xr_5_7 : xokp 5 (27, 2, 37, 0) := ⟨xmem (p := 377) rfl rfl, xd_37⟩
set_option maxRecDepth 100000 in
theorem xr_5_8 : xokp 5 (38, 2, 45, 0) := ⟨xmem (p := 456) rfl rfl, xd_45⟩
set_option maxRecDepth 100000 in
theorem xq_5 : ∀ q ∈ xpl_5, xokp 5 q := (List.forall_mem_cons.mpr ⟨xr_5_0, (List.forall_mem_cons.mpr ⟨xr_5_1, (List.forall_mem_cons.mpr ⟨xr_5_2, (List.forall_mem_cons.mpr ⟨xr_5_3, (List.forall_mem_cons.mpr ⟨xr_5_4, (List.forall_mem_cons.mpr ⟨xr_5_5, (List.forall_mem_cons.mpr ⟨xr_5_6, (List.forall_mem_cons.mpr ⟨xr_5_7, (List.forall_mem_cons.mpr ⟨xr_5_8, (fun _ h => nomatch h)⟩)⟩)⟩)⟩)⟩)⟩)⟩)⟩)⟩)
set_option maxRecDepth 100000 in
theorem xr_6_0 : xokp 6 (3, 6, 0, 0) := xmem (p := 76) rfl rfl
set_option maxRecDepth 100000 in
theorem xr_6_1 : xokp 6 (9, 7, 5, 0) := ⟨xmem (p := 77) rfl rfl, by decide⟩
set_option maxRecDepth 100000 in
theorem xr_6_2 : xokp 6 (11, 5, 35, 0) := ⟨List.mem_of_getElem? (i := 79) rfl, xd_35⟩
set_option maxRecDepth 100000 in
theorem xr_6_3 : xokp 6 (63, 1, 5, 1) := ⟨List.mem_of_getElem? (i := 87) rfl, by decide, by decide⟩
set_option maxRecDepth 100000 in
theorem xr_6_4 : xokp 6 (18, 7, 3, 0) := ⟨xmem (p := 94) rfl rfl, by decide⟩
set_option maxRecDepth 100000 in
theorem xr_6_5 : xokp 6 (20, 4, 19, 0) := ⟨xmem (p := 96) rfl rfl, xd_19⟩
set_option maxRecDepth 100000 in
theorem xr_6_6 : xokp 6 (92, 1, 3, 0) := ⟨List.mem_of_getElem? (i := 115) rfl, by decide, by decide⟩
set_option maxRecDepth 100000 in
theorem xr_6_7 : xokp 6 (95, 1, 3, 1) := ⟨List.mem_of_getElem? (i := 117) rfl, by decide, by decide⟩
set_option maxRecDepth 100000 in
theorem xr_6_8 : xokp 6 (77, 1, 3, 2) := ⟨List.mem_of_getElem? (i := 119) rfl, by decide, by decide⟩
set_option maxRecDepth 100000 in
theorem xr_6_9 : xokp 6 (70, 1, 3, 3) := ⟨List.mem_of_getElem? (i := 121) rfl, by decide, by decide⟩
set_option maxRecDepth 100000 in
theorem xr_6_10 : xokp 6 (25, 7, 1, 0) := ⟨xmem (p := 131) rfl rfl, by decide⟩
set_option maxRecDepth 100000 in
theorem xr_6_11 : xokp 6 (27, 4, 11, 0) := ⟨xmem (p := 132) rfl rfl, xd_11⟩
set_option maxRecDepth 100000 in
theorem xr_6_12 : xokp 6 (37, 2, 13, 0) := ⟨xmem (p := 133) rfl rfl, xd_13⟩
set_option maxRecDepth 100000 in
theorem xr_6_13 : xokp 6 (12, 0, 6, 0) := ⟨xmem (p := 134) rfl rfl, by decide, by decide⟩
set_option maxRecDepth 100000 in
theorem xr_6_14 : xokp 6 (21, 0, 6, 1) := ⟨xmem (p := 137) rfl rfl, by decide, by decide⟩
set_option maxRecDepth 100000 in
theorem xr_6_15 : xokp 6 (30, 0, 6, 2) := ⟨xmem (p := 140) rfl rfl, by decide, by decide⟩
set_option maxRecDepth 100000 in
theorem xr_6_16 : xokp 6 (51, 0, 6, 3) := ⟨xmem (p := 143) rfl rfl, by decide, by decide⟩
set_option maxRecDepth 100000 in
theorem xr_6_17 : xokp 6 (55, 0, 6, 4) := ⟨xmem (p := 146) rfl rfl, by decide, by decide⟩
set_option maxRecDepth 100000 in
theorem xr_6_18 : xokp 6 (34, 0, 6, 5) := ⟨xmem (p := 148) rfl rfl, by decide, by decide⟩
set_option maxRecDepth 100000 in
theorem xr_6_19 : xokp 6 (41, 2, 40, 0) := ⟨xmem (p := 254) rfl rfl, xd_40⟩
set_option maxRecDepth 100000 in
theorem xr_6_20 : xokp 6 (45, 2, 20, 0) := ⟨xmem (p := 266) rfl rfl, xd_20⟩
set_option maxRecDepth 100000 in
theorem xr_6_21 : xokp 6 (48, 2, 15, 0) := ⟨xmem (p := 274) rfl rfl, xd_15⟩
set_option maxRecDepth 100000 in
theorem xr_6_22 : xokp 6 (118, 2, 21, 0) := ⟨xmem (p := 346) rfl rfl, xd_21⟩
set_option maxRecDepth 100000 in
theorem xr_6_23 : xokp 6 (122, 2, 60, 0) := ⟨xmem (p := 347) rfl rfl, xd_60⟩
set_option maxRecDepth 100000 in
theorem xr_6_24 : xokp 6 (58, 2, 45, 0) := ⟨xmem (p := 351) rfl rfl, xd_45⟩
set_option maxRecDepth 100000 in
theorem xr_6_25 : xokp 6 (76, 2, 12, 0) := ⟨xmem (p := 355) rfl rfl, xd_12⟩
set_option maxRecDepth 100000 in
theorem xr_6_26 : xokp 6 (62, 2, 26, 0) := ⟨xmem (p := 356) rfl rfl, xd_26⟩
set_option maxRecDepth 100000 in
theorem xr_6_27 : xokp 6 (125, 2, 37, 0) := ⟨xmem (p := 360) rfl rfl, xd_37⟩
set_option maxRecDepth 100000 in
theorem xr_6_28 : xokp 6 (73, 2, 36, 0) := ⟨xmem (p := 368) rfl rfl, xd_36⟩
set_option maxRecDepth 100000 in
theorem xr_6_29 : xokp 6 (128, 2, 57, 0) := ⟨xmem (p := 369) rfl rfl, xd_57⟩
set_option maxRecDepth 100000 in
theorem xr_6_30 : xokp 6 (111, 2, 42, 0) := ⟨xmem (p := 373) rfl rfl, xd_42⟩
set_option maxRecDepth 100000 in
theorem xr_6_31 : xokp 6 (115, 2, 24, 0) := ⟨xmem (p := 378) rfl rfl, xd_24⟩
set_option maxRecDepth 100000 in
theorem xr_6_32 : xokp 6 (66, 2, 22, 0) := ⟨xmem (p := 425) rfl rfl, xd_22⟩
set_option maxRecDepth 100000 in
theorem xr_6_33 : xokp 6 (99, 2, 51, 0) := ⟨xmem (p := 451) rfl rfl, xd_51⟩
set_option maxRecDepth 100000 in
theorem xr_6_34 : xokp 6 (102, 2, 46, 0) := ⟨xmem (p := 452) rfl rfl, xd_46⟩
set_option maxRecDepth 100000 in
theorem xr_6_35 : xokp 6 (105, 2, 52, 0) := ⟨xmem (p := 457) rfl rfl, xd_52⟩
set_option maxRecDepth 100000 in
theorem xr_6_36 : xokp 6 (80, 12, 0, 0) := xmem (p := 461) rfl rfl
set_option maxRecDepth 100000 in
theorem xr_6_37 : xokp 6 (108, 2, 50, 0) := ⟨xmem (p := 462) rfl rfl, xd_50⟩
set_option maxRecDepth 100000 in
theorem xr_6_38 : xokp 6 (89, 2, 14, 0) := ⟨xmem (p := 477) rfl rfl, xd_14⟩
set_option maxRecDepth 100000 in
theorem xr_6_39 : xokp 6 (98, 2, 49, 0) := ⟨xmem (p := 485) rfl rfl, xd_49⟩
set_option maxRecDepth 100000 in
theorem xr_6_40 : xokp 6 (86, 2, 27, 0) := ⟨xmem (p := 489) rfl rfl, xd_27⟩
set_option maxRecDepth 100000 in
theorem xq_6 : ∀ q ∈ xpl_6, xokp 6 q := (List.forall_mem_cons.mpr ⟨xr_6_0, (List.forall_mem_cons.mpr ⟨xr_6_1, (List.forall_mem_cons.mpr ⟨xr_6_2, (List.forall_mem_cons.mpr ⟨xr_6_3, (List.forall_mem_cons.mpr ⟨xr_6_4, (List.forall_mem_cons.mpr ⟨xr_6_5, (List.forall_mem_cons.mpr ⟨xr_6_6, (List.forall_mem_cons.mpr ⟨xr_6_7, (List.forall_mem_cons.mpr ⟨xr_6_8, (List.forall_mem_cons.mpr ⟨xr_6_9, (List.forall_mem_cons.mpr ⟨xr_6_10, (List.forall_mem_cons.mpr ⟨xr_6_11, (List.forall_mem_cons.mpr ⟨xr_6_12, (List.forall_mem_cons.mpr ⟨xr_6_13, (List.forall_mem_cons.mpr ⟨xr_6_14, (List.forall_mem_cons.mpr ⟨xr_6_15, (List.forall_mem_cons.mpr ⟨xr_6_16, (List.forall_mem_cons.mpr ⟨xr_6_17, (List.forall_mem_cons.mpr ⟨xr_6_18, (List.forall_mem_cons.mpr ⟨xr_6_19, (List.forall_mem_cons.mpr ⟨xr_6_20, (List.forall_mem_cons.mpr ⟨xr_6_21, (List.forall_mem_cons.mpr ⟨xr_6_22, (List.forall_mem_cons.mpr ⟨xr_6_23, (List.forall_mem_cons.mpr ⟨xr_6_24, (List.forall_mem_cons.mpr ⟨xr_6_25, (List.forall_mem_cons.mpr ⟨xr_6_26, (List.forall_mem_cons.mpr ⟨xr_6_27, (List.forall_mem_cons.mpr ⟨xr_6_28, (List.forall_mem_cons.mpr ⟨xr_6_29, (List.forall_mem_cons.mpr ⟨xr_6_30, (List.forall_mem_cons.mpr ⟨xr_6_31, (List.forall_mem_cons.mpr ⟨xr_6_32, (List.forall_mem_cons.mpr ⟨xr_6_33, (List.forall_mem_cons.mpr ⟨xr_6_34, (List.forall_mem_cons.mpr ⟨xr_6_35, (List.forall_mem_cons.mpr ⟨xr_6_36, (List.forall_mem_cons.mpr ⟨xr_6_37, (List.forall_mem_cons.mpr ⟨xr_6_38, (List.forall_mem_cons.mpr ⟨xr_6_39, (List.forall_mem_cons.mpr ⟨xr_6_40, (fun _ h => nomatch h)⟩)⟩)⟩)⟩)⟩)⟩)⟩)⟩)⟩)⟩)⟩)⟩)⟩)⟩)⟩)⟩)⟩)⟩)⟩)⟩)⟩)⟩)⟩)⟩)⟩)⟩)⟩)⟩)⟩)⟩)⟩)⟩)⟩)⟩)⟩)⟩)⟩)⟩)⟩)⟩)⟩)
set_option maxRecDepth 100000 in
theorem xr_7_0 : xokp 7 (3, 6, 0, 0) := xmem (p := 68) rfl rfl
set_option maxRecDepth 100000 in
theorem xr_7_1 : xokp 7 (9, 7, 6, 0) := ⟨xmem (p := 71) rfl rfl, by decide⟩
set_option maxRecDepth 100000 in
theorem xr_7_2 : xokp 7 (11, 4, 47, 0) := ⟨xmem (p := 73) rfl rfl, xd_47⟩
set_option maxRecDepth 100000 in
theorem xr_7_3 : xokp 7 (81, 1, 5, 1) := ⟨List.mem_of_getElem? (i := 85) rfl, by decide, by decide⟩
set_option maxRecDepth 100000 in
theorem xr_7_4 : xokp 7 (51, 1, 6, 0) := ⟨List.mem_of_getElem? (i := 136) rfl, by decide, by decide⟩
set_option maxRecDepth 100000 in
theorem xr_7_5 : xokp 7 (85, 1, 6, 1) := ⟨List.mem_of_getElem? (i := 139) rfl, by decide, by decide⟩
set_option maxRecDepth 100000 in
theorem xr_7_6 : xokp 7 (174, 1, 6, 2) := ⟨List.mem_of_getElem? (i := 142) rfl, by decide, by decide⟩
set_option maxRecDepth 100000 in
theorem xr_7_7 : xokp 7 (263, 1, 6, 3) := ⟨List.mem_of_getElem? (i := 145) rfl, by decide, by decide⟩
set_option maxRecDepth 100000 in
theorem xr_7_8 : xokp 7 (144, 1, 6, 4) := ⟨List.mem_of_getElem? (i := 147) rfl, by decide, by decide⟩
set_option maxRecDepth 100000 in
theorem xr_7_9 : xokp 7 (16, 7, 2, 0) := ⟨xmem (p := 162) rfl rfl, by decide⟩
set_option maxRecDepth 100000 in
theorem xr_7_10 : xokp 7 (18, 4, 16, 0) := ⟨xmem (p := 164) rfl rfl, xd_16⟩
set_option maxRecDepth 100000 in
theorem xr_7_11 : xokp 7 (194, 1, 2, 1) := ⟨List.mem_of_getElem? (i := 173) rfl, by decide, by decide⟩
set_option maxRecDepth 100000 in
theorem xr_7_12 : xokp 7 (23, 7, 0, 0) := ⟨xmem (p := 182) rfl rfl, by decide⟩
set_option maxRecDepth 100000 in
theorem xr_7_13 : xokp 7 (25, 5, 0, 0) := ⟨List.mem_of_getElem? (i := 184) rfl, xd_0⟩
set_option maxRecDepth 100000 in
theorem xr_7_14 : xokp 7 (187, 1, 0, 1) := ⟨List.mem_of_getElem? (i := 192) rfl, by decide, by decide⟩
set_option maxRecDepth 100000 in
theorem xr_7_15 : xokp 7 (30, 7, 4, 0) := ⟨xmem (p := 198) rfl rfl, by decide⟩
set_option maxRecDepth 100000 in
theorem xr_7_16 : xokp 7 (32, 5, 28, 0) := ⟨List.mem_of_getElem? (i := 200) rfl, xd_28⟩
set_option maxRecDepth 100000 in
theorem xr_7_17 : xokp 7 (137, 1, 4, 5) := ⟨List.mem_of_getElem? (i := 212) rfl, by decide, by decide⟩
set_option maxRecDepth 100000 in
theorem xr_7_18 : xokp 7 (12, 0, 7, 0) := ⟨xmem (p := 226) rfl rfl, by decide, by decide⟩
set_option maxRecDepth 100000 in
theorem xr_7_19 : xokp 7 (19, 0, 7, 1) := ⟨xmem (p := 227) rfl rfl, by decide, by decide⟩
set_option maxRecDepth 100000 in
theorem xr_7_20 : xokp 7 (26, 0, 7, 2) := ⟨xmem (p := 228) rfl rfl, by decide, by decide⟩
set_option maxRecDepth 100000 in
theorem xr_7_21 : xokp 7 (33, 0, 7, 3) := ⟨xmem (p := 229) rfl rfl, by decide, by decide⟩
set_option maxRecDepth 100000 in
theorem xr_7_22 : xokp 7 (37, 0, 7, 4) := ⟨xmem (p := 230) rfl rfl, by decide, by decide⟩
set_option maxRecDepth 100000 in
theorem xr_7_23 : xokp 7 (70, 2, 17, 0) := ⟨xmem (p := 246) rfl rfl, xd_17⟩
set_option maxRecDepth 100000 in
theorem xr_7_24 : xokp 7 (131, 2, 29, 0) := ⟨xmem (p := 278) rfl rfl, xd_29⟩
set_option maxRecDepth 100000 in
theorem xr_7_25 : xokp 7 (134, 2, 33, 0) := ⟨xmem (p := 301) rfl rfl, xd_33⟩
set_option maxRecDepth 100000 in
theorem xr_7_26 : xokp 7 (140, 2, 34, 0) := ⟨xmem (p := 332) rfl rfl, xd_34⟩
set_option maxRecDepth 100000 in
theorem xr_7_27 : xokp 7 (147, 2, 59, 0) := ⟨xmem (p := 342) rfl rfl, xd_59⟩
set_option maxRecDepth 100000 in
theorem xr_7_28 : xokp 7 (150, 2, 61, 0) := ⟨xmem (p := 364) rfl rfl, xd_61⟩
set_option maxRecDepth 100000 in
theorem xr_7_29 : xokp 7 (78, 2, 3, 0) := ⟨xmem (p := 386) rfl rfl, xd_3⟩
set_option maxRecDepth 100000 in
theorem xr_7_30 : xokp 7 (191, 2, 6, 0) := ⟨xmem (p := 394) rfl rfl, xd_6⟩
set_option maxRecDepth 100000 in
theorem xr_7_31 : xokp 7 (227, 2, 90, 0) := ⟨xmem (p := 415) rfl rfl, xd_90⟩
set_option maxRecDepth 100000 in
theorem xr_7_32 : xokp 7 (158, 2, 48, 0) := ⟨xmem (p := 419) rfl rfl, xd_48⟩
set_option maxRecDepth 100000 in
theorem xr_7_33 : xokp 7 (181, 2, 13, 0) := ⟨xmem (p := 420) rfl rfl, xd_13⟩
set_option maxRecDepth 100000 in
theorem xr_7_34 : xokp 7 (233, 2, 50, 0) := ⟨xmem (p := 421) rfl rfl, xd_50⟩
set_option maxRecDepth 100000 in
theorem xr_7_35 : xokp 7 (153, 2, 51, 0) := ⟨xmem (p := 434) rfl rfl, xd_51⟩
set_option maxRecDepth 100000 in
theorem xr_7_36 : xokp 7 (236, 9, 0, 0) := xmem (p := 442) rfl rfl
set_option maxRecDepth 100000 in
theorem xr_7_37 : xokp 7 (238, 2, 93, 0) := ⟨xmem (p := 443) rfl rfl, xd_93⟩
set_option maxRecDepth 100000 in
theorem xr_7_38 : xokp 7 (219, 2, 56, 0) := ⟨xmem (p := 447) rfl rfl, xd_56⟩
set_option maxRecDepth 100000 in
theorem xr_7_39 : xokp 7 (245, 3, 92, 0) := ⟨xmem (p := 463) rfl rfl, xd_92⟩
set_option maxRecDepth 100000 in
theorem xr_7_40 : xokp 7 (269, 9, 1, 0) := xmem (p := 466) rfl rfl
set_option maxRecDepth 100000 in
theorem xr_7_41 : xokp 7 (178, 2, 12, 0) := ⟨xmem (p := 467) rfl rfl, xd_12⟩
set_option maxRecDepth 100000 in
theorem xr_7_42 : xokp 7 (242, 2, 94, 0) := ⟨xmem (p := 468) rfl rfl, xd_94⟩
set_option maxRecDepth 100000 in
theorem xr_7_43 : xokp 7 (116, 2, 36, 0) := ⟨xmem (p := 472) rfl rfl, xd_36⟩
set_option maxRecDepth 100000 in
theorem xr_7_44 : xokp 7 (224, 2, 54, 0) := ⟨xmem (p := 473) rfl rfl, xd_54⟩
set_option maxRecDepth 100000 in
theorem xr_7_45 : xokp 7 (205, 2, 55, 0) := ⟨xmem (p := 481) rfl rfl, xd_55⟩
set_option maxRecDepth 100000 in
theorem xr_7_46 : xokp 7 (89, 2, 21, 0) := ⟨xmem (p := 493) rfl rfl, xd_21⟩
set_option maxRecDepth 100000 in
theorem xr_7_47 : xokp 7 (161, 2, 53, 0) := ⟨xmem (p := 494) rfl rfl, xd_53⟩
set_option maxRecDepth 100000 in
theorem xr_7_48 : xokp 7 (214, 2, 32, 0) := ⟨xmem (p := 498) rfl rfl, xd_32⟩
set_option maxRecDepth 100000 in
theorem xr_7_49 : xokp 7 (209, 2, 44, 0) := ⟨xmem (p := 502) rfl rfl, xd_44⟩
set_option maxRecDepth 100000 in
theorem xr_7_50 : xokp 7 (230, 2, 91, 0) := ⟨xmem (p := 506) rfl rfl, xd_91⟩
set_option maxRecDepth 100000 in
theorem xr_7_51 : xokp 7 (266, 2, 52, 0) := ⟨xmem (p := 510) rfl rfl, xd_52⟩
set_option maxRecDepth 100000 in
theorem xr_7_52 : xokp 7 (249, 2, 85, 0) := ⟨xmem (p := 511) rfl rfl, xd_85⟩
set_option maxRecDepth 100000 in
theorem xr_7_53 : xokp 7 (252, 2, 86, 0) := ⟨xmem (p := 512) rfl rfl, xd_86⟩
set_option maxRecDepth 100000 in
theorem xr_7_54 : xokp 7 (256, 3, 96, 0) := ⟨xmem (p := 513) rfl rfl, xd_96⟩
set_option maxRecDepth 100000 in
theorem xr_7_55 : xokp 7 (272, 9, 2, 0) := xmem (p := 516) rfl rfl
set_option maxRecDepth 100000 in
theorem xr_7_56 : xokp 7 (274, 10, 0, 0) := xmem (p := 517) rfl rfl
set_option maxRecDepth 100000 in
theorem xr_7_57 : xokp 7 (276, 9, 3, 0) := xmem (p := 518) rfl rfl
set_option maxRecDepth 100000 in
theorem xr_7_58 : xokp 7 (278, 9, 4, 0) := xmem (p := 519) rfl rfl
set_option maxRecDepth 100000 in
theorem xr_7_59 : xokp 7 (260, 2, 95, 0) := ⟨xmem (p := 520) rfl rfl, xd_95⟩
set_option maxRecDepth 100000 in
theorem xr_7_60 : xokp 7 (271, 2, 1, 0) := ⟨xmem (p := 524) rfl rfl, xd_1⟩
set_option maxRecDepth 100000 in
theorem xr_7_61 : xokp 7 (40, 2, 7, 0) := ⟨xmem (p := 534) rfl rfl, xd_7⟩
set_option maxRecDepth 100000 in
theorem xr_7_62 : xokp 7 (44, 8, 0, 0) := ⟨xmem (p := 539) rfl rfl, by decide⟩
set_option maxRecDepth 100000 in
theorem xr_7_63 : xokp 7 (46, 11, 0, 0) := List.mem_of_getElem? (i := 580) rfl
set_option maxRecDepth 100000 in
theorem xr_7_64 : xokp 7 (55, 2, 9, 0) := ⟨xmem (p := 607) rfl rfl, xd_9⟩
set_option maxRecDepth 100000 in
theorem xr_7_65 : xokp 7 (59, 2, 37, 0) := ⟨xmem (p := 615) rfl rfl, xd_37⟩
set_option maxRecDepth 100000 in
theorem xr_7_66 : xokp 7 (65, 8, 1, 0) := ⟨xmem (p := 616) rfl rfl, by decide⟩
set_option maxRecDepth 100000 in
theorem xr_7_67 : xokp 7 (67, 11, 1, 0) := List.mem_of_getElem? (i := 625) rfl
set_option maxRecDepth 100000 in
theorem xr_7_68 : xokp 7 (74, 2, 10, 0) := ⟨xmem (p := 632) rfl rfl, xd_10⟩
set_option maxRecDepth 100000 in
theorem xr_7_69 : xokp 7 (94, 8, 2, 0) := ⟨xmem (p := 645) rfl rfl, by decide⟩
set_option maxRecDepth 100000 in
theorem xr_7_70 : xokp 7 (96, 11, 2, 0) := List.mem_of_getElem? (i := 654) rfl
set_option maxRecDepth 100000 in
theorem xr_7_71 : xokp 7 (99, 11, 3, 0) := List.mem_of_getElem? (i := 661) rfl
set_option maxRecDepth 100000 in
theorem xr_7_72 : xokp 7 (101, 2, 38, 0) := ⟨xmem (p := 662) rfl rfl, xd_38⟩
set_option maxRecDepth 100000 in
theorem xr_7_73 : xokp 7 (105, 11, 4, 0) := List.mem_of_getElem? (i := 670) rfl
set_option maxRecDepth 100000 in
theorem xr_7_74 : xokp 7 (107, 2, 39, 0) := ⟨xmem (p := 671) rfl rfl, xd_39⟩
set_option maxRecDepth 100000 in
theorem xr_7_75 : xokp 7 (110, 2, 58, 0) := ⟨xmem (p := 672) rfl rfl, xd_58⟩
set_option maxRecDepth 100000 in
theorem xr_7_76 : xokp 7 (113, 2, 22, 0) := ⟨xmem (p := 676) rfl rfl, xd_22⟩
set_option maxRecDepth 100000 in
theorem xr_7_77 : xokp 7 (120, 11, 5, 0) := List.mem_of_getElem? (i := 684) rfl
set_option maxRecDepth 100000 in
theorem xr_7_78 : xokp 7 (122, 2, 57, 0) := ⟨xmem (p := 685) rfl rfl, xd_57⟩
set_option maxRecDepth 100000 in
theorem xr_7_79 : xokp 7 (125, 2, 49, 0) := ⟨xmem (p := 686) rfl rfl, xd_49⟩
set_option maxRecDepth 100000 in
theorem xr_7_80 : xokp 7 (128, 2, 24, 0) := ⟨xmem (p := 687) rfl rfl, xd_24⟩
set_option maxRecDepth 100000 in
theorem xr_7_81 : xokp 7 (156, 11, 6, 0) := List.mem_of_getElem? (i := 695) rfl
set_option maxRecDepth 100000 in
theorem xr_7_82 : xokp 7 (164, 3, 88, 0) := ⟨xmem (p := 703) rfl rfl, xd_88⟩
set_option maxRecDepth 100000 in
theorem xr_7_83 : xokp 7 (167, 11, 7, 0) := List.mem_of_getElem? (i := 706) rfl
set_option maxRecDepth 100000 in
theorem xr_7_84 : xokp 7 (169, 3, 89, 0) := ⟨xmem (p := 707) rfl rfl, xd_89⟩
set_option maxRecDepth 100000 in
theorem xr_7_85 : xokp 7 (172, 11, 8, 0) := List.mem_of_getElem? (i := 710) rfl
set_option maxRecDepth 100000 in
theorem xr_7_86 : xokp 7 (185, 11, 9, 0) := List.mem_of_getElem? (i := 718) rfl
set_option maxRecDepth 100000 in
theorem xr_7_87 : xokp 7 (188, 11, 10, 0) := List.mem_of_getElem? (i := 719) rfl
set_option maxRecDepth 100000 in
theorem xr_7_88 : xokp 7 (190, 2, 2, 0) := ⟨xmem (p := 720) rfl rfl, xd_2⟩
set_option maxRecDepth 100000 in
theorem xr_7_89 : xokp 7 (196, 11, 11, 0) := List.mem_of_getElem? (i := 732) rfl
set_option maxRecDepth 100000 in
theorem xr_7_90 : xokp 7 (198, 2, 18, 0) := ⟨xmem (p := 733) rfl rfl, xd_18⟩
set_option maxRecDepth 100000 in
theorem xr_7_91 : xokp 7 (201, 11, 12, 0) := List.mem_of_getElem? (i := 744) rfl
set_option maxRecDepth 100000 in
theorem xr_7_92 : xokp 7 (203, 11, 13, 0) := List.mem_of_getElem? (i := 759) rfl
set_option maxRecDepth 100000 in
theorem xr_7_93 : xokp 7 (212, 11, 14, 0) := List.mem_of_getElem? (i := 774) rfl
set_option maxRecDepth 100000 in
theorem xr_7_94 : xokp 7 (217, 11, 15, 0) := List.mem_of_getElem? (i := 782) rfl
set_option maxRecDepth 100000 in
theorem xr_7_95 : xokp 7 (222, 11, 16, 0) := List.mem_of_getElem? (i := 790) rfl
set_option maxRecDepth 100000 in
theorem xq_7 : ∀ q ∈ xpl_7, xokp 7 q := (List.forall_mem_cons.mpr ⟨xr_7_0, (List.forall_mem_cons.mpr ⟨xr_7_1, (List.forall_mem_cons.mpr ⟨xr_7_2, (List.forall_mem_cons.mpr ⟨xr_7_3, (List.forall_mem_cons.mpr ⟨xr_7_4, (List.forall_mem_cons.mpr ⟨xr_7_5, (List.forall_mem_cons.mpr ⟨xr_7_6, (List.forall_mem_cons.mpr ⟨xr_7_7, (List.forall_mem_cons.mpr ⟨xr_7_8, (List.forall_mem_cons.mpr ⟨xr_7_9, (List.forall_mem_cons.mpr ⟨xr_7_10, (List.forall_mem_cons.mpr ⟨xr_7_11, (List.forall_mem_cons.mpr ⟨xr_7_12, (List.forall_mem_cons.mpr ⟨xr_7_13, (List.forall_mem_cons.mpr ⟨xr_7_14, (List.forall_mem_cons.mpr ⟨xr_7_15, (List.forall_mem_cons.mpr ⟨xr_7_16, (List.forall_mem_cons.mpr ⟨xr_7_17, (List.forall_mem_cons.mpr ⟨xr_7_18, (List.forall_mem_cons.mpr ⟨xr_7_19, (List.forall_mem_cons.mpr ⟨xr_7_20, (List.forall_mem_cons.mpr ⟨xr_7_21, (List.forall_mem_cons.mpr ⟨xr_7_22, (List.forall_mem_cons.mpr ⟨xr_7_23, (List.forall_mem_cons.mpr ⟨xr_7_24, (List.forall_mem_cons.mpr ⟨xr_7_25, (List.forall_mem_cons.mpr ⟨xr_7_26, (List.forall_mem_cons.mpr ⟨xr_7_27, (List.forall_mem_cons.mpr ⟨xr_7_28, (List.forall_mem_cons.mpr ⟨xr_7_29, (List.forall_mem_cons.mpr ⟨xr_7_30, (List.forall_mem_cons.mpr ⟨xr_7_31, (List.forall_mem_cons.mpr ⟨xr_7_32, (List.forall_mem_cons.mpr ⟨xr_7_33, (List.forall_mem_cons.mpr ⟨xr_7_34, (List.forall_mem_cons.mpr ⟨xr_7_35, (List.forall_mem_cons.mpr ⟨xr_7_36, (List.forall_mem_cons.mpr ⟨xr_7_37, (List.forall_mem_cons.mpr ⟨xr_7_38, (List.forall_mem_cons.mpr ⟨xr_7_39, (List.forall_mem_cons.mpr ⟨xr_7_40, (List.forall_mem_cons.mpr ⟨xr_7_41, (List.forall_mem_cons.mpr ⟨xr_7_42, (List.forall_mem_cons.mpr ⟨xr_7_43, (List.forall_mem_cons.mpr ⟨xr_7_44, (List.forall_mem_cons.mpr ⟨xr_7_45, (List.forall_mem_cons.mpr ⟨xr_7_46, (List.forall_mem_cons.mpr ⟨xr_7_47, (List.forall_mem_cons.mpr ⟨xr_7_48, (List.forall_mem_cons.mpr ⟨xr_7_49, (List.forall_mem_cons.mpr ⟨xr_7_50, (List.forall_mem_cons.mpr ⟨xr_7_51, (List.forall_mem_cons.mpr ⟨xr_7_52, (List.forall_mem_cons.mpr ⟨xr_7_53, (List.forall_mem_cons.mpr ⟨xr_7_54, (List.forall_mem_cons.mpr ⟨xr_7_55, (List.forall_mem_cons.mpr ⟨xr_7_56, (List.forall_mem_cons.mpr ⟨xr_7_57, (List.forall_mem_cons.mpr ⟨xr_7_58, (List.forall_mem_cons.mpr ⟨xr_7_59, (List.forall_mem_cons.mpr ⟨xr_7_60, (List.forall_mem_cons.mpr ⟨xr_7_61, (List.forall_mem_cons.mpr ⟨xr_7_62, (List.forall_mem_cons.mpr ⟨xr_7_63, (List.forall_mem_cons.mpr ⟨xr_7_64, (List.forall_mem_cons.mpr ⟨xr_7_65, (List.forall_mem_cons.mpr ⟨xr_7_66, (List.forall_mem_cons.mpr ⟨xr_7_67, (List.forall_mem_cons.mpr ⟨xr_7_68, (List.forall_mem_cons.mpr ⟨xr_7_69, (List.forall_mem_cons.mpr ⟨xr_7_70, (List.forall_mem_cons.mpr ⟨xr_7_71, (List.forall_mem_cons.mpr ⟨xr_7_72, (List.forall_mem_cons.mpr ⟨xr_7_73, (List.forall_mem_cons.mpr ⟨xr_7_74, (List.forall_mem_cons.mpr ⟨xr_7_75, (List.forall_mem_cons.mpr ⟨xr_7_76, (List.forall_mem_cons.mpr ⟨xr_7_77, (List.forall_mem_cons.mpr ⟨xr_7_78, (List.forall_mem_cons.mpr ⟨xr_7_79, (List.forall_mem_cons.mpr ⟨xr_7_80, (List.forall_mem_cons.mpr ⟨xr_7_81, (List.forall_mem_cons.mpr ⟨xr_7_82, (List.forall_mem_cons.mpr ⟨xr_7_83, (List.forall_mem_cons.mpr ⟨xr_7_84, (List.forall_mem_cons.mpr ⟨xr_7_85, (List.forall_mem_cons.mpr ⟨xr_7_86, (List.forall_mem_cons.mpr ⟨xr_7_87, (List.forall_mem_cons.mpr ⟨xr_7_88, (List.forall_mem_cons.mpr ⟨xr_7_89, (List.forall_mem_cons.mpr ⟨xr_7_90, (List.forall_mem_cons.mpr ⟨xr_7_91, (List.forall_mem_cons.mpr ⟨xr_7_92, (List.forall_mem_cons.mpr ⟨xr_7_93, (List.forall_mem_cons.mpr ⟨xr_7_94, (List.forall_mem_cons.mpr ⟨xr_7_95, (fun _ h => nomatch h)⟩)⟩)⟩)⟩)⟩)⟩)⟩)⟩)⟩)⟩)⟩)⟩)⟩)⟩)⟩)⟩)⟩)⟩)⟩)⟩)⟩)⟩)⟩)⟩)⟩)⟩)⟩)⟩)⟩)⟩)⟩)⟩)⟩)⟩)⟩)⟩)⟩)⟩)⟩)⟩)⟩)⟩)⟩)⟩)⟩)⟩)⟩)⟩)⟩)⟩)⟩)⟩)⟩)⟩)⟩)⟩)⟩)⟩)⟩)⟩)⟩)⟩)⟩)⟩)⟩)⟩)⟩)⟩)⟩)⟩)⟩)⟩)⟩)⟩)⟩)⟩)⟩)⟩)⟩)⟩)⟩)⟩)⟩)⟩)⟩)⟩)⟩)⟩)⟩)⟩)⟩)⟩)⟩)⟩)⟩)⟩)
set_option maxRecDepth 100000 in
theorem xr_8_0 : xokp 8 (1, 6, 0, 0) := xmem (p := 810) rfl rfl
set_option maxRecDepth 100000 in
theorem xr_8_1 : xokp 8 (37, 0, 8, 0) := ⟨xmem (p := 811) rfl rfl, by decide, by decide⟩
set_option maxRecDepth 100000 in
theorem xr_8_2 : xokp 8 (7, 0, 8, 1) := ⟨xmem (p := 812) rfl rfl, by decide, by decide⟩
set_option maxRecDepth 100000 in
theorem xr_8_3 : xokp 8 (13, 0, 8, 2) := ⟨xmem (p := 813) rfl rfl, by decide, by decide⟩
set_option maxRecDepth 100000 in
theorem xr_8_4 : xokp 8 (16, 0, 8, 3) := ⟨xmem (p := 814) rfl rfl, by decide, by decide⟩
set_option maxRecDepth 100000 in
theorem xr_8_5 : xokp 8 (41, 0, 8, 4) := ⟨xmem (p := 815) rfl rfl, by decide, by decide⟩
set_option maxRecDepth 100000 in
theorem xr_8_6 : xokp 8 (19, 0, 8, 5) := ⟨xmem (p := 816) rfl rfl, by decide, by decide⟩
set_option maxRecDepth 100000 in
theorem xr_8_7 : xokp 8 (77, 0, 8, 6) := ⟨xmem (p := 817) rfl rfl, by decide, by decide⟩
set_option maxRecDepth 100000 in
theorem xr_8_8 : xokp 8 (22, 0, 8, 7) := ⟨xmem (p := 818) rfl rfl, by decide, by decide⟩
set_option maxRecDepth 100000 in
theorem xr_8_9 : xokp 8 (25, 0, 8, 8) := ⟨xmem (p := 819) rfl rfl, by decide, by decide⟩
set_option maxRecDepth 100000 in
theorem xr_8_10 : xokp 8 (28, 0, 8, 9) := ⟨xmem (p := 820) rfl rfl, by decide, by decide⟩
set_option maxRecDepth 100000 in
theorem xr_8_11 : xokp 8 (31, 0, 8, 10) := ⟨xmem (p := 821) rfl rfl, by decide, by decide⟩
set_option maxRecDepth 100000 in
theorem xr_8_12 : xokp 8 (34, 0, 8, 11) := ⟨xmem (p := 822) rfl rfl, by decide, by decide⟩
set_option maxRecDepth 100000 in
theorem xr_8_13 : xokp 8 (67, 0, 8, 12) := ⟨xmem (p := 823) rfl rfl, by decide, by decide⟩
set_option maxRecDepth 100000 in
theorem xr_8_14 : xokp 8 (70, 0, 8, 13) := ⟨xmem (p := 824) rfl rfl, by decide, by decide⟩
set_option maxRecDepth 100000 in
theorem xr_8_15 : xokp 8 (74, 0, 8, 14) := ⟨xmem (p := 825) rfl rfl, by decide, by decide⟩
set_option maxRecDepth 100000 in
theorem xr_8_16 : xokp 8 (110, 0, 8, 15) := ⟨xmem (p := 826) rfl rfl, by decide, by decide⟩
set_option maxRecDepth 100000 in
theorem xr_8_17 : xokp 8 (113, 0, 8, 16) := ⟨xmem (p := 827) rfl rfl, by decide, by decide⟩
set_option maxRecDepth 100000 in
theorem xr_8_18 : xokp 8 (103, 0, 8, 17) := ⟨xmem (p := 828) rfl rfl, by decide, by decide⟩
set_option maxRecDepth 100000 in
theorem xr_8_19 : xokp 8 (116, 0, 8, 18) := ⟨xmem (p := 829) rfl rfl, by decide, by decide⟩
set_option maxRecDepth 100000 in
theorem xr_8_20 : xokp 8 (191, 0, 8, 19) := ⟨xmem (p := 830) rfl rfl, by decide, by decide⟩
set_option maxRecDepth 100000 in
theorem xr_8_21 : xokp 8 (80, 2, 116, 0) := ⟨xmem (p := 880) rfl rfl, xd_116⟩
set_option maxRecDepth 100000 in
theorem xr_8_22 : xokp 8 (44, 3, 99, 0) := ⟨xmem (p := 884) rfl rfl, xd_99⟩
set_option maxRecDepth 100000 in
theorem xr_8_23 : xokp 8 (84, 2, 100, 0) := ⟨xmem (p := 887) rfl rfl, xd_100⟩
set_option maxRecDepth 100000 in
theorem xr_8_24 : xokp 8 (87, 2, 101, 0) := ⟨xmem (p := 891) rfl rfl, xd_101⟩
set_option maxRecDepth 100000 in
theorem xr_8_25 : xokp 8 (48, 2, 104, 0) := ⟨xmem (p := 899) rfl rfl, xd_104⟩
set_option maxRecDepth 100000 in
theorem xr_8_26 : xokp 8 (96, 2, 119, 0) := ⟨xmem (p := 907) rfl rfl, xd_119⟩
set_option maxRecDepth 100000 in
theorem xr_8_27 : xokp 8 (90, 2, 109, 0) := ⟨xmem (p := 911) rfl rfl, xd_109⟩
set_option maxRecDepth 100000 in
theorem xr_8_28 : xokp 8 (93, 2, 110, 0) := ⟨xmem (p := 915) rfl rfl, xd_110⟩
set_option maxRecDepth 100000 in
theorem xr_8_29 : xokp 8 (52, 2, 105, 0) := ⟨xmem (p := 919) rfl rfl, xd_105⟩
set_option maxRecDepth 100000 in
theorem xr_8_30 : xokp 8 (56, 2, 106, 0) := ⟨xmem (p := 923) rfl rfl, xd_106⟩
set_option maxRecDepth 100000 in
theorem xr_8_31 : xokp 8 (63, 2, 111, 0) := ⟨xmem (p := 927) rfl rfl, xd_111⟩
set_option maxRecDepth 100000 in
theorem xr_8_32 : xokp 8 (99, 2, 121, 0) := ⟨xmem (p := 935) rfl rfl, xd_121⟩
set_option maxRecDepth 100000 in
theorem xr_8_33 : xokp 8 (122, 2, 125, 0) := ⟨xmem (p := 943) rfl rfl, xd_125⟩
set_option maxRecDepth 100000 in
theorem xr_8_34 : xokp 8 (119, 2, 124, 0) := ⟨xmem (p := 947) rfl rfl, xd_124⟩
set_option maxRecDepth 100000 in
theorem xr_8_35 : xokp 8 (106, 2, 123, 0) := ⟨xmem (p := 951) rfl rfl, xd_123⟩
set_option maxRecDepth 100000 in
theorem xr_8_36 : xokp 8 (125, 2, 126, 0) := ⟨xmem (p := 959) rfl rfl, xd_126⟩
set_option maxRecDepth 100000 in
theorem xr_8_37 : xokp 8 (128, 2, 129, 0) := ⟨xmem (p := 967) rfl rfl, xd_129⟩
set_option maxRecDepth 100000 in
theorem xr_8_38 : xokp 8 (131, 2, 107, 0) := ⟨xmem (p := 975) rfl rfl, xd_107⟩
set_option maxRecDepth 100000 in
theorem xr_8_39 : xokp 8 (59, 2, 108, 0) := ⟨xmem (p := 979) rfl rfl, xd_108⟩
set_option maxRecDepth 100000 in
theorem xr_8_40 : xokp 8 (134, 2, 113, 0) := ⟨xmem (p := 983) rfl rfl, xd_113⟩
set_option maxRecDepth 100000 in
theorem xr_8_41 : xokp 8 (137, 2, 115, 0) := ⟨xmem (p := 1015) rfl rfl, xd_115⟩
set_option maxRecDepth 100000 in
theorem xr_8_42 : xokp 8 (140, 2, 139, 0) := ⟨xmem (p := 1023) rfl rfl, xd_139⟩
set_option maxRecDepth 100000 in
theorem xr_8_43 : xokp 8 (143, 2, 142, 0) := ⟨xmem (p := 1035) rfl rfl, xd_142⟩
set_option maxRecDepth 100000 in
theorem xr_8_44 : xokp 8 (155, 2, 145, 0) := ⟨xmem (p := 1043) rfl rfl, xd_145⟩
set_option maxRecDepth 100000 in
theorem xr_8_45 : xokp 8 (146, 2, 144, 0) := ⟨xmem (p := 1047) rfl rfl, xd_144⟩
set_option maxRecDepth 100000 in
theorem xr_8_46 : xokp 8 (149, 2, 114, 0) := ⟨xmem (p := 1051) rfl rfl, xd_114⟩
set_option maxRecDepth 100000 in
theorem xr_8_47 : xokp 8 (152, 2, 112, 0) := ⟨xmem (p := 1055) rfl rfl, xd_112⟩
set_option maxRecDepth 100000 in
theorem xr_8_48 : xokp 8 (158, 2, 147, 0) := ⟨xmem (p := 1063) rfl rfl, xd_147⟩
set_option maxRecDepth 100000 in
theorem xr_8_49 : xokp 8 (167, 2, 150, 0) := ⟨xmem (p := 1075) rfl rfl, xd_150⟩
set_option maxRecDepth 100000 in
theorem xr_8_50 : xokp 8 (161, 2, 102, 0) := ⟨xmem (p := 1079) rfl rfl, xd_102⟩
set_option maxRecDepth 100000 in
theorem xr_8_51 : xokp 8 (164, 2, 103, 0) := ⟨xmem (p := 1083) rfl rfl, xd_103⟩
set_option maxRecDepth 100000 in
theorem xr_8_52 : xokp 8 (170, 2, 152, 0) := ⟨xmem (p := 1091) rfl rfl, xd_152⟩
set_option maxRecDepth 100000 in
theorem xr_8_53 : xokp 8 (173, 2, 154, 0) := ⟨xmem (p := 1099) rfl rfl, xd_154⟩
set_option maxRecDepth 100000 in
theorem xr_8_54 : xokp 8 (195, 9, 5, 0) := xmem (p := 1107) rfl rfl
set_option maxRecDepth 100000 in
theorem xr_8_55 : xokp 8 (197, 2, 157, 0) := ⟨xmem (p := 1108) rfl rfl, xd_157⟩
set_option maxRecDepth 100000 in
theorem xr_8_56 : xokp 8 (189, 9, 6, 0) := xmem (p := 1112) rfl rfl
set_option maxRecDepth 100000 in
theorem xr_8_57 : xokp 8 (201, 3, 156, 0) := ⟨xmem (p := 1113) rfl rfl, xd_156⟩
set_option maxRecDepth 100000 in
theorem xr_8_58 : xokp 8 (177, 9, 7, 0) := xmem (p := 1116) rfl rfl
set_option maxRecDepth 100000 in
theorem xr_8_59 : xokp 8 (179, 10, 1, 0) := xmem (p := 1117) rfl rfl
set_option maxRecDepth 100000 in
theorem xr_8_60 : xokp 8 (181, 10, 2, 0) := xmem (p := 1118) rfl rfl
set_option maxRecDepth 100000 in
theorem xr_8_61 : xokp 8 (183, 9, 8, 0) := xmem (p := 1119) rfl rfl
set_option maxRecDepth 100000 in
theorem xr_8_62 : xokp 8 (185, 10, 3, 0) := xmem (p := 1120) rfl rfl
set_option maxRecDepth 100000 in
theorem xr_8_63 : xokp 8 (187, 9, 9, 0) := xmem (p := 1121) rfl rfl
set_option maxRecDepth 100000 in
theorem xq_8 : ∀ q ∈ xpl_8, xokp 8 q := (List.forall_mem_cons.mpr ⟨xr_8_0, (List.forall_mem_cons.mpr ⟨xr_8_1, (List.forall_mem_cons.mpr ⟨xr_8_2, (List.forall_mem_cons.mpr ⟨xr_8_3, (List.forall_mem_cons.mpr ⟨xr_8_4, (List.forall_mem_cons.mpr ⟨xr_8_5, (List.forall_mem_cons.mpr ⟨xr_8_6, (List.forall_mem_cons.mpr ⟨xr_8_7, (List.forall_mem_cons.mpr ⟨xr_8_8, (List.forall_mem_cons.mpr ⟨xr_8_9, (List.forall_mem_cons.mpr ⟨xr_8_10, (List.forall_mem_cons.mpr ⟨xr_8_11, (List.forall_mem_cons.mpr ⟨xr_8_12, (List.forall_mem_cons.mpr ⟨xr_8_13, (List.forall_mem_cons.mpr ⟨xr_8_14, (List.forall_mem_cons.mpr ⟨xr_8_15, (List.forall_mem_cons.mpr ⟨xr_8_16, (List.forall_mem_cons.mpr ⟨xr_8_17, (List.forall_mem_cons.mpr ⟨xr_8_18, (List.forall_mem_cons.mpr ⟨xr_8_19, (List.forall_mem_cons.mpr ⟨xr_8_20, (List.forall_mem_cons.mpr ⟨xr_8_21, (List.forall_mem_cons.mpr ⟨xr_8_22, (List.forall_mem_cons.mpr ⟨xr_8_23, (List.forall_mem_cons.mpr ⟨xr_8_24, (List.forall_mem_cons.mpr ⟨xr_8_25, (List.forall_mem_cons.mpr ⟨xr_8_26, (List.forall_mem_cons.mpr ⟨xr_8_27, (List.forall_mem_cons.mpr ⟨xr_8_28, (List.forall_mem_cons.mpr ⟨xr_8_29, (List.forall_mem_cons.mpr ⟨xr_8_30, (List.forall_mem_cons.mpr ⟨xr_8_31, (List.forall_mem_cons.mpr ⟨xr_8_32, (List.forall_mem_cons.mpr ⟨xr_8_33, (List.forall_mem_cons.mpr ⟨xr_8_34, (List.forall_mem_cons.mpr ⟨xr_8_35, (List.forall_mem_cons.mpr ⟨xr_8_36, (List.forall_mem_cons.mpr ⟨xr_8_37, (List.forall_mem_cons.mpr ⟨xr_8_38, (List.forall_mem_cons.mpr ⟨xr_8_39, (List.forall_mem_cons.mpr ⟨xr_8_40, (List.forall_mem_cons.mpr ⟨xr_8_41, (List.forall_mem_cons.mpr ⟨xr_8_42, (List.forall_mem_cons.mpr ⟨xr_8_43, (List.forall_mem_cons.mpr ⟨xr_8_44, (List.forall_mem_cons.mpr ⟨xr_8_45, (List.forall_mem_cons.mpr ⟨xr_8_46, (List.forall_mem_cons.mpr ⟨xr_8_47, (List.forall_mem_cons.mpr ⟨xr_8_48, (List.forall_mem_cons.mpr ⟨xr_8_49, (List.forall_mem_cons.mpr ⟨xr_8_50, (List.forall_mem_cons.mpr ⟨xr_8_51, (List.forall_mem_cons.mpr ⟨xr_8_52, (List.forall_mem_cons.mpr ⟨xr_8_53, (List.forall_mem_cons.mpr ⟨xr_8_54, (List.forall_mem_cons.mpr ⟨xr_8_55, (List.forall_mem_cons.mpr ⟨xr_8_56, (List.forall_mem_cons.mpr ⟨xr_8_57, (List.forall_mem_cons.mpr ⟨xr_8_58, (List.forall_mem_cons.mpr ⟨xr_8_59, (List.forall_mem_cons.mpr ⟨xr_8_60, (List.forall_mem_cons.mpr ⟨xr_8_61, (List.forall_mem_cons.mpr ⟨xr_8_62, (List.forall_mem_cons.mpr ⟨xr_8_63, (fun _ h => nomatch h)⟩)⟩)⟩)⟩)⟩)⟩)⟩)⟩)⟩)⟩)⟩)⟩)⟩)⟩)⟩)⟩)⟩)⟩)⟩)⟩)⟩)⟩)⟩)⟩)⟩)⟩)⟩)⟩)⟩)⟩)⟩)⟩)⟩)⟩)⟩)⟩)⟩)⟩)⟩)⟩)⟩)⟩)⟩)⟩)⟩)⟩)⟩)⟩)⟩)⟩)⟩)⟩)⟩)⟩)⟩)⟩)⟩)⟩)⟩)⟩)⟩)⟩)⟩)⟩)
set_option maxRecDepth 100000 in
theorem xr_9_0 : xokp 9 (8, 7, 7, 0) := ⟨xmem (p := 63) rfl rfl, by decide⟩
set_option maxRecDepth 100000 in
theorem xr_9_1 : xokp 9 (69, 4, 62, 0) := ⟨xmem (p := 65) rfl rfl, xd_62⟩
set_option maxRecDepth 100000 in
theorem xr_9_2 : xokp 9 (92, 2, 67, 0) := ⟨xmem (p := 242) rfl rfl, xd_67⟩
set_option maxRecDepth 100000 in
theorem xr_9_3 : xokp 9 (96, 2, 68, 0) := ⟨xmem (p := 328) rfl rfl, xd_68⟩
set_option maxRecDepth 100000 in
theorem xr_9_4 : xokp 9 (100, 2, 69, 0) := ⟨xmem (p := 338) rfl rfl, xd_69⟩
set_option maxRecDepth 100000 in
theorem xr_9_5 : xokp 9 (114, 2, 73, 0) := ⟨xmem (p := 382) rfl rfl, xd_73⟩
set_option maxRecDepth 100000 in
theorem xr_9_6 : xokp 9 (118, 2, 74, 0) := ⟨xmem (p := 390) rfl rfl, xd_74⟩
set_option maxRecDepth 100000 in
theorem xr_9_7 : xokp 9 (152, 2, 85, 0) := ⟨xmem (p := 411) rfl rfl, xd_85⟩
set_option maxRecDepth 100000 in
theorem xr_9_8 : xokp 9 (156, 2, 86, 0) := ⟨xmem (p := 430) rfl rfl, xd_86⟩
set_option maxRecDepth 100000 in
theorem xr_9_9 : xokp 9 (161, 2, 87, 0) := ⟨xmem (p := 438) rfl rfl, xd_87⟩
set_option maxRecDepth 100000 in
theorem xr_9_10 : xokp 9 (73, 3, 161, 0) := ⟨xmem (p := 525) rfl rfl, xd_161⟩
set_option maxRecDepth 100000 in
theorem xr_9_11 : xokp 9 (13, 8, 0, 0) := ⟨xmem (p := 528) rfl rfl, by decide⟩
set_option maxRecDepth 100000 in
theorem xr_9_12 : xokp 9 (15, 8, 1, 0) := ⟨xmem (p := 529) rfl rfl, by decide⟩
set_option maxRecDepth 100000 in
theorem xr_9_13 : xokp 9 (7, 2, 63, 0) := ⟨xmem (p := 530) rfl rfl, xd_63⟩
set_option maxRecDepth 100000 in
theorem xr_9_14 : xokp 9 (82, 3, 162, 0) := ⟨xmem (p := 637) rfl rfl, xd_162⟩
set_option maxRecDepth 100000 in
theorem xr_9_15 : xokp 9 (21, 8, 2, 0) := ⟨xmem (p := 640) rfl rfl, by decide⟩
set_option maxRecDepth 100000 in
theorem xr_9_16 : xokp 9 (17, 2, 64, 0) := ⟨xmem (p := 641) rfl rfl, xd_64⟩
set_option maxRecDepth 100000 in
theorem xr_9_17 : xokp 9 (86, 3, 163, 0) := ⟨xmem (p := 663) rfl rfl, xd_163⟩
set_option maxRecDepth 100000 in
theorem xr_9_18 : xokp 9 (23, 2, 65, 0) := ⟨xmem (p := 666) rfl rfl, xd_65⟩
set_option maxRecDepth 100000 in
theorem xr_9_19 : xokp 9 (89, 3, 164, 0) := ⟨xmem (p := 677) rfl rfl, xd_164⟩
set_option maxRecDepth 100000 in
theorem xr_9_20 : xokp 9 (26, 2, 66, 0) := ⟨xmem (p := 680) rfl rfl, xd_66⟩
set_option maxRecDepth 100000 in
theorem xr_9_21 : xokp 9 (104, 3, 165, 0) := ⟨xmem (p := 688) rfl rfl, xd_165⟩
set_option maxRecDepth 100000 in
theorem xr_9_22 : xokp 9 (29, 2, 70, 0) := ⟨xmem (p := 691) rfl rfl, xd_70⟩
set_option maxRecDepth 100000 in
theorem xr_9_23 : xokp 9 (107, 3, 166, 0) := ⟨xmem (p := 696) rfl rfl, xd_166⟩
set_option maxRecDepth 100000 in
theorem xr_9_24 : xokp 9 (32, 2, 71, 0) := ⟨xmem (p := 699) rfl rfl, xd_71⟩
set_option maxRecDepth 100000 in
theorem xr_9_25 : xokp 9 (111, 3, 167, 0) := ⟨xmem (p := 711) rfl rfl, xd_167⟩
set_option maxRecDepth 100000 in
theorem xr_9_26 : xokp 9 (36, 2, 72, 0) := ⟨xmem (p := 714) rfl rfl, xd_72⟩
set_option maxRecDepth 100000 in
theorem xr_9_27 : xokp 9 (122, 3, 168, 0) := ⟨xmem (p := 725) rfl rfl, xd_168⟩
set_option maxRecDepth 100000 in
theorem xr_9_28 : xokp 9 (39, 2, 75, 0) := ⟨xmem (p := 728) rfl rfl, xd_75⟩
set_option maxRecDepth 100000 in
theorem xr_9_29 : xokp 9 (125, 3, 169, 0) := ⟨xmem (p := 737) rfl rfl, xd_169⟩
set_option maxRecDepth 100000 in
theorem xr_9_30 : xokp 9 (42, 2, 76, 0) := ⟨xmem (p := 740) rfl rfl, xd_76⟩
set_option maxRecDepth 100000 in
theorem xr_9_31 : xokp 9 (128, 3, 170, 0) := ⟨xmem (p := 745) rfl rfl, xd_170⟩
set_option maxRecDepth 100000 in
theorem xr_9_32 : xokp 9 (45, 2, 77, 0) := ⟨xmem (p := 748) rfl rfl, xd_77⟩
set_option maxRecDepth 100000 in
theorem xr_9_33 : xokp 9 (131, 3, 171, 0) := ⟨xmem (p := 752) rfl rfl, xd_171⟩
set_option maxRecDepth 100000 in
theorem xr_9_34 : xokp 9 (48, 2, 78, 0) := ⟨xmem (p := 755) rfl rfl, xd_78⟩
set_option maxRecDepth 100000 in
theorem xr_9_35 : xokp 9 (134, 3, 172, 0) := ⟨xmem (p := 760) rfl rfl, xd_172⟩
set_option maxRecDepth 100000 in
theorem xr_9_36 : xokp 9 (51, 2, 79, 0) := ⟨xmem (p := 763) rfl rfl, xd_79⟩
set_option maxRecDepth 100000 in
theorem xr_9_37 : xokp 9 (137, 3, 173, 0) := ⟨xmem (p := 767) rfl rfl, xd_173⟩
set_option maxRecDepth 100000 in
theorem xr_9_38 : xokp 9 (54, 2, 80, 0) := ⟨xmem (p := 770) rfl rfl, xd_80⟩
set_option maxRecDepth 100000 in
theorem xr_9_39 : xokp 9 (140, 3, 174, 0) := ⟨xmem (p := 775) rfl rfl, xd_174⟩
set_option maxRecDepth 100000 in
theorem xr_9_40 : xokp 9 (57, 2, 81, 0) := ⟨xmem (p := 778) rfl rfl, xd_81⟩
set_option maxRecDepth 100000 in
theorem xr_9_41 : xokp 9 (143, 3, 175, 0) := ⟨xmem (p := 783) rfl rfl, xd_175⟩
set_option maxRecDepth 100000 in
theorem xr_9_42 : xokp 9 (60, 2, 82, 0) := ⟨xmem (p := 786) rfl rfl, xd_82⟩
set_option maxRecDepth 100000 in
theorem xr_9_43 : xokp 9 (146, 3, 176, 0) := ⟨xmem (p := 791) rfl rfl, xd_176⟩
set_option maxRecDepth 100000 in
theorem xr_9_44 : xokp 9 (63, 2, 83, 0) := ⟨xmem (p := 794) rfl rfl, xd_83⟩
set_option maxRecDepth 100000 in
theorem xr_9_45 : xokp 9 (149, 3, 177, 0) := ⟨xmem (p := 798) rfl rfl, xd_177⟩
set_option maxRecDepth 100000 in
theorem xr_9_46 : xokp 9 (66, 2, 84, 0) := ⟨xmem (p := 801) rfl rfl, xd_84⟩
set_option maxRecDepth 100000 in
theorem xr_9_47 : xokp 9 (70, 7, 8, 0) := ⟨xmem (p := 805) rfl rfl, by decide⟩
set_option maxRecDepth 100000 in
theorem xr_9_48 : xokp 9 (72, 4, 97, 0) := ⟨xmem (p := 807) rfl rfl, xd_97⟩
set_option maxRecDepth 100000 in
theorem xr_9_49 : xokp 9 (79, 2, 98, 0) := ⟨xmem (p := 872) rfl rfl, xd_98⟩
set_option maxRecDepth 100000 in
theorem xr_9_50 : xokp 9 (78, 2, 117, 0) := ⟨xmem (p := 876) rfl rfl, xd_117⟩
set_option maxRecDepth 100000 in
theorem xr_9_51 : xokp 9 (85, 2, 118, 0) := ⟨xmem (p := 895) rfl rfl, xd_118⟩
set_option maxRecDepth 100000 in
theorem xr_9_52 : xokp 9 (88, 2, 120, 0) := ⟨xmem (p := 903) rfl rfl, xd_120⟩
set_option maxRecDepth 100000 in
theorem xr_9_53 : xokp 9 (91, 2, 122, 0) := ⟨xmem (p := 931) rfl rfl, xd_122⟩
set_option maxRecDepth 100000 in
theorem xr_9_54 : xokp 9 (95, 2, 127, 0) := ⟨xmem (p := 939) rfl rfl, xd_127⟩
set_option maxRecDepth 100000 in
theorem xr_9_55 : xokp 9 (99, 2, 128, 0) := ⟨xmem (p := 955) rfl rfl, xd_128⟩
set_option maxRecDepth 100000 in
theorem xr_9_56 : xokp 9 (103, 2, 130, 0) := ⟨xmem (p := 963) rfl rfl, xd_130⟩
set_option maxRecDepth 100000 in
theorem xr_9_57 : xokp 9 (106, 2, 131, 0) := ⟨xmem (p := 971) rfl rfl, xd_131⟩
set_option maxRecDepth 100000 in
theorem xr_9_58 : xokp 9 (110, 2, 132, 0) := ⟨xmem (p := 987) rfl rfl, xd_132⟩
set_option maxRecDepth 100000 in
theorem xr_9_59 : xokp 9 (113, 2, 133, 0) := ⟨xmem (p := 991) rfl rfl, xd_133⟩
set_option maxRecDepth 100000 in
theorem xr_9_60 : xokp 9 (117, 2, 134, 0) := ⟨xmem (p := 995) rfl rfl, xd_134⟩
set_option maxRecDepth 100000 in
theorem xr_9_61 : xokp 9 (121, 2, 135, 0) := ⟨xmem (p := 999) rfl rfl, xd_135⟩
set_option maxRecDepth 100000 in
theorem xr_9_62 : xokp 9 (124, 2, 136, 0) := ⟨xmem (p := 1003) rfl rfl, xd_136⟩
set_option maxRecDepth 100000 in
theorem xr_9_63 : xokp 9 (127, 2, 137, 0) := ⟨xmem (p := 1007) rfl rfl, xd_137⟩
set_option maxRecDepth 100000 in
theorem xr_9_64 : xokp 9 (130, 2, 138, 0) := ⟨xmem (p := 1011) rfl rfl, xd_138⟩
set_option maxRecDepth 100000 in
theorem xr_9_65 : xokp 9 (133, 2, 140, 0) := ⟨xmem (p := 1019) rfl rfl, xd_140⟩
set_option maxRecDepth 100000 in
theorem xr_9_66 : xokp 9 (136, 2, 141, 0) := ⟨xmem (p := 1027) rfl rfl, xd_141⟩
set_option maxRecDepth 100000 in
theorem xr_9_67 : xokp 9 (139, 2, 143, 0) := ⟨xmem (p := 1031) rfl rfl, xd_143⟩
set_option maxRecDepth 100000 in
theorem xr_9_68 : xokp 9 (142, 2, 146, 0) := ⟨xmem (p := 1039) rfl rfl, xd_146⟩
set_option maxRecDepth 100000 in
theorem xr_9_69 : xokp 9 (145, 2, 148, 0) := ⟨xmem (p := 1059) rfl rfl, xd_148⟩
set_option maxRecDepth 100000 in
theorem xr_9_70 : xokp 9 (148, 2, 149, 0) := ⟨xmem (p := 1067) rfl rfl, xd_149⟩
set_option maxRecDepth 100000 in
theorem xr_9_71 : xokp 9 (151, 2, 151, 0) := ⟨xmem (p := 1071) rfl rfl, xd_151⟩
set_option maxRecDepth 100000 in
theorem xr_9_72 : xokp 9 (155, 2, 153, 0) := ⟨xmem (p := 1087) rfl rfl, xd_153⟩
set_option maxRecDepth 100000 in
theorem xr_9_73 : xokp 9 (160, 2, 155, 0) := ⟨xmem (p := 1095) rfl rfl, xd_155⟩
set_option maxRecDepth 100000 in
theorem xr_9_74 : xokp 9 (165, 2, 158, 0) := ⟨xmem (p := 1103) rfl rfl, xd_158⟩
set_option maxRecDepth 100000 in
theorem xq_9 : ∀ q ∈ xpl_9, xokp 9 q := (List.forall_mem_cons.mpr ⟨xr_9_0, (List.forall_mem_cons.mpr ⟨xr_9_1, (List.forall_mem_cons.mpr ⟨xr_9_2, (List.forall_mem_cons.mpr ⟨xr_9_3, (List.forall_mem_cons.mpr ⟨xr_9_4, (List.forall_mem_cons.mpr ⟨xr_9_5, (List.forall_mem_cons.mpr ⟨xr_9_6, (List.forall_mem_cons.mpr ⟨xr_9_7, (List.forall_mem_cons.mpr ⟨xr_9_8, (List.forall_mem_cons.mpr ⟨xr_9_9, (List.forall_mem_cons.mpr ⟨xr_9_10, (List.forall_mem_cons.mpr ⟨xr_9_11, (List.forall_mem_cons.mpr ⟨xr_9_12, (List.forall_mem_cons.mpr ⟨xr_9_13, (List.forall_mem_cons.mpr ⟨xr_9_14, (List.forall_mem_cons.mpr ⟨xr_9_15, (List.forall_mem_cons.mpr ⟨xr_9_16, (List.forall_mem_cons.mpr ⟨xr_9_17, (List.forall_mem_cons.mpr ⟨xr_9_18, (List.forall_mem_cons.mpr ⟨xr_9_19, (List.forall_mem_cons.mpr ⟨xr_9_20, (List.forall_mem_cons.mpr ⟨xr_9_21, (List.forall_mem_cons.mpr ⟨xr_9_22, (List.forall_mem_cons.mpr ⟨xr_9_23, (List.forall_mem_cons.mpr ⟨xr_9_24, (List.forall_mem_cons.mpr ⟨xr_9_25, (List.forall_mem_cons.mpr ⟨xr_9_26, (List.forall_mem_cons.mpr ⟨xr_9_27, (List.forall_mem_cons.mpr ⟨xr_9_28, (List.forall_mem_cons.mpr ⟨xr_9_29, (List.forall_mem_cons.mpr ⟨xr_9_30, (List.forall_mem_cons.mpr ⟨xr_9_31, (List.forall_mem_cons.mpr ⟨xr_9_32, (List.forall_mem_cons.mpr ⟨xr_9_33, (List.forall_mem_cons.mpr ⟨xr_9_34, (List.forall_mem_cons.mpr ⟨xr_9_35, (List.forall_mem_cons.mpr ⟨xr_9_36, (List.forall_mem_cons.mpr ⟨xr_9_37, (List.forall_mem_cons.mpr ⟨xr_9_38, (List.forall_mem_cons.mpr ⟨xr_9_39, (List.forall_mem_cons.mpr ⟨xr_9_40, (List.forall_mem_cons.mpr ⟨xr_9_41, (List.forall_mem_cons.mpr ⟨xr_9_42, (List.forall_mem_cons.mpr ⟨xr_9_43, (List.forall_mem_cons.mpr ⟨xr_9_44, (List.forall_mem_cons.mpr ⟨xr_9_45, (List.forall_mem_cons.mpr ⟨xr_9_46, (List.forall_mem_cons.mpr ⟨xr_9_47, (List.forall_mem_cons.mpr ⟨xr_9_48, (List.forall_mem_cons.mpr ⟨xr_9_49, (List.forall_mem_cons.mpr ⟨xr_9_50, (List.forall_mem_cons.mpr ⟨xr_9_51, (List.forall_mem_cons.mpr ⟨xr_9_52, (List.forall_mem_cons.mpr ⟨xr_9_53, (List.forall_mem_cons.mpr ⟨xr_9_54, (List.forall_mem_cons.mpr ⟨xr_9_55, (List.forall_mem_cons.mpr ⟨xr_9_56, (List.forall_mem_cons.mpr ⟨xr_9_57, (List.forall_mem_cons.mpr ⟨xr_9_58, (List.forall_mem_cons.mpr ⟨xr_9_59, (List.forall_mem_cons.mpr ⟨xr_9_60, (List.forall_mem_cons.mpr ⟨xr_9_61, (List.forall_mem_cons.mpr ⟨xr_9_62, (List.forall_mem_cons.mpr ⟨xr_9_63, (List.forall_mem_cons.mpr ⟨xr_9_64, (List.forall_mem_cons.mpr ⟨xr_9_65, (List.forall_mem_cons.mpr ⟨xr_9_66, (List.forall_mem_cons.mpr ⟨xr_9_67, (List.forall_mem_cons.mpr ⟨xr_9_68, (List.forall_mem_cons.mpr ⟨xr_9_69, (List.forall_mem_cons.mpr ⟨xr_9_70, (List.forall_mem_cons.mpr ⟨xr_9_71, (List.forall_mem_cons.mpr ⟨xr_9_72, (List.forall_mem_cons.mpr ⟨xr_9_73, (List.forall_mem_cons.mpr ⟨xr_9_74, (fun _ h => nomatch h)⟩)⟩)⟩)⟩)⟩)⟩)⟩)⟩)⟩)⟩)⟩)⟩)⟩)⟩)⟩)⟩)⟩)⟩)⟩)⟩)⟩)⟩)⟩)⟩)⟩)⟩)⟩)⟩)⟩)⟩)⟩)⟩)⟩)⟩)⟩)⟩)⟩)⟩)⟩)⟩)⟩)⟩)⟩)⟩)⟩)⟩)⟩)⟩)⟩)⟩)⟩)⟩)⟩)⟩)⟩)⟩)⟩)⟩)⟩)⟩)⟩)⟩)⟩)⟩)⟩)⟩)⟩)⟩)⟩)⟩)⟩)⟩)⟩)⟩)⟩)
theorem xpl_ok (w : Nat) : ∀ q ∈ xpl w, xokp w q := by
  unfold xpl
  split
  · exact xq_0
  · exact xq_1
  · exact xq_2
  · exact xq_3
  · exact xq_4
  · exact xq_5
  · exact xq_6
  · exact xq_7
  · exact xq_8
  · exact xq_9
  · exact fun _ h => nomatch h
theorem xpf_ok {w i k a b : Nat} (h : xpf w i = some (k, a, b)) : xokp w (i, k, a, b) := by
  unfold xpf at h
  obtain ⟨q, hq, he⟩ := Option.map_eq_some_iff.mp h
  have h1 := List.mem_of_find?_eq_some hq
  have h2 := List.find?_some hq
  have h3 := xpl_ok w q h1
  obtain ⟨i', r⟩ := q
  have e1 : i' = i := by simpa using h2
  have e2 : r = (k, a, b) := he
  rw [e1, e2] at h3
  exact h3

