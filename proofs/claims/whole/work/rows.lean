section
-- ===== PART A: goes FIRST, ahead of the names: the tables' words, and 'selects' of the private methods out of them =====
/-- a private method of a class that the tables say can be made, by its rows of tables_1 -/
def lw_okq (q : MethodName × Nat) : Prop := (q.1.cls ≠ "java/lang/invoke/MethodHandle" ∧ q.1.cls ≠ "java/lang/invoke/VarHandle") ∧ Cond.instantiable q.1.cls q.2 ∈ tables_1 ∧ Cond.privateMethod q.1 ∈ tables_1 ∧ Cond.instanceMethod q.1 ∈ tables_1
theorem lw_p0 : lw_okq (⟨"PairNames$Naming", "tally", "(LPairNames$Row;)V"⟩, 6) := ⟨⟨by decide +kernel, by decide +kernel⟩, List.mem_of_getElem? (i := 153) (by decide +kernel), List.mem_of_getElem? (i := 237) (by decide +kernel), List.mem_of_getElem? (i := 238) (by decide +kernel)⟩
theorem lw_p1 : lw_okq (⟨"PairNames$Naming", "choose", "(LPairNames$Row;)V"⟩, 6) := ⟨⟨by decide +kernel, by decide +kernel⟩, List.mem_of_getElem? (i := 153) (by decide +kernel), List.mem_of_getElem? (i := 247) (by decide +kernel), List.mem_of_getElem? (i := 248) (by decide +kernel)⟩
theorem lw_p2 : lw_okq (⟨"PairNames$Row", "put", "(II)V"⟩, 2) := ⟨⟨by decide +kernel, by decide +kernel⟩, List.mem_of_getElem? (i := 32) (by decide +kernel), List.mem_of_getElem? (i := 275) (by decide +kernel), List.mem_of_getElem? (i := 276) (by decide +kernel)⟩
theorem lw_p3 : lw_okq (⟨"PairNames$State", "canLetGo", "(I)Z"⟩, 6) := ⟨⟨by decide +kernel, by decide +kernel⟩, List.mem_of_getElem? (i := 26) (by decide +kernel), List.mem_of_getElem? (i := 302) (by decide +kernel), List.mem_of_getElem? (i := 303) (by decide +kernel)⟩
theorem lw_p4 : lw_okq (⟨"PairNames$Buffer", "isLetter", "(I)Z"⟩, 2) := ⟨⟨by decide +kernel, by decide +kernel⟩, List.mem_of_getElem? (i := 137) (by decide +kernel), List.mem_of_getElem? (i := 353) (by decide +kernel), List.mem_of_getElem? (i := 354) (by decide +kernel)⟩
theorem lw_p5 : lw_okq (⟨"PairNames$Buffer", "isNumber", "(I)Z"⟩, 2) := ⟨⟨by decide +kernel, by decide +kernel⟩, List.mem_of_getElem? (i := 137) (by decide +kernel), List.mem_of_getElem? (i := 362) (by decide +kernel), List.mem_of_getElem? (i := 363) (by decide +kernel)⟩
theorem lw_p6 : lw_okq (⟨"PairNames", "tryNaming", "(I)V"⟩, 5) := ⟨⟨by decide +kernel, by decide +kernel⟩, List.mem_of_getElem? (i := 18) (by decide +kernel), List.mem_of_getElem? (i := 370) (by decide +kernel), List.mem_of_getElem? (i := 371) (by decide +kernel)⟩
theorem lw_p7 : lw_okq (⟨"PairNames", "mixTotals", "(J)J"⟩, 5) := ⟨⟨by decide +kernel, by decide +kernel⟩, List.mem_of_getElem? (i := 18) (by decide +kernel), List.mem_of_getElem? (i := 398) (by decide +kernel), List.mem_of_getElem? (i := 399) (by decide +kernel)⟩
theorem lw_p8 : lw_okq (⟨"java/lang/Throwable", "fillInStackTrace", "(I)Ljava/lang/Throwable;"⟩, 6) := ⟨⟨by decide +kernel, by decide +kernel⟩, List.mem_of_getElem? (i := 444) (by decide +kernel), List.mem_of_getElem? (i := 442) (by decide +kernel), List.mem_of_getElem? (i := 443) (by decide +kernel)⟩
theorem lw_p9 : lw_okq (⟨"PairNames", "mixParts", "(J)J"⟩, 5) := ⟨⟨by decide +kernel, by decide +kernel⟩, List.mem_of_getElem? (i := 18) (by decide +kernel), List.mem_of_getElem? (i := 495) (by decide +kernel), List.mem_of_getElem? (i := 496) (by decide +kernel)⟩
theorem lw_p10 : lw_okq (⟨"PairNames", "trialNumber", "(I)I"⟩, 5) := ⟨⟨by decide +kernel, by decide +kernel⟩, List.mem_of_getElem? (i := 18) (by decide +kernel), List.mem_of_getElem? (i := 533) (by decide +kernel), List.mem_of_getElem? (i := 534) (by decide +kernel)⟩
theorem lw_p11 : lw_okq (⟨"PairNames", "mixBuffer", "(J)J"⟩, 5) := ⟨⟨by decide +kernel, by decide +kernel⟩, List.mem_of_getElem? (i := 18) (by decide +kernel), List.mem_of_getElem? (i := 547) (by decide +kernel), List.mem_of_getElem? (i := 548) (by decide +kernel)⟩
theorem lw_p12 : lw_okq (⟨"PairNames$Buffer", "timesAt", "(I)I"⟩, 2) := ⟨⟨by decide +kernel, by decide +kernel⟩, List.mem_of_getElem? (i := 137) (by decide +kernel), List.mem_of_getElem? (i := 571) (by decide +kernel), List.mem_of_getElem? (i := 572) (by decide +kernel)⟩
theorem lw_p13 : lw_okq (⟨"PairNamesModel", "go", "(Z)V"⟩, 20) := ⟨⟨by decide +kernel, by decide +kernel⟩, List.mem_of_getElem? (i := 761) (by decide +kernel), List.mem_of_getElem? (i := 836) (by decide +kernel), List.mem_of_getElem? (i := 837) (by decide +kernel)⟩
theorem lw_p14 : lw_okq (⟨"PairNamesModel", "holds", "(I)Z"⟩, 20) := ⟨⟨by decide +kernel, by decide +kernel⟩, List.mem_of_getElem? (i := 761) (by decide +kernel), List.mem_of_getElem? (i := 843) (by decide +kernel), List.mem_of_getElem? (i := 844) (by decide +kernel)⟩
theorem lw_p15 : lw_okq (⟨"PairNamesModel", "save", "()V"⟩, 20) := ⟨⟨by decide +kernel, by decide +kernel⟩, List.mem_of_getElem? (i := 761) (by decide +kernel), List.mem_of_getElem? (i := 847) (by decide +kernel), List.mem_of_getElem? (i := 848) (by decide +kernel)⟩
def lw_privs_1 : List (MethodName × Nat) := [(⟨"PairNames$Naming", "tally", "(LPairNames$Row;)V"⟩, 6), (⟨"PairNames$Naming", "choose", "(LPairNames$Row;)V"⟩, 6), (⟨"PairNames$Row", "put", "(II)V"⟩, 2), (⟨"PairNames$State", "canLetGo", "(I)Z"⟩, 6), (⟨"PairNames$Buffer", "isLetter", "(I)Z"⟩, 2), (⟨"PairNames$Buffer", "isNumber", "(I)Z"⟩, 2), (⟨"PairNames", "tryNaming", "(I)V"⟩, 5), (⟨"PairNames", "mixTotals", "(J)J"⟩, 5), (⟨"java/lang/Throwable", "fillInStackTrace", "(I)Ljava/lang/Throwable;"⟩, 6), (⟨"PairNames", "mixParts", "(J)J"⟩, 5), (⟨"PairNames", "trialNumber", "(I)I"⟩, 5), (⟨"PairNames", "mixBuffer", "(J)J"⟩, 5), (⟨"PairNames$Buffer", "timesAt", "(I)I"⟩, 2), (⟨"PairNamesModel", "go", "(Z)V"⟩, 20), (⟨"PairNamesModel", "holds", "(I)Z"⟩, 20), (⟨"PairNamesModel", "save", "()V"⟩, 20)]
theorem lw_r1 : ∀ q ∈ lw_privs_1, lw_okq q := List.forall_mem_cons.mpr ⟨lw_p0, List.forall_mem_cons.mpr ⟨lw_p1, List.forall_mem_cons.mpr ⟨lw_p2, List.forall_mem_cons.mpr ⟨lw_p3, List.forall_mem_cons.mpr ⟨lw_p4, List.forall_mem_cons.mpr ⟨lw_p5, List.forall_mem_cons.mpr ⟨lw_p6, List.forall_mem_cons.mpr ⟨lw_p7, List.forall_mem_cons.mpr ⟨lw_p8, List.forall_mem_cons.mpr ⟨lw_p9, List.forall_mem_cons.mpr ⟨lw_p10, List.forall_mem_cons.mpr ⟨lw_p11, List.forall_mem_cons.mpr ⟨lw_p12, List.forall_mem_cons.mpr ⟨lw_p13, List.forall_mem_cons.mpr ⟨lw_p14, List.forall_mem_cons.mpr ⟨lw_p15, fun _ h => absurd h List.not_mem_nil⟩⟩⟩⟩⟩⟩⟩⟩⟩⟩⟩⟩⟩⟩⟩⟩
theorem lw_p16 : lw_okq (⟨"PairNamesModel", "isPart", "(I)Z"⟩, 20) := ⟨⟨by decide +kernel, by decide +kernel⟩, List.mem_of_getElem? (i := 761) (by decide +kernel), List.mem_of_getElem? (i := 855) (by decide +kernel), List.mem_of_getElem? (i := 856) (by decide +kernel)⟩
theorem lw_p17 : lw_okq (⟨"PairNamesModel", "sweep", "()V"⟩, 20) := ⟨⟨by decide +kernel, by decide +kernel⟩, List.mem_of_getElem? (i := 761) (by decide +kernel), List.mem_of_getElem? (i := 863) (by decide +kernel), List.mem_of_getElem? (i := 864) (by decide +kernel)⟩
theorem lw_p18 : lw_okq (⟨"PairNamesModel", "inRow", "(I)I"⟩, 20) := ⟨⟨by decide +kernel, by decide +kernel⟩, List.mem_of_getElem? (i := 761) (by decide +kernel), List.mem_of_getElem? (i := 867) (by decide +kernel), List.mem_of_getElem? (i := 868) (by decide +kernel)⟩
theorem lw_p19 : lw_okq (⟨"PairNamesModel", "inPairs", "(I)I"⟩, 20) := ⟨⟨by decide +kernel, by decide +kernel⟩, List.mem_of_getElem? (i := 761) (by decide +kernel), List.mem_of_getElem? (i := 871) (by decide +kernel), List.mem_of_getElem? (i := 872) (by decide +kernel)⟩
theorem lw_p20 : lw_okq (⟨"PairNamesModel", "first", "(I)I"⟩, 20) := ⟨⟨by decide +kernel, by decide +kernel⟩, List.mem_of_getElem? (i := 761) (by decide +kernel), List.mem_of_getElem? (i := 875) (by decide +kernel), List.mem_of_getElem? (i := 876) (by decide +kernel)⟩
theorem lw_p21 : lw_okq (⟨"PairNamesModel", "second", "(I)I"⟩, 20) := ⟨⟨by decide +kernel, by decide +kernel⟩, List.mem_of_getElem? (i := 761) (by decide +kernel), List.mem_of_getElem? (i := 879) (by decide +kernel), List.mem_of_getElem? (i := 880) (by decide +kernel)⟩
theorem lw_p22 : lw_okq (⟨"PairNamesModel", "names", "()I"⟩, 20) := ⟨⟨by decide +kernel, by decide +kernel⟩, List.mem_of_getElem? (i := 761) (by decide +kernel), List.mem_of_getElem? (i := 883) (by decide +kernel), List.mem_of_getElem? (i := 884) (by decide +kernel)⟩
theorem lw_p23 : lw_okq (⟨"PairNamesModel", "openAt", "(I)V"⟩, 20) := ⟨⟨by decide +kernel, by decide +kernel⟩, List.mem_of_getElem? (i := 761) (by decide +kernel), List.mem_of_getElem? (i := 891) (by decide +kernel), List.mem_of_getElem? (i := 892) (by decide +kernel)⟩
theorem lw_p24 : lw_okq (⟨"PairNamesModel", "step", "()I"⟩, 20) := ⟨⟨by decide +kernel, by decide +kernel⟩, List.mem_of_getElem? (i := 761) (by decide +kernel), List.mem_of_getElem? (i := 899) (by decide +kernel), List.mem_of_getElem? (i := 900) (by decide +kernel)⟩
theorem lw_p25 : lw_okq (⟨"PairNamesModel", "find", "()V"⟩, 20) := ⟨⟨by decide +kernel, by decide +kernel⟩, List.mem_of_getElem? (i := 761) (by decide +kernel), List.mem_of_getElem? (i := 903) (by decide +kernel), List.mem_of_getElem? (i := 904) (by decide +kernel)⟩
theorem lw_p26 : lw_okq (⟨"PairNamesModel", "occurs", "(II)I"⟩, 20) := ⟨⟨by decide +kernel, by decide +kernel⟩, List.mem_of_getElem? (i := 761) (by decide +kernel), List.mem_of_getElem? (i := 907) (by decide +kernel), List.mem_of_getElem? (i := 908) (by decide +kernel)⟩
theorem lw_p27 : lw_okq (⟨"PairNamesModel", "steps", "()I"⟩, 20) := ⟨⟨by decide +kernel, by decide +kernel⟩, List.mem_of_getElem? (i := 761) (by decide +kernel), List.mem_of_getElem? (i := 915) (by decide +kernel), List.mem_of_getElem? (i := 916) (by decide +kernel)⟩
theorem lw_p28 : lw_okq (⟨"PairNamesModel", "mayGo", "(I)Z"⟩, 20) := ⟨⟨by decide +kernel, by decide +kernel⟩, List.mem_of_getElem? (i := 761) (by decide +kernel), List.mem_of_getElem? (i := 923) (by decide +kernel), List.mem_of_getElem? (i := 924) (by decide +kernel)⟩
theorem lw_p29 : lw_okq (⟨"PairNamesModel", "layOut", "()V"⟩, 20) := ⟨⟨by decide +kernel, by decide +kernel⟩, List.mem_of_getElem? (i := 761) (by decide +kernel), List.mem_of_getElem? (i := 931) (by decide +kernel), List.mem_of_getElem? (i := 932) (by decide +kernel)⟩
theorem lw_p30 : lw_okq (⟨"PairNamesModel", "layOne", "(III)V"⟩, 20) := ⟨⟨by decide +kernel, by decide +kernel⟩, List.mem_of_getElem? (i := 761) (by decide +kernel), List.mem_of_getElem? (i := 935) (by decide +kernel), List.mem_of_getElem? (i := 936) (by decide +kernel)⟩
theorem lw_p31 : lw_okq (⟨"PairNamesModel", "textLong", "()I"⟩, 20) := ⟨⟨by decide +kernel, by decide +kernel⟩, List.mem_of_getElem? (i := 761) (by decide +kernel), List.mem_of_getElem? (i := 939) (by decide +kernel), List.mem_of_getElem? (i := 940) (by decide +kernel)⟩
def lw_privs_2 : List (MethodName × Nat) := [(⟨"PairNamesModel", "isPart", "(I)Z"⟩, 20), (⟨"PairNamesModel", "sweep", "()V"⟩, 20), (⟨"PairNamesModel", "inRow", "(I)I"⟩, 20), (⟨"PairNamesModel", "inPairs", "(I)I"⟩, 20), (⟨"PairNamesModel", "first", "(I)I"⟩, 20), (⟨"PairNamesModel", "second", "(I)I"⟩, 20), (⟨"PairNamesModel", "names", "()I"⟩, 20), (⟨"PairNamesModel", "openAt", "(I)V"⟩, 20), (⟨"PairNamesModel", "step", "()I"⟩, 20), (⟨"PairNamesModel", "find", "()V"⟩, 20), (⟨"PairNamesModel", "occurs", "(II)I"⟩, 20), (⟨"PairNamesModel", "steps", "()I"⟩, 20), (⟨"PairNamesModel", "mayGo", "(I)Z"⟩, 20), (⟨"PairNamesModel", "layOut", "()V"⟩, 20), (⟨"PairNamesModel", "layOne", "(III)V"⟩, 20), (⟨"PairNamesModel", "textLong", "()I"⟩, 20)]
theorem lw_r2 : ∀ q ∈ lw_privs_2, lw_okq q := List.forall_mem_cons.mpr ⟨lw_p16, List.forall_mem_cons.mpr ⟨lw_p17, List.forall_mem_cons.mpr ⟨lw_p18, List.forall_mem_cons.mpr ⟨lw_p19, List.forall_mem_cons.mpr ⟨lw_p20, List.forall_mem_cons.mpr ⟨lw_p21, List.forall_mem_cons.mpr ⟨lw_p22, List.forall_mem_cons.mpr ⟨lw_p23, List.forall_mem_cons.mpr ⟨lw_p24, List.forall_mem_cons.mpr ⟨lw_p25, List.forall_mem_cons.mpr ⟨lw_p26, List.forall_mem_cons.mpr ⟨lw_p27, List.forall_mem_cons.mpr ⟨lw_p28, List.forall_mem_cons.mpr ⟨lw_p29, List.forall_mem_cons.mpr ⟨lw_p30, List.forall_mem_cons.mpr ⟨lw_p31, fun _ h => absurd h List.not_mem_nil⟩⟩⟩⟩⟩⟩⟩⟩⟩⟩⟩⟩⟩⟩⟩⟩
theorem lw_p32 : lw_okq (⟨"PairNamesModel", "signAt", "(I)I"⟩, 20) := ⟨⟨by decide +kernel, by decide +kernel⟩, List.mem_of_getElem? (i := 761) (by decide +kernel), List.mem_of_getElem? (i := 971) (by decide +kernel), List.mem_of_getElem? (i := 972) (by decide +kernel)⟩
theorem lw_p33 : lw_okq (⟨"PairNamesModel", "aboutOf", "(II)I"⟩, 20) := ⟨⟨by decide +kernel, by decide +kernel⟩, List.mem_of_getElem? (i := 761) (by decide +kernel), List.mem_of_getElem? (i := 979) (by decide +kernel), List.mem_of_getElem? (i := 980) (by decide +kernel)⟩
theorem lw_p34 : lw_okq (⟨"PairNamesModel", "nextOf", "(I)I"⟩, 20) := ⟨⟨by decide +kernel, by decide +kernel⟩, List.mem_of_getElem? (i := 761) (by decide +kernel), List.mem_of_getElem? (i := 991) (by decide +kernel), List.mem_of_getElem? (i := 992) (by decide +kernel)⟩
theorem lw_p35 : lw_okq (⟨"PairNamesModel", "counted", "(I)I"⟩, 20) := ⟨⟨by decide +kernel, by decide +kernel⟩, List.mem_of_getElem? (i := 761) (by decide +kernel), List.mem_of_getElem? (i := 999) (by decide +kernel), List.mem_of_getElem? (i := 1000) (by decide +kernel)⟩
theorem lw_p36 : lw_okq (⟨"PairNamesModel", "unlike", "()I"⟩, 20) := ⟨⟨by decide +kernel, by decide +kernel⟩, List.mem_of_getElem? (i := 761) (by decide +kernel), List.mem_of_getElem? (i := 1003) (by decide +kernel), List.mem_of_getElem? (i := 1004) (by decide +kernel)⟩
theorem lw_p37 : lw_okq (⟨"PairNamesModel", "deepest", "()I"⟩, 20) := ⟨⟨by decide +kernel, by decide +kernel⟩, List.mem_of_getElem? (i := 761) (by decide +kernel), List.mem_of_getElem? (i := 1007) (by decide +kernel), List.mem_of_getElem? (i := 1008) (by decide +kernel)⟩
theorem lw_p38 : lw_okq (⟨"PairNamesModel", "size", "()I"⟩, 20) := ⟨⟨by decide +kernel, by decide +kernel⟩, List.mem_of_getElem? (i := 761) (by decide +kernel), List.mem_of_getElem? (i := 1011) (by decide +kernel), List.mem_of_getElem? (i := 1012) (by decide +kernel)⟩
theorem lw_p39 : lw_okq (⟨"PairNamesModel", "timesOf", "(I)I"⟩, 20) := ⟨⟨by decide +kernel, by decide +kernel⟩, List.mem_of_getElem? (i := 761) (by decide +kernel), List.mem_of_getElem? (i := 1019) (by decide +kernel), List.mem_of_getElem? (i := 1020) (by decide +kernel)⟩
theorem lw_p40 : lw_okq (⟨"PairNamesModel", "named", "(I)I"⟩, 20) := ⟨⟨by decide +kernel, by decide +kernel⟩, List.mem_of_getElem? (i := 761) (by decide +kernel), List.mem_of_getElem? (i := 1031) (by decide +kernel), List.mem_of_getElem? (i := 1032) (by decide +kernel)⟩
theorem lw_p41 : lw_okq (⟨"PairNamesModel", "putAside", "()V"⟩, 20) := ⟨⟨by decide +kernel, by decide +kernel⟩, List.mem_of_getElem? (i := 761) (by decide +kernel), List.mem_of_getElem? (i := 1035) (by decide +kernel), List.mem_of_getElem? (i := 1036) (by decide +kernel)⟩
theorem lw_p42 : lw_okq (⟨"PairNamesModel", "putBack", "()V"⟩, 20) := ⟨⟨by decide +kernel, by decide +kernel⟩, List.mem_of_getElem? (i := 761) (by decide +kernel), List.mem_of_getElem? (i := 1039) (by decide +kernel), List.mem_of_getElem? (i := 1040) (by decide +kernel)⟩
theorem lw_p43 : lw_okq (⟨"PairNamesModel", "best", "()I"⟩, 20) := ⟨⟨by decide +kernel, by decide +kernel⟩, List.mem_of_getElem? (i := 761) (by decide +kernel), List.mem_of_getElem? (i := 1047) (by decide +kernel), List.mem_of_getElem? (i := 1048) (by decide +kernel)⟩
theorem lw_p44 : lw_okq (⟨"PairNamesModel", "share", "()D"⟩, 20) := ⟨⟨by decide +kernel, by decide +kernel⟩, List.mem_of_getElem? (i := 761) (by decide +kernel), List.mem_of_getElem? (i := 1055) (by decide +kernel), List.mem_of_getElem? (i := 1056) (by decide +kernel)⟩
theorem lw_p45 : lw_okq (⟨"PairNamesModel", "digestOne", "(J)V"⟩, 20) := ⟨⟨by decide +kernel, by decide +kernel⟩, List.mem_of_getElem? (i := 761) (by decide +kernel), List.mem_of_getElem? (i := 1064) (by decide +kernel), List.mem_of_getElem? (i := 1065) (by decide +kernel)⟩
def lw_privs_3 : List (MethodName × Nat) := [(⟨"PairNamesModel", "signAt", "(I)I"⟩, 20), (⟨"PairNamesModel", "aboutOf", "(II)I"⟩, 20), (⟨"PairNamesModel", "nextOf", "(I)I"⟩, 20), (⟨"PairNamesModel", "counted", "(I)I"⟩, 20), (⟨"PairNamesModel", "unlike", "()I"⟩, 20), (⟨"PairNamesModel", "deepest", "()I"⟩, 20), (⟨"PairNamesModel", "size", "()I"⟩, 20), (⟨"PairNamesModel", "timesOf", "(I)I"⟩, 20), (⟨"PairNamesModel", "named", "(I)I"⟩, 20), (⟨"PairNamesModel", "putAside", "()V"⟩, 20), (⟨"PairNamesModel", "putBack", "()V"⟩, 20), (⟨"PairNamesModel", "best", "()I"⟩, 20), (⟨"PairNamesModel", "share", "()D"⟩, 20), (⟨"PairNamesModel", "digestOne", "(J)V"⟩, 20)]
theorem lw_r3 : ∀ q ∈ lw_privs_3, lw_okq q := List.forall_mem_cons.mpr ⟨lw_p32, List.forall_mem_cons.mpr ⟨lw_p33, List.forall_mem_cons.mpr ⟨lw_p34, List.forall_mem_cons.mpr ⟨lw_p35, List.forall_mem_cons.mpr ⟨lw_p36, List.forall_mem_cons.mpr ⟨lw_p37, List.forall_mem_cons.mpr ⟨lw_p38, List.forall_mem_cons.mpr ⟨lw_p39, List.forall_mem_cons.mpr ⟨lw_p40, List.forall_mem_cons.mpr ⟨lw_p41, List.forall_mem_cons.mpr ⟨lw_p42, List.forall_mem_cons.mpr ⟨lw_p43, List.forall_mem_cons.mpr ⟨lw_p44, List.forall_mem_cons.mpr ⟨lw_p45, fun _ h => absurd h List.not_mem_nil⟩⟩⟩⟩⟩⟩⟩⟩⟩⟩⟩⟩⟩⟩
def lw_privs : List (MethodName × Nat) := lw_privs_1 ++ (lw_privs_2 ++ (lw_privs_3))
def lw_tbl : List Cond := k2_sels lw_privs ++ tables_1
theorem lw_privs_ok : ∀ q ∈ lw_privs, lw_okq q := by
  show ∀ q ∈ lw_privs_1 ++ (lw_privs_2 ++ (lw_privs_3)), lw_okq q
  exact List.forall_mem_append.mpr ⟨lw_r1, List.forall_mem_append.mpr ⟨lw_r2, lw_r3⟩⟩
/-- the streams that the claim lets the run draw from -/
abbrev lw_cs : List Choice := [Jvm.Choice.named "NaN.bits"]
theorem lw_bits : nanBits ∈ lw_cs := by first | decide | exact List.mem_cons_self | simp [lw_cs, nanBits]

/-! ===== BEGIN words of one list among another's, by their places ===== -/
theorem goodIn_r {big : List Cond} (ws : List Cond) (ps : List Nat) (hp : ws = ps.filterMap (fun i => big[i]?)) (h : ws.all goodWord = true) : GoodIn big ws := by
  intro w hw
  have h1 := List.all_eq_true.mp h w hw
  rw [hp] at hw
  obtain ⟨i, -, hi⟩ := List.mem_filterMap.mp hw
  have hm : w ∈ big := by first | exact List.mem_of_getElem? hi | exact List.getElem?_mem hi
  exact ⟨hm, good_of_word h1⟩
theorem goodIn_app {big a b : List Cond} (ha : GoodIn big a) (hb : GoodIn big b) : GoodIn big (a ++ b) := fun w h => (List.mem_append.mp h).elim (ha w) (hb w)
theorem goodIn_ca {big a b : List Cond} {c : Cond} (ha : GoodIn big (c :: a)) (hb : GoodIn big b) : GoodIn big (c :: (a ++ b)) := fun w h => (List.mem_cons.mp h).elim (fun e => ha w (List.mem_cons.mpr (Or.inl e))) (fun h => (List.mem_append.mp h).elim (fun h => ha w (List.mem_cons.mpr (Or.inr h))) (hb w))
theorem goodIn_sub {big ws : List Cond} (hm : ∀ w ∈ ws, w ∈ big) (h : ws.all goodWord = true) : GoodIn big ws := fun w hw => ⟨hm w hw, good_of_word (List.all_eq_true.mp h w hw)⟩
/-! ===== END ===== -/

/-! ===== BEGIN exceptions that leave a method, and their catching by the caller (launches without stack traces) ===== -/
section VXA
/-! The laws vx_back, vx_callV, vx_callS, vx_callSW, vx_throw0, vx_throwS follow proofs of the library, with one case more: JvmDerived/Free/Laws.lean (Back.of_free), Shelf42/LK1.lean (callV, callS), Shelf/KitTraced.lean (throwNew0V, throwNewS). -/
/-- where a method has thrown q: the class by its name, the cell, what was written, the world -/
def vx_T (XC : String → State → State → Prop) (st : State) (q : Addr) (t : State) (mc ms : Nat) (free : Addr → Prop) : Prop :=
  ∃ (E : String) (ce : Cell) (L : List Loc), XC E st t ∧ t.heap[q]? = some ce ∧ ce.vm = .none ∧ st.vm.findClass E = some ce.cls ∧ st.WarmedH t.vm ∧ st.sameButNew ({ t with vm := st.vm } : State) L mc ms ∧ ∀ z ∈ L, free z.base
def vx_Q (Qc : Array Value → State → Outcome → State → Prop) (XC : String → State → State → Prop) (mc ms : Nat) (free : Addr → Prop) : Array Value → State → Outcome → State → Prop := fun a st o t =>
  (Qc a st o t ∧ ∃ L, FrameEnd st o t L mc ms ∧ ∀ q ∈ L, free q.base) ∨ ∃ q, o = .threw q ∧ vx_T XC st q t mc ms free
/-- a callee that returns or throws -/
def vx_Met (l : Launch) (y : MethodName) (ws : List Cond) (rm : Room) (Pc : Array Value → State → Prop) (Qc : Array Value → State → Outcome → State → Prop) (XC : String → State → State → Prop) (mc ms : Nat) (free : Addr → Prop) : Prop :=
  MetFree l y (headSpec ws rm) Pc (fun _ _ _ _ _ => True) (vx_Q Qc XC mc ms free)
def vx_Post (XC : String → State → State → Prop) (mc ms : Nat) (free : Addr → Prop) : Pt → Array Value → Addr → Pt → Prop := fun A a q B =>
  ∃ (g : JFrame) (mk : MethodId) (t : State) (L : List Loc) (E : String) (ce : Cell), B.U.heap = t.heap ∧ B.U.vm = t.vm ∧ XC E (A.U.calling g mk a) t ∧ t.heap[q]? = some ce ∧ ce.vm = .none ∧ A.U.vm.findClass E = some ce.cls ∧ B.locs = A.locs ++ L ∧ (∀ z ∈ L, free z.base) ∧ B.cells = A.cells + mc ∧ B.slots = A.slots + ms
def vx_Back (l : Launch) (R : Room) (p : Program) (e : Env) (below : List Frame) (s : State) (sargs : Array Value) (y : MethodName) (len W9 : Nat)
    (Pre : Pt → Array Value → Prop) (Post : Pt → Array Value → Option Value → Pt → Prop) (PostX : Pt → Array Value → Addr → Pt → Prop) : Prop :=
  ∀ (m : MethodId) (meth : Method) (c : Code) (A : Pt) (g : JFrame) (ig : Instr) (mk : MethodId) (a : Array Value),
    Stand p l e R s m sargs below meth c A.U A.locs A.cells A.slots → g.method = m → g.locals.size = c.maxLocals → decode c.code g.pc = .ok (ig, len) →
    2 * g.monitorRoom + (g.stack.map fun v => v.category).sum ≤ W9 → A.U.methodNamed? y = some mk → Pre A a →
    (∃ (v : Option Value) (B : Pt), Stand p l e R s m sargs below meth c B.U B.locs B.cells B.slots ∧ Post A a v B ∧
      Steps p.tables e below (doInvoke e (A.U.setTop g) [] mk a).1 (B.U.setTop { g with pc := g.pc + len, stack := v.toList ++ g.stack })) ∨
    (∃ (q : Addr) (B : Pt), Stand p l e R s m sargs below meth c B.U B.locs B.cells B.slots ∧ PostX A a q B ∧
      Steps p.tables e below (doInvoke e (A.U.setTop g) [] mk a).1 ((B.U.setTop g).pushFrame (.throwing q)))
section Payer
variable {l : Launch} {R : Room} {p : Program} {e : Env} {below : List Frame} {s : State} {sargs : Array Value} {y : MethodName} {len W9 : Nat}
theorem vx_back {ws : List Cond} {rm : Room} {Pc : Array Value → State → Prop} {Qc : Array Value → State → Outcome → State → Prop} {XC : String → State → State → Prop} {mc ms : Nat} {free : Addr → Prop} {bytes : ByteArray} {maxL : Nat} {ret : Option FieldType}
    (hM : vx_Met l y ws rm Pc Qc XC mc ms free) (hblind : FrameBlind Pc) (hrc : rm.cells = mc) (hrs : rm.slots = ms)
    (hframes : rm.frames + 1 ≤ R.frames) (hlocals : W9 + (maxL + 11) + rm.locals ≤ R.locals)
    (hws : ∀ w ∈ ws, ∀ a' U, s.WarmedH U.vm → w.before a' U = true) (hcode : Cond.code y bytes maxL ret ∈ ws) (hinit : ∀ a' U, s.WarmedH U.vm → (Cond.initialized y.cls).before a' U = true) :
    vx_Back l R p e below s sargs y len W9 (PreOf R mc ms Pc) (PostOf Qc mc ms free) (vx_Post XC mc ms free) := by
  intro m meth c A g ig mk a X hg hsize hdg hW hn hp
  have h1 : (headSpec ws rm).pre.before a A.U = true := atoms_intro fun w hw => hws w hw _ _ X.warmed
  have h2 : (Cond.code y bytes maxL ret).before a A.U = true := hws _ hcode _ _ X.warmed
  have h3 : (Cond.initialized y.cls).before a A.U = true := hinit _ _ X.warmed
  have h4 : A.cells + (headSpec ws rm).room.cells ≤ R.cells := by rw [show (headSpec ws rm).room.cells = mc from hrc]; exact hp.1
  have h5 : A.slots + (headSpec ws rm).room.slots ≤ R.slots := by rw [show (headSpec ws rm).room.slots = ms from hrs]; exact hp.2.1
  have hPc : Pc a (A.U.calling g mk a) := hblind _ _ _ _ hp.2.2
  obtain ⟨U, Ls, c0, s0⟩ := A
  dsimp only [Pt.U, Pt.locs, Pt.cells, Pt.slots] at h1 h2 h3 h4 h5 X hn hPc ⊢
  obtain ⟨methY, cY, hmY, hcY, -, hlY, -, -, -, -⟩ := Cond.code_spec hn h2
  obtain ⟨kY, hkY, -⟩ := className_of_methodNamed hn
  have hinitY : kY.init = .initialized := Cond.initialized_spec (findClass_of_methodNamed hn) hkY h3
  have h : At U g.method c below := by rw [hg]; exact X.here
  have hlocals9 : W9 + (maxL + 11) + (headSpec ws rm).room.locals ≤ R.locals := hlocals
  have happ : (headSpec ws rm).appliesLoose y e.platform (U.calling g mk a) = true :=
    Spec.appliesLoose_calling (g := g) h hdg hn hkY hinitY
      (X.room_calling (g := g) (R' := (headSpec ws rm).room) hsize hmY hcY hframes (by rw [hlY]; omega) h4 h5) h1
  obtain ⟨mid, hmid⟩ := h.above
  have hfr : (U.setTop g).frames = (.java g :: mid) ++ below := by rw [State.frames_setTop' g h.top, hmid]; rfl
  obtain ⟨o, s₂, hsteps, -, hend, hq⟩ := Steps.callFree hM p X.admits X.cas X.clock (acts := []) hfr happ hPc trivial
  have hq' : vx_Q Qc XC mc ms free a (U.calling g mk a) o s₂ := hq
  rw [State.frames_setTop' g h.top] at hend
  obtain ⟨g₀, hg0⟩ := Option.isSome_iff_exists.mp h.top
  obtain ⟨r, hr⟩ := State.topJava?_eq_some.mp hg0
  have hr' : (({ U with heap := s₂.heap, slotsUsed := s₂.slotsUsed } : State).setVm s₂.vm).frames = .java g₀ :: r := hr
  rcases hq' with ⟨hqc, L, hfe, hL⟩ | ⟨q, rfl, E, ce, L, hx, hce, hcv, hcl, hW₂, hsm, hL⟩
  · obtain ⟨⟨v, rfl⟩, hW₂, e2, q2, q3, q4, q5, q6⟩ := id hfe
    have e3 : s₂ = ({ (U.calling g mk a).setFrames s₂.frames with heap := s₂.heap, slotsUsed := s₂.slotsUsed } : State).setVm s₂.vm := by
      have : s₂ = ({ s₂ with vm := (U.calling g mk a).vm } : State).setVm s₂.vm := rfl
      rw [e2] at this
      exact this
    obtain ⟨c₂, i₂, len₂, hc₂, hd₂, hf₂⟩ := hend
    have hW' : U.WarmedH s₂.vm := hW₂
    have hcc : c₂ = c := by
      have h1 : s₂.code? g.method = U.code? g.method := by
        rw [State.code?_eq, State.code?_eq, hW'.alike.method?]
      exact Option.some.inj (hc₂.symm.trans (h1.trans h.code))
    subst hcc
    have hlen : len₂ = len := by rw [hdg] at hd₂; cases hd₂; rfl
    subst hlen
    have hs₂ : s₂ = (({ U with heap := s₂.heap, slotsUsed := s₂.slotsUsed } : State).setVm s₂.vm).setTop { g with pc := g.pc + len₂, stack := v.toList ++ g.stack } := by
      refine e3.trans ?_
      rw [hf₂, State.calling_eq h.top, State.setFrames_setFrames, State.setTop_of_frames _ hr', hr]
      rfl
    have hsame : U.sameButNew ({ U with heap := s₂.heap, slotsUsed := s₂.slotsUsed } : State) L mc ms := by
      refine ⟨?_, q2, q3, q4, q5, q6⟩
      obtain ⟨t, ht, -⟩ := State.frames_cons hr
      show ({ U with heap := s₂.heap, slotsUsed := s₂.slotsUsed } : State) = { U.setFrames U.frames with heap := s₂.heap, slotsUsed := s₂.slotsUsed }
      rw [State.setFrames_self ht]
    subst hg
    refine Or.inl ⟨v, ⟨(({ U with heap := s₂.heap, slotsUsed := s₂.slotsUsed } : State).setVm s₂.vm), Ls ++ L, c0 + mc, s0 + ms⟩,
      ⟨X.admits, X.cas, X.clock, X.frames, X.room, X.hears, X.method, X.code, (X.here.setHeapUsed s₂.heap s₂.slotsUsed).setVm hW'.alike, X.tail, State.WarmedH.trans X.warmed hW', X.limits, X.bytes, X.same.trans (hsame.setVm s.vm)⟩,
      ⟨g, mk, s₂, L, rfl, rfl, hqc, rfl, hL, rfl, rfl⟩, ?_⟩
    show Steps p.tables e below _ ((({ U with heap := s₂.heap, slotsUsed := s₂.slotsUsed } : State).setVm s₂.vm).setTop { g with pc := g.pc + len₂, stack := v.toList ++ g.stack })
    rw [← hs₂]
    exact hsteps
  · obtain ⟨e2, q2, q3, q4, q5, q6⟩ := id hsm
    have e3 : s₂ = ({ (U.calling g mk a).setFrames s₂.frames with heap := s₂.heap, slotsUsed := s₂.slotsUsed } : State).setVm s₂.vm := by
      have : s₂ = ({ s₂ with vm := (U.calling g mk a).vm } : State).setVm s₂.vm := rfl
      rw [e2] at this
      exact this
    have hf₂ : s₂.frames = .throwing q :: .java g :: U.frames.tail := hend
    have hW' : U.WarmedH s₂.vm := hW₂
    have hs₂ : s₂ = ((({ U with heap := s₂.heap, slotsUsed := s₂.slotsUsed } : State).setVm s₂.vm).setTop g).pushFrame (.throwing q) := by
      refine e3.trans ?_
      rw [hf₂, State.calling_eq h.top, State.setFrames_setFrames, State.pushFrame, State.frames_setTop _ hr', State.setTop_of_frames _ hr', State.setFrames_setFrames, hr]
      rfl
    have hsame : U.sameButNew ({ U with heap := s₂.heap, slotsUsed := s₂.slotsUsed } : State) L mc ms := by
      refine ⟨?_, q2, q3, q4, q5, q6⟩
      obtain ⟨t, ht, -⟩ := State.frames_cons hr
      show ({ U with heap := s₂.heap, slotsUsed := s₂.slotsUsed } : State) = { U.setFrames U.frames with heap := s₂.heap, slotsUsed := s₂.slotsUsed }
      rw [State.setFrames_self ht]
    subst hg
    refine Or.inr ⟨q, ⟨(({ U with heap := s₂.heap, slotsUsed := s₂.slotsUsed } : State).setVm s₂.vm), Ls ++ L, c0 + mc, s0 + ms⟩,
      ⟨X.admits, X.cas, X.clock, X.frames, X.room, X.hears, X.method, X.code, (X.here.setHeapUsed s₂.heap s₂.slotsUsed).setVm hW'.alike, X.tail, State.WarmedH.trans X.warmed hW', X.limits, X.bytes, X.same.trans (hsame.setVm s.vm)⟩,
      ⟨g, mk, s₂, L, E, ce, rfl, rfl, hx, hce, hcv, hcl, rfl, hL, rfl, rfl⟩, ?_⟩
    show Steps p.tables e below _ (((({ U with heap := s₂.heap, slotsUsed := s₂.slotsUsed } : State).setVm s₂.vm).setTop g).pushFrame (.throwing q))
    rw [← hs₂]
    exact hsteps
end Payer
section Calls
variable {p : Program} {l : Launch} {e : Env} {R : Room} {s : State} {m : MethodId} {args : Array Value} {below : List Frame} {meth : Method} {c : Code} {T : State} {locs : List Loc} {cells slots : Nat}
theorem vx_callV (X : Stand p l e R s m args below meth c T locs cells slots) (hexec : p.tables.exec = Jvm.exec) {own C : String} {index : Nat} {y : MethodName} {bytes : ByteArray} {maxL : Nat} {ret : Option FieldType}
    (hown : s.vm.findClass own = some m.cls) (hlink : (Cond.methodLink own index y).before args s = true) (hinst : (Cond.instanceMethod y).before args s = true) (hsel : (Cond.selects C y y).before args s = true)
    (hcode : (Cond.code y bytes maxL ret).before args s = true) (hy : y.cls ≠ "java/lang/invoke/MethodHandle" ∧ y.cls ≠ "java/lang/invoke/VarHandle")
    {W9 : Nat} {Pre : Pt → Array Value → Prop} {Post : Pt → Array Value → Option Value → Pt → Prop} {PostX : Pt → Array Value → Addr → Pt → Prop} (hK : vx_Back l R p e below s args y 3 W9 Pre Post PostX)
    {b : Addr} {cellB : Cell} (hcell : T.heap[b]? = some cellB) (hobj : cellB.vm.isStatics = false) (hcls : s.vm.findClass C = some cellB.cls)
    {g : JFrame} (hg : g.method = m) (hsize : g.locals.size = c.maxLocals) {argsL rest : List Value} (hlen : ∀ sig, parseMethodDescriptor y.desc = some sig → argsL.length = sig.parameters.length)
    (hstack : g.stack = argsL.reverse ++ .ref b :: rest) (hW : 2 * g.monitorRoom + (rest.map fun v => v.category).sum ≤ W9) (hdg : decode c.code g.pc = .ok (.invokevirtual index, 3))
    (hpre : ∀ vm₁, s.WarmedH vm₁ → Pre ⟨T.setVm vm₁, locs, cells, slots⟩ (Value.ref b :: argsL).toArray) :
    (∃ (v : Option Value) (vm₁ : Vm) (B : Pt), s.WarmedH vm₁ ∧ Stand p l e R s m args below meth c B.U B.locs B.cells B.slots ∧ Post ⟨T.setVm vm₁, locs, cells, slots⟩ (Value.ref b :: argsL).toArray v B ∧
      ∀ target, Steps p.tables e below (B.U.setTop { g with pc := g.pc + 3, stack := v.toList ++ rest }) target → Steps p.tables e below (T.setTop g) target) ∨
    (∃ (q : Addr) (vm₁ : Vm) (B : Pt), s.WarmedH vm₁ ∧ Stand p l e R s m args below meth c B.U B.locs B.cells B.slots ∧ PostX ⟨T.setVm vm₁, locs, cells, slots⟩ (Value.ref b :: argsL).toArray q B ∧
      Steps p.tables e below (T.setTop g) ((B.U.setTop { g with stack := rest }).pushFrame (.throwing q))) := by
  obtain ⟨mk, methM, hnamed, hmethM, hstM, habM⟩ := Cond.instanceMethod_spec hinst
  obtain ⟨methM', cM, hmethM', -, -, -, -, -, -, hsigM⟩ := Cond.code_spec hnamed hcode
  cases hmethM.symm.trans hmethM'
  obtain ⟨c2, r2, m2, q1, q2, q3, q4, kP, hkP, hkPi⟩ := Cond.selects_spec hsel
  cases hcls.symm.trans q1
  cases (State.methodFound?_of_named hnamed hy).symm.trans q2
  cases hnamed.symm.trans q3
  have hselP : selectMethod e.platform s.vm cellB.cls mk = .method mk := by rw [Launch.admits_selectMethod X.admits]; exact q4
  obtain ⟨vm₁, X₁, hstep₁⟩ := X.invokevirtual hexec hown hlink hnamed hmethM hstM hkP hkPi hy (a := b) (cell := cellB) hcell
    (fun z h => by rw [h] at hobj; cases hobj) hselP hmethM habM hkP hkPi (g := g) hg (argsL := argsL) (rest := rest) (hlen _ hsigM) hstack hdg
  rcases hK m meth c ⟨T.setVm vm₁, locs, cells, slots⟩ { g with stack := rest } (.invokevirtual index) mk (Value.ref b :: argsL).toArray X₁ hg hsize hdg hW (X₁.named hnamed) (hpre vm₁ X₁.warmed) with ⟨v, B, X', hpost, hsteps⟩ | ⟨q, B, X', hpost, hsteps⟩
  · exact Or.inl ⟨v, vm₁, B, X₁.warmed, X', hpost, fun target h => hstep₁ _ fun acts => by rw [doInvoke_state]; exact hsteps.trans h⟩
  · exact Or.inr ⟨q, vm₁, B, X₁.warmed, X', hpost, hstep₁ _ fun acts => by rw [doInvoke_state]; exact hsteps⟩
theorem vx_callS (X : Stand p l e R s m args below meth c T locs cells slots) (hexec : p.tables.exec = Jvm.exec) {own : String} {index : Nat} {y : MethodName} {bytes : ByteArray} {maxL : Nat} {ret : Option FieldType}
    (hown : s.vm.findClass own = some m.cls) (hlink : (Cond.methodLink own index y).before args s = true) (hstat : (Cond.static y).before args s = true) (hinit : (Cond.initialized y.cls).before args s = true)
    (hcode : (Cond.code y bytes maxL ret).before args s = true) (hy : y.cls ≠ "java/lang/invoke/MethodHandle" ∧ y.cls ≠ "java/lang/invoke/VarHandle")
    {W9 : Nat} {Pre : Pt → Array Value → Prop} {Post : Pt → Array Value → Option Value → Pt → Prop} {PostX : Pt → Array Value → Addr → Pt → Prop} (hK : vx_Back l R p e below s args y 3 W9 Pre Post PostX)
    {g : JFrame} (hg : g.method = m) (hsize : g.locals.size = c.maxLocals) {argsL rest : List Value} (hlen : ∀ sig, parseMethodDescriptor y.desc = some sig → argsL.length = sig.parameters.length)
    (hstack : g.stack = argsL.reverse ++ rest) (hW : 2 * g.monitorRoom + (rest.map fun v => v.category).sum ≤ W9) (hdg : decode c.code g.pc = .ok (.invokestatic index, 3))
    (hpre : ∀ vm₁, s.WarmedH vm₁ → Pre ⟨T.setVm vm₁, locs, cells, slots⟩ argsL.toArray) :
    (∃ (v : Option Value) (vm₁ : Vm) (B : Pt), s.WarmedH vm₁ ∧ Stand p l e R s m args below meth c B.U B.locs B.cells B.slots ∧ Post ⟨T.setVm vm₁, locs, cells, slots⟩ argsL.toArray v B ∧
      ∀ target, Steps p.tables e below (B.U.setTop { g with pc := g.pc + 3, stack := v.toList ++ rest }) target → Steps p.tables e below (T.setTop g) target) ∨
    (∃ (q : Addr) (vm₁ : Vm) (B : Pt), s.WarmedH vm₁ ∧ Stand p l e R s m args below meth c B.U B.locs B.cells B.slots ∧ PostX ⟨T.setVm vm₁, locs, cells, slots⟩ argsL.toArray q B ∧
      Steps p.tables e below (T.setTop g) ((B.U.setTop { g with stack := rest }).pushFrame (.throwing q))) := by
  obtain ⟨mk, hnamed⟩ := Cond.code_named hcode
  obtain ⟨methM, cM, hmethM, -, -, -, -, -, -, hsigM⟩ := Cond.code_spec hnamed hcode
  have hstatic : methM.isStatic = true := Cond.static_spec hnamed hmethM hstat
  obtain ⟨kP, hkP, -⟩ := className_of_methodNamed hnamed
  have hinitP : kP.init = .initialized := Cond.initialized_spec (findClass_of_methodNamed hnamed) hkP hinit
  obtain ⟨vm₁, X₁, hstep₁⟩ := X.invokestatic hexec hown hlink hnamed hmethM hstatic hkP hinitP hy (g := g) hg (argsL := argsL) (rest := rest) (hlen _ hsigM) hstack hdg
  rcases hK m meth c ⟨T.setVm vm₁, locs, cells, slots⟩ { g with stack := rest } (.invokestatic index) mk argsL.toArray X₁ hg hsize hdg hW (X₁.named hnamed) (hpre vm₁ X₁.warmed) with ⟨v, B, X', hpost, hsteps⟩ | ⟨q, B, X', hpost, hsteps⟩
  · exact Or.inl ⟨v, vm₁, B, X₁.warmed, X', hpost, fun target h => hstep₁ _ fun acts => by rw [doInvoke_state]; exact hsteps.trans h⟩
  · exact Or.inr ⟨q, vm₁, B, X₁.warmed, X', hpost, hstep₁ _ fun acts => by rw [doInvoke_state]; exact hsteps⟩
end Calls
theorem vx_cls {s : State} {T : State} {vm₁ : Vm} {E : String} {k : ClassId} (hW : s.WarmedH vm₁) (h : (T.setVm vm₁).vm.findClass E = some k) : s.vm.findClass E = some k := by
  have h1 : vm₁.findClass E = some k := h
  rw [hW.alike.findClass] at h1
  exact h1
/-- the method's frame g, with q thrown over it -/
def vx_W (p : Program) (l : Launch) (e : Env) (R : Room) (s : State) (m : MethodId) (args : Array Value) (below : List Frame) (meth : Method) (c : Code) (H : Heap) (locs : List Loc) (cells slots : Nat) (Q : State → Prop) (g : JFrame) (q : Addr) : Prop :=
  ∀ T : State, T.heap = H → Stand p l e R s m args below meth c T locs cells slots → ∃ t, Steps p.tables e below ((T.setTop g).pushFrame (.throwing q)) t ∧ Q t
def vx_Run (p : Program) (l : Launch) (e : Env) (R : Room) (s : State) (m : MethodId) (args : Array Value) (below : List Frame) (meth : Method) (c : Code) (H : Heap) (locs : List Loc) (cells slots mc ms : Nat) (g : JFrame) (rest : List Value) (Qa : State → Outcome → State → Prop) (XC : String → State → State → Prop) (free : Addr → Prop) : Prop :=
  ∀ T : State, T.heap = H → Stand p l e R s m args below meth c T locs cells slots →
    (∃ (v : Option Value) (st₀ t T' : State) (L : List Loc), st₀.heap = H ∧ Stand p l e R s m args below meth c T' (locs ++ L) (cells + mc) (slots + ms) ∧ (∀ q ∈ L, free q.base) ∧ T'.heap = t.heap ∧ T'.vm = t.vm ∧ Qa st₀ (.returned v) t ∧
      Goes p e below T g T' { g with pc := g.pc + 3, stack := v.toList ++ rest }) ∨
    (∃ (q : Addr) (st₀ t T' : State) (L : List Loc) (E : String) (ce : Cell), st₀.heap = H ∧ Stand p l e R s m args below meth c T' (locs ++ L) (cells + mc) (slots + ms) ∧ (∀ z ∈ L, free z.base) ∧ T'.heap = t.heap ∧ T'.vm = t.vm ∧ XC E st₀ t ∧ t.heap[q]? = some ce ∧ ce.vm = .none ∧ s.vm.findClass E = some ce.cls ∧
      Steps p.tables e below (T.setTop g) ((T'.setTop { g with stack := rest }).pushFrame (.throwing q)))
def vx_X {S : Type} (px : S → Prop) (B : String → S → State → Prop) (A : Nat → Prop) : String → State → State → Prop := fun E st t => ∃ u : S, px u ∧ B E u t ∧ va_F A st t
section Runs
variable {p : Program} {l : Launch} {e : Env} {R : Room} {s : State} {m : MethodId} {args : Array Value} {below : List Frame} {meth : Method} {c : Code} {H : Heap} {locs : List Loc} {cells slots : Nat}
variable {y : MethodName} {bytes cc : ByteArray} {maxL nL mc ms n index : Nat} {ret : Option FieldType} {ws : List Cond} {rm : Room} {Pc : Array Value → State → Prop} {Qc : Array Value → State → Outcome → State → Prop} {XC : String → State → State → Prop} {free : Addr → Prop} {Ts : List Cond} {own C : String} {b : Addr} {As rest : List Value} {g : JFrame}
theorem vx_callBack (cb : CallB R s args own index y bytes maxL ret ws rm mc ms n) (hM : vx_Met l y ws rm Pc Qc XC mc ms free) (hbl : FrameBlind Pc) : vx_Back l R p e below s args y 3 8 (PreOf R mc ms Pc) (PostOf Qc mc ms free) (vx_Post XC mc ms free) := by
  obtain ⟨hrc, hrs, hfr, hlo, hws, hcw, -, hini, -⟩ := cb
  exact vx_back (bytes := bytes) (maxL := maxL) (ret := ret) hM hbl hrc hrs hfr hlo hws hcw (fun a' U hW => word_at hW (Or.inl (by first | rfl | simp [Cond.onTables, Cond.keeps, Cond.steady])) hini)
theorem vx_runV (S : CallFix p m c cc nL s args Ts own) (hM : vx_Met l y ws rm Pc Qc XC mc ms free) (cw : CallW R s args own C index y bytes maxL ret ws rm mc ms n) (hp : PreV s H C b Pc As)
    (hg : g.method = m) (hn : As.length = n) (hsize : g.locals.size = nL) (hstack : g.stack = As.reverse ++ .ref b :: rest) (hW : 2 * g.monitorRoom + (rest.map fun v => v.category).sum ≤ 8) (hdg : decode cc g.pc = .ok (.invokevirtual index, 3)) (hf : cells + mc ≤ R.cells ∧ slots + ms ≤ R.slots) :
    vx_Run p l e R s m args below meth c H locs cells slots mc ms g rest (Qc (Value.ref b :: As).toArray) XC free := by
  have hK : vx_Back l R p e below s args y 3 8 (PreOf R mc ms Pc) (PostOf Qc mc ms free) (vx_Post XC mc ms free) := vx_callBack cw.1 hM hp.1
  obtain ⟨⟨-, -, -, -, -, -, hcode, -, hy, hlen, hl⟩, hin, hse⟩ := cw
  obtain ⟨hx, hb, hml, ho, -⟩ := S
  obtain ⟨-, ⟨cellB, hcB, hoB, hclB⟩, hPc⟩ := hp
  intro T hT X
  rcases vx_callV X hx (C := C) (bytes := bytes) (maxL := maxL) (ret := ret) ho hl hin hse hcode hy hK (by rw [hT]; exact hcB) hoB hclB hg (hsize.trans hml.symm) (argsL := As) (rest := rest) (fun sig h => hn.trans (hlen sig h)) hstack hW (by rw [hb]; exact hdg)
    (fun vm₁ hW₁ => ⟨hf.1, hf.2, hPc (T.setVm vm₁) hT hW₁⟩) with ⟨v, vm₁, ⟨U', l2, c2, s2⟩, hW₁, X', ⟨g', mk, t, L, e1, e2, hq, h1, hL, h2, h3⟩, st⟩ | ⟨q, vm₁, ⟨U', l2, c2, s2⟩, hW₁, X', ⟨g', mk, t, L, E, ce, e1, e2, hq, hce, hcv, hcl, h1, hL, h2, h3⟩, st⟩
  · dsimp only [Pt.U, Pt.locs, Pt.cells, Pt.slots] at X' e1 e2 h1 h2 h3 st
    subst h1; subst h2; subst h3
    exact Or.inl ⟨v, (T.setVm vm₁).calling g' mk (Value.ref b :: As).toArray, t, U', L, hT, X', hL, e1, e2, hq, st⟩
  · dsimp only [Pt.U, Pt.locs, Pt.cells, Pt.slots] at X' e1 e2 h1 h2 h3 st hcl
    subst h1; subst h2; subst h3
    exact Or.inr ⟨q, (T.setVm vm₁).calling g' mk (Value.ref b :: As).toArray, t, U', L, E, ce, hT, X', hL, e1, e2, hq, hce, hcv, vx_cls hW₁ hcl, st⟩
theorem vx_runS (S : CallFix p m c cc nL s args Ts own) (hM : vx_Met l y ws rm Pc Qc XC mc ms free) (cw : CallB R s args own index y bytes maxL ret ws rm mc ms n ∧ (Cond.static y).before args s = true) (hp : PreS s H Pc As)
    (hg : g.method = m) (hn : As.length = n) (hsize : g.locals.size = nL) (hstack : g.stack = As.reverse ++ rest) (hW : 2 * g.monitorRoom + (rest.map fun v => v.category).sum ≤ 8) (hdg : decode cc g.pc = .ok (.invokestatic index, 3)) (hf : cells + mc ≤ R.cells ∧ slots + ms ≤ R.slots) :
    vx_Run p l e R s m args below meth c H locs cells slots mc ms g rest (Qc As.toArray) XC free := by
  have hK : vx_Back l R p e below s args y 3 8 (PreOf R mc ms Pc) (PostOf Qc mc ms free) (vx_Post XC mc ms free) := vx_callBack cw.1 hM hp.1
  obtain ⟨⟨-, -, -, -, -, -, hcode, hini, hy, hlen, hl⟩, hstt⟩ := cw
  obtain ⟨hx, hb, hml, ho, -⟩ := S
  intro T hT X
  rcases vx_callS X hx (bytes := bytes) (maxL := maxL) (ret := ret) ho hl hstt hini hcode hy hK hg (hsize.trans hml.symm) (argsL := As) (rest := rest) (fun sig h => hn.trans (hlen sig h)) hstack hW (by rw [hb]; exact hdg)
    (fun vm₁ hW₁ => ⟨hf.1, hf.2, hp.2 (T.setVm vm₁) hT hW₁⟩) with ⟨v, vm₁, ⟨U', l2, c2, s2⟩, hW₁, X', ⟨g', mk, t, L, e1, e2, hq, h1, hL, h2, h3⟩, st⟩ | ⟨q, vm₁, ⟨U', l2, c2, s2⟩, hW₁, X', ⟨g', mk, t, L, E, ce, e1, e2, hq, hce, hcv, hcl, h1, hL, h2, h3⟩, st⟩
  · dsimp only [Pt.U, Pt.locs, Pt.cells, Pt.slots] at X' e1 e2 h1 h2 h3 st
    subst h1; subst h2; subst h3
    exact Or.inl ⟨v, (T.setVm vm₁).calling g' mk As.toArray, t, U', L, hT, X', hL, e1, e2, hq, st⟩
  · dsimp only [Pt.U, Pt.locs, Pt.cells, Pt.slots] at X' e1 e2 h1 h2 h3 st hcl
    subst h1; subst h2; subst h3
    exact Or.inr ⟨q, (T.setVm vm₁).calling g' mk As.toArray, t, U', L, E, ce, hT, X', hL, e1, e2, hq, hce, hcv, vx_cls hW₁ hcl, st⟩
end Runs
section Rows
variable {p : Program} {l : Launch} {e : Env} {R : Room} {s : State} {m : MethodId} {args : Array Value} {below : List Frame} {meth : Method} {c : Code} {H : Heap} {locs : List Loc} {cells slots : Nat} {Q : State → Prop}
variable {mc ms : Nat} {free : Addr → Prop} {A0 A1 : Nat → Prop} {H0 : Heap} {a : Array Value} {pc : Nat} {ls : Array Slot} {st0 rest : List Value}
theorem vx_keep {st₀ t T' : State} {L : List Loc} (h0 : st₀.heap = H) (e1 : T'.heap = t.heap) (hS : va_S A0 H0 H locs) (hA : ∀ q, q < H.size → A1 q → A0 q) (hf : ∀ q, free q → A0 q) (hL : ∀ q ∈ L, free q.base) (hF : va_F A1 st₀ t) :
    H.size ≤ T'.heap.size ∧ (∀ q : Nat, q < H.size → ¬ A1 q → T'.heap[q]? = H[q]?) ∧ va_S A0 H0 T'.heap (locs ++ L) := by
  obtain ⟨hz, hk⟩ := hF
  rw [h0] at hz hk
  exact ⟨by rw [e1]; exact hz, fun q h1 h2 => by rw [e1]; exact hk q h1 h2,
    ⟨Nat.le_trans hS.1 (by rw [e1]; exact hz), fun q h1 h2 => by rw [e1, hk q (Nat.lt_of_lt_of_le h1 hS.1) (fun z => h2 (hA q (Nat.lt_of_lt_of_le h1 hS.1) z))]; exact hS.2.1 q h1 h2, fun q hq => by
      rcases List.mem_append.mp hq with h | h
      · exact hS.2.2 q h
      · exact hf _ (hL q h)⟩⟩
theorem vx_calli {S SX : Type} {post : Int32 → S → Prop} {px : SX → Prop} {B : S → State → Prop} {BX : String → SX → State → Prop} {AX : Nat → Prop} (hr : vx_Run p l e R s m args below meth c H locs cells slots mc ms (F0 m pc ls st0) rest (va_Qi post B A1 a) (vx_X px BX AX) free) (hS : va_S A0 H0 H locs) (hA : ∀ q, q < H.size → A1 q → A0 q) (hf : ∀ q, free q → A0 q) (hAX : ∀ q, q < H.size → AX q → A0 q)
    (kx : ∀ (E : String) (ce : Cell) (q9 : Addr) (u : SX) (t : State) (H1 : Heap) (locs1 : List Loc), t.heap = H1 → s.vm.Alike t.vm → px u → BX E u t → H.size ≤ H1.size → (∀ q : Nat, q < H.size → ¬ AX q → H1[q]? = H[q]?) → va_S A0 H0 H1 locs1 → H1[q9]? = some ce → ce.vm = .none → s.vm.findClass E = some ce.cls → vx_W p l e R s m args below meth c H1 locs1 (cells + mc) (slots + ms) Q (F0 m pc ls rest) q9)
    (kk : ∀ (r : Int32) (u : S) (t : State) (H1 : Heap) (locs1 : List Loc), t.heap = H1 → s.vm.Alike t.vm → post r u → B u t → H.size ≤ H1.size → (∀ q : Nat, q < H.size → ¬ A1 q → H1[q]? = H[q]?) → va_S A0 H0 H1 locs1 → W p l e R s m args below meth c H1 locs1 (cells + mc) (slots + ms) Q (F0 m (pc + 3) ls (.int r :: rest))) : W p l e R s m args below meth c H locs cells slots Q (F0 m pc ls st0) := by
  intro T hT X
  rcases hr T hT X with ⟨v, st₀, t, T', L, h0, X', hL, e1, e2, ⟨⟨r, u, hv, hp, hb⟩, hF⟩, st⟩ | ⟨q, st₀, t, T', L, E, ce, h0, X', hL, e1, e2, ⟨u, hp, hb, hF⟩, hce, hcv, hcl, st⟩
  · cases hv
    obtain ⟨k1, k2, k3⟩ := vx_keep h0 e1 hS hA hf hL hF
    obtain ⟨t2, a1, b1⟩ := kk r u t T'.heap (locs ++ L) e1.symm (by rw [← e2]; exact X'.warmed.alike) hp hb k1 k2 k3 T' rfl X'
    exact ⟨t2, st t2 a1, b1⟩
  · obtain ⟨k1, k2, k3⟩ := vx_keep h0 e1 hS hAX hf hL hF
    obtain ⟨t2, a1, b1⟩ := kx E ce q u t T'.heap (locs ++ L) e1.symm (by rw [← e2]; exact X'.warmed.alike) hp hb k1 k2 k3 (by rw [e1]; exact hce) hcv hcl T' rfl X'
    exact ⟨t2, st.trans a1, b1⟩
theorem vx_calll {S SX : Type} {post : Int64 → S → Prop} {px : SX → Prop} {B : S → State → Prop} {BX : String → SX → State → Prop} {AX : Nat → Prop} (hr : vx_Run p l e R s m args below meth c H locs cells slots mc ms (F0 m pc ls st0) rest (va_Ql post B A1 a) (vx_X px BX AX) free) (hS : va_S A0 H0 H locs) (hA : ∀ q, q < H.size → A1 q → A0 q) (hf : ∀ q, free q → A0 q) (hAX : ∀ q, q < H.size → AX q → A0 q)
    (kx : ∀ (E : String) (ce : Cell) (q9 : Addr) (u : SX) (t : State) (H1 : Heap) (locs1 : List Loc), t.heap = H1 → s.vm.Alike t.vm → px u → BX E u t → H.size ≤ H1.size → (∀ q : Nat, q < H.size → ¬ AX q → H1[q]? = H[q]?) → va_S A0 H0 H1 locs1 → H1[q9]? = some ce → ce.vm = .none → s.vm.findClass E = some ce.cls → vx_W p l e R s m args below meth c H1 locs1 (cells + mc) (slots + ms) Q (F0 m pc ls rest) q9)
    (kk : ∀ (r : Int64) (u : S) (t : State) (H1 : Heap) (locs1 : List Loc), t.heap = H1 → s.vm.Alike t.vm → post r u → B u t → H.size ≤ H1.size → (∀ q : Nat, q < H.size → ¬ A1 q → H1[q]? = H[q]?) → va_S A0 H0 H1 locs1 → W p l e R s m args below meth c H1 locs1 (cells + mc) (slots + ms) Q (F0 m (pc + 3) ls (.long r :: rest))) : W p l e R s m args below meth c H locs cells slots Q (F0 m pc ls st0) := by
  intro T hT X
  rcases hr T hT X with ⟨v, st₀, t, T', L, h0, X', hL, e1, e2, ⟨⟨r, u, hv, hp, hb⟩, hF⟩, st⟩ | ⟨q, st₀, t, T', L, E, ce, h0, X', hL, e1, e2, ⟨u, hp, hb, hF⟩, hce, hcv, hcl, st⟩
  · cases hv
    obtain ⟨k1, k2, k3⟩ := vx_keep h0 e1 hS hA hf hL hF
    obtain ⟨t2, a1, b1⟩ := kk r u t T'.heap (locs ++ L) e1.symm (by rw [← e2]; exact X'.warmed.alike) hp hb k1 k2 k3 T' rfl X'
    exact ⟨t2, st t2 a1, b1⟩
  · obtain ⟨k1, k2, k3⟩ := vx_keep h0 e1 hS hAX hf hL hF
    obtain ⟨t2, a1, b1⟩ := kx E ce q u t T'.heap (locs ++ L) e1.symm (by rw [← e2]; exact X'.warmed.alike) hp hb k1 k2 k3 (by rw [e1]; exact hce) hcv hcl T' rfl X'
    exact ⟨t2, st.trans a1, b1⟩
theorem vx_callf {S SX : Type} {post : UInt32 → S → Prop} {px : SX → Prop} {B : S → State → Prop} {BX : String → SX → State → Prop} {AX : Nat → Prop} (hr : vx_Run p l e R s m args below meth c H locs cells slots mc ms (F0 m pc ls st0) rest (va_Qf post B A1 a) (vx_X px BX AX) free) (hS : va_S A0 H0 H locs) (hA : ∀ q, q < H.size → A1 q → A0 q) (hf : ∀ q, free q → A0 q) (hAX : ∀ q, q < H.size → AX q → A0 q)
    (kx : ∀ (E : String) (ce : Cell) (q9 : Addr) (u : SX) (t : State) (H1 : Heap) (locs1 : List Loc), t.heap = H1 → s.vm.Alike t.vm → px u → BX E u t → H.size ≤ H1.size → (∀ q : Nat, q < H.size → ¬ AX q → H1[q]? = H[q]?) → va_S A0 H0 H1 locs1 → H1[q9]? = some ce → ce.vm = .none → s.vm.findClass E = some ce.cls → vx_W p l e R s m args below meth c H1 locs1 (cells + mc) (slots + ms) Q (F0 m pc ls rest) q9)
    (kk : ∀ (r : UInt32) (u : S) (t : State) (H1 : Heap) (locs1 : List Loc), t.heap = H1 → s.vm.Alike t.vm → post r u → B u t → H.size ≤ H1.size → (∀ q : Nat, q < H.size → ¬ A1 q → H1[q]? = H[q]?) → va_S A0 H0 H1 locs1 → W p l e R s m args below meth c H1 locs1 (cells + mc) (slots + ms) Q (F0 m (pc + 3) ls (.float r :: rest))) : W p l e R s m args below meth c H locs cells slots Q (F0 m pc ls st0) := by
  intro T hT X
  rcases hr T hT X with ⟨v, st₀, t, T', L, h0, X', hL, e1, e2, ⟨⟨r, u, hv, hp, hb⟩, hF⟩, st⟩ | ⟨q, st₀, t, T', L, E, ce, h0, X', hL, e1, e2, ⟨u, hp, hb, hF⟩, hce, hcv, hcl, st⟩
  · cases hv
    obtain ⟨k1, k2, k3⟩ := vx_keep h0 e1 hS hA hf hL hF
    obtain ⟨t2, a1, b1⟩ := kk r u t T'.heap (locs ++ L) e1.symm (by rw [← e2]; exact X'.warmed.alike) hp hb k1 k2 k3 T' rfl X'
    exact ⟨t2, st t2 a1, b1⟩
  · obtain ⟨k1, k2, k3⟩ := vx_keep h0 e1 hS hAX hf hL hF
    obtain ⟨t2, a1, b1⟩ := kx E ce q u t T'.heap (locs ++ L) e1.symm (by rw [← e2]; exact X'.warmed.alike) hp hb k1 k2 k3 (by rw [e1]; exact hce) hcv hcl T' rfl X'
    exact ⟨t2, st.trans a1, b1⟩
theorem vx_calld {S SX : Type} {post : UInt64 → S → Prop} {px : SX → Prop} {B : S → State → Prop} {BX : String → SX → State → Prop} {AX : Nat → Prop} (hr : vx_Run p l e R s m args below meth c H locs cells slots mc ms (F0 m pc ls st0) rest (va_Qd post B A1 a) (vx_X px BX AX) free) (hS : va_S A0 H0 H locs) (hA : ∀ q, q < H.size → A1 q → A0 q) (hf : ∀ q, free q → A0 q) (hAX : ∀ q, q < H.size → AX q → A0 q)
    (kx : ∀ (E : String) (ce : Cell) (q9 : Addr) (u : SX) (t : State) (H1 : Heap) (locs1 : List Loc), t.heap = H1 → s.vm.Alike t.vm → px u → BX E u t → H.size ≤ H1.size → (∀ q : Nat, q < H.size → ¬ AX q → H1[q]? = H[q]?) → va_S A0 H0 H1 locs1 → H1[q9]? = some ce → ce.vm = .none → s.vm.findClass E = some ce.cls → vx_W p l e R s m args below meth c H1 locs1 (cells + mc) (slots + ms) Q (F0 m pc ls rest) q9)
    (kk : ∀ (r : UInt64) (u : S) (t : State) (H1 : Heap) (locs1 : List Loc), t.heap = H1 → s.vm.Alike t.vm → post r u → B u t → H.size ≤ H1.size → (∀ q : Nat, q < H.size → ¬ A1 q → H1[q]? = H[q]?) → va_S A0 H0 H1 locs1 → W p l e R s m args below meth c H1 locs1 (cells + mc) (slots + ms) Q (F0 m (pc + 3) ls (.double r :: rest))) : W p l e R s m args below meth c H locs cells slots Q (F0 m pc ls st0) := by
  intro T hT X
  rcases hr T hT X with ⟨v, st₀, t, T', L, h0, X', hL, e1, e2, ⟨⟨r, u, hv, hp, hb⟩, hF⟩, st⟩ | ⟨q, st₀, t, T', L, E, ce, h0, X', hL, e1, e2, ⟨u, hp, hb, hF⟩, hce, hcv, hcl, st⟩
  · cases hv
    obtain ⟨k1, k2, k3⟩ := vx_keep h0 e1 hS hA hf hL hF
    obtain ⟨t2, a1, b1⟩ := kk r u t T'.heap (locs ++ L) e1.symm (by rw [← e2]; exact X'.warmed.alike) hp hb k1 k2 k3 T' rfl X'
    exact ⟨t2, st t2 a1, b1⟩
  · obtain ⟨k1, k2, k3⟩ := vx_keep h0 e1 hS hAX hf hL hF
    obtain ⟨t2, a1, b1⟩ := kx E ce q u t T'.heap (locs ++ L) e1.symm (by rw [← e2]; exact X'.warmed.alike) hp hb k1 k2 k3 (by rw [e1]; exact hce) hcv hcl T' rfl X'
    exact ⟨t2, st.trans a1, b1⟩
theorem vx_callv {S SX : Type} {post : S → Prop} {px : SX → Prop} {B : S → State → Prop} {BX : String → SX → State → Prop} {AX : Nat → Prop} (hr : vx_Run p l e R s m args below meth c H locs cells slots mc ms (F0 m pc ls st0) rest (va_Qv post B A1 a) (vx_X px BX AX) free) (hS : va_S A0 H0 H locs) (hA : ∀ q, q < H.size → A1 q → A0 q) (hf : ∀ q, free q → A0 q) (hAX : ∀ q, q < H.size → AX q → A0 q)
    (kx : ∀ (E : String) (ce : Cell) (q9 : Addr) (u : SX) (t : State) (H1 : Heap) (locs1 : List Loc), t.heap = H1 → s.vm.Alike t.vm → px u → BX E u t → H.size ≤ H1.size → (∀ q : Nat, q < H.size → ¬ AX q → H1[q]? = H[q]?) → va_S A0 H0 H1 locs1 → H1[q9]? = some ce → ce.vm = .none → s.vm.findClass E = some ce.cls → vx_W p l e R s m args below meth c H1 locs1 (cells + mc) (slots + ms) Q (F0 m pc ls rest) q9)
    (kk : ∀ (u : S) (t : State) (H1 : Heap) (locs1 : List Loc), t.heap = H1 → s.vm.Alike t.vm → post u → B u t → H.size ≤ H1.size → (∀ q : Nat, q < H.size → ¬ A1 q → H1[q]? = H[q]?) → va_S A0 H0 H1 locs1 → W p l e R s m args below meth c H1 locs1 (cells + mc) (slots + ms) Q (F0 m (pc + 3) ls (rest))) : W p l e R s m args below meth c H locs cells slots Q (F0 m pc ls st0) := by
  intro T hT X
  rcases hr T hT X with ⟨v, st₀, t, T', L, h0, X', hL, e1, e2, ⟨⟨u, hv, hp, hb⟩, hF⟩, st⟩ | ⟨q, st₀, t, T', L, E, ce, h0, X', hL, e1, e2, ⟨u, hp, hb, hF⟩, hce, hcv, hcl, st⟩
  · cases hv
    obtain ⟨k1, k2, k3⟩ := vx_keep h0 e1 hS hA hf hL hF
    obtain ⟨t2, a1, b1⟩ := kk u t T'.heap (locs ++ L) e1.symm (by rw [← e2]; exact X'.warmed.alike) hp hb k1 k2 k3 T' rfl X'
    exact ⟨t2, st t2 a1, b1⟩
  · obtain ⟨k1, k2, k3⟩ := vx_keep h0 e1 hS hAX hf hL hF
    obtain ⟨t2, a1, b1⟩ := kx E ce q u t T'.heap (locs ++ L) e1.symm (by rw [← e2]; exact X'.warmed.alike) hp hb k1 k2 k3 (by rw [e1]; exact hce) hcv hcl T' rfl X'
    exact ⟨t2, st.trans a1, b1⟩
/-- caught by the row x of this method's table; the rows ahead don't take it -/
theorem vx_catch {own name : String} {E : String} {ce : Cell} {q : Addr} (hown : s.vm.findClass own = some m.cls) (pre : List ExceptionTableEntry) (x : ExceptionTableEntry) (suf : List ExceptionTableEntry) (hsplit : c.exceptionTable.toList = pre ++ x :: suf)
    (hpass : ∀ z ∈ pre, covers z pc = false ∨ (z.catchType ≠ 0 ∧ ∃ nm : String, (Cond.classLink own z.catchType nm).before args s = true ∧ va_Nc E nm s)) (hx : covers x pc = true) (h0 : x.catchType ≠ 0)
    (hlink : (Cond.classLink own x.catchType name).before args s = true) (hcast : (Cond.castable E name).before args s = true) (hcell : H[q]? = some ce) (hv : ce.vm = .none) (hcl : s.vm.findClass E = some ce.cls)
    (kk : W p l e R s m args below meth c H locs cells slots Q (F0 m x.handlerPc ls [.ref q])) : vx_W p l e R s m args below meth c H locs cells slots Q (F0 m pc ls rest) q := by
  intro T hT X
  have hpl : e.platform.magicAccessors = ({} : Platform).magicAccessors := by rw [X.admits.platform]
  obtain ⟨c3, c4, hc3, hc4, hasg⟩ := Cond.castable_spec hcast
  cases Option.some.inj (hc3.symm.trans hcl)
  obtain ⟨c5, hc5, hcl5⟩ := Cond.classLink_spec hown hlink e.platform hpl
  cases Option.some.inj (hc4.symm.trans hc5)
  obtain ⟨vm', X', st⟩ := X.thenCaughtThrough q (g := F0 m pc ls rest) rfl (Steps.refl _) (by rw [hT]; exact hcell) (by rw [hv]; rfl) (by obtain ⟨k9, h9, -⟩ := Vm.findClass_spec hcl; exact ⟨k9, h9⟩) pre x suf hsplit
    (fun z hz => by
      rcases hpass z hz with h | ⟨hz0, nm, hl1, hn1⟩
      · exact Or.inl h
      · obtain ⟨c6, hc6, hcl6⟩ := Cond.classLink_spec hown hl1 e.platform hpl
        obtain ⟨a8, b8, h1, h2, h3⟩ := hn1
        cases Option.some.inj (h1.symm.trans hcl)
        cases Option.some.inj (h2.symm.trans hc6)
        exact Or.inr ⟨hz0, _, hcl6, h3⟩) hx (Or.inr ⟨h0, c4, hcl5, hasg⟩)
  obtain ⟨t, a1, b1⟩ := kk (T.setVm vm') hT X'
  exact ⟨t, st.trans a1, b1⟩
end Rows
section Ends
variable {p : Program} {l : Launch} {e : Env} {R : Room} {s : State} {m : MethodId} {args : Array Value} {below : List Frame} {meth : Method} {c : Code} {H : Heap} {locs : List Loc} {cells slots : Nat} {Q : State → Prop}
variable {mc ms : Nat} {free : Addr → Prop} {A0 A1 : Nat → Prop} {H0 : Heap} {a : Array Value} {ls : Array Slot} {st0 rest : List Value}
variable {Qc : Array Value → State → Outcome → State → Prop} {XC : String → State → State → Prop}
/-- what a body that may throw owes at its end -/
def vx_MQ (below : List Frame) (Qc : Array Value → State → Outcome → State → Prop) (XC : String → State → State → Prop) (a : Array Value) (s : State) (mc ms : Nat) (free : Addr → Prop) : State → Prop := fun t =>
  ∃ o, t.status = .running ∧ Ended t below o ∧ vx_Q Qc XC mc ms free a s o t
theorem vx_ret {g : JFrame} {mc ms : Nat} (k : W p l e R s m args below meth c H locs cells slots (MQ below Qc args s mc ms free) g) : W p l e R s m args below meth c H locs cells slots (vx_MQ below Qc XC args s mc ms free) g := by
  intro T hT X
  obtain ⟨t, a1, o, b1, b2, b3, b4⟩ := k T hT X
  exact ⟨t, a1, o, b1, b2, Or.inl ⟨b3, b4⟩⟩
/-- not caught here: it goes on to the caller -/
theorem vx_widen {g : JFrame} {q : Addr} {k n : Nat} (h1 : cells ≤ k) (h2 : slots ≤ n) (kk : vx_W p l e R s m args below meth c H locs k n Q g q) : vx_W p l e R s m args below meth c H locs cells slots Q g q := fun T hT X => kk T hT (stand_widen X h1 h2)
theorem vx_out {pc : Nat} {E : String} {ce : Cell} {q : Addr} {mc ms : Nat} (hout : ∀ x ∈ c.exceptionTable.toList, covers x pc = false) (hlocks : meth.locks = false) (hcell : H[q]? = some ce) (hv : ce.vm = .none) (hcl : s.vm.findClass E = some ce.cls)
    (hx : ∀ t : State, t.heap = H → s.vm.Alike t.vm → XC E s t) (hf : ∀ z ∈ locs, free z.base) (hc : cells ≤ mc) (hs : slots ≤ ms) :
    vx_W p l e R s m args below meth c H locs cells slots (vx_MQ below Qc XC args s mc ms free) (F0 m pc ls rest) q := by
  intro T hT X
  obtain ⟨st1, hrun, hend, hW, hsm⟩ := X.leaveThrown q (g := F0 m pc ls rest) rfl rfl rfl hout hlocks
  have hcell9 : (T.setFrames (.throwing q :: below)).heap[q]? = some ce := by
    show T.heap[q]? = some ce
    rw [hT]; exact hcell
  exact ⟨_, st1, .threw q, hrun, hend, Or.inr ⟨q, rfl, E, ce, locs, hx _ hT hW.alike, hcell9, hv, hcl, hW, hsm.mono hc hs, hf⟩⟩
theorem vx_frame {U : State} {k n : Nat} (h : s.sameButNew ({ U with vm := s.vm } : State) locs k n) : s.heap.size ≤ U.heap.size ∧ ∀ q : Nat, q < s.heap.size → (∀ z ∈ locs, z.base ≠ q) → U.heap[q]? = s.heap[q]? := by
  obtain ⟨-, h2, -, -, -, h6⟩ := h
  refine ⟨h2, fun q hq hz => ?_⟩
  obtain ⟨c9, e1, e2, e3, e4⟩ := h6 q _ (Array.getElem?_eq_getElem hq)
  have hs : c9.slots = (s.heap[q]).slots := Array.ext_getElem? fun i => e4 i fun hm => hz _ hm rfl
  have h9 : c9 = s.heap[q] := by
    rw [hs] at e2
    exact e2
  have e5 : U.heap[q]? = some c9 := e1
  rw [e5, h9, Array.getElem?_eq_getElem hq]
/-- the words of a throw but the four that speak of the heap -/
def vx_no (w : Cond) : Bool := decide (w ≠ .isRef (.static Bundle.tN "UNASSIGNED_STACK" Bundle.steD)) && decide (w ≠ .isRef (.static Bundle.tN "SUPPRESSED_SENTINEL" Bundle.listD)) && decide (w ≠ .laysStatic Bundle.tN "UNASSIGNED_STACK" Bundle.steD) && decide (w ≠ .laysStatic Bundle.tN "SUPPRESSED_SENTINEL" Bundle.listD)
def vx_at0 (own : String) (ic : Nat) (X : String) (names : List String) : List Cond := (Bundle.ownAtoms0 own ic X names).filter vx_no
def vx_atS (own : String) (ic : Nat) (X : String) (names : List String) : List Cond := (Bundle.ownAtoms own ic X names).filter vx_no
/-- a word that the tables alone decide, or a good one -/
def vx_ot (w : Cond) : Bool := w.onTables || goodWord w
theorem vx_ot_at {args a' : Array Value} {s U : State} {w : Cond} (hW : s.WarmedH U.vm) (hvm : s.vm = U.vm) (hg : vx_ot w = true) (h : w.before args s = true) : w.before a' U = true := by
  simp only [vx_ot, Bool.or_eq_true] at hg
  rcases hg with hg | hg
  · exact va_tabs hg hvm h
  · exact word_at hW (good_of_word hg) h
/-- a list's words: the good ones out of the method's own list, the others by premises of their own -/
theorem vx_hat {args : Array Value} {s : State} {L B : List Cond} (h1 : ∀ w ∈ L.filter goodWord, w.before args s = true) (h2 : ∀ w ∈ L.filter (fun w => !goodWord w), w ∈ B) (h3 : ∀ w ∈ B, w.before args s = true) : ∀ w ∈ L, w.before args s = true := by
  intro w hw
  by_cases g : goodWord w = true
  · exact h1 w (List.mem_filter.mpr ⟨hw, g⟩)
  · refine h3 w (h2 w (List.mem_filter.mpr ⟨hw, ?_⟩))
    show (!goodWord w) = true
    cases hgw : goodWord w
    · rfl
    · exact absurd hgw g
theorem vx_c {args : Array Value} {s : State} {w : Cond} {B : List Cond} (h : w.before args s = true) (t : ∀ w ∈ B, w.before args s = true) : ∀ w' ∈ w :: B, w'.before args s = true := fun w' h' => (List.mem_cons.mp h').elim (fun e => by rw [e]; exact h) (t w')
theorem vx_n {args : Array Value} {s : State} : ∀ w ∈ ([] : List Cond), w.before args s = true := fun _ h => nomatch h
theorem vx_own {args : Array Value} {s : State} {L : List Cond} (h1 : ∀ w ∈ L.filter vx_no, w.before args s = true)
    (hU : (Cond.isRef (.static Bundle.tN "UNASSIGNED_STACK" Bundle.steD)).before args s = true) (hN : (Cond.isRef (.static Bundle.tN "SUPPRESSED_SENTINEL" Bundle.listD)).before args s = true)
    (lU : (Cond.laysStatic Bundle.tN "UNASSIGNED_STACK" Bundle.steD).before args s = true) (lN : (Cond.laysStatic Bundle.tN "SUPPRESSED_SENTINEL" Bundle.listD).before args s = true) : ∀ w ∈ L, w.before args s = true := by
  intro w hw
  by_cases e1 : w = .isRef (.static Bundle.tN "UNASSIGNED_STACK" Bundle.steD)
  · rw [e1]; exact hU
  · by_cases e2 : w = .isRef (.static Bundle.tN "SUPPRESSED_SENTINEL" Bundle.listD)
    · rw [e2]; exact hN
    · by_cases e3 : w = .laysStatic Bundle.tN "UNASSIGNED_STACK" Bundle.steD
      · rw [e3]; exact lU
      · by_cases e4 : w = .laysStatic Bundle.tN "SUPPRESSED_SENTINEL" Bundle.listD
        · rw [e4]; exact lN
        · exact h1 w (List.mem_filter.mpr ⟨hw, by unfold vx_no; rw [decide_eq_true e1, decide_eq_true e2, decide_eq_true e3, decide_eq_true e4]; rfl⟩)
/-- where a static field lies, its class's statics cell in H -/
def vx_L (C n d : String) (A : Nat → Prop) (U : State) (H : Heap) : Prop := ∃ (c : ClassId) (k : Class) (i : Nat) (f : Field) (a : Nat) (cell : Cell), U.vm.findClass C = some c ∧ U.fieldFound? C n d = some (c, k, i, f) ∧ f.isStatic = true ∧ k.statics = some a ∧ H[a]? = some cell ∧ cell.vm.isStatics = true ∧ cell.cls = c ∧ f.slot < cell.slots.size ∧ k.staticTypes[f.slot]? = some f.type ∧ ¬ A a
theorem vx_L.moved {C n d : String} {A : Nat → Prop} {u U : State} {H : Heap} (hvm : u.vm.Alike U.vm) (h : vx_L C n d A u H) : vx_L C n d A U H := by
  obtain ⟨c, k, i, f, a, cell, h1, h2, h3, h4, h5, h6, h7, h8, h9, h10⟩ := h
  obtain ⟨k', hi', he⟩ := State.fieldFound?_setVm hvm h2
  exact ⟨c, k', i, f, a, cell, by rw [hvm.findClass]; exact h1, hi', h3, by rw [he]; exact h4, h5, h6, h7, h8, by rw [he]; exact h9, h10⟩
theorem vx_L.kept {C n d : String} {A : Nat → Prop} {U : State} {H H1 : Heap} (h : vx_L C n d A U H) (hq : ∀ a : Nat, a < H.size → ¬ A a → H1[a]? = H[a]?) : vx_L C n d A U H1 := by
  obtain ⟨c, k, i, f, a, cell, h1, h2, h3, h4, h5, h6, h7, h8, h9, h10⟩ := h
  exact ⟨c, k, i, f, a, cell, h1, h2, h3, h4, by rw [hq a (Array.getElem?_eq_some_iff.mp h5).1 h10]; exact h5, h6, h7, h8, h9, h10⟩
theorem vx_L.narrow {C n d : String} {A B : Nat → Prop} {U : State} {H : Heap} (h : vx_L C n d A U H) (hAB : ∀ q, B q → A q) : vx_L C n d B U H := by
  obtain ⟨c, k, i, f, a, cell, h1, h2, h3, h4, h5, h6, h7, h8, h9, h10⟩ := h
  exact ⟨c, k, i, f, a, cell, h1, h2, h3, h4, h5, h6, h7, h8, h9, fun z => h10 (hAB _ z)⟩
theorem vx_L.word {C n d : String} {A : Nat → Prop} {s : State} {args : Array Value} (h : vx_L C n d A s s.heap) : (Cond.laysStatic C n d).before args s = true := by
  obtain ⟨c, k, i, f, a, cell, h1, h2, h3, h4, h5, h6, h7, h8, h9, -⟩ := h
  show (Cond.laysStatic C n d).holds args s none s [] = true
  exact Cond.laysStatic_of h1 h2 h3 h4 h5 h6 h7 h8 h9
/-- .. and what it holds: null or some reference -/
def vx_Zq (C n d : String) (A : Nat → Prop) (U : State) (H : Heap) : Prop := va_Zq C n d A U H ∧ vx_L C n d A U H
theorem vx_Zq.moved {C n d : String} {A : Nat → Prop} {u U : State} {H : Heap} (hvm : u.vm.Alike U.vm) (h : vx_Zq C n d A u H) : vx_Zq C n d A U H := ⟨va_Zq.moved hvm h.1, vx_L.moved hvm h.2⟩
theorem vx_Zq.kept {C n d : String} {A : Nat → Prop} {U : State} {H H1 : Heap} (h : vx_Zq C n d A U H) (hq : ∀ a : Nat, a < H.size → ¬ A a → H1[a]? = H[a]?) : vx_Zq C n d A U H1 := ⟨va_Zq.kept h.1 hq, vx_L.kept h.2 hq⟩
theorem vx_Zq.narrow {C n d : String} {A B : Nat → Prop} {U : State} {H : Heap} (h : vx_Zq C n d A U H) (hAB : ∀ q, B q → A q) : vx_Zq C n d B U H := ⟨va_Zq.narrow h.1 hAB, vx_L.narrow h.2 hAB⟩
theorem vx_Zqof {args : Array Value} {s : State} {C n d : String} {A : Nat → Prop} (hl : (Cond.laysStatic C n d).before args s = true) (hini : (Cond.initialized C).before args s = true) (h : (Cond.isRef (.static C n d)).before args s = true) (hA : ∀ a : Nat, a < s.heap.size → ¬ A a) : vx_Zq C n d A s s.heap := by
  refine ⟨va_Zqof hl hini h hA, ?_⟩
  obtain ⟨c, k, i, f, a, cell, h1, h2, h3, h4, h5, h6, h7, h8, h9⟩ := Cond.laysStatic_spec hl
  exact ⟨c, k, i, f, a, cell, h1, h2, h3, h4, h5, h6, h7, h8, h9, hA a (Array.getElem?_eq_some_iff.mp h5).1⟩
theorem vx_isRef {C n d : String} {v : Value} {A : Nat → Prop} {s : State} {args : Array Value} (h : va_Z C n d v A s s.heap) (hv : v.isRef = true) : (Cond.isRef (.static C n d)).before args s = true := by
  obtain ⟨cf, kf, fi, f, a, cell, h1, h2, h3, h4, h5, h6, h7, -⟩ := h
  have he : (Term.static C n d).eval args s none [] s = some v := by
    simp [Term.eval, State.fieldNamed?, h1, h2, h4, h5, h6, h7]
  simp only [Cond.before, Cond.holds, Cond.value, he]
  cases v <;> simp_all [Value.isRef]
theorem vx_isRefq {C n d : String} {A : Nat → Prop} {s : State} {args : Array Value} (h : va_Zq C n d A s s.heap) : (Cond.isRef (.static C n d)).before args s = true := by
  rcases h with h | ⟨t, h⟩
  · exact vx_isRef h rfl
  · exact vx_isRef h rfl
/-- the same frame, seen from here: as if the method were called anew in this heap -/
theorem vx_rebase {T : State} (X : Stand p l e R s m args below meth c T locs cells slots) {R' : Room} (hf : R'.frames ≤ R.frames) (hl : R'.locals ≤ R.locals) (hc : cells + R'.cells ≤ R.cells) (hs : slots + R'.slots ≤ R.slots) :
    Stand p l e R' ((T.setVm s.vm).setFrames (.invoking m args :: below)) m args below meth c T [] 0 0 := by
  have htop : (T.setVm s.vm).topJava?.isSome := X.here.top
  have hF : ((T.setVm s.vm).setFrames (.invoking m args :: below)).frames = .invoking m args :: below := State.frames_setFrames _ (State.cur_lt_of_top htop)
  obtain ⟨g₀, hg0⟩ := Option.isSome_iff_exists.mp htop
  obtain ⟨r, hr⟩ := State.topJava?_eq_some.mp hg0
  have hl9 : e.platform.stackLimits (T.setVm s.vm).me = e.platform.stackLimits s.me := X.limits
  have hb9 : (T.setVm s.vm).me.stackBytes = s.me.stackBytes := X.bytes
  refine ⟨X.admits, X.cas, X.clock, hF, ?_, X.hears, X.method, X.code, X.here, X.tail, X.warmed, ?_, ?_, ?_⟩
  · have h := X.room
    have hU : ((T.setVm s.vm).setFrames (.invoking m args :: below)).localsInUse = s.localsInUse := by
      rw [State.localsInUse_invoking hF (meth := meth) (c := c) X.method X.code, State.localsInUse_invoking X.frames X.method X.code]
    simp only [State.hasRoom, Bool.and_eq_true, decide_eq_true_eq] at h ⊢
    obtain ⟨⟨⟨⟨h1, h2, h3, h4, h5, h6⟩, h7⟩, h8⟩, h9⟩ := h
    rw [X.frames, List.length_cons] at h2 h3
    have q1 := X.heapSize
    have q2 := X.used
    simp only [hF, hU, List.length_cons, State.stackLimits_setFrames, State.stackBytes_setFrames, hl9, hb9]
    refine ⟨⟨⟨⟨by omega, by omega, by omega, by omega, by omega, h6⟩, ?_⟩, ?_⟩, X.book⟩
    · show T.heap.size + R'.cells ≤ e.platform.maxCells
      omega
    · show T.slotsUsed + R'.slots ≤ e.platform.maxSlots
      omega
  · rw [State.stackLimits_setFrames]; rfl
  · rw [State.stackBytes_setFrames]; rfl
  · refine ⟨?_, Nat.le_refl _, Nat.le_refl _, ?_, ?_, fun a c9 h9 => ⟨c9, h9, rfl, rfl, fun _ _ => rfl⟩⟩
    · obtain ⟨t, ht, -⟩ := State.frames_cons hr
      show T.setVm s.vm = { ((T.setVm s.vm).setFrames (.invoking m args :: below)).setFrames (T.setVm s.vm).frames with heap := T.heap, slotsUsed := T.slotsUsed }
      rw [State.setFrames_setFrames, State.setFrames_self ht]
      rfl
    · show T.slotsUsed = T.slotsUsed + ((T.heap.toList.drop T.heap.size).map (·.slots.size)).sum
      rw [List.drop_eq_nil_of_le (Nat.le_of_eq Array.length_toList)]
      rfl
    · show ((T.heap.toList.drop T.heap.size).map (·.slots.size)).sum ≤ 0
      rw [List.drop_eq_nil_of_le (Nat.le_of_eq Array.length_toList)]
      exact Nat.le_refl _
/-- 'throw new E()': new; dup; invokespecial; athrow -/
theorem vx_throw0 {cc : ByteArray} {pc : Nat} (hexec : p.tables.exec = Jvm.exec) (hb : c.code = cc) (hl : l.stackTraces = false) {own cls : String} {names : List String} {ik ic mc ms : Nat} {A : Nat → Prop}
    (hown : s.vm.findClass own = some m.cls) (hcls : Bundle.fit cls = true) (hnames : ∀ n ∈ names, Bundle.fit n = true)
    (hk : (Cond.classLink own ik cls).before args s = true) (hini : (Cond.initialized cls).before args s = true) (hat : ∀ w ∈ vx_at0 own ic cls names, w.before args s = true)
    (hgood : ∀ w ∈ Cond.classLink own ik cls :: Cond.initialized cls :: vx_at0 own ic cls names, vx_ot w = true)
    (hU : vx_Zq Bundle.tN "UNASSIGNED_STACK" Bundle.steD A s s.heap) (hN : vx_Zq Bundle.tN "SUPPRESSED_SENTINEL" Bundle.listD A s s.heap) (hS : va_S A s.heap H locs) (hsize : ls.size = c.maxLocals)
    (d0 : decode cc pc = .ok (.new ik, 3)) (d3 : decode cc (pc + 3) = .ok (.dup, 1)) (d4 : decode cc (pc + 4) = .ok (.invokespecial ic, 3)) (d7 : decode cc (pc + 7) = .ok (.athrow, 1))
    (hout : ∀ x ∈ c.exceptionTable.toList, covers x (pc + 7) = false)
    (hRframes : names.length + 3 < R.frames) (hRlocals : (rest.map fun v => v.category).sum + (13 * (names.length + 1) + 42) ≤ R.locals) (hRcells : cells + 1 ≤ R.cells) (hRslots : slots + 6 ≤ R.slots) (hlocks : meth.locks = false)
    (hx : ∀ t : State, s.vm.Alike t.vm → H.size ≤ t.heap.size → (∀ q : Nat, q < H.size → t.heap[q]? = H[q]?) → XC cls s t)
    (hf : ∀ z ∈ locs, free z.base) (hc : cells + 1 ≤ mc) (hs : slots + 6 ≤ ms) :
    W p l e R s m args below meth c H locs cells slots (vx_MQ below Qc XC args s mc ms free) (F0 m pc ls rest) := by
  intro T hT X
  have htr : e.platform.stackTraces = false := (show e.platform.stackTraces = l.stackTraces by rw [X.admits.platform]).trans hl
  have Y := vx_rebase X (R' := { frames := R.frames, locals := R.locals, cells := 1, slots := 6 }) (Nat.le_refl _) (Nat.le_refl _) hRcells hRslots
  obtain ⟨s', hA⟩ : ∃ z, z = (T.setVm s.vm).setFrames (.invoking m args :: below) := ⟨_, rfl⟩
  rw [← hA] at Y
  have hvm : s'.vm = s.vm := by rw [hA]; rfl
  have hhp : s'.heap = H := by rw [hA]; exact hT
  have hW0 : s.WarmedH s'.vm := by rw [hvm]; exact State.WarmedH.refl s
  have hat' : ∀ w ∈ vx_at0 own ic cls names, w.before args s' = true := fun w hw => vx_ot_at hW0 hvm.symm (hgood w (List.mem_cons_of_mem _ (List.mem_cons_of_mem _ hw))) (hat w hw)
  have hk' : (Cond.classLink own ik cls).before args s' = true := vx_ot_at hW0 hvm.symm (hgood _ List.mem_cons_self) hk
  have hini' : (Cond.initialized cls).before args s' = true := vx_ot_at hW0 hvm.symm (hgood _ (List.mem_cons_of_mem _ List.mem_cons_self)) hini
  have hU' : vx_Zq Bundle.tN "UNASSIGNED_STACK" Bundle.steD A s' s'.heap := by rw [hhp]; exact vx_Zq.moved hW0.alike (hU.kept hS.2.1)
  have hN' : vx_Zq Bundle.tN "SUPPRESSED_SENTINEL" Bundle.listD A s' s'.heap := by rw [hhp]; exact vx_Zq.moved hW0.alike (hN.kept hS.2.1)
  have h : ∀ w ∈ Bundle.ownAtoms0 own ic cls names, w.before args s' = true := vx_own hat' (vx_isRefq hU'.1) (vx_isRefq hN'.1) hU'.2.word hN'.2.word
  have hown' : s'.vm.findClass own = some m.cls := by rw [hvm]; exact hown
  have hins : (Cond.instantiable cls 6).before args s' = true := h _ (by simp [Bundle.ownAtoms0])
  obtain ⟨vm₁, cX, kX, hfX, hkX, -, -, X₁, st1⟩ := Y.newCold hexec (own := own) (C := cls) (index := ik) (n := 6) hown' hk' hins hini'
    (g := F0 m pc ls rest) rfl (by rw [hb]; exact d0) (Nat.le_refl _) (Nat.le_refl _)
  generalize hT1 : (T.setVm vm₁).pushCell { cls := cX, slots := kX.instanceTypes.map defaultValue, vm := .none } = T1 at X₁ st1
  have hcat : (Value.ref T.heap.size).category = 1 := rfl
  have hcellA : T1.heap[T.heap.size]? = some (freshCell cX kX) := by rw [← hT1]; exact State.heap_pushCell_size _ _
  have d3' : decode c.code (pc + 3) = .ok (.dup, 1) := by rw [hb]; exact d3
  obtain ⟨U, hsteps, hrun, hend, hW, hsame, ce, hce, hO⟩ := X₁.ctorThrow0 hexec htr (own := own) (cls := cls) (names := names) (ic := ic) hown' hcls hnames h (fun x hx => nomatch hx) hfX hkX hcellA (by rw [hhp, hT]; exact Nat.le_refl _)
    (g := { method := m, pc := pc + 4, locals := ls, stack := .ref T.heap.size :: .ref T.heap.size :: rest, locked := none }) rfl hsize rfl rfl (rest := rest) rfl
    (by rw [hb]; exact d4) (by rw [hb]; exact d7) hout hRframes (by simp only [List.map_cons, List.sum_cons, hcat]; omega) hlocks
  obtain ⟨f1, f2⟩ := vx_frame hsame
  rw [hhp] at f1 f2
  have hWs : s.WarmedH U.vm := State.WarmedH.trans hW0 hW
  have hcl : s.vm.findClass cls = some ce.cls := by
    have h9 := hO.cls
    rw [hvm] at h9
    exact h9
  have hall : s.sameButNew ({ U with vm := s.vm } : State) locs mc ms := by
    subst hA
    obtain ⟨e1, e2⟩ := hsame
    rw [State.setFrames_setFrames] at e1
    have h2 : (T.setVm s.vm).sameButNew ({ U with vm := s.vm } : State) [] (0 + 1) (0 + 6) := ⟨e1, e2⟩
    have h3 := X.same.trans h2
    rw [List.append_nil] at h3
    exact h3.mono hc hs
  refine ⟨U, ?_, .threw T.heap.size, hrun, hend, Or.inr ⟨T.heap.size, rfl, cls, ce, locs, hx U hWs.alike f1 (fun q hq => f2 q hq (fun z hz => nomatch hz)), hce, hO.vm, hcl, hWs, hall, hf⟩⟩
  refine st1 _ ?_
  show Steps p.tables e below (T1.setTop { method := m, pc := pc + 3, locals := ls, stack := .ref T.heap.size :: rest, locked := none }) _
  jvm_step X₁.here [X₁.here.top, hexec, d3', Value.category]
  exact hsteps
/-- 'throw new E("text")': new; dup; ldc; invokespecial; athrow -/
theorem vx_throwS {cc : ByteArray} {pc : Nat} (hexec : p.tables.exec = Jvm.exec) (hb : c.code = cc) (hl : l.stackTraces = false) {own cls text : String} {names : List String} {ik is ic mc ms sa : Nat} {A : Nat → Prop}
    (hown : s.vm.findClass own = some m.cls) (hcls : Bundle.fit cls = true) (hnames : ∀ n ∈ names, Bundle.fit n = true)
    (hk : (Cond.classLink own ik cls).before args s = true) (hini : (Cond.initialized cls).before args s = true) (hstr : vk_R own is text sa s) (hat : ∀ w ∈ vx_atS own ic cls names, w.before args s = true)
    (hgood : ∀ w ∈ Cond.classLink own ik cls :: Cond.initialized cls :: vx_atS own ic cls names, vx_ot w = true)
    (hU : vx_Zq Bundle.tN "UNASSIGNED_STACK" Bundle.steD A s s.heap) (hN : vx_Zq Bundle.tN "SUPPRESSED_SENTINEL" Bundle.listD A s s.heap) (hS : va_S A s.heap H locs) (hsize : ls.size = c.maxLocals)
    (d0 : decode cc pc = .ok (.new ik, 3)) (d3 : decode cc (pc + 3) = .ok (.dup, 1)) (d4 : decode cc (pc + 4) = .ok (.ldc is, 2)) (d6 : decode cc (pc + 6) = .ok (.invokespecial ic, 3)) (d9 : decode cc (pc + 9) = .ok (.athrow, 1))
    (hout : ∀ x ∈ c.exceptionTable.toList, covers x (pc + 9) = false)
    (hRframes : names.length + 3 < R.frames) (hRlocals : (rest.map fun v => v.category).sum + (13 * (names.length + 1) + 43) ≤ R.locals) (hRcells : cells + 1 ≤ R.cells) (hRslots : slots + 6 ≤ R.slots) (hlocks : meth.locks = false)
    (hx : ∀ t : State, s.vm.Alike t.vm → H.size ≤ t.heap.size → (∀ q : Nat, q < H.size → t.heap[q]? = H[q]?) → XC cls s t)
    (hf : ∀ z ∈ locs, free z.base) (hc : cells + 1 ≤ mc) (hs : slots + 6 ≤ ms) :
    W p l e R s m args below meth c H locs cells slots (vx_MQ below Qc XC args s mc ms free) (F0 m pc ls rest) := by
  intro T hT X
  have htr : e.platform.stackTraces = false := (show e.platform.stackTraces = l.stackTraces by rw [X.admits.platform]).trans hl
  have Y := vx_rebase X (R' := { frames := R.frames, locals := R.locals, cells := 1, slots := 6 }) (Nat.le_refl _) (Nat.le_refl _) hRcells hRslots
  obtain ⟨s', hA⟩ : ∃ z, z = (T.setVm s.vm).setFrames (.invoking m args :: below) := ⟨_, rfl⟩
  rw [← hA] at Y
  have hvm : s'.vm = s.vm := by rw [hA]; rfl
  have hhp : s'.heap = H := by rw [hA]; exact hT
  have hW0 : s.WarmedH s'.vm := by rw [hvm]; exact State.WarmedH.refl s
  have hat' : ∀ w ∈ vx_atS own ic cls names, w.before args s' = true := fun w hw => vx_ot_at hW0 hvm.symm (hgood w (List.mem_cons_of_mem _ (List.mem_cons_of_mem _ hw))) (hat w hw)
  have hk' : (Cond.classLink own ik cls).before args s' = true := vx_ot_at hW0 hvm.symm (hgood _ List.mem_cons_self) hk
  have hini' : (Cond.initialized cls).before args s' = true := vx_ot_at hW0 hvm.symm (hgood _ (List.mem_cons_of_mem _ List.mem_cons_self)) hini
  have hU' : vx_Zq Bundle.tN "UNASSIGNED_STACK" Bundle.steD A s' s'.heap := by rw [hhp]; exact vx_Zq.moved hW0.alike (hU.kept hS.2.1)
  have hN' : vx_Zq Bundle.tN "SUPPRESSED_SENTINEL" Bundle.listD A s' s'.heap := by rw [hhp]; exact vx_Zq.moved hW0.alike (hN.kept hS.2.1)
  have h : ∀ w ∈ Bundle.ownAtoms own ic cls names, w.before args s' = true := vx_own hat' (vx_isRefq hU'.1) (vx_isRefq hN'.1) hU'.2.word hN'.2.word
  have hown' : s'.vm.findClass own = some m.cls := by rw [hvm]; exact hown
  have hins : (Cond.instantiable cls 6).before args s' = true := h _ (by simp [Bundle.ownAtoms])
  obtain ⟨vm₁, cX, kX, hfX, hkX, -, -, X₁, st1⟩ := Y.newCold hexec (own := own) (C := cls) (index := ik) (n := 6) hown' hk' hins hini'
    (g := F0 m pc ls rest) rfl (by rw [hb]; exact d0) (Nat.le_refl _) (Nat.le_refl _)
  generalize hT1 : (T.setVm vm₁).pushCell { cls := cX, slots := kX.instanceTypes.map defaultValue, vm := .none } = T1 at X₁ st1
  have hcat : (Value.ref T.heap.size).category = 1 := rfl
  have hcellA : T1.heap[T.heap.size]? = some (freshCell cX kX) := by rw [← hT1]; exact State.heap_pushCell_size _ _
  have d3' : decode c.code (pc + 3) = .ok (.dup, 1) := by rw [hb]; exact d3
  have d4' : decode c.code (pc + 4) = .ok (.ldc is, 2) := by rw [hb]; exact d4
  have hstr' : vk_R own is text sa s' := vk_R.warm hW0 hstr
  obtain ⟨U, hsteps, hrun, hend, hW, hsame, ce, hce, hO⟩ := X₁.ctorThrowS hexec htr (own := own) (cls := cls) (names := names) (ic := ic) hown' hcls hnames h (fun x hx => nomatch hx) hfX hkX hcellA (by rw [hhp, hT]; exact Nat.le_refl _) (msg := .ref sa) rfl
    (g := { method := m, pc := pc + 6, locals := ls, stack := .ref sa :: .ref T.heap.size :: .ref T.heap.size :: rest, locked := none }) rfl hsize rfl rfl (rest := rest) rfl
    (by rw [hb]; exact d6) (by rw [hb]; exact d9) hout hRframes (by simp only [List.map_cons, List.sum_cons, hcat]; omega) hlocks
  obtain ⟨f1, f2⟩ := vx_frame hsame
  rw [hhp] at f1 f2
  have hWs : s.WarmedH U.vm := State.WarmedH.trans hW0 hW
  have hcl : s.vm.findClass cls = some ce.cls := by
    have h9 := hO.cls
    rw [hvm] at h9
    exact h9
  have hall : s.sameButNew ({ U with vm := s.vm } : State) locs mc ms := by
    subst hA
    obtain ⟨e1, e2⟩ := hsame
    rw [State.setFrames_setFrames] at e1
    have h2 : (T.setVm s.vm).sameButNew ({ U with vm := s.vm } : State) [] (0 + 1) (0 + 6) := ⟨e1, e2⟩
    have h3 := X.same.trans h2
    rw [List.append_nil] at h3
    exact h3.mono hc hs
  refine ⟨U, ?_, .threw T.heap.size, hrun, hend, Or.inr ⟨T.heap.size, rfl, cls, ce, locs, hx U hWs.alike f1 (fun q hq => f2 q hq (fun z hz => nomatch hz)), hce, hO.vm, hcl, hWs, hall, hf⟩⟩
  refine st1 _ ?_
  show Steps p.tables e below (T1.setTop { method := m, pc := pc + 3, locals := ls, stack := .ref T.heap.size :: rest, locked := none }) _
  jvm_step X₁.here [X₁.here.top, hexec, d3', Value.category]
  exact X₁.ldcString hexec (own := own) (text := text) (index := is) (a := sa) hown' hstr'.1 hstr'.2
    (g := { method := m, pc := pc + 4, locals := ls, stack := .ref T.heap.size :: .ref T.heap.size :: rest, locked := none }) rfl d4' _ hsteps
/-- 'throw new E("text")', the text by a wide index -/
theorem vx_throwSW {cc : ByteArray} {pc : Nat} (hexec : p.tables.exec = Jvm.exec) (hb : c.code = cc) (hl : l.stackTraces = false) {own cls text : String} {names : List String} {ik is ic mc ms sa : Nat} {A : Nat → Prop}
    (hown : s.vm.findClass own = some m.cls) (hcls : Bundle.fit cls = true) (hnames : ∀ n ∈ names, Bundle.fit n = true)
    (hk : (Cond.classLink own ik cls).before args s = true) (hini : (Cond.initialized cls).before args s = true) (hstr : vk_R own is text sa s) (hat : ∀ w ∈ vx_atS own ic cls names, w.before args s = true)
    (hgood : ∀ w ∈ Cond.classLink own ik cls :: Cond.initialized cls :: vx_atS own ic cls names, vx_ot w = true)
    (hU : vx_Zq Bundle.tN "UNASSIGNED_STACK" Bundle.steD A s s.heap) (hN : vx_Zq Bundle.tN "SUPPRESSED_SENTINEL" Bundle.listD A s s.heap) (hS : va_S A s.heap H locs) (hsize : ls.size = c.maxLocals)
    (d0 : decode cc pc = .ok (.new ik, 3)) (d3 : decode cc (pc + 3) = .ok (.dup, 1)) (d4 : decode cc (pc + 4) = .ok (.ldc_w is, 3)) (d7 : decode cc (pc + 7) = .ok (.invokespecial ic, 3)) (d10 : decode cc (pc + 10) = .ok (.athrow, 1))
    (hout : ∀ x ∈ c.exceptionTable.toList, covers x (pc + 10) = false)
    (hRframes : names.length + 3 < R.frames) (hRlocals : (rest.map fun v => v.category).sum + (13 * (names.length + 1) + 43) ≤ R.locals) (hRcells : cells + 1 ≤ R.cells) (hRslots : slots + 6 ≤ R.slots) (hlocks : meth.locks = false)
    (hx : ∀ t : State, s.vm.Alike t.vm → H.size ≤ t.heap.size → (∀ q : Nat, q < H.size → t.heap[q]? = H[q]?) → XC cls s t)
    (hf : ∀ z ∈ locs, free z.base) (hc : cells + 1 ≤ mc) (hs : slots + 6 ≤ ms) :
    W p l e R s m args below meth c H locs cells slots (vx_MQ below Qc XC args s mc ms free) (F0 m pc ls rest) := by
  intro T hT X
  have htr : e.platform.stackTraces = false := (show e.platform.stackTraces = l.stackTraces by rw [X.admits.platform]).trans hl
  have Y := vx_rebase X (R' := { frames := R.frames, locals := R.locals, cells := 1, slots := 6 }) (Nat.le_refl _) (Nat.le_refl _) hRcells hRslots
  obtain ⟨s', hA⟩ : ∃ z, z = (T.setVm s.vm).setFrames (.invoking m args :: below) := ⟨_, rfl⟩
  rw [← hA] at Y
  have hvm : s'.vm = s.vm := by rw [hA]; rfl
  have hhp : s'.heap = H := by rw [hA]; exact hT
  have hW0 : s.WarmedH s'.vm := by rw [hvm]; exact State.WarmedH.refl s
  have hat' : ∀ w ∈ vx_atS own ic cls names, w.before args s' = true := fun w hw => vx_ot_at hW0 hvm.symm (hgood w (List.mem_cons_of_mem _ (List.mem_cons_of_mem _ hw))) (hat w hw)
  have hk' : (Cond.classLink own ik cls).before args s' = true := vx_ot_at hW0 hvm.symm (hgood _ List.mem_cons_self) hk
  have hini' : (Cond.initialized cls).before args s' = true := vx_ot_at hW0 hvm.symm (hgood _ (List.mem_cons_of_mem _ List.mem_cons_self)) hini
  have hU' : vx_Zq Bundle.tN "UNASSIGNED_STACK" Bundle.steD A s' s'.heap := by rw [hhp]; exact vx_Zq.moved hW0.alike (hU.kept hS.2.1)
  have hN' : vx_Zq Bundle.tN "SUPPRESSED_SENTINEL" Bundle.listD A s' s'.heap := by rw [hhp]; exact vx_Zq.moved hW0.alike (hN.kept hS.2.1)
  have h : ∀ w ∈ Bundle.ownAtoms own ic cls names, w.before args s' = true := vx_own hat' (vx_isRefq hU'.1) (vx_isRefq hN'.1) hU'.2.word hN'.2.word
  have hown' : s'.vm.findClass own = some m.cls := by rw [hvm]; exact hown
  have hins : (Cond.instantiable cls 6).before args s' = true := h _ (by simp [Bundle.ownAtoms])
  obtain ⟨vm₁, cX, kX, hfX, hkX, -, -, X₁, st1⟩ := Y.newCold hexec (own := own) (C := cls) (index := ik) (n := 6) hown' hk' hins hini'
    (g := F0 m pc ls rest) rfl (by rw [hb]; exact d0) (Nat.le_refl _) (Nat.le_refl _)
  generalize hT1 : (T.setVm vm₁).pushCell { cls := cX, slots := kX.instanceTypes.map defaultValue, vm := .none } = T1 at X₁ st1
  have hcat : (Value.ref T.heap.size).category = 1 := rfl
  have hcellA : T1.heap[T.heap.size]? = some (freshCell cX kX) := by rw [← hT1]; exact State.heap_pushCell_size _ _
  have d3' : decode c.code (pc + 3) = .ok (.dup, 1) := by rw [hb]; exact d3
  have d4' : decode c.code (pc + 4) = .ok (.ldc_w is, 3) := by rw [hb]; exact d4
  have hstr' : vk_R own is text sa s' := vk_R.warm hW0 hstr
  obtain ⟨U, hsteps, hrun, hend, hW, hsame, ce, hce, hO⟩ := X₁.ctorThrowS hexec htr (own := own) (cls := cls) (names := names) (ic := ic) hown' hcls hnames h (fun x hx => nomatch hx) hfX hkX hcellA (by rw [hhp, hT]; exact Nat.le_refl _) (msg := .ref sa) rfl
    (g := { method := m, pc := pc + 7, locals := ls, stack := .ref sa :: .ref T.heap.size :: .ref T.heap.size :: rest, locked := none }) rfl hsize rfl rfl (rest := rest) rfl
    (by rw [hb]; exact d7) (by rw [hb]; exact d10) hout hRframes (by simp only [List.map_cons, List.sum_cons, hcat]; omega) hlocks
  obtain ⟨f1, f2⟩ := vx_frame hsame
  rw [hhp] at f1 f2
  have hWs : s.WarmedH U.vm := State.WarmedH.trans hW0 hW
  have hcl : s.vm.findClass cls = some ce.cls := by
    have h9 := hO.cls
    rw [hvm] at h9
    exact h9
  have hall : s.sameButNew ({ U with vm := s.vm } : State) locs mc ms := by
    subst hA
    obtain ⟨e1, e2⟩ := hsame
    rw [State.setFrames_setFrames] at e1
    have h2 : (T.setVm s.vm).sameButNew ({ U with vm := s.vm } : State) [] (0 + 1) (0 + 6) := ⟨e1, e2⟩
    have h3 := X.same.trans h2
    rw [List.append_nil] at h3
    exact h3.mono hc hs
  refine ⟨U, ?_, .threw T.heap.size, hrun, hend, Or.inr ⟨T.heap.size, rfl, cls, ce, locs, hx U hWs.alike f1 (fun q hq => f2 q hq (fun z hz => nomatch hz)), hce, hO.vm, hcl, hWs, hall, hf⟩⟩
  refine st1 _ ?_
  show Steps p.tables e below (T1.setTop { method := m, pc := pc + 3, locals := ls, stack := .ref T.heap.size :: rest, locked := none }) _
  jvm_step X₁.here [X₁.here.top, hexec, d3', Value.category]
  exact X₁.ldcStringW hexec (own := own) (text := text) (index := is) (a := sa) hown' hstr'.1 hstr'.2
    (g := { method := m, pc := pc + 4, locals := ls, stack := .ref T.heap.size :: .ref T.heap.size :: rest, locked := none }) rfl d4' _ hsteps
end Ends
section Bodies
variable {l : Launch}
theorem vx_ofW {y : MethodName} {ws ws' : List Cond} {rm : Room} {Pc : Array Value → State → Prop} {Qc : Array Value → State → Outcome → State → Prop} {XC : String → State → State → Prop} {mc ms : Nat} {free : Addr → Prop} {cc : ByteArray} {maxL : Nat} {ret : Option FieldType}
    (hy : plainName y.cls = true) (hw : ws = Cond.code y cc maxL ret :: ws')
    (body : ∀ p e s m args below meth c s₁, BodyLoose p l y (headSpec ws rm) cc maxL ret e s m args below meth c s₁ → c.maxLocals = maxL → (∀ x ∈ c.exceptionTable.toList, False) → Pc args s →
      W p l e (headSpec ws rm).room s m args below meth c s.heap [] 0 0 (vx_MQ below Qc XC args s mc ms free) (entryFrame m args maxL)) : vx_Met l y ws rm Pc Qc XC mc ms free := by
  refine MetFree.of_bodyS (code := cc) (maxLocals := maxL) (ret := ret) hy ?_ ?_
  · intro args s m h hn
    obtain ⟨meth, c, h1, h2, h3, h4, h5, h6, -, -⟩ := Cond.code_spec hn (atoms_spec (ws := ws) h _ (by rw [hw]; exact List.mem_cons_self))
    exact ⟨meth, c, h1, h2, h3, h4, h5, h6⟩
  · intro p e s m args below meth c s₁ B hml hP _
    have hh0 : s₁.heap = s.heap := by rw [B.state]; rfl
    have ht : ∀ x ∈ c.exceptionTable.toList, False := by
      obtain ⟨meth9, c9, h1, h2, -, -, -, -, h7, -⟩ := Cond.code_spec B.named (atoms_spec (ws := ws) B.pre _ (by rw [hw]; exact List.mem_cons_self))
      cases Option.some.inj (h1.symm.trans B.method)
      cases Option.some.inj (h2.symm.trans (Stand.of_body B).code)
      intro x hx
      rw [Array.isEmpty_iff.mp h7] at hx
      cases hx
    obtain ⟨t, a1, o, b1, b2, b3⟩ := body p e s m args below meth c s₁ B hml ht hP s₁ hh0 (Stand.of_body B)
    exact ⟨t, o, a1, b1, b2, b3⟩
/-- the table of a body with handlers -/
theorem vx_table {p : Program} {x y : MethodName} {S : Spec} {cc bytes : ByteArray} {maxL maxL' : Nat} {ret ret' : Option FieldType} {e : Env} {s s₁ : State} {m : MethodId} {args : Array Value} {below : List Frame} {meth : Method} {c : Code} {hh : List (Nat × Nat × Nat × Nat)}
    (B : BodyLoose p l y S cc maxL ret e s m args below meth c s₁) (h : (Cond.codeWith y bytes maxL' ret' hh).before args s = true) : c.exceptionTable.toList = tableOf hh := by
  obtain ⟨m9, meth9, c9, hn9, h1, h2, -, -, h6, -⟩ := Cond.codeWith_spec h
  cases Option.some.inj (hn9.symm.trans B.named)
  cases Option.some.inj (h1.symm.trans B.method)
  cases Option.some.inj (h2.symm.trans (Stand.of_body B).code)
  rw [← h6, table_eq]
end Bodies
end VXA
/-! ===== END ===== -/
/-! ===== BEGIN a static call of a method with an exception table ===== -/
section VXS
variable {p : Program} {l : Launch} {e : Env} {R : Room} {s : State} {m : MethodId} {args : Array Value} {below : List Frame} {meth : Method} {c : Code} {T : State} {H : Heap} {locs : List Loc} {cells slots : Nat}
abbrev vx_CSW (R : Room) (s : State) (args : Array Value) (own : String) (index : Nat) (y : MethodName) (bytes : ByteArray) (maxL : Nat) (ret : Option FieldType) (hh : List (Nat × Nat × Nat × Nat)) (ws : List Cond) (rm : Room) (mc ms n : Nat) : Prop :=
  (rm.cells = mc ∧ rm.slots = ms ∧ rm.frames + 1 ≤ R.frames ∧ 8 + (maxL + 11) + rm.locals ≤ R.locals ∧ (∀ w ∈ ws, ∀ (a' : Array Value) (U : State), s.WarmedH U.vm → w.before a' U = true) ∧ Cond.codeWith y bytes maxL ret hh ∈ ws) ∧
  (Cond.codeWith y bytes maxL ret hh).before args s = true ∧ (Cond.initialized y.cls).before args s = true ∧ (y.cls ≠ "java/lang/invoke/MethodHandle" ∧ y.cls ≠ "java/lang/invoke/VarHandle") ∧
  (∀ sig, parseMethodDescriptor y.desc = some sig → n = sig.parameters.length) ∧ (Cond.methodLink own index y).before args s = true ∧ (Cond.static y).before args s = true
theorem vx_cwSW {own : String} {index maxL mc ms : Nat} {y : MethodName} {bytes : ByteArray} {ret : Option FieldType} {hh : List (Nat × Nat × Nat × Nat)} {Ts ws ws' : List Cond} {rm : Room} (n : Nat) (ht : ∀ w ∈ Ts, w.before args s = true) (hT : GoodIn Ts (va_wsS own index y ws)) (hw : ws = Cond.codeWith y bytes maxL ret hh :: ws') (hrc : rm.cells = mc) (hrs : rm.slots = ms)
    (hd : y.cls ≠ "java/lang/invoke/MethodHandle" ∧ y.cls ≠ "java/lang/invoke/VarHandle" ∧ (parseMethodDescriptor y.desc).map (fun d => d.parameters.length) = some n) (hR : rm.frames + 1 ≤ R.frames ∧ 8 + (maxL + 11) + rm.locals ≤ R.locals) :
    vx_CSW R s args own index y bytes maxL ret hh ws rm mc ms n := by
  have ok : ∀ w ∈ va_wsS own index y ws, w.before args s = true := fun w h => ht w (hT w h).1
  have hG : GoodIn Ts ws := fun w h => hT w (by unfold va_wsS; exact List.mem_append_right _ h)
  have hc : Cond.codeWith y bytes maxL ret hh ∈ ws := by rw [hw]; exact List.mem_cons_self
  refine ⟨⟨hrc, hrs, hR.1, hR.2, pay_in ht hG, hc⟩, ht _ (hG _ hc).1, ok _ (by simp [va_wsS]), ⟨hd.1, hd.2.1⟩, fun sig h => ?_, ok _ (by simp [va_wsS]), ok _ (by simp [va_wsS])⟩
  have h2 := hd.2.2
  rw [h] at h2
  exact (Option.some.inj h2).symm
theorem vx_callSW (X : Stand p l e R s m args below meth c T locs cells slots) (hexec : p.tables.exec = Jvm.exec) {own : String} {index : Nat} {y : MethodName} {bytes : ByteArray} {maxL : Nat} {ret : Option FieldType} {hh : List (Nat × Nat × Nat × Nat)}
    (hown : s.vm.findClass own = some m.cls) (hlink : (Cond.methodLink own index y).before args s = true) (hstat : (Cond.static y).before args s = true) (hinit : (Cond.initialized y.cls).before args s = true)
    (hcode : (Cond.codeWith y bytes maxL ret hh).before args s = true) (hy : y.cls ≠ "java/lang/invoke/MethodHandle" ∧ y.cls ≠ "java/lang/invoke/VarHandle")
    {W9 : Nat} {Pre : Pt → Array Value → Prop} {Post : Pt → Array Value → Option Value → Pt → Prop} (hK : Back l R p e below s args y 3 W9 Pre Post)
    {g : JFrame} (hg : g.method = m) (hsize : g.locals.size = c.maxLocals) {argsL rest : List Value} (hlen : ∀ sig, parseMethodDescriptor y.desc = some sig → argsL.length = sig.parameters.length)
    (hstack : g.stack = argsL.reverse ++ rest) (hW : 2 * g.monitorRoom + (rest.map fun v => v.category).sum ≤ W9) (hdg : decode c.code g.pc = .ok (.invokestatic index, 3))
    (hpre : ∀ vm₁, s.WarmedH vm₁ → Pre ⟨T.setVm vm₁, locs, cells, slots⟩ argsL.toArray) :
    ∃ (v : Option Value) (vm₁ : Vm) (B : Pt), s.WarmedH vm₁ ∧ Stand p l e R s m args below meth c B.U B.locs B.cells B.slots ∧ Post ⟨T.setVm vm₁, locs, cells, slots⟩ argsL.toArray v B ∧
      ∀ target, Steps p.tables e below (B.U.setTop { g with pc := g.pc + 3, stack := v.toList ++ rest }) target → Steps p.tables e below (T.setTop g) target := by
  obtain ⟨mk, methM, cM, hnamed, hmethM, -, -, -, -, -, -, hsigM⟩ := Cond.codeWith_spec hcode
  have hstatic : methM.isStatic = true := Cond.static_spec hnamed hmethM hstat
  obtain ⟨kP, hkP, -⟩ := className_of_methodNamed hnamed
  have hinitP : kP.init = .initialized := Cond.initialized_spec (findClass_of_methodNamed hnamed) hkP hinit
  obtain ⟨vm₁, X₁, hstep₁⟩ := X.invokestatic hexec hown hlink hnamed hmethM hstatic hkP hinitP hy (g := g) hg (argsL := argsL) (rest := rest) (hlen _ hsigM) hstack hdg
  obtain ⟨v, B, X', hpost, hsteps⟩ := hK m meth c ⟨T.setVm vm₁, locs, cells, slots⟩ { g with stack := rest } (.invokestatic index) mk argsL.toArray X₁ hg hsize hdg hW (X₁.named hnamed) (hpre vm₁ X₁.warmed)
  exact ⟨v, vm₁, B, X₁.warmed, X', hpost, fun target h => hstep₁ _ fun acts => by rw [doInvoke_state]; exact hsteps.trans h⟩
theorem vx_runSW {y : MethodName} {bytes cc : ByteArray} {maxL nL mc ms n index : Nat} {ret : Option FieldType} {hh : List (Nat × Nat × Nat × Nat)} {ws : List Cond} {rm : Room} {Pc : Array Value → State → Prop} {Qc : Array Value → State → Outcome → State → Prop} {free : Addr → Prop} {Ts : List Cond} {own : String} {As rest : List Value} {g : JFrame}
    (S : CallFix p m c cc nL s args Ts own) (hM : Met l y ws rm Pc Qc mc ms free) (cw : vx_CSW R s args own index y bytes maxL ret hh ws rm mc ms n) (hp : PreS s H Pc As)
    (hg : g.method = m) (hn : As.length = n) (hsize : g.locals.size = nL) (hstack : g.stack = As.reverse ++ rest) (hW : 2 * g.monitorRoom + (rest.map fun v => v.category).sum ≤ 8) (hdg : decode cc g.pc = .ok (.invokestatic index, 3)) (hf : cells + mc ≤ R.cells ∧ slots + ms ≤ R.slots) :
    va_Run p l e R s m args below meth c H locs cells slots mc ms g rest (Qc As.toArray) (free) := by
  obtain ⟨⟨hrc, hrs, hfr, hlo, hws, hcw⟩, hcode, hini, hy, hlen, hl, hstt⟩ := cw
  have hK : Back l R p e below s args y 3 8 (PreOf R mc ms Pc) (PostOf Qc mc ms free) := va_backW (hh := hh) (bytes := bytes) (maxL := maxL) (ret := ret) hM hp.1 hrc hrs hfr hlo hws hcw (fun a' U hW => word_at hW (Or.inl (by first | rfl | simp [Cond.onTables, Cond.keeps, Cond.steady])) hini)
  obtain ⟨hx, hb, hml, ho, -⟩ := S
  intro T hT X
  obtain ⟨v, vm₁, ⟨U', l2, c2, s2⟩, hW₁, X', ⟨g', mk, t, L, e1, e2, hq, h1, hL, h2, h3⟩, st⟩ := vx_callSW X hx (hh := hh) (bytes := bytes) (maxL := maxL) (ret := ret) ho hl hstt hini hcode hy hK hg (hsize.trans hml.symm) (argsL := As) (rest := rest) (fun sig h => hn.trans (hlen sig h)) hstack hW (by rw [hb]; exact hdg)
    (fun vm₁ hW₁ => ⟨hf.1, hf.2, hp.2 (T.setVm vm₁) hT hW₁⟩)
  dsimp only [Pt.U, Pt.locs, Pt.cells, Pt.slots] at X' e1 e2 h1 h2 h3 st
  subst h1; subst h2; subst h3
  exact ⟨v, (T.setVm vm₁).calling g' mk As.toArray, t, U', L, hT, X', hL, e1, e2, hq, st⟩
/-- not caught here, past rows that name other classes: it goes on to the caller -/
theorem vx_outP {p : Program} {l : Launch} {e : Env} {R : Room} {s : State} {m : MethodId} {args : Array Value} {below : List Frame} {meth : Method} {c : Code} {H : Heap} {locs : List Loc} {cells slots : Nat} {free : Addr → Prop} {ls : Array Slot} {rest : List Value} {Qc : Array Value → State → Outcome → State → Prop} {XC : String → State → State → Prop}
    {pc : Nat} {own E : String} {ce : Cell} {q : Addr} {mc ms : Nat} (hown : s.vm.findClass own = some m.cls) (hlocks : meth.locks = false)
    (hpass : ∀ z ∈ c.exceptionTable.toList, covers z pc = false ∨ (z.catchType ≠ 0 ∧ ∃ nm : String, (Cond.classLink own z.catchType nm).before args s = true ∧ va_Nc E nm s)) (hcell : H[q]? = some ce) (hv : ce.vm = .none) (hcl : s.vm.findClass E = some ce.cls)
    (hx : ∀ t : State, t.heap = H → s.vm.Alike t.vm → XC E s t) (hf : ∀ z ∈ locs, free z.base) (hc : cells ≤ mc) (hs : slots ≤ ms) :
    vx_W p l e R s m args below meth c H locs cells slots (vx_MQ below Qc XC args s mc ms free) (F0 m pc ls rest) q := by
  intro T hT X
  have hpl : e.platform.magicAccessors = ({} : Platform).magicAccessors := by rw [X.admits.platform]
  obtain ⟨vm', hW', X', st⟩ := X.outThrough hlocks q (g := F0 m pc ls rest) rfl rfl rfl (cell := ce) (by rw [hT]; exact hcell) (by rw [hv]; rfl)
    (by obtain ⟨k9, h9, -⟩ := Vm.findClass_spec hcl; exact ⟨k9, h9⟩) (fun z hz => by
      rcases hpass z hz with h | ⟨hz0, nm, hl1, hn1⟩
      · exact Or.inl h
      · obtain ⟨c6, hc6, hcl6⟩ := Cond.classLink_spec hown hl1 e.platform hpl
        obtain ⟨a8, b8, h1, h2, h3⟩ := hn1
        cases Option.some.inj (h1.symm.trans hcl)
        cases Option.some.inj (h2.symm.trans hc6)
        exact Or.inr ⟨hz0, _, hcl6, h3⟩)
  obtain ⟨g₀, hfr⟩ := X'.frames_eq
  have hcell9 : ((T.setVm vm').setFrames (.throwing q :: below)).heap[q]? = some ce := by
    show T.heap[q]? = some ce
    rw [hT]; exact hcell
  have hend : Ended ((T.setVm vm').setFrames (.throwing q :: below)) below (.threw q) := State.frames_setFrames _ (State.cur_lt_of_frames hfr)
  refine ⟨(T.setVm vm').setFrames (.throwing q :: below), ?_, .threw q, X'.here.running, hend, Or.inr ⟨q, rfl, E, ce, locs, hx _ hT (X'.ends _).1.alike, hcell9, hv, hcl, (X'.ends _).1, (X'.ends _).2.mono hc hs, hf⟩⟩
  rw [X.pushThrowing_eq]
  exact st
/-- a thing of a world lies in the heap -/
theorem vx_lt {D : va_G} {cl : List vw_C} {ws : va_W} {H1 : Heap} (h : va_P D cl ws H1) {k : Nat} {q : Nat × va_E} (hk : ws[k]? = some q) : q.1 < H1.size := (h k q hk).lt
end VXS
/-! ===== END ===== -/
/-! ===== BEGIN methods with a table of their own: called by a name, returning or throwing ===== -/
section VXH
/-! vx_backW, vx_callVX, vx_callSX, vx_callVW, vx_runVW, vx_runVX, vx_runSX, vx_ofWH follow the same proofs as their sisters above (Free/Laws.lean, Shelf42/LK1.lean); vx_outP calls Shelf42/NT130.lean (outThrough). -/
section
variable {l : Launch} {R : Room} {p : Program} {e : Env} {below : List Frame} {s : State} {sargs : Array Value} {y : MethodName} {len W9 : Nat}
theorem vx_backW {ws : List Cond} {rm : Room} {Pc : Array Value → State → Prop} {Qc : Array Value → State → Outcome → State → Prop} {XC : String → State → State → Prop} {mc ms : Nat} {free : Addr → Prop} {bytes : ByteArray} {maxL : Nat} {ret : Option FieldType} {hh : List (Nat × Nat × Nat × Nat)}
    (hM : vx_Met l y ws rm Pc Qc XC mc ms free) (hblind : FrameBlind Pc) (hrc : rm.cells = mc) (hrs : rm.slots = ms)
    (hframes : rm.frames + 1 ≤ R.frames) (hlocals : W9 + (maxL + 11) + rm.locals ≤ R.locals)
    (hws : ∀ w ∈ ws, ∀ a' U, s.WarmedH U.vm → w.before a' U = true) (hcode : Cond.codeWith y bytes maxL ret hh ∈ ws) (hinit : ∀ a' U, s.WarmedH U.vm → (Cond.initialized y.cls).before a' U = true) :
    vx_Back l R p e below s sargs y len W9 (PreOf R mc ms Pc) (PostOf Qc mc ms free) (vx_Post XC mc ms free) := by
  intro m meth c A g ig mk a X hg hsize hdg hW hn hp
  have h1 : (headSpec ws rm).pre.before a A.U = true := atoms_intro fun w hw => hws w hw _ _ X.warmed
  have h2 : (Cond.codeWith y bytes maxL ret hh).before a A.U = true := hws _ hcode _ _ X.warmed
  have h3 : (Cond.initialized y.cls).before a A.U = true := hinit _ _ X.warmed
  have h4 : A.cells + (headSpec ws rm).room.cells ≤ R.cells := by rw [show (headSpec ws rm).room.cells = mc from hrc]; exact hp.1
  have h5 : A.slots + (headSpec ws rm).room.slots ≤ R.slots := by rw [show (headSpec ws rm).room.slots = ms from hrs]; exact hp.2.1
  have hPc : Pc a (A.U.calling g mk a) := hblind _ _ _ _ hp.2.2
  obtain ⟨U, Ls, c0, s0⟩ := A
  dsimp only [Pt.U, Pt.locs, Pt.cells, Pt.slots] at h1 h2 h3 h4 h5 X hn hPc ⊢
  obtain ⟨m9, methY, cY, hn9, hmY, hcY, -, hlY, -⟩ := Cond.codeWith_spec h2
  cases Option.some.inj (hn9.symm.trans hn)
  obtain ⟨kY, hkY, -⟩ := className_of_methodNamed hn
  have hinitY : kY.init = .initialized := Cond.initialized_spec (findClass_of_methodNamed hn) hkY h3
  have h : At U g.method c below := by rw [hg]; exact X.here
  have hlocals9 : W9 + (maxL + 11) + (headSpec ws rm).room.locals ≤ R.locals := hlocals
  have happ : (headSpec ws rm).appliesLoose y e.platform (U.calling g mk a) = true :=
    Spec.appliesLoose_calling (g := g) h hdg hn hkY hinitY
      (X.room_calling (g := g) (R' := (headSpec ws rm).room) hsize hmY hcY hframes (by rw [hlY]; omega) h4 h5) h1
  obtain ⟨mid, hmid⟩ := h.above
  have hfr : (U.setTop g).frames = (.java g :: mid) ++ below := by rw [State.frames_setTop' g h.top, hmid]; rfl
  obtain ⟨o, s₂, hsteps, -, hend, hq⟩ := Steps.callFree hM p X.admits X.cas X.clock (acts := []) hfr happ hPc trivial
  have hq' : vx_Q Qc XC mc ms free a (U.calling g mk a) o s₂ := hq
  rw [State.frames_setTop' g h.top] at hend
  obtain ⟨g₀, hg0⟩ := Option.isSome_iff_exists.mp h.top
  obtain ⟨r, hr⟩ := State.topJava?_eq_some.mp hg0
  have hr' : (({ U with heap := s₂.heap, slotsUsed := s₂.slotsUsed } : State).setVm s₂.vm).frames = .java g₀ :: r := hr
  rcases hq' with ⟨hqc, L, hfe, hL⟩ | ⟨q, rfl, E, ce, L, hx, hce, hcv, hcl, hW₂, hsm, hL⟩
  · obtain ⟨⟨v, rfl⟩, hW₂, e2, q2, q3, q4, q5, q6⟩ := id hfe
    have e3 : s₂ = ({ (U.calling g mk a).setFrames s₂.frames with heap := s₂.heap, slotsUsed := s₂.slotsUsed } : State).setVm s₂.vm := by
      have : s₂ = ({ s₂ with vm := (U.calling g mk a).vm } : State).setVm s₂.vm := rfl
      rw [e2] at this
      exact this
    obtain ⟨c₂, i₂, len₂, hc₂, hd₂, hf₂⟩ := hend
    have hW' : U.WarmedH s₂.vm := hW₂
    have hcc : c₂ = c := by
      have h1 : s₂.code? g.method = U.code? g.method := by
        rw [State.code?_eq, State.code?_eq, hW'.alike.method?]
      exact Option.some.inj (hc₂.symm.trans (h1.trans h.code))
    subst hcc
    have hlen : len₂ = len := by rw [hdg] at hd₂; cases hd₂; rfl
    subst hlen
    have hs₂ : s₂ = (({ U with heap := s₂.heap, slotsUsed := s₂.slotsUsed } : State).setVm s₂.vm).setTop { g with pc := g.pc + len₂, stack := v.toList ++ g.stack } := by
      refine e3.trans ?_
      rw [hf₂, State.calling_eq h.top, State.setFrames_setFrames, State.setTop_of_frames _ hr', hr]
      rfl
    have hsame : U.sameButNew ({ U with heap := s₂.heap, slotsUsed := s₂.slotsUsed } : State) L mc ms := by
      refine ⟨?_, q2, q3, q4, q5, q6⟩
      obtain ⟨t, ht, -⟩ := State.frames_cons hr
      show ({ U with heap := s₂.heap, slotsUsed := s₂.slotsUsed } : State) = { U.setFrames U.frames with heap := s₂.heap, slotsUsed := s₂.slotsUsed }
      rw [State.setFrames_self ht]
    subst hg
    refine Or.inl ⟨v, ⟨(({ U with heap := s₂.heap, slotsUsed := s₂.slotsUsed } : State).setVm s₂.vm), Ls ++ L, c0 + mc, s0 + ms⟩,
      ⟨X.admits, X.cas, X.clock, X.frames, X.room, X.hears, X.method, X.code, (X.here.setHeapUsed s₂.heap s₂.slotsUsed).setVm hW'.alike, X.tail, State.WarmedH.trans X.warmed hW', X.limits, X.bytes, X.same.trans (hsame.setVm s.vm)⟩,
      ⟨g, mk, s₂, L, rfl, rfl, hqc, rfl, hL, rfl, rfl⟩, ?_⟩
    show Steps p.tables e below _ ((({ U with heap := s₂.heap, slotsUsed := s₂.slotsUsed } : State).setVm s₂.vm).setTop { g with pc := g.pc + len₂, stack := v.toList ++ g.stack })
    rw [← hs₂]
    exact hsteps
  · obtain ⟨e2, q2, q3, q4, q5, q6⟩ := id hsm
    have e3 : s₂ = ({ (U.calling g mk a).setFrames s₂.frames with heap := s₂.heap, slotsUsed := s₂.slotsUsed } : State).setVm s₂.vm := by
      have : s₂ = ({ s₂ with vm := (U.calling g mk a).vm } : State).setVm s₂.vm := rfl
      rw [e2] at this
      exact this
    have hf₂ : s₂.frames = .throwing q :: .java g :: U.frames.tail := hend
    have hW' : U.WarmedH s₂.vm := hW₂
    have hs₂ : s₂ = ((({ U with heap := s₂.heap, slotsUsed := s₂.slotsUsed } : State).setVm s₂.vm).setTop g).pushFrame (.throwing q) := by
      refine e3.trans ?_
      rw [hf₂, State.calling_eq h.top, State.setFrames_setFrames, State.pushFrame, State.frames_setTop _ hr', State.setTop_of_frames _ hr', State.setFrames_setFrames, hr]
      rfl
    have hsame : U.sameButNew ({ U with heap := s₂.heap, slotsUsed := s₂.slotsUsed } : State) L mc ms := by
      refine ⟨?_, q2, q3, q4, q5, q6⟩
      obtain ⟨t, ht, -⟩ := State.frames_cons hr
      show ({ U with heap := s₂.heap, slotsUsed := s₂.slotsUsed } : State) = { U.setFrames U.frames with heap := s₂.heap, slotsUsed := s₂.slotsUsed }
      rw [State.setFrames_self ht]
    subst hg
    refine Or.inr ⟨q, ⟨(({ U with heap := s₂.heap, slotsUsed := s₂.slotsUsed } : State).setVm s₂.vm), Ls ++ L, c0 + mc, s0 + ms⟩,
      ⟨X.admits, X.cas, X.clock, X.frames, X.room, X.hears, X.method, X.code, (X.here.setHeapUsed s₂.heap s₂.slotsUsed).setVm hW'.alike, X.tail, State.WarmedH.trans X.warmed hW', X.limits, X.bytes, X.same.trans (hsame.setVm s.vm)⟩,
      ⟨g, mk, s₂, L, E, ce, rfl, rfl, hx, hce, hcv, hcl, rfl, hL, rfl, rfl⟩, ?_⟩
    show Steps p.tables e below _ (((({ U with heap := s₂.heap, slotsUsed := s₂.slotsUsed } : State).setVm s₂.vm).setTop g).pushFrame (.throwing q))
    rw [← hs₂]
    exact hsteps
end
variable {p : Program} {l : Launch} {e : Env} {R : Room} {s : State} {m : MethodId} {args : Array Value} {below : List Frame} {meth : Method} {c : Code} {T : State} {H : Heap} {locs : List Loc} {cells slots : Nat}
theorem vx_callVX (X : Stand p l e R s m args below meth c T locs cells slots) (hexec : p.tables.exec = Jvm.exec) {own C : String} {index : Nat} {y : MethodName} {bytes : ByteArray} {maxL : Nat} {ret : Option FieldType} {hh : List (Nat × Nat × Nat × Nat)}
    (hown : s.vm.findClass own = some m.cls) (hlink : (Cond.methodLink own index y).before args s = true) (hinst : (Cond.instanceMethod y).before args s = true) (hsel : (Cond.selects C y y).before args s = true)
    (hcode : (Cond.codeWith y bytes maxL ret hh).before args s = true) (hy : y.cls ≠ "java/lang/invoke/MethodHandle" ∧ y.cls ≠ "java/lang/invoke/VarHandle")
    {W9 : Nat} {Pre : Pt → Array Value → Prop} {Post : Pt → Array Value → Option Value → Pt → Prop} {PostX : Pt → Array Value → Addr → Pt → Prop} (hK : vx_Back l R p e below s args y 3 W9 Pre Post PostX)
    {b : Addr} {cellB : Cell} (hcell : T.heap[b]? = some cellB) (hobj : cellB.vm.isStatics = false) (hcls : s.vm.findClass C = some cellB.cls)
    {g : JFrame} (hg : g.method = m) (hsize : g.locals.size = c.maxLocals) {argsL rest : List Value} (hlen : ∀ sig, parseMethodDescriptor y.desc = some sig → argsL.length = sig.parameters.length)
    (hstack : g.stack = argsL.reverse ++ .ref b :: rest) (hW : 2 * g.monitorRoom + (rest.map fun v => v.category).sum ≤ W9) (hdg : decode c.code g.pc = .ok (.invokevirtual index, 3))
    (hpre : ∀ vm₁, s.WarmedH vm₁ → Pre ⟨T.setVm vm₁, locs, cells, slots⟩ (Value.ref b :: argsL).toArray) :
    (∃ (v : Option Value) (vm₁ : Vm) (B : Pt), s.WarmedH vm₁ ∧ Stand p l e R s m args below meth c B.U B.locs B.cells B.slots ∧ Post ⟨T.setVm vm₁, locs, cells, slots⟩ (Value.ref b :: argsL).toArray v B ∧
      ∀ target, Steps p.tables e below (B.U.setTop { g with pc := g.pc + 3, stack := v.toList ++ rest }) target → Steps p.tables e below (T.setTop g) target) ∨
    (∃ (q : Addr) (vm₁ : Vm) (B : Pt), s.WarmedH vm₁ ∧ Stand p l e R s m args below meth c B.U B.locs B.cells B.slots ∧ PostX ⟨T.setVm vm₁, locs, cells, slots⟩ (Value.ref b :: argsL).toArray q B ∧
      Steps p.tables e below (T.setTop g) ((B.U.setTop { g with stack := rest }).pushFrame (.throwing q))) := by
  obtain ⟨mk, methM, hnamed, hmethM, hstM, habM⟩ := Cond.instanceMethod_spec hinst
  obtain ⟨m8, methM', cM, hn8, hmethM', -, -, -, -, -, -, hsigM⟩ := Cond.codeWith_spec hcode
  cases Option.some.inj (hn8.symm.trans hnamed)
  cases hmethM.symm.trans hmethM'
  obtain ⟨c2, r2, m2, q1, q2, q3, q4, kP, hkP, hkPi⟩ := Cond.selects_spec hsel
  cases hcls.symm.trans q1
  cases (State.methodFound?_of_named hnamed hy).symm.trans q2
  cases hnamed.symm.trans q3
  have hselP : selectMethod e.platform s.vm cellB.cls mk = .method mk := by rw [Launch.admits_selectMethod X.admits]; exact q4
  obtain ⟨vm₁, X₁, hstep₁⟩ := X.invokevirtual hexec hown hlink hnamed hmethM hstM hkP hkPi hy (a := b) (cell := cellB) hcell
    (fun z h => by rw [h] at hobj; cases hobj) hselP hmethM habM hkP hkPi (g := g) hg (argsL := argsL) (rest := rest) (hlen _ hsigM) hstack hdg
  rcases hK m meth c ⟨T.setVm vm₁, locs, cells, slots⟩ { g with stack := rest } (.invokevirtual index) mk (Value.ref b :: argsL).toArray X₁ hg hsize hdg hW (X₁.named hnamed) (hpre vm₁ X₁.warmed) with ⟨v, B, X', hpost, hsteps⟩ | ⟨q, B, X', hpost, hsteps⟩
  · exact Or.inl ⟨v, vm₁, B, X₁.warmed, X', hpost, fun target h => hstep₁ _ fun acts => by rw [doInvoke_state]; exact hsteps.trans h⟩
  · exact Or.inr ⟨q, vm₁, B, X₁.warmed, X', hpost, hstep₁ _ fun acts => by rw [doInvoke_state]; exact hsteps⟩
theorem vx_callSX (X : Stand p l e R s m args below meth c T locs cells slots) (hexec : p.tables.exec = Jvm.exec) {own : String} {index : Nat} {y : MethodName} {bytes : ByteArray} {maxL : Nat} {ret : Option FieldType} {hh : List (Nat × Nat × Nat × Nat)}
    (hown : s.vm.findClass own = some m.cls) (hlink : (Cond.methodLink own index y).before args s = true) (hstat : (Cond.static y).before args s = true) (hinit : (Cond.initialized y.cls).before args s = true)
    (hcode : (Cond.codeWith y bytes maxL ret hh).before args s = true) (hy : y.cls ≠ "java/lang/invoke/MethodHandle" ∧ y.cls ≠ "java/lang/invoke/VarHandle")
    {W9 : Nat} {Pre : Pt → Array Value → Prop} {Post : Pt → Array Value → Option Value → Pt → Prop} {PostX : Pt → Array Value → Addr → Pt → Prop} (hK : vx_Back l R p e below s args y 3 W9 Pre Post PostX)
    {g : JFrame} (hg : g.method = m) (hsize : g.locals.size = c.maxLocals) {argsL rest : List Value} (hlen : ∀ sig, parseMethodDescriptor y.desc = some sig → argsL.length = sig.parameters.length)
    (hstack : g.stack = argsL.reverse ++ rest) (hW : 2 * g.monitorRoom + (rest.map fun v => v.category).sum ≤ W9) (hdg : decode c.code g.pc = .ok (.invokestatic index, 3))
    (hpre : ∀ vm₁, s.WarmedH vm₁ → Pre ⟨T.setVm vm₁, locs, cells, slots⟩ argsL.toArray) :
    (∃ (v : Option Value) (vm₁ : Vm) (B : Pt), s.WarmedH vm₁ ∧ Stand p l e R s m args below meth c B.U B.locs B.cells B.slots ∧ Post ⟨T.setVm vm₁, locs, cells, slots⟩ argsL.toArray v B ∧
      ∀ target, Steps p.tables e below (B.U.setTop { g with pc := g.pc + 3, stack := v.toList ++ rest }) target → Steps p.tables e below (T.setTop g) target) ∨
    (∃ (q : Addr) (vm₁ : Vm) (B : Pt), s.WarmedH vm₁ ∧ Stand p l e R s m args below meth c B.U B.locs B.cells B.slots ∧ PostX ⟨T.setVm vm₁, locs, cells, slots⟩ argsL.toArray q B ∧
      Steps p.tables e below (T.setTop g) ((B.U.setTop { g with stack := rest }).pushFrame (.throwing q))) := by
  obtain ⟨mk, methM, cM, hnamed, hmethM, -, -, -, -, -, -, hsigM⟩ := Cond.codeWith_spec hcode
  have hstatic : methM.isStatic = true := Cond.static_spec hnamed hmethM hstat
  obtain ⟨kP, hkP, -⟩ := className_of_methodNamed hnamed
  have hinitP : kP.init = .initialized := Cond.initialized_spec (findClass_of_methodNamed hnamed) hkP hinit
  obtain ⟨vm₁, X₁, hstep₁⟩ := X.invokestatic hexec hown hlink hnamed hmethM hstatic hkP hinitP hy (g := g) hg (argsL := argsL) (rest := rest) (hlen _ hsigM) hstack hdg
  rcases hK m meth c ⟨T.setVm vm₁, locs, cells, slots⟩ { g with stack := rest } (.invokestatic index) mk argsL.toArray X₁ hg hsize hdg hW (X₁.named hnamed) (hpre vm₁ X₁.warmed) with ⟨v, B, X', hpost, hsteps⟩ | ⟨q, B, X', hpost, hsteps⟩
  · exact Or.inl ⟨v, vm₁, B, X₁.warmed, X', hpost, fun target h => hstep₁ _ fun acts => by rw [doInvoke_state]; exact hsteps.trans h⟩
  · exact Or.inr ⟨q, vm₁, B, X₁.warmed, X', hpost, hstep₁ _ fun acts => by rw [doInvoke_state]; exact hsteps⟩
theorem vx_callVW (X : Stand p l e R s m args below meth c T locs cells slots) (hexec : p.tables.exec = Jvm.exec) {own C : String} {index : Nat} {y : MethodName} {bytes : ByteArray} {maxL : Nat} {ret : Option FieldType} {hh : List (Nat × Nat × Nat × Nat)}
    (hown : s.vm.findClass own = some m.cls) (hlink : (Cond.methodLink own index y).before args s = true) (hinst : (Cond.instanceMethod y).before args s = true) (hsel : (Cond.selects C y y).before args s = true)
    (hcode : (Cond.codeWith y bytes maxL ret hh).before args s = true) (hy : y.cls ≠ "java/lang/invoke/MethodHandle" ∧ y.cls ≠ "java/lang/invoke/VarHandle")
    {W9 : Nat} {Pre : Pt → Array Value → Prop} {Post : Pt → Array Value → Option Value → Pt → Prop} (hK : Back l R p e below s args y 3 W9 Pre Post)
    {b : Addr} {cellB : Cell} (hcell : T.heap[b]? = some cellB) (hobj : cellB.vm.isStatics = false) (hcls : s.vm.findClass C = some cellB.cls)
    {g : JFrame} (hg : g.method = m) (hsize : g.locals.size = c.maxLocals) {argsL rest : List Value} (hlen : ∀ sig, parseMethodDescriptor y.desc = some sig → argsL.length = sig.parameters.length)
    (hstack : g.stack = argsL.reverse ++ .ref b :: rest) (hW : 2 * g.monitorRoom + (rest.map fun v => v.category).sum ≤ W9) (hdg : decode c.code g.pc = .ok (.invokevirtual index, 3))
    (hpre : ∀ vm₁, s.WarmedH vm₁ → Pre ⟨T.setVm vm₁, locs, cells, slots⟩ (Value.ref b :: argsL).toArray) :
    ∃ (v : Option Value) (vm₁ : Vm) (B : Pt), s.WarmedH vm₁ ∧ Stand p l e R s m args below meth c B.U B.locs B.cells B.slots ∧ Post ⟨T.setVm vm₁, locs, cells, slots⟩ (Value.ref b :: argsL).toArray v B ∧
      ∀ target, Steps p.tables e below (B.U.setTop { g with pc := g.pc + 3, stack := v.toList ++ rest }) target → Steps p.tables e below (T.setTop g) target := by
  obtain ⟨mk, methM, hnamed, hmethM, hstM, habM⟩ := Cond.instanceMethod_spec hinst
  obtain ⟨m8, methM', cM, hn8, hmethM', -, -, -, -, -, -, hsigM⟩ := Cond.codeWith_spec hcode
  cases Option.some.inj (hn8.symm.trans hnamed)
  cases hmethM.symm.trans hmethM'
  obtain ⟨c2, r2, m2, q1, q2, q3, q4, kP, hkP, hkPi⟩ := Cond.selects_spec hsel
  cases hcls.symm.trans q1
  cases (State.methodFound?_of_named hnamed hy).symm.trans q2
  cases hnamed.symm.trans q3
  have hselP : selectMethod e.platform s.vm cellB.cls mk = .method mk := by rw [Launch.admits_selectMethod X.admits]; exact q4
  obtain ⟨vm₁, X₁, hstep₁⟩ := X.invokevirtual hexec hown hlink hnamed hmethM hstM hkP hkPi hy (a := b) (cell := cellB) hcell
    (fun z h => by rw [h] at hobj; cases hobj) hselP hmethM habM hkP hkPi (g := g) hg (argsL := argsL) (rest := rest) (hlen _ hsigM) hstack hdg
  obtain ⟨v, B, X', hpost, hsteps⟩ := hK m meth c ⟨T.setVm vm₁, locs, cells, slots⟩ { g with stack := rest } (.invokevirtual index) mk (Value.ref b :: argsL).toArray X₁ hg hsize hdg hW (X₁.named hnamed) (hpre vm₁ X₁.warmed)
  exact ⟨v, vm₁, B, X₁.warmed, X', hpost, fun target h => hstep₁ _ fun acts => by rw [doInvoke_state]; exact hsteps.trans h⟩
abbrev vx_CVW (R : Room) (s : State) (args : Array Value) (own C : String) (index : Nat) (y : MethodName) (bytes : ByteArray) (maxL : Nat) (ret : Option FieldType) (hh : List (Nat × Nat × Nat × Nat)) (ws : List Cond) (rm : Room) (mc ms n : Nat) : Prop :=
  (rm.cells = mc ∧ rm.slots = ms ∧ rm.frames + 1 ≤ R.frames ∧ 8 + (maxL + 11) + rm.locals ≤ R.locals ∧ (∀ w ∈ ws, ∀ (a' : Array Value) (U : State), s.WarmedH U.vm → w.before a' U = true) ∧ Cond.codeWith y bytes maxL ret hh ∈ ws) ∧
  (Cond.codeWith y bytes maxL ret hh).before args s = true ∧ (Cond.initialized y.cls).before args s = true ∧ (y.cls ≠ "java/lang/invoke/MethodHandle" ∧ y.cls ≠ "java/lang/invoke/VarHandle") ∧
  (∀ sig, parseMethodDescriptor y.desc = some sig → n = sig.parameters.length) ∧ (Cond.methodLink own index y).before args s = true ∧ (Cond.instanceMethod y).before args s = true ∧ (Cond.selects C y y).before args s = true
theorem vx_cwVW {own C : String} {index maxL mc ms : Nat} {y : MethodName} {bytes : ByteArray} {ret : Option FieldType} {hh : List (Nat × Nat × Nat × Nat)} {Ts ws ws' : List Cond} {rm : Room} (n : Nat) (ht : ∀ w ∈ Ts, w.before args s = true) (hT : GoodIn Ts (wsV own index C y ws)) (hw : ws = Cond.codeWith y bytes maxL ret hh :: ws') (hrc : rm.cells = mc) (hrs : rm.slots = ms)
    (hd : y.cls = C ∧ y.cls ≠ "java/lang/invoke/MethodHandle" ∧ y.cls ≠ "java/lang/invoke/VarHandle" ∧ (parseMethodDescriptor y.desc).map (fun d => d.parameters.length) = some n) (hR : rm.frames + 1 ≤ R.frames ∧ 8 + (maxL + 11) + rm.locals ≤ R.locals) :
    vx_CVW R s args own C index y bytes maxL ret hh ws rm mc ms n := by
  obtain ⟨hC, hd⟩ := hd
  subst hC
  have ok : ∀ w ∈ wsV own index y.cls y ws, w.before args s = true := fun w h => ht w (hT w h).1
  have hG : GoodIn Ts ws := fun w h => hT w (by unfold wsV; exact List.mem_append_right _ h)
  have hc : Cond.codeWith y bytes maxL ret hh ∈ ws := by rw [hw]; exact List.mem_cons_self
  refine ⟨⟨hrc, hrs, hR.1, hR.2, pay_in ht hG, hc⟩, ht _ (hG _ hc).1, ok _ (by simp [wsV]), ⟨hd.1, hd.2.1⟩, fun sig h => ?_, ok _ (by simp [wsV]), ok _ (by simp [wsV]), ok _ (by simp [wsV])⟩
  have h2 := hd.2.2
  rw [h] at h2
  exact (Option.some.inj h2).symm
theorem vx_runVW {y : MethodName} {bytes cc : ByteArray} {maxL nL mc ms n index : Nat} {ret : Option FieldType} {hh : List (Nat × Nat × Nat × Nat)} {ws : List Cond} {rm : Room} {Pc : Array Value → State → Prop} {Qc : Array Value → State → Outcome → State → Prop} {free : Addr → Prop} {Ts : List Cond} {own C : String} {b : Addr} {As rest : List Value} {g : JFrame}
    (S : CallFix p m c cc nL s args Ts own) (hM : Met l y ws rm Pc Qc mc ms free) (cw : vx_CVW R s args own C index y bytes maxL ret hh ws rm mc ms n) (hp : PreV s H C b Pc As)
    (hg : g.method = m) (hn : As.length = n) (hsize : g.locals.size = nL) (hstack : g.stack = As.reverse ++ .ref b :: rest) (hW : 2 * g.monitorRoom + (rest.map fun v => v.category).sum ≤ 8) (hdg : decode cc g.pc = .ok (.invokevirtual index, 3)) (hf : cells + mc ≤ R.cells ∧ slots + ms ≤ R.slots) :
    va_Run p l e R s m args below meth c H locs cells slots mc ms g rest (Qc (Value.ref b :: As).toArray) free := by
  obtain ⟨⟨hrc, hrs, hfr, hlo, hws, hcw⟩, hcode, hini, hy, hlen, hl, hin, hse⟩ := cw
  have hK : Back l R p e below s args y 3 8 (PreOf R mc ms Pc) (PostOf Qc mc ms free) := va_backW (hh := hh) (bytes := bytes) (maxL := maxL) (ret := ret) hM hp.1 hrc hrs hfr hlo hws hcw (fun a' U hW => word_at hW (Or.inl (by first | rfl | simp [Cond.onTables, Cond.keeps, Cond.steady])) hini)
  obtain ⟨hx, hb, hml, ho, -⟩ := S
  obtain ⟨-, ⟨cellB, hcB, hoB, hclB⟩, hPc⟩ := hp
  intro T hT X
  obtain ⟨v, vm₁, ⟨U', l2, c2, s2⟩, hW₁, X', ⟨g', mk, t, L, e1, e2, hq, h1, hL, h2, h3⟩, st⟩ := vx_callVW X hx (C := C) (hh := hh) (bytes := bytes) (maxL := maxL) (ret := ret) ho hl hin hse hcode hy hK (by rw [hT]; exact hcB) hoB hclB hg (hsize.trans hml.symm) (argsL := As) (rest := rest) (fun sig h => hn.trans (hlen sig h)) hstack hW (by rw [hb]; exact hdg)
    (fun vm₁ hW₁ => ⟨hf.1, hf.2, hPc (T.setVm vm₁) hT hW₁⟩)
  dsimp only [Pt.U, Pt.locs, Pt.cells, Pt.slots] at X' e1 e2 h1 h2 h3 st
  subst h1; subst h2; subst h3
  exact ⟨v, (T.setVm vm₁).calling g' mk (Value.ref b :: As).toArray, t, U', L, hT, X', hL, e1, e2, hq, st⟩
section
variable {y : MethodName} {bytes cc : ByteArray} {maxL nL mc ms n index : Nat} {ret : Option FieldType} {ws : List Cond} {rm : Room} {Pc : Array Value → State → Prop} {Qc : Array Value → State → Outcome → State → Prop} {XC : String → State → State → Prop} {free : Addr → Prop} {Ts : List Cond} {own C : String} {b : Addr} {As rest : List Value} {g : JFrame}
theorem vx_runVX {hh : List (Nat × Nat × Nat × Nat)} (S : CallFix p m c cc nL s args Ts own) (hM : vx_Met l y ws rm Pc Qc XC mc ms free) (cw : vx_CVW R s args own C index y bytes maxL ret hh ws rm mc ms n) (hp : PreV s H C b Pc As)
    (hg : g.method = m) (hn : As.length = n) (hsize : g.locals.size = nL) (hstack : g.stack = As.reverse ++ .ref b :: rest) (hW : 2 * g.monitorRoom + (rest.map fun v => v.category).sum ≤ 8) (hdg : decode cc g.pc = .ok (.invokevirtual index, 3)) (hf : cells + mc ≤ R.cells ∧ slots + ms ≤ R.slots) :
    vx_Run p l e R s m args below meth c H locs cells slots mc ms g rest (Qc (Value.ref b :: As).toArray) XC free := by
  obtain ⟨⟨hrc, hrs, hfr, hlo, hws, hcw⟩, hcode, hini, hy, hlen, hl, hin, hse⟩ := cw
  have hK : vx_Back l R p e below s args y 3 8 (PreOf R mc ms Pc) (PostOf Qc mc ms free) (vx_Post XC mc ms free) := vx_backW (hh := hh) (bytes := bytes) (maxL := maxL) (ret := ret) hM hp.1 hrc hrs hfr hlo hws hcw (fun a' U hW => word_at hW (Or.inl (by first | rfl | simp [Cond.onTables, Cond.keeps, Cond.steady])) hini)
  obtain ⟨hx, hb, hml, ho, -⟩ := S
  obtain ⟨-, ⟨cellB, hcB, hoB, hclB⟩, hPc⟩ := hp
  intro T hT X
  rcases vx_callVX X hx (C := C) (hh := hh) (bytes := bytes) (maxL := maxL) (ret := ret) ho hl hin hse hcode hy hK (by rw [hT]; exact hcB) hoB hclB hg (hsize.trans hml.symm) (argsL := As) (rest := rest) (fun sig h => hn.trans (hlen sig h)) hstack hW (by rw [hb]; exact hdg)
    (fun vm₁ hW₁ => ⟨hf.1, hf.2, hPc (T.setVm vm₁) hT hW₁⟩) with ⟨v, vm₁, ⟨U', l2, c2, s2⟩, hW₁, X', ⟨g', mk, t, L, e1, e2, hq, h1, hL, h2, h3⟩, st⟩ | ⟨q, vm₁, ⟨U', l2, c2, s2⟩, hW₁, X', ⟨g', mk, t, L, E, ce, e1, e2, hq, hce, hcv, hcl, h1, hL, h2, h3⟩, st⟩
  · dsimp only [Pt.U, Pt.locs, Pt.cells, Pt.slots] at X' e1 e2 h1 h2 h3 st
    subst h1; subst h2; subst h3
    exact Or.inl ⟨v, (T.setVm vm₁).calling g' mk (Value.ref b :: As).toArray, t, U', L, hT, X', hL, e1, e2, hq, st⟩
  · dsimp only [Pt.U, Pt.locs, Pt.cells, Pt.slots] at X' e1 e2 h1 h2 h3 st hcl
    subst h1; subst h2; subst h3
    exact Or.inr ⟨q, (T.setVm vm₁).calling g' mk (Value.ref b :: As).toArray, t, U', L, E, ce, hT, X', hL, e1, e2, hq, hce, hcv, vx_cls hW₁ hcl, st⟩
theorem vx_runSX {hh : List (Nat × Nat × Nat × Nat)} (S : CallFix p m c cc nL s args Ts own) (hM : vx_Met l y ws rm Pc Qc XC mc ms free) (cw : vx_CSW R s args own index y bytes maxL ret hh ws rm mc ms n) (hp : PreS s H Pc As)
    (hg : g.method = m) (hn : As.length = n) (hsize : g.locals.size = nL) (hstack : g.stack = As.reverse ++ rest) (hW : 2 * g.monitorRoom + (rest.map fun v => v.category).sum ≤ 8) (hdg : decode cc g.pc = .ok (.invokestatic index, 3)) (hf : cells + mc ≤ R.cells ∧ slots + ms ≤ R.slots) :
    vx_Run p l e R s m args below meth c H locs cells slots mc ms g rest (Qc As.toArray) XC free := by
  obtain ⟨⟨hrc, hrs, hfr, hlo, hws, hcw⟩, hcode, hini, hy, hlen, hl, hstt⟩ := cw
  have hK : vx_Back l R p e below s args y 3 8 (PreOf R mc ms Pc) (PostOf Qc mc ms free) (vx_Post XC mc ms free) := vx_backW (hh := hh) (bytes := bytes) (maxL := maxL) (ret := ret) hM hp.1 hrc hrs hfr hlo hws hcw (fun a' U hW => word_at hW (Or.inl (by first | rfl | simp [Cond.onTables, Cond.keeps, Cond.steady])) hini)
  obtain ⟨hx, hb, hml, ho, -⟩ := S
  intro T hT X
  rcases vx_callSX X hx (hh := hh) (bytes := bytes) (maxL := maxL) (ret := ret) ho hl hstt hini hcode hy hK hg (hsize.trans hml.symm) (argsL := As) (rest := rest) (fun sig h => hn.trans (hlen sig h)) hstack hW (by rw [hb]; exact hdg)
    (fun vm₁ hW₁ => ⟨hf.1, hf.2, hp.2 (T.setVm vm₁) hT hW₁⟩) with ⟨v, vm₁, ⟨U', l2, c2, s2⟩, hW₁, X', ⟨g', mk, t, L, e1, e2, hq, h1, hL, h2, h3⟩, st⟩ | ⟨q, vm₁, ⟨U', l2, c2, s2⟩, hW₁, X', ⟨g', mk, t, L, E, ce, e1, e2, hq, hce, hcv, hcl, h1, hL, h2, h3⟩, st⟩
  · dsimp only [Pt.U, Pt.locs, Pt.cells, Pt.slots] at X' e1 e2 h1 h2 h3 st
    subst h1; subst h2; subst h3
    exact Or.inl ⟨v, (T.setVm vm₁).calling g' mk As.toArray, t, U', L, hT, X', hL, e1, e2, hq, st⟩
  · dsimp only [Pt.U, Pt.locs, Pt.cells, Pt.slots] at X' e1 e2 h1 h2 h3 st hcl
    subst h1; subst h2; subst h3
    exact Or.inr ⟨q, (T.setVm vm₁).calling g' mk As.toArray, t, U', L, E, ce, hT, X', hL, e1, e2, hq, hce, hcv, vx_cls hW₁ hcl, st⟩
end
end VXH
theorem vx_ofWH {l : Launch} {y : MethodName} {ws ws' : List Cond} {rm : Room} {Pc : Array Value → State → Prop} {Qc : Array Value → State → Outcome → State → Prop} {XC : String → State → State → Prop} {mc ms : Nat} {free : Addr → Prop} {cc : ByteArray} {maxL : Nat} {ret : Option FieldType} {hh : List (Nat × Nat × Nat × Nat)}
    (hy : plainName y.cls = true) (hw : ws = Cond.codeWith y cc maxL ret hh :: ws')
    (body : ∀ p e s m args below meth c s₁, BodyLoose p l y (headSpec ws rm) cc maxL ret e s m args below meth c s₁ → c.maxLocals = maxL → Pc args s →
      W p l e (headSpec ws rm).room s m args below meth c s.heap [] 0 0 (vx_MQ below Qc XC args s mc ms free) (entryFrame m args maxL)) : vx_Met l y ws rm Pc Qc XC mc ms free := by
  refine MetFree.of_bodyS (code := cc) (maxLocals := maxL) (ret := ret) hy ?_ ?_
  · intro args s m h hn
    obtain ⟨m9, meth, c, hn9, h1, h2, h3, h4, -, h5, h6, -⟩ := Cond.codeWith_spec (atoms_spec (ws := ws) h _ (by rw [hw]; exact List.mem_cons_self))
    cases hn.symm.trans hn9
    exact ⟨meth, c, h1, h2, h3, h4, h5, h6⟩
  · intro p e s m args below meth c s₁ B hml hP _
    have hh0 : s₁.heap = s.heap := by rw [B.state]; rfl
    obtain ⟨t, a1, o, b1, b2, b3⟩ := body p e s m args below meth c s₁ B hml hP s₁ hh0 (Stand.of_body B)
    exact ⟨t, o, a1, b1, b2, b3⟩
/-! ===== END ===== -/

def RX0 : String := "PairNames$Buffer"
def TX0 : u_T := fun k => match k with
  | 0 => ("PairNames$Buffer", "codes", "LPairNames$Cells;", true)
  | _ => ("PairNames$Buffer", "length", "I", false)
def tyX0 : Nat → FieldType := fun k => match k with
  | 0 => .object "PairNames$Cells"
  | _ => .int
theorem nmX0 : ∀ a, a < 2 → ∀ b, b < 2 → a ≠ b → (TX0 a).2.1 ≠ (TX0 b).2.1 := by decide +kernel
theorem tyX0_ok : ∀ k, k < 2 → parseFieldDescriptor (TX0 k).2.2.1 = some (tyX0 k) := by decide +kernel
abbrev cX0_init : ByteArray := prog_2_method_1_code
def yX0_init : MethodName := ⟨RX0, "<init>", "()V"⟩
abbrev cX0_at : ByteArray := prog_2_method_2_code
def yX0_at : MethodName := ⟨RX0, "at", "(I)I"⟩
abbrev cX0_push : ByteArray := prog_2_method_3_code
def yX0_push : MethodName := ⟨RX0, "push", "(I)V"⟩
abbrev cX0_empty : ByteArray := prog_2_method_4_code
def yX0_empty : MethodName := ⟨RX0, "empty", "()V"⟩
abbrev cX0_isLetter : ByteArray := prog_2_method_5_code
def yX0_isLetter : MethodName := ⟨RX0, "isLetter", "(I)Z"⟩
abbrev cX0_isNumber : ByteArray := prog_2_method_6_code
def yX0_isNumber : MethodName := ⟨RX0, "isNumber", "(I)Z"⟩
abbrev cX0_firstWrong : ByteArray := prog_2_method_7_code
def yX0_firstWrong : MethodName := ⟨RX0, "firstWrong", "()I"⟩
abbrev cX0_isText : ByteArray := prog_2_method_8_code
def yX0_isText : MethodName := ⟨RX0, "isText", "()Z"⟩
abbrev cX0_timesAt : ByteArray := prog_2_method_9_code
def yX0_timesAt : MethodName := ⟨RX0, "timesAt", "(I)I"⟩
abbrev cX0_signAmount : ByteArray := prog_2_method_10_code
def yX0_signAmount : MethodName := ⟨RX0, "signAmount", "()I"⟩
abbrev cX0_writeBehind : ByteArray := prog_2_method_11_code
def yX0_writeBehind : MethodName := ⟨RX0, "writeBehind", "(LPairNames$Row;)V"⟩
def RX1 : String := "PairNames$Cells"
def TX1 : u_T := fun k => match k with
  | _ => ("PairNames$Cells", "values", "[I", true)
def tyX1 : Nat → FieldType := fun k => match k with
  | _ => .array .int
theorem nmX1 : ∀ a, a < 1 → ∀ b, b < 1 → a ≠ b → (TX1 a).2.1 ≠ (TX1 b).2.1 := by decide +kernel
theorem tyX1_ok : ∀ k, k < 1 → parseFieldDescriptor (TX1 k).2.2.1 = some (tyX1 k) := by decide +kernel
abbrev cX1_init : ByteArray := prog_3_method_1_code
def yX1_init : MethodName := ⟨RX1, "<init>", "(I)V"⟩
abbrev cX1_at : ByteArray := prog_3_method_2_code
def yX1_at : MethodName := ⟨RX1, "at", "(I)I"⟩
abbrev cX1_put : ByteArray := prog_3_method_3_code
def yX1_put : MethodName := ⟨RX1, "put", "(II)V"⟩
abbrev cX1_fill : ByteArray := prog_3_method_4_code
def yX1_fill : MethodName := ⟨RX1, "fill", "(I)V"⟩
abbrev cX1_copyFrom : ByteArray := prog_3_method_5_code
def yX1_copyFrom : MethodName := ⟨RX1, "copyFrom", "(LPairNames$Cells;)V"⟩
def RX2 : String := "PairNames$History"
def TX2 : u_T := fun k => match k with
  | 0 => ("PairNames$History", "states", "[LPairNames$State;", true)
  | 1 => ("PairNames$History", "amount", "I", false)
  | _ => ("PairNames$History", "free", "I", false)
def tyX2 : Nat → FieldType := fun k => match k with
  | 0 => .array (.object "PairNames$State")
  | 1 => .int
  | _ => .int
theorem nmX2 : ∀ a, a < 3 → ∀ b, b < 3 → a ≠ b → (TX2 a).2.1 ≠ (TX2 b).2.1 := by decide +kernel
theorem tyX2_ok : ∀ k, k < 3 → parseFieldDescriptor (TX2 k).2.2.1 = some (tyX2 k) := by decide +kernel
abbrev cX2_init : ByteArray := prog_4_method_1_code
def yX2_init : MethodName := ⟨RX2, "<init>", "()V"⟩
abbrev cX2_save : ByteArray := prog_4_method_2_code
def yX2_save : MethodName := ⟨RX2, "save", "(LPairNames$State;)V"⟩
abbrev cX2_restore : ByteArray := prog_4_method_3_code
def yX2_restore : MethodName := ⟨RX2, "restore", "(LPairNames$State;)V"⟩
def RX3 : String := "PairNames$Names"
def TX3 : u_T := fun k => match k with
  | 0 => ("PairNames$Names", "firsts", "LPairNames$Cells;", true)
  | 1 => ("PairNames$Names", "seconds", "LPairNames$Cells;", true)
  | 2 => ("PairNames$Names", "depths", "LPairNames$Cells;", true)
  | _ => ("PairNames$Names", "lengths", "LPairNames$Cells;", true)
def tyX3 : Nat → FieldType := fun k => match k with
  | 0 => .object "PairNames$Cells"
  | 1 => .object "PairNames$Cells"
  | 2 => .object "PairNames$Cells"
  | _ => .object "PairNames$Cells"
theorem nmX3 : ∀ a, a < 4 → ∀ b, b < 4 → a ≠ b → (TX3 a).2.1 ≠ (TX3 b).2.1 := by decide +kernel
theorem tyX3_ok : ∀ k, k < 4 → parseFieldDescriptor (TX3 k).2.2.1 = some (tyX3 k) := by decide +kernel
abbrev cX3_init : ByteArray := prog_5_method_1_code
def yX3_init : MethodName := ⟨RX3, "<init>", "()V"⟩
abbrev cX3_copyFrom : ByteArray := prog_5_method_2_code
def yX3_copyFrom : MethodName := ⟨RX3, "copyFrom", "(LPairNames$Names;)V"⟩
abbrev cX3_hasPart : ByteArray := prog_5_method_3_code
def yX3_hasPart : MethodName := ⟨RX3, "hasPart", "(I)Z"⟩
abbrev cX3_amount : ByteArray := prog_5_method_4_code
def yX3_amount : MethodName := ⟨RX3, "amount", "()I"⟩
abbrev cX3_define : ByteArray := prog_5_method_5_code
def yX3_define : MethodName := ⟨RX3, "define", "(III)V"⟩
abbrev cX3_forget : ByteArray := prog_5_method_6_code
def yX3_forget : MethodName := ⟨RX3, "forget", "(I)V"⟩
abbrev cX3_nameFor : ByteArray := prog_5_method_7_code
def yX3_nameFor : MethodName := ⟨RX3, "nameFor", "(II)I"⟩
abbrev cX3_usesOf : ByteArray := prog_5_method_8_code
def yX3_usesOf : MethodName := ⟨RX3, "usesOf", "(I)I"⟩
abbrev cX3_signIn : ByteArray := prog_5_method_9_code
def yX3_signIn : MethodName := ⟨RX3, "signIn", "(II)I"⟩
def RX4 : String := "PairNames$Naming"
def TX4 : u_T := fun k => match k with
  | 0 => ("PairNames$Naming", "tallies", "LPairNames$Cells;", true)
  | 1 => ("PairNames$Naming", "keys", "LPairNames$Cells;", true)
  | 2 => ("PairNames$Naming", "first", "I", false)
  | 3 => ("PairNames$Naming", "second", "I", false)
  | 4 => ("PairNames$Naming", "often", "I", false)
  | _ => ("PairNames$Naming", "found", "I", false)
def tyX4 : Nat → FieldType := fun k => match k with
  | 0 => .object "PairNames$Cells"
  | 1 => .object "PairNames$Cells"
  | 2 => .int
  | 3 => .int
  | 4 => .int
  | _ => .int
theorem nmX4 : ∀ a, a < 6 → ∀ b, b < 6 → a ≠ b → (TX4 a).2.1 ≠ (TX4 b).2.1 := by decide +kernel
theorem tyX4_ok : ∀ k, k < 6 → parseFieldDescriptor (TX4 k).2.2.1 = some (tyX4 k) := by decide +kernel
abbrev cX4_init : ByteArray := prog_6_method_1_code
def yX4_init : MethodName := ⟨RX4, "<init>", "()V"⟩
abbrev cX4_find : ByteArray := prog_6_method_2_code
def yX4_find : MethodName := ⟨RX4, "find", "(LPairNames$State;)V"⟩
abbrev cX4_tally : ByteArray := prog_6_method_3_code
def yX4_tally : MethodName := ⟨RX4, "tally", "(LPairNames$Row;)V"⟩
abbrev cX4_choose : ByteArray := prog_6_method_4_code
def yX4_choose : MethodName := ⟨RX4, "choose", "(LPairNames$Row;)V"⟩
abbrev cX4_finding : ByteArray := prog_6_method_5_code
def yX4_finding : MethodName := ⟨RX4, "finding", "(I)I"⟩
abbrev cX4_apply : ByteArray := prog_6_method_6_code
def yX4_apply : MethodName := ⟨RX4, "apply", "(LPairNames$State;)V"⟩
abbrev cX4_applyAll : ByteArray := prog_6_method_7_code
def yX4_applyAll : MethodName := ⟨RX4, "applyAll", "(LPairNames$State;)I"⟩
def RX5 : String := "PairNames$Row"
def TX5 : u_T := fun k => match k with
  | 0 => ("PairNames$Row", "parts", "[I", true)
  | _ => ("PairNames$Row", "length", "I", false)
def tyX5 : Nat → FieldType := fun k => match k with
  | 0 => .array .int
  | _ => .int
theorem nmX5 : ∀ a, a < 2 → ∀ b, b < 2 → a ≠ b → (TX5 a).2.1 ≠ (TX5 b).2.1 := by decide +kernel
theorem tyX5_ok : ∀ k, k < 2 → parseFieldDescriptor (TX5 k).2.2.1 = some (tyX5 k) := by decide +kernel
abbrev cX5_init : ByteArray := prog_7_method_1_code
def yX5_init : MethodName := ⟨RX5, "<init>", "()V"⟩
abbrev cX5_at : ByteArray := prog_7_method_2_code
def yX5_at : MethodName := ⟨RX5, "at", "(I)I"⟩
abbrev cX5_takes : ByteArray := prog_7_method_3_code
def yX5_takes : MethodName := ⟨RX5, "takes", "(I)Z"⟩
abbrev cX5_push : ByteArray := prog_7_method_4_code
def yX5_push : MethodName := ⟨RX5, "push", "(I)V"⟩
abbrev cX5_shorten : ByteArray := prog_7_method_5_code
def yX5_shorten : MethodName := ⟨RX5, "shorten", "(I)V"⟩
abbrev cX5_copyFrom : ByteArray := prog_7_method_6_code
def yX5_copyFrom : MethodName := ⟨RX5, "copyFrom", "(LPairNames$Row;)V"⟩
abbrev cX5_put : ByteArray := prog_7_method_7_code
def yX5_put : MethodName := ⟨RX5, "put", "(II)V"⟩
abbrev cX5_replaceByTwo : ByteArray := prog_7_method_8_code
def yX5_replaceByTwo : MethodName := ⟨RX5, "replaceByTwo", "(III)V"⟩
abbrev cX5_replacePair : ByteArray := prog_7_method_9_code
def yX5_replacePair : MethodName := ⟨RX5, "replacePair", "(III)V"⟩
abbrev cX5_occurrences : ByteArray := prog_7_method_10_code
def yX5_occurrences : MethodName := ⟨RX5, "occurrences", "(II)I"⟩
abbrev cX5_usesOf : ByteArray := prog_7_method_11_code
def yX5_usesOf : MethodName := ⟨RX5, "usesOf", "(I)I"⟩
abbrev cX5_unlikeParts : ByteArray := prog_7_method_12_code
def yX5_unlikeParts : MethodName := ⟨RX5, "unlikeParts", "()I"⟩
def RX6 : String := "PairNames$State"
def TX6 : u_T := fun k => match k with
  | 0 => ("PairNames$State", "row", "LPairNames$Row;", true)
  | 1 => ("PairNames$State", "names", "LPairNames$Names;", true)
  | 2 => ("PairNames$State", "settings", "LPairNames$Cells;", true)
  | 3 => ("PairNames$State", "stepsSoFar", "I", false)
  | 4 => ("PairNames$State", "letGoSoFar", "I", false)
  | _ => ("PairNames$State", "timesIn", "LPairNames$Cells;", true)
def tyX6 : Nat → FieldType := fun k => match k with
  | 0 => .object "PairNames$Row"
  | 1 => .object "PairNames$Names"
  | 2 => .object "PairNames$Cells"
  | 3 => .int
  | 4 => .int
  | _ => .object "PairNames$Cells"
theorem nmX6 : ∀ a, a < 6 → ∀ b, b < 6 → a ≠ b → (TX6 a).2.1 ≠ (TX6 b).2.1 := by decide +kernel
theorem tyX6_ok : ∀ k, k < 6 → parseFieldDescriptor (TX6 k).2.2.1 = some (tyX6 k) := by decide +kernel
abbrev cX6_init : ByteArray := prog_8_method_1_code
def yX6_init : MethodName := ⟨RX6, "<init>", "()V"⟩
abbrev cX6_copyFrom : ByteArray := prog_8_method_2_code
def yX6_copyFrom : MethodName := ⟨RX6, "copyFrom", "(LPairNames$State;)V"⟩
abbrev cX6_usesOf : ByteArray := prog_8_method_3_code
def yX6_usesOf : MethodName := ⟨RX6, "usesOf", "(I)I"⟩
abbrev cX6_size : ByteArray := prog_8_method_4_code
def yX6_size : MethodName := ⟨RX6, "size", "()I"⟩
abbrev cX6_textLength : ByteArray := prog_8_method_5_code
def yX6_textLength : MethodName := ⟨RX6, "textLength", "()I"⟩
abbrev cX6_greatestDepth : ByteArray := prog_8_method_6_code
def yX6_greatestDepth : MethodName := ⟨RX6, "greatestDepth", "()I"⟩
abbrev cX6_signAt : ByteArray := prog_8_method_7_code
def yX6_signAt : MethodName := ⟨RX6, "signAt", "(I)I"⟩
abbrev cX6_timesInText : ByteArray := prog_8_method_8_code
def yX6_timesInText : MethodName := ⟨RX6, "timesInText", "(I)I"⟩
abbrev cX6_property : ByteArray := prog_8_method_9_code
def yX6_property : MethodName := ⟨RX6, "property", "(II)I"⟩
abbrev cX6_total : ByteArray := prog_8_method_10_code
def yX6_total : MethodName := ⟨RX6, "total", "(I)I"⟩
abbrev cX6_openAt : ByteArray := prog_8_method_11_code
def yX6_openAt : MethodName := ⟨RX6, "openAt", "(I)V"⟩
abbrev cX6_forgetUnused : ByteArray := prog_8_method_12_code
def yX6_forgetUnused : MethodName := ⟨RX6, "forgetUnused", "()V"⟩
abbrev cX6_lowestToLetGo : ByteArray := prog_8_method_13_code
def yX6_lowestToLetGo : MethodName := ⟨RX6, "lowestToLetGo", "()I"⟩
abbrev cX6_canLetGo : ByteArray := prog_8_method_14_code
def yX6_canLetGo : MethodName := ⟨RX6, "canLetGo", "(I)Z"⟩
abbrev cX6_release : ByteArray := prog_8_method_15_code
def yX6_release : MethodName := ⟨RX6, "release", "(I)V"⟩
def RX7 : String := "PairNames"
def TX7 : u_T := fun k => match k with
  | 0 => ("PairNames", "state", "LPairNames$State;", true)
  | 1 => ("PairNames", "history", "LPairNames$History;", true)
  | 2 => ("PairNames", "buffer", "LPairNames$Buffer;", true)
  | 3 => ("PairNames", "naming", "LPairNames$Naming;", true)
  | _ => ("PairNames", "trial", "LPairNames$State;", true)
def tyX7 : Nat → FieldType := fun k => match k with
  | 0 => .object "PairNames$State"
  | 1 => .object "PairNames$History"
  | 2 => .object "PairNames$Buffer"
  | 3 => .object "PairNames$Naming"
  | _ => .object "PairNames$State"
theorem nmX7 : ∀ a, a < 5 → ∀ b, b < 5 → a ≠ b → (TX7 a).2.1 ≠ (TX7 b).2.1 := by decide +kernel
theorem tyX7_ok : ∀ k, k < 5 → parseFieldDescriptor (TX7 k).2.2.1 = some (tyX7 k) := by decide +kernel
abbrev cX7_init : ByteArray := prog_1_method_1_code
def yX7_init : MethodName := ⟨RX7, "<init>", "()V"⟩
abbrev cX7_grow : ByteArray := prog_1_method_2_code
def yX7_grow : MethodName := ⟨RX7, "grow", "()I"⟩
abbrev cX7_add : ByteArray := prog_1_method_3_code
def yX7_add : MethodName := ⟨RX7, "add", "(I)I"⟩
abbrev cX7_cut : ByteArray := prog_1_method_4_code
def yX7_cut : MethodName := ⟨RX7, "cut", "(I)I"⟩
abbrev cX7_open : ByteArray := prog_1_method_5_code
def yX7_open : MethodName := ⟨RX7, "open", "(I)I"⟩
abbrev cX7_name : ByteArray := prog_1_method_6_code
def yX7_name : MethodName := ⟨RX7, "name", "()I"⟩
abbrev cX7_nameAll : ByteArray := prog_1_method_7_code
def yX7_nameAll : MethodName := ⟨RX7, "nameAll", "()I"⟩
abbrev cX7_letGo : ByteArray := prog_1_method_8_code
def yX7_letGo : MethodName := ⟨RX7, "letGo", "()I"⟩
abbrev cX7_openAll : ByteArray := prog_1_method_9_code
def yX7_openAll : MethodName := ⟨RX7, "openAll", "()I"⟩
abbrev cX7_set : ByteArray := prog_1_method_10_code
def yX7_set : MethodName := ⟨RX7, "set", "(II)I"⟩
abbrev cX7_append : ByteArray := prog_1_method_11_code
def yX7_append : MethodName := ⟨RX7, "append", "(I)I"⟩
abbrev cX7_clearBuffer : ByteArray := prog_1_method_12_code
def yX7_clearBuffer : MethodName := ⟨RX7, "clearBuffer", "()I"⟩
abbrev cX7_firstError : ByteArray := prog_1_method_13_code
def yX7_firstError : MethodName := ⟨RX7, "firstError", "()I"⟩
abbrev cX7_undo : ByteArray := prog_1_method_14_code
def yX7_undo : MethodName := ⟨RX7, "undo", "()I"⟩
abbrev cX7_part : ByteArray := prog_1_method_15_code
def yX7_part : MethodName := ⟨RX7, "part", "(I)I"⟩
abbrev cX7_sign : ByteArray := prog_1_method_16_code
def yX7_sign : MethodName := ⟨RX7, "sign", "(I)I"⟩
abbrev cX7_about : ByteArray := prog_1_method_17_code
def yX7_about : MethodName := ⟨RX7, "about", "(II)I"⟩
abbrev cX7_pair : ByteArray := prog_1_method_18_code
def yX7_pair : MethodName := ⟨RX7, "pair", "(II)I"⟩
abbrev cX7_next : ByteArray := prog_1_method_19_code
def yX7_next : MethodName := ⟨RX7, "next", "(I)I"⟩
abbrev cX7_count : ByteArray := prog_1_method_20_code
def yX7_count : MethodName := ⟨RX7, "count", "(I)I"⟩
abbrev cX7_times : ByteArray := prog_1_method_21_code
def yX7_times : MethodName := ⟨RX7, "times", "(I)I"⟩
abbrev cX7_setting : ByteArray := prog_1_method_22_code
def yX7_setting : MethodName := ⟨RX7, "setting", "(I)I"⟩
abbrev cX7_ifNamed : ByteArray := prog_1_method_23_code
def yX7_ifNamed : MethodName := ⟨RX7, "ifNamed", "(I)I"⟩
abbrev cX7_bestOften : ByteArray := prog_1_method_24_code
def yX7_bestOften : MethodName := ⟨RX7, "bestOften", "()I"⟩
abbrev cX7_saved : ByteArray := prog_1_method_25_code
def yX7_saved : MethodName := ⟨RX7, "saved", "()D"⟩
abbrev cX7_digest : ByteArray := prog_1_method_26_code
def yX7_digest : MethodName := ⟨RX7, "digest", "()J"⟩
abbrev cX7_isSetting : ByteArray := prog_1_method_27_code
def yX7_isSetting : MethodName := ⟨RX7, "isSetting", "(I)Z"⟩
abbrev cX7_leastValue : ByteArray := prog_1_method_28_code
def yX7_leastValue : MethodName := ⟨RX7, "leastValue", "(I)I"⟩
abbrev cX7_tryNaming : ByteArray := prog_1_method_29_code
def yX7_tryNaming : MethodName := ⟨RX7, "tryNaming", "(I)V"⟩
abbrev cX7_trialNumber : ByteArray := prog_1_method_30_code
def yX7_trialNumber : MethodName := ⟨RX7, "trialNumber", "(I)I"⟩
abbrev cX7_mix : ByteArray := prog_1_method_31_code
def yX7_mix : MethodName := ⟨RX7, "mix", "(JJ)J"⟩
abbrev cX7_mixTotals : ByteArray := prog_1_method_32_code
def yX7_mixTotals : MethodName := ⟨RX7, "mixTotals", "(J)J"⟩
abbrev cX7_mixParts : ByteArray := prog_1_method_33_code
def yX7_mixParts : MethodName := ⟨RX7, "mixParts", "(J)J"⟩
abbrev cX7_mixBuffer : ByteArray := prog_1_method_34_code
def yX7_mixBuffer : MethodName := ⟨RX7, "mixBuffer", "(J)J"⟩
abbrev cX7_bitsOf : ByteArray := prog_1_method_35_code
def yX7_bitsOf : MethodName := ⟨RX7, "bitsOf", "(D)J"⟩
def RX8 : String := "PairNamesModel"
def TX8 : u_T := fun k => match k with
  | 0 => ("PairNamesModel", "thrown", "I", false)
  | 1 => ("PairNamesModel", "s", "[I", true)
  | 2 => ("PairNamesModel", "aside", "[I", true)
  | 3 => ("PairNamesModel", "saved", "[I", true)
  | 4 => ("PairNamesModel", "savedMany", "I", false)
  | 5 => ("PairNamesModel", "text", "[I", true)
  | 6 => ("PairNamesModel", "length", "I", false)
  | 7 => ("PairNamesModel", "depth", "[I", true)
  | 8 => ("PairNamesModel", "lengths", "[I", true)
  | 9 => ("PairNamesModel", "begins", "[I", true)
  | 10 => ("PairNamesModel", "ends", "[I", true)
  | 11 => ("PairNamesModel", "signs", "[I", true)
  | 12 => ("PairNamesModel", "at", "I", false)
  | 13 => ("PairNamesModel", "isWrong", "Z", false)
  | 14 => ("PairNamesModel", "many", "I", false)
  | 15 => ("PairNamesModel", "bestFirst", "I", false)
  | 16 => ("PairNamesModel", "bestSecond", "I", false)
  | 17 => ("PairNamesModel", "bestTimes", "I", false)
  | 18 => ("PairNamesModel", "bestName", "I", false)
  | _ => ("PairNamesModel", "digested", "J", false)
def tyX8 : Nat → FieldType := fun k => match k with
  | 0 => .int
  | 1 => .array .int
  | 2 => .array .int
  | 3 => .array .int
  | 4 => .int
  | 5 => .array .int
  | 6 => .int
  | 7 => .array .int
  | 8 => .array .int
  | 9 => .array .int
  | 10 => .array .int
  | 11 => .array .int
  | 12 => .int
  | 13 => .boolean
  | 14 => .int
  | 15 => .int
  | 16 => .int
  | 17 => .int
  | 18 => .int
  | _ => .long
theorem nmX8 : ∀ a, a < 20 → ∀ b, b < 20 → a ≠ b → (TX8 a).2.1 ≠ (TX8 b).2.1 := by decide +kernel
theorem tyX8_ok : ∀ k, k < 20 → parseFieldDescriptor (TX8 k).2.2.1 = some (tyX8 k) := by decide +kernel
abbrev cX8_init : ByteArray := prog_10_method_1_code
def yX8_init : MethodName := ⟨RX8, "<init>", "()V"⟩
abbrev cX8_thrown : ByteArray := prog_10_method_2_code
def yX8_thrown : MethodName := ⟨RX8, "thrown", "()I"⟩
abbrev cX8_in : ByteArray := prog_10_method_3_code
def yX8_in : MethodName := ⟨RX8, "in", "(III)Z"⟩
abbrev cX8_holds : ByteArray := prog_10_method_4_code
def yX8_holds : MethodName := ⟨RX8, "holds", "(I)Z"⟩
abbrev cX8_save : ByteArray := prog_10_method_5_code
def yX8_save : MethodName := ⟨RX8, "save", "()V"⟩
abbrev cX8_putAside : ByteArray := prog_10_method_6_code
def yX8_putAside : MethodName := ⟨RX8, "putAside", "()V"⟩
abbrev cX8_putBack : ByteArray := prog_10_method_7_code
def yX8_putBack : MethodName := ⟨RX8, "putBack", "()V"⟩
abbrev cX8_isPart : ByteArray := prog_10_method_8_code
def yX8_isPart : MethodName := ⟨RX8, "isPart", "(I)Z"⟩
abbrev cX8_first : ByteArray := prog_10_method_9_code
def yX8_first : MethodName := ⟨RX8, "first", "(I)I"⟩
abbrev cX8_second : ByteArray := prog_10_method_10_code
def yX8_second : MethodName := ⟨RX8, "second", "(I)I"⟩
abbrev cX8_layOut : ByteArray := prog_10_method_11_code
def yX8_layOut : MethodName := ⟨RX8, "layOut", "()V"⟩
abbrev cX8_layOne : ByteArray := prog_10_method_12_code
def yX8_layOne : MethodName := ⟨RX8, "layOne", "(III)V"⟩
abbrev cX8_inRow : ByteArray := prog_10_method_13_code
def yX8_inRow : MethodName := ⟨RX8, "inRow", "(I)I"⟩
abbrev cX8_inPairs : ByteArray := prog_10_method_14_code
def yX8_inPairs : MethodName := ⟨RX8, "inPairs", "(I)I"⟩
abbrev cX8_names : ByteArray := prog_10_method_15_code
def yX8_names : MethodName := ⟨RX8, "names", "()I"⟩
abbrev cX8_size : ByteArray := prog_10_method_16_code
def yX8_size : MethodName := ⟨RX8, "size", "()I"⟩
abbrev cX8_textLong : ByteArray := prog_10_method_17_code
def yX8_textLong : MethodName := ⟨RX8, "textLong", "()I"⟩
abbrev cX8_deepest : ByteArray := prog_10_method_18_code
def yX8_deepest : MethodName := ⟨RX8, "deepest", "()I"⟩
abbrev cX8_signAt : ByteArray := prog_10_method_19_code
def yX8_signAt : MethodName := ⟨RX8, "signAt", "(I)I"⟩
abbrev cX8_go : ByteArray := prog_10_method_20_code
def yX8_go : MethodName := ⟨RX8, "go", "(Z)V"⟩
abbrev cX8_grow : ByteArray := prog_10_method_21_code
def yX8_grow : MethodName := ⟨RX8, "grow", "()I"⟩
abbrev cX8_add : ByteArray := prog_10_method_22_code
def yX8_add : MethodName := ⟨RX8, "add", "(I)I"⟩
abbrev cX8_sweep : ByteArray := prog_10_method_23_code
def yX8_sweep : MethodName := ⟨RX8, "sweep", "()V"⟩
abbrev cX8_cut : ByteArray := prog_10_method_24_code
def yX8_cut : MethodName := ⟨RX8, "cut", "(I)I"⟩
abbrev cX8_openAt : ByteArray := prog_10_method_25_code
def yX8_openAt : MethodName := ⟨RX8, "openAt", "(I)V"⟩
abbrev cX8_open : ByteArray := prog_10_method_26_code
def yX8_open : MethodName := ⟨RX8, "open", "(I)I"⟩
abbrev cX8_occurs : ByteArray := prog_10_method_27_code
def yX8_occurs : MethodName := ⟨RX8, "occurs", "(II)I"⟩
abbrev cX8_find : ByteArray := prog_10_method_28_code
def yX8_find : MethodName := ⟨RX8, "find", "()V"⟩
abbrev cX8_step : ByteArray := prog_10_method_29_code
def yX8_step : MethodName := ⟨RX8, "step", "()I"⟩
abbrev cX8_steps : ByteArray := prog_10_method_30_code
def yX8_steps : MethodName := ⟨RX8, "steps", "()I"⟩
abbrev cX8_name : ByteArray := prog_10_method_31_code
def yX8_name : MethodName := ⟨RX8, "name", "()I"⟩
abbrev cX8_nameAll : ByteArray := prog_10_method_32_code
def yX8_nameAll : MethodName := ⟨RX8, "nameAll", "()I"⟩
abbrev cX8_mayGo : ByteArray := prog_10_method_33_code
def yX8_mayGo : MethodName := ⟨RX8, "mayGo", "(I)Z"⟩
abbrev cX8_letGo : ByteArray := prog_10_method_34_code
def yX8_letGo : MethodName := ⟨RX8, "letGo", "()I"⟩
abbrev cX8_openAll : ByteArray := prog_10_method_35_code
def yX8_openAll : MethodName := ⟨RX8, "openAll", "()I"⟩
abbrev cX8_set : ByteArray := prog_10_method_36_code
def yX8_set : MethodName := ⟨RX8, "set", "(II)I"⟩
abbrev cX8_append : ByteArray := prog_10_method_37_code
def yX8_append : MethodName := ⟨RX8, "append", "(I)I"⟩
abbrev cX8_clearBuffer : ByteArray := prog_10_method_38_code
def yX8_clearBuffer : MethodName := ⟨RX8, "clearBuffer", "()I"⟩
abbrev cX8_firstError : ByteArray := prog_10_method_39_code
def yX8_firstError : MethodName := ⟨RX8, "firstError", "()I"⟩
abbrev cX8_undo : ByteArray := prog_10_method_40_code
def yX8_undo : MethodName := ⟨RX8, "undo", "()I"⟩
abbrev cX8_part : ByteArray := prog_10_method_41_code
def yX8_part : MethodName := ⟨RX8, "part", "(I)I"⟩
abbrev cX8_sign : ByteArray := prog_10_method_42_code
def yX8_sign : MethodName := ⟨RX8, "sign", "(I)I"⟩
abbrev cX8_aboutOf : ByteArray := prog_10_method_43_code
def yX8_aboutOf : MethodName := ⟨RX8, "aboutOf", "(II)I"⟩
abbrev cX8_about : ByteArray := prog_10_method_44_code
def yX8_about : MethodName := ⟨RX8, "about", "(II)I"⟩
abbrev cX8_pair : ByteArray := prog_10_method_45_code
def yX8_pair : MethodName := ⟨RX8, "pair", "(II)I"⟩
abbrev cX8_nextOf : ByteArray := prog_10_method_46_code
def yX8_nextOf : MethodName := ⟨RX8, "nextOf", "(I)I"⟩
abbrev cX8_next : ByteArray := prog_10_method_47_code
def yX8_next : MethodName := ⟨RX8, "next", "(I)I"⟩
abbrev cX8_unlike : ByteArray := prog_10_method_48_code
def yX8_unlike : MethodName := ⟨RX8, "unlike", "()I"⟩
abbrev cX8_counted : ByteArray := prog_10_method_49_code
def yX8_counted : MethodName := ⟨RX8, "counted", "(I)I"⟩
abbrev cX8_count : ByteArray := prog_10_method_50_code
def yX8_count : MethodName := ⟨RX8, "count", "(I)I"⟩
abbrev cX8_timesOf : ByteArray := prog_10_method_51_code
def yX8_timesOf : MethodName := ⟨RX8, "timesOf", "(I)I"⟩
abbrev cX8_times : ByteArray := prog_10_method_52_code
def yX8_times : MethodName := ⟨RX8, "times", "(I)I"⟩
abbrev cX8_setting : ByteArray := prog_10_method_53_code
def yX8_setting : MethodName := ⟨RX8, "setting", "(I)I"⟩
abbrev cX8_named : ByteArray := prog_10_method_54_code
def yX8_named : MethodName := ⟨RX8, "named", "(I)I"⟩
abbrev cX8_ifNamed : ByteArray := prog_10_method_55_code
def yX8_ifNamed : MethodName := ⟨RX8, "ifNamed", "(I)I"⟩
abbrev cX8_best : ByteArray := prog_10_method_56_code
def yX8_best : MethodName := ⟨RX8, "best", "()I"⟩
abbrev cX8_bestOften : ByteArray := prog_10_method_57_code
def yX8_bestOften : MethodName := ⟨RX8, "bestOften", "()I"⟩
abbrev cX8_share : ByteArray := prog_10_method_58_code
def yX8_share : MethodName := ⟨RX8, "share", "()D"⟩
abbrev cX8_saved : ByteArray := prog_10_method_59_code
def yX8_saved : MethodName := ⟨RX8, "saved", "()D"⟩
abbrev cX8_bitsOf : ByteArray := prog_10_method_60_code
def yX8_bitsOf : MethodName := ⟨RX8, "bitsOf", "(D)J"⟩
abbrev cX8_digestOne : ByteArray := prog_10_method_61_code
def yX8_digestOne : MethodName := ⟨RX8, "digestOne", "(J)V"⟩
abbrev cX8_digest : ByteArray := prog_10_method_62_code
def yX8_digest : MethodName := ⟨RX8, "digest", "()J"⟩
def RJ9 : String := "java/lang/Math"
def TJ9 : u_T := fun k => match k with
  | _ => ("", "", "", false)
def tyJ9 : Nat → FieldType := fun k => match k with
  | _ => .int
theorem nmJ9 : ∀ a, a < 0 → ∀ b, b < 0 → a ≠ b → (TJ9 a).2.1 ≠ (TJ9 b).2.1 := by decide +kernel
theorem tyJ9_ok : ∀ k, k < 0 → parseFieldDescriptor (TJ9 k).2.2.1 = some (tyJ9 k) := by decide +kernel
abbrev cJ9_max_7cf53 : ByteArray := prog_15_method_65_code
def yJ9_max_7cf53 : MethodName := ⟨RJ9, "max", "(II)I"⟩
abbrev cJ9_min_7cf53 : ByteArray := prog_15_method_69_code
def yJ9_min_7cf53 : MethodName := ⟨RJ9, "min", "(II)I"⟩
def RL : String := "PairNamesLaw"
abbrev cL_grow : ByteArray := method_3_code
def yL_grow : MethodName := ⟨RL, "grow", "(LPairNames;[J)I"⟩
abbrev cL_add : ByteArray := method_4_code
def yL_add : MethodName := ⟨RL, "add", "(LPairNames;I[J)I"⟩
abbrev cL_cut : ByteArray := method_5_code
def yL_cut : MethodName := ⟨RL, "cut", "(LPairNames;I[J)I"⟩
abbrev cL_open : ByteArray := method_6_code
def yL_open : MethodName := ⟨RL, "open", "(LPairNames;I[J)I"⟩
abbrev cL_openAll : ByteArray := method_7_code
def yL_openAll : MethodName := ⟨RL, "openAll", "(LPairNames;[J)I"⟩
abbrev cL_set : ByteArray := method_8_code
def yL_set : MethodName := ⟨RL, "set", "(LPairNames;II[J)I"⟩
abbrev cL_append : ByteArray := method_9_code
def yL_append : MethodName := ⟨RL, "append", "(LPairNames;I[J)I"⟩
abbrev cL_undo : ByteArray := method_10_code
def yL_undo : MethodName := ⟨RL, "undo", "(LPairNames;[J)I"⟩
abbrev cL_part : ByteArray := method_11_code
def yL_part : MethodName := ⟨RL, "part", "(LPairNames;I[J)I"⟩
abbrev cL_sign : ByteArray := method_12_code
def yL_sign : MethodName := ⟨RL, "sign", "(LPairNames;I[J)I"⟩
abbrev cL_about : ByteArray := method_13_code
def yL_about : MethodName := ⟨RL, "about", "(LPairNames;II[J)I"⟩
abbrev cL_pair : ByteArray := method_14_code
def yL_pair : MethodName := ⟨RL, "pair", "(LPairNames;II[J)I"⟩
abbrev cL_next : ByteArray := method_15_code
def yL_next : MethodName := ⟨RL, "next", "(LPairNames;I[J)I"⟩
abbrev cL_count : ByteArray := method_16_code
def yL_count : MethodName := ⟨RL, "count", "(LPairNames;I[J)I"⟩
abbrev cL_times : ByteArray := method_17_code
def yL_times : MethodName := ⟨RL, "times", "(LPairNames;I[J)I"⟩
abbrev cL_setting : ByteArray := method_18_code
def yL_setting : MethodName := ⟨RL, "setting", "(LPairNames;I[J)I"⟩
abbrev cL_ifNamed : ByteArray := method_19_code
def yL_ifNamed : MethodName := ⟨RL, "ifNamed", "(LPairNames;I[J)I"⟩
abbrev cL_law : ByteArray := code
def yL_law : MethodName := ⟨RL, "law", "([I)Z"⟩
abbrev vwCl : List vw_C := [(RX0, TX0, 2), (RX1, TX1, 1), (RX2, TX2, 3), (RX3, TX3, 4), (RX4, TX4, 6), (RX5, TX5, 2), (RX6, TX6, 6), (RX7, TX7, 5), (RX8, TX8, 20)]
end
section
/-! Tables: my own numbers for the classes (0..8 as vwCl, 9 the law, 10 Math) and the methods; written by gen_base.py out of the printed names and the tables' words. -/
def xcn : Nat → String := fun k => match k with
  | 0 => RX0
  | 1 => RX1
  | 2 => RX2
  | 3 => RX3
  | 4 => RX4
  | 5 => RX5
  | 6 => RX6
  | 7 => RX7
  | 8 => RX8
  | 9 => RL
  | _ => RJ9
def xT : Nat → u_T := fun k => match k with
  | 0 => TX0
  | 1 => TX1
  | 2 => TX2
  | 3 => TX3
  | 4 => TX4
  | 5 => TX5
  | 6 => TX6
  | 7 => TX7
  | _ => TX8
def xty : Nat → Nat → FieldType := fun k => match k with
  | 0 => tyX0
  | 1 => tyX1
  | 2 => tyX2
  | 3 => tyX3
  | 4 => tyX4
  | 5 => tyX5
  | 6 => tyX6
  | 7 => tyX7
  | _ => tyX8
def xN : Nat → Nat := fun k => match k with
  | 0 => 2
  | 1 => 1
  | 2 => 3
  | 3 => 4
  | 4 => 6
  | 5 => 2
  | 6 => 6
  | 7 => 5
  | _ => 20
abbrev xMt : Type := MethodName × ByteArray × Nat × Option FieldType × List (Nat × Nat × Nat × Nat) × Nat × Nat × Nat
def xmt_0 : List xMt := [(yX0_init, cX0_init, 1, none, [], 0, 2, 41), (yX0_at, cX0_at, 2, (some .int), [], 0, 1, 21), (yX0_push, cX0_push, 2, none, [], 0, 1, 22), (yX0_empty, cX0_empty, 1, none, [], 0, 0, 0), (yX0_isLetter, cX0_isLetter, 2, (some .boolean), [], 0, 2, 42), (yX0_isNumber, cX0_isNumber, 2, (some .boolean), [], 0, 2, 42), (yX0_firstWrong, cX0_firstWrong, 2, (some .int), [], 0, 3, 63), (yX0_isText, cX0_isText, 1, (some .boolean), [], 0, 4, 84), (yX0_timesAt, cX0_timesAt, 2, (some .int), [], 0, 3, 63), (yX0_signAmount, cX0_signAmount, 3, (some .int), [], 0, 4, 84), (yX0_writeBehind, cX0_writeBehind, 5, none, [], 0, 4, 84), (yX1_init, cX1_init, 2, none, [], 1, 1, 20), (yX1_at, cX1_at, 2, (some .int), [], 1, 0, 0), (yX1_put, cX1_put, 3, none, [], 1, 0, 0), (yX1_fill, cX1_fill, 3, none, [], 1, 0, 0), (yX1_copyFrom, cX1_copyFrom, 3, none, [], 1, 0, 0), (yX2_init, cX2_init, 2, none, [], 2, 4, 82), (yX2_save, cX2_save, 3, none, [], 2, 3, 64), (yX2_restore, cX2_restore, 4, none, [], 2, 3, 64), (yX3_init, cX3_init, 2, none, [], 3, 2, 41), (yX3_copyFrom, cX3_copyFrom, 2, none, [], 3, 1, 22), (yX3_hasPart, cX3_hasPart, 2, (some .boolean), [], 3, 1, 21), (yX3_amount, cX3_amount, 3, (some .int), [], 3, 2, 42), (yX3_define, cX3_define, 4, none, [], 3, 1, 22), (yX3_forget, cX3_forget, 2, none, [], 3, 1, 22), (yX3_nameFor, cX3_nameFor, 5, (some .int), [], 3, 1, 21), (yX3_usesOf, cX3_usesOf, 4, (some .int), [], 3, 1, 21), (yX3_signIn, cX3_signIn, 8, (some .int), [], 3, 1, 21), (yX4_init, cX4_init, 1, none, [], 4, 2, 41), (yX4_find, cX4_find, 2, none, [], 4, 2, 47)]
def xmt_1 : List xMt := [(yX4_tally, cX4_tally, 6, none, [], 4, 1, 22), (yX4_choose, cX4_choose, 6, none, [], 4, 1, 21), (yX4_finding, cX4_finding, 2, (some .int), [], 4, 0, 0), (yX4_apply, cX4_apply, 2, none, [], 4, 2, 48), (yX4_applyAll, cX4_applyAll, 3, (some .int), [], 4, 3, 69), (yX5_init, cX5_init, 1, none, [], 5, 1, 20), (yX5_at, cX5_at, 2, (some .int), [], 5, 0, 0), (yX5_takes, cX5_takes, 2, (some .boolean), [], 5, 0, 0), (yX5_push, cX5_push, 2, none, [], 5, 0, 0), (yX5_shorten, cX5_shorten, 2, none, [], 5, 0, 0), (yX5_copyFrom, cX5_copyFrom, 3, none, [], 5, 1, 21), (yX5_put, cX5_put, 3, none, [], 5, 0, 0), (yX5_replaceByTwo, cX5_replaceByTwo, 5, none, [], 5, 1, 22), (yX5_replacePair, cX5_replacePair, 7, none, [], 5, 1, 22), (yX5_occurrences, cX5_occurrences, 5, (some .int), [], 5, 1, 21), (yX5_usesOf, cX5_usesOf, 4, (some .int), [], 5, 1, 21), (yX5_unlikeParts, cX5_unlikeParts, 3, (some .int), [], 5, 2, 44), (yX6_init, cX6_init, 1, none, [], 6, 3, 62), (yX6_copyFrom, cX6_copyFrom, 2, none, [], 6, 2, 43), (yX6_usesOf, cX6_usesOf, 2, (some .int), [], 6, 2, 44), (yX6_size, cX6_size, 1, (some .int), [], 6, 3, 64), (yX6_textLength, cX6_textLength, 3, (some .int), [], 6, 1, 21), (yX6_greatestDepth, cX6_greatestDepth, 3, (some .int), [], 6, 1, 21), (yX6_signAt, cX6_signAt, 6, (some .int), [], 6, 2, 48), (yX6_timesInText, cX6_timesInText, 5, (some .int), [], 6, 1, 22), (yX6_property, cX6_property, 3, (some .int), [], 6, 3, 65), (yX6_total, cX6_total, 2, (some .int), [], 6, 4, 84), (yX6_openAt, cX6_openAt, 3, none, [], 6, 2, 46), (yX6_forgetUnused, cX6_forgetUnused, 3, none, [], 6, 3, 65), (yX6_lowestToLetGo, cX6_lowestToLetGo, 2, (some .int), [], 6, 3, 66)]
def xmt_2 : List xMt := [(yX6_canLetGo, cX6_canLetGo, 3, (some .boolean), [], 6, 2, 44), (yX6_release, cX6_release, 3, none, [], 6, 3, 68), (yX7_init, cX7_init, 1, none, [], 7, 5, 103), (yX7_grow, cX7_grow, 1, (some .int), [], 7, 6, 108), (yX7_add, cX7_add, 2, (some .int), [], 7, 6, 90), (yX7_cut, cX7_cut, 2, (some .int), [], 7, 6, 90), (yX7_open, cX7_open, 3, (some .int), [], 7, 6, 90), (yX7_name, cX7_name, 1, (some .int), [], 7, 4, 86), (yX7_nameAll, cX7_nameAll, 1, (some .int), [], 7, 4, 91), (yX7_letGo, cX7_letGo, 4, (some .int), [], 7, 4, 90), (yX7_openAll, cX7_openAll, 3, (some .int), [], 7, 6, 90), (yX7_set, cX7_set, 4, (some .int), [], 7, 6, 90), (yX7_append, cX7_append, 2, (some .int), [], 7, 6, 90), (yX7_clearBuffer, cX7_clearBuffer, 2, (some .int), [], 7, 1, 20), (yX7_firstError, cX7_firstError, 1, (some .int), [], 7, 4, 84), (yX7_undo, cX7_undo, 1, (some .int), [], 7, 6, 90), (yX7_part, cX7_part, 2, (some .int), [], 7, 6, 90), (yX7_sign, cX7_sign, 2, (some .int), [], 7, 6, 90), (yX7_about, cX7_about, 3, (some .int), [], 7, 6, 90), (yX7_pair, cX7_pair, 3, (some .int), [], 7, 6, 90), (yX7_next, cX7_next, 2, (some .int), [], 7, 6, 90), (yX7_count, cX7_count, 2, (some .int), [], 7, 6, 105), (yX7_times, cX7_times, 2, (some .int), [], 7, 6, 90), (yX7_setting, cX7_setting, 2, (some .int), [], 7, 6, 90), (yX7_ifNamed, cX7_ifNamed, 2, (some .int), [], 7, 6, 112), (yX7_bestOften, cX7_bestOften, 5, (some .int), [], 7, 5, 112), (yX7_saved, cX7_saved, 2, (some .double), [], 7, 4, 84), (yX7_digest, cX7_digest, 4, (some .long), [], 7, 8, 151), (yX7_isSetting, cX7_isSetting, 1, (some .boolean), [], 7, 0, 0), (yX7_leastValue, cX7_leastValue, 1, (some .int), [], 7, 0, 0)]
def xmt_3 : List xMt := [(yX7_tryNaming, cX7_tryNaming, 2, none, [], 7, 4, 91), (yX7_trialNumber, cX7_trialNumber, 2, (some .int), [], 7, 4, 84), (yX7_mix, cX7_mix, 4, (some .long), [], 7, 0, 0), (yX7_mixTotals, cX7_mixTotals, 6, (some .long), [], 7, 7, 126), (yX7_mixParts, cX7_mixParts, 7, (some .long), [], 7, 4, 87), (yX7_mixBuffer, cX7_mixBuffer, 6, (some .long), [], 7, 2, 42), (yX7_bitsOf, cX7_bitsOf, 12, (some .long), [], 7, 0, 0), (yX8_init, cX8_init, 1, none, [], 8, 1, 20), (yX8_thrown, cX8_thrown, 1, (some .int), [], 8, 0, 0), (yX8_in, cX8_in, 3, (some .boolean), [], 8, 0, 0), (yX8_holds, cX8_holds, 2, (some .boolean), [], 8, 0, 0), (yX8_save, cX8_save, 2, none, [], 8, 0, 0), (yX8_putAside, cX8_putAside, 2, none, [], 8, 0, 0), (yX8_putBack, cX8_putBack, 2, none, [], 8, 0, 0), (yX8_isPart, cX8_isPart, 2, (some .boolean), [], 8, 1, 22), (yX8_first, cX8_first, 2, (some .int), [], 8, 0, 0), (yX8_second, cX8_second, 2, (some .int), [], 8, 0, 0), (yX8_layOut, cX8_layOut, 3, none, [], 8, 2, 43), (yX8_layOne, cX8_layOne, 5, none, [], 8, 0, 0), (yX8_inRow, cX8_inRow, 4, (some .int), [], 8, 0, 0), (yX8_inPairs, cX8_inPairs, 4, (some .int), [], 8, 2, 43), (yX8_names, cX8_names, 3, (some .int), [], 8, 0, 0), (yX8_size, cX8_size, 1, (some .int), [], 8, 1, 22), (yX8_textLong, cX8_textLong, 3, (some .int), [], 8, 0, 0), (yX8_deepest, cX8_deepest, 3, (some .int), [], 8, 0, 0), (yX8_signAt, cX8_signAt, 6, (some .int), [], 8, 1, 21), (yX8_go, cX8_go, 5, none, [], 8, 1, 22), (yX8_grow, cX8_grow, 1, (some .int), [], 8, 2, 46), (yX8_add, cX8_add, 2, (some .int), [], 8, 2, 43), (yX8_sweep, cX8_sweep, 3, none, [], 8, 3, 66)]
def xmt_4 : List xMt := [(yX8_cut, cX8_cut, 2, (some .int), [], 8, 4, 88), (yX8_openAt, cX8_openAt, 4, none, [], 8, 1, 21), (yX8_open, cX8_open, 4, (some .int), [], 8, 4, 88), (yX8_occurs, cX8_occurs, 6, (some .int), [], 8, 0, 0), (yX8_find, cX8_find, 4, none, [], 8, 2, 43), (yX8_step, cX8_step, 4, (some .int), [], 8, 3, 66), (yX8_steps, cX8_steps, 2, (some .int), [], 8, 4, 89), (yX8_name, cX8_name, 1, (some .int), [], 8, 4, 89), (yX8_nameAll, cX8_nameAll, 1, (some .int), [], 8, 5, 110), (yX8_mayGo, cX8_mayGo, 3, (some .boolean), [], 8, 3, 66), (yX8_letGo, cX8_letGo, 4, (some .int), [], 8, 4, 88), (yX8_openAll, cX8_openAll, 2, (some .int), [], 8, 4, 88), (yX8_set, cX8_set, 4, (some .int), [], 8, 1, 22), (yX8_append, cX8_append, 2, (some .int), [], 8, 1, 22), (yX8_clearBuffer, cX8_clearBuffer, 2, (some .int), [], 8, 0, 0), (yX8_firstError, cX8_firstError, 1, (some .int), [], 8, 2, 46), (yX8_undo, cX8_undo, 2, (some .int), [], 8, 1, 21), (yX8_part, cX8_part, 2, (some .int), [], 8, 1, 21), (yX8_sign, cX8_sign, 2, (some .int), [], 8, 3, 65), (yX8_aboutOf, cX8_aboutOf, 3, (some .int), [], 8, 3, 66), (yX8_about, cX8_about, 3, (some .int), [], 8, 4, 88), (yX8_pair, cX8_pair, 3, (some .int), [], 8, 2, 43), (yX8_nextOf, cX8_nextOf, 2, (some .int), [], 8, 3, 66), (yX8_next, cX8_next, 2, (some .int), [], 8, 4, 87), (yX8_unlike, cX8_unlike, 3, (some .int), [], 8, 1, 23), (yX8_counted, cX8_counted, 2, (some .int), [], 8, 2, 45), (yX8_count, cX8_count, 2, (some .int), [], 8, 3, 66), (yX8_timesOf, cX8_timesOf, 4, (some .int), [], 8, 0, 0), (yX8_times, cX8_times, 2, (some .int), [], 8, 3, 65), (yX8_setting, cX8_setting, 2, (some .int), [], 8, 1, 22)]
def xmt_5 : List xMt := [(yX8_named, cX8_named, 4, (some .int), [], 8, 5, 110), (yX8_ifNamed, cX8_ifNamed, 2, (some .int), [], 8, 6, 133), (yX8_best, cX8_best, 6, (some .int), [], 8, 5, 110), (yX8_bestOften, cX8_bestOften, 1, (some .int), [], 8, 6, 135), (yX8_share, cX8_share, 1, (some .double), [], 8, 2, 42), (yX8_saved, cX8_saved, 1, (some .double), [], 8, 3, 65), (yX8_bitsOf, cX8_bitsOf, 8, (some .long), [], 8, 0, 0), (yX8_digestOne, cX8_digestOne, 3, none, [], 8, 0, 0), (yX8_digest, cX8_digest, 3, (some .long), [], 8, 6, 135), (yJ9_max_7cf53, cJ9_max_7cf53, 2, (some .int), [], 10, 0, 0), (yJ9_min_7cf53, cJ9_min_7cf53, 2, (some .int), [], 10, 0, 0), (yL_grow, cL_grow, 3, (some .int), [(0, 8, 11, 13), (0, 8, 14, 15)], 9, 7, 128), (yL_add, cL_add, 4, (some .int), [(0, 9, 12, 21), (0, 9, 15, 15)], 9, 7, 111), (yL_cut, cL_cut, 4, (some .int), [(0, 9, 12, 21)], 9, 7, 111), (yL_open, cL_open, 4, (some .int), [(0, 9, 12, 21), (0, 9, 15, 15)], 9, 7, 112), (yL_openAll, cL_openAll, 3, (some .int), [(0, 8, 11, 15)], 9, 7, 112), (yL_set, cL_set, 5, (some .int), [(0, 10, 13, 21), (0, 10, 17, 13)], 9, 7, 113), (yL_append, cL_append, 4, (some .int), [(0, 9, 12, 13), (0, 9, 15, 15)], 9, 7, 111), (yL_undo, cL_undo, 3, (some .int), [(0, 8, 11, 15)], 9, 7, 110), (yL_part, cL_part, 4, (some .int), [(0, 9, 12, 13)], 9, 7, 111), (yL_sign, cL_sign, 4, (some .int), [(0, 9, 12, 13)], 9, 7, 111), (yL_about, cL_about, 5, (some .int), [(0, 10, 13, 21), (0, 10, 17, 13)], 9, 7, 112), (yL_pair, cL_pair, 5, (some .int), [(0, 10, 13, 21)], 9, 7, 112), (yL_next, cL_next, 4, (some .int), [(0, 9, 12, 13)], 9, 7, 111), (yL_count, cL_count, 4, (some .int), [(0, 9, 12, 13)], 9, 7, 126), (yL_times, cL_times, 4, (some .int), [(0, 9, 12, 21)], 9, 7, 111), (yL_setting, cL_setting, 4, (some .int), [(0, 9, 12, 21)], 9, 7, 111), (yL_ifNamed, cL_ifNamed, 4, (some .int), [(0, 9, 12, 13)], 9, 7, 133), (yL_law, cL_law, 9, (some .boolean), [], 9, 11, 388)]
def xmd : xMt := (⟨"", "", ""⟩, ⟨#[]⟩, 0, none, [], 99, 0, 0)
def xm (y : Nat) : xMt := ((match y / 30 with
  | 0 => xmt_0
  | 1 => xmt_1
  | 2 => xmt_2
  | 3 => xmt_3
  | 4 => xmt_4
  | 5 => xmt_5
  | _ => [])[y % 30]?).getD xmd
def xmy (y : Nat) : MethodName := (xm y).1
def xmb (y : Nat) : ByteArray := (xm y).2.1
def xml (y : Nat) : Nat := (xm y).2.2.1
def xmr (y : Nat) : Option FieldType := (xm y).2.2.2.1
def xmh (y : Nat) : List (Nat × Nat × Nat × Nat) := (xm y).2.2.2.2.1
def xmo (y : Nat) : Nat := (xm y).2.2.2.2.2.1
def xmf (y : Nat) : Nat := (xm y).2.2.2.2.2.2.1
def xmc (y : Nat) : Nat := (xm y).2.2.2.2.2.2.2
def xls : List Int64 := [2749, 31, 1023, 4503599627370496, -9223372036854775808, 2749, 31, 1023, 4503599627370496, -9223372036854775808]
def xds : List UInt64 := [4611686018427387904, 4611686018427387904, 4602678819172646912, 4841369599423283200]
def xss : List String := ["what is not 0 to 8", "the buffer is not a complete text", "the row would be too long", "no such part", "the row is full", "no such place", "a sign, or the row is full", "the text is too long", "no such setting", "value out of range", "code is not 33 to 126", "the buffer is full", "no saved state", "place is below 0", "what is not 0 to 7", "what is not 0 to 3", "no such sign"]
def xec : Nat → String := fun k => match k with
  | 0 => "java/lang/IllegalArgumentException"
  | 1 => "java/lang/IllegalStateException"
  | _ => "java/lang/IndexOutOfBoundsException"
def xpl_0 : List (Nat × Nat × Nat × Nat) := [(3, 6, 0, 0), (9, 7, 1, 0), (11, 4, 11, 0), (14, 0, 0, 0), (20, 0, 0, 1), (33, 2, 4, 0), (32, 2, 1, 0), (24, 2, 12, 0), (37, 2, 5, 0), (40, 2, 6, 0), (44, 2, 8, 0), (47, 2, 38, 0), (28, 2, 13, 0)]
def xpl_1 : List (Nat × Nat × Nat × Nat) := [(3, 6, 0, 0), (9, 0, 1, 0)]
def xpl_2 : List (Nat × Nat × Nat × Nat) := [(3, 6, 0, 0), (9, 7, 6, 0), (17, 4, 47, 0), (11, 0, 2, 0), (26, 0, 2, 1), (18, 0, 2, 2), (22, 2, 48, 0), (29, 13, 0, 0)]
def xpl_3 : List (Nat × Nat × Nat × Nat) := [(3, 6, 0, 0), (9, 7, 1, 0), (11, 4, 11, 0), (29, 2, 13, 0), (14, 0, 3, 0), (20, 0, 3, 1), (23, 0, 3, 2), (26, 0, 3, 3), (33, 2, 15, 0), (37, 2, 12, 0), (45, 12, 0, 0), (41, 2, 21, 0)]
def xpl_4 : List (Nat × Nat × Nat × Nat) := [(66, 1, 5, 1), (36, 1, 6, 0), (56, 1, 6, 1), (49, 1, 6, 2), (87, 1, 6, 3), (3, 6, 0, 0), (9, 7, 1, 0), (11, 4, 11, 0), (14, 0, 4, 0), (20, 0, 4, 1), (23, 0, 4, 2), (27, 0, 4, 3), (30, 0, 4, 4), (33, 0, 4, 5), (42, 2, 30, 0), (71, 2, 36, 0), (72, 2, 13, 0), (52, 2, 12, 0), (46, 2, 31, 0), (60, 2, 25, 0), (76, 2, 21, 0), (80, 2, 23, 0), (84, 2, 43, 0), (90, 2, 29, 0), (94, 2, 33, 0)]
def xpl_5 : List (Nat × Nat × Nat × Nat) := [(3, 6, 0, 0), (9, 0, 5, 0), (15, 0, 5, 1), (19, 2, 36, 0), (23, 2, 38, 0), (31, 2, 41, 0), (35, 2, 39, 0), (27, 2, 37, 0), (38, 2, 45, 0)]
def xpl_6 : List (Nat × Nat × Nat × Nat) := [(3, 6, 0, 0), (9, 7, 5, 0), (11, 5, 35, 0), (63, 1, 5, 1), (18, 7, 3, 0), (20, 4, 19, 0), (92, 1, 3, 0), (95, 1, 3, 1), (77, 1, 3, 2), (70, 1, 3, 3), (25, 7, 1, 0), (27, 4, 11, 0), (37, 2, 13, 0), (12, 0, 6, 0), (21, 0, 6, 1), (30, 0, 6, 2), (51, 0, 6, 3), (55, 0, 6, 4), (34, 0, 6, 5), (41, 2, 40, 0), (45, 2, 20, 0), (48, 2, 15, 0), (118, 2, 21, 0), (122, 2, 60, 0), (58, 2, 45, 0), (76, 2, 12, 0), (62, 2, 26, 0), (125, 2, 37, 0), (73, 2, 36, 0), (128, 2, 57, 0), (111, 2, 42, 0), (115, 2, 24, 0), (66, 2, 22, 0), (99, 2, 51, 0), (102, 2, 46, 0), (105, 2, 52, 0), (80, 12, 0, 0), (108, 2, 50, 0), (89, 2, 14, 0), (98, 2, 49, 0), (86, 2, 27, 0)]
def xpl_7 : List (Nat × Nat × Nat × Nat) := [(3, 6, 0, 0), (9, 7, 6, 0), (11, 4, 47, 0), (81, 1, 5, 1), (51, 1, 6, 0), (85, 1, 6, 1), (174, 1, 6, 2), (263, 1, 6, 3), (144, 1, 6, 4), (16, 7, 2, 0), (18, 4, 16, 0), (194, 1, 2, 1), (23, 7, 0, 0), (25, 5, 0, 0), (187, 1, 0, 1), (30, 7, 4, 0), (32, 5, 28, 0), (137, 1, 4, 5), (12, 0, 7, 0), (19, 0, 7, 1), (26, 0, 7, 2), (33, 0, 7, 3), (37, 0, 7, 4), (70, 2, 17, 0), (131, 2, 29, 0), (134, 2, 33, 0), (140, 2, 34, 0), (147, 2, 59, 0), (150, 2, 61, 0), (78, 2, 3, 0), (191, 2, 6, 0), (227, 2, 90, 0), (158, 2, 48, 0), (181, 2, 13, 0), (233, 2, 50, 0), (153, 2, 51, 0), (236, 9, 0, 0), (238, 2, 93, 0), (271, 2, 81, 0), (44, 8, 0, 0), (217, 11, 0, 0), (219, 2, 56, 0), (245, 3, 92, 0), (269, 9, 1, 0), (178, 2, 12, 0), (242, 2, 94, 0), (116, 2, 36, 0), (224, 2, 54, 0), (205, 2, 55, 0), (89, 2, 21, 0), (161, 2, 53, 0), (214, 2, 32, 0), (209, 2, 44, 0), (230, 2, 91, 0), (266, 2, 52, 0), (249, 2, 85, 0), (252, 2, 86, 0), (256, 3, 96, 0), (275, 9, 2, 0), (277, 10, 0, 0), (279, 9, 3, 0), (281, 9, 4, 0), (260, 2, 95, 0), (274, 2, 1, 0), (40, 2, 7, 0), (46, 11, 1, 0), (55, 2, 9, 0), (59, 2, 37, 0), (65, 8, 1, 0), (67, 11, 2, 0), (74, 2, 10, 0), (94, 8, 2, 0), (96, 11, 3, 0), (99, 11, 4, 0), (101, 2, 38, 0), (105, 11, 5, 0), (107, 2, 39, 0), (110, 2, 58, 0), (113, 2, 22, 0), (120, 11, 6, 0), (122, 2, 57, 0), (125, 2, 49, 0), (128, 2, 24, 0), (156, 11, 7, 0), (164, 3, 88, 0), (167, 11, 8, 0), (169, 3, 89, 0), (172, 11, 9, 0), (185, 11, 10, 0), (188, 11, 11, 0), (190, 2, 2, 0), (196, 11, 12, 0), (198, 2, 18, 0), (201, 11, 13, 0), (203, 11, 14, 0), (212, 11, 15, 0), (222, 11, 16, 0)]
def xpl_8 : List (Nat × Nat × Nat × Nat) := [(1, 6, 0, 0), (37, 0, 8, 0), (7, 0, 8, 1), (13, 0, 8, 2), (16, 0, 8, 3), (41, 0, 8, 4), (19, 0, 8, 5), (77, 0, 8, 6), (22, 0, 8, 7), (25, 0, 8, 8), (28, 0, 8, 9), (31, 0, 8, 10), (34, 0, 8, 11), (67, 0, 8, 12), (70, 0, 8, 13), (74, 0, 8, 14), (110, 0, 8, 15), (113, 0, 8, 16), (103, 0, 8, 17), (116, 0, 8, 18), (191, 0, 8, 19), (80, 2, 116, 0), (44, 3, 99, 0), (84, 2, 100, 0), (87, 2, 101, 0), (48, 2, 104, 0), (96, 2, 119, 0), (90, 2, 109, 0), (93, 2, 110, 0), (52, 2, 105, 0), (56, 2, 106, 0), (63, 2, 111, 0), (99, 2, 121, 0), (122, 2, 125, 0), (119, 2, 124, 0), (106, 2, 123, 0), (125, 2, 126, 0), (128, 2, 129, 0), (131, 2, 107, 0), (59, 2, 108, 0), (134, 2, 113, 0), (137, 2, 115, 0), (140, 2, 139, 0), (143, 2, 142, 0), (155, 2, 145, 0), (146, 2, 144, 0), (149, 2, 114, 0), (152, 2, 112, 0), (158, 2, 147, 0), (167, 2, 150, 0), (161, 2, 102, 0), (164, 2, 103, 0), (170, 2, 152, 0), (173, 2, 154, 0), (195, 9, 5, 0), (197, 2, 157, 0), (189, 9, 6, 0), (201, 3, 156, 0), (177, 9, 7, 0), (179, 10, 1, 0), (181, 10, 2, 0), (183, 9, 8, 0), (185, 10, 3, 0), (187, 9, 9, 0)]
def xpl_9 : List (Nat × Nat × Nat × Nat) := [(8, 7, 7, 0), (69, 4, 62, 0), (92, 2, 67, 0), (96, 2, 68, 0), (100, 2, 69, 0), (114, 2, 73, 0), (118, 2, 74, 0), (152, 2, 85, 0), (156, 2, 86, 0), (161, 2, 87, 0), (73, 3, 161, 0), (13, 8, 0, 0), (15, 8, 1, 0), (7, 2, 63, 0), (82, 3, 162, 0), (21, 8, 2, 0), (17, 2, 64, 0), (86, 3, 163, 0), (23, 2, 65, 0), (89, 3, 164, 0), (26, 2, 66, 0), (104, 3, 165, 0), (29, 2, 70, 0), (107, 3, 166, 0), (32, 2, 71, 0), (111, 3, 167, 0), (36, 2, 72, 0), (122, 3, 168, 0), (39, 2, 75, 0), (125, 3, 169, 0), (42, 2, 76, 0), (128, 3, 170, 0), (45, 2, 77, 0), (131, 3, 171, 0), (48, 2, 78, 0), (134, 3, 172, 0), (51, 2, 79, 0), (137, 3, 173, 0), (54, 2, 80, 0), (140, 3, 174, 0), (57, 2, 81, 0), (143, 3, 175, 0), (60, 2, 82, 0), (146, 3, 176, 0), (63, 2, 83, 0), (149, 3, 177, 0), (66, 2, 84, 0), (70, 7, 8, 0), (72, 4, 97, 0), (79, 2, 98, 0), (78, 2, 117, 0), (85, 2, 118, 0), (88, 2, 120, 0), (91, 2, 122, 0), (95, 2, 127, 0), (99, 2, 128, 0), (103, 2, 130, 0), (106, 2, 131, 0), (110, 2, 132, 0), (113, 2, 133, 0), (117, 2, 134, 0), (121, 2, 135, 0), (124, 2, 136, 0), (127, 2, 137, 0), (130, 2, 138, 0), (133, 2, 140, 0), (136, 2, 141, 0), (139, 2, 143, 0), (142, 2, 146, 0), (145, 2, 148, 0), (148, 2, 149, 0), (151, 2, 151, 0), (155, 2, 153, 0), (160, 2, 155, 0), (165, 2, 158, 0)]
def xpl (w : Nat) : List (Nat × Nat × Nat × Nat) := match w with
  | 0 => xpl_0
  | 1 => xpl_1
  | 2 => xpl_2
  | 3 => xpl_3
  | 4 => xpl_4
  | 5 => xpl_5
  | 6 => xpl_6
  | 7 => xpl_7
  | 8 => xpl_8
  | 9 => xpl_9
  | _ => []
/-- what an entry of a class's pool is: its kind, two numbers -/
def xpf (w i : Nat) : Option (Nat × Nat × Nat) := ((xpl w).find? (fun q => q.1 == i)).map (fun q => q.2)
end
section
/-! What the tables' numbers stand for, decided once. Written by gen_base.py. -/
def xgt : List Cond := lw_tbl.filter goodWord
theorem xmem {p : Nat} {w : Cond} (h : lw_tbl[p]? = some w) (g : goodWord w = true) : w ∈ xgt := List.mem_filter.mpr ⟨List.mem_of_getElem? h, g⟩
theorem xgt_good {w : Cond} (h : w ∈ xgt) : goodWord w = true := (List.mem_filter.mp h).2
theorem xgt_tbl {w : Cond} (h : w ∈ xgt) : w ∈ lw_tbl := (List.mem_filter.mp h).1
/-- a method's own word -/
def xcw (z : Nat) : Cond := if xmh z = [] then .code (xmy z) (xmb z) (xml z) (xmr z) else .codeWith (xmy z) (xmb z) (xml z) (xmr z) (xmh z)
/-- how many parameters -/
def xna (z : Nat) : Nat := ((parseMethodDescriptor (xmy z).desc).map (fun d => d.parameters.length)).getD 99
/-- the words of every method but the law's own -/
def xokc (z : Nat) : Prop := xcw z ∈ xgt ∧ Cond.initialized (xmy z).cls ∈ xgt ∧ (xmy z).cls = xcn (xmo z) ∧ plainName (xmy z).cls = true ∧ ((xmy z).cls ≠ "java/lang/invoke/MethodHandle" ∧ (xmy z).cls ≠ "java/lang/invoke/VarHandle") ∧ (parseMethodDescriptor (xmy z).desc).map (fun d => d.parameters.length) = some (xna z)
def xokS (z : Nat) : Prop := xokc z ∧ Cond.static (xmy z) ∈ xgt
def xokI (z : Nat) : Prop := xokc z ∧ Cond.instanceMethod (xmy z) ∈ xgt ∧ (xmy z).name = "<init>" ∧ xmr z = none ∧ xmh z = []
def xokV (z : Nat) : Prop := xokc z ∧ Cond.instanceMethod (xmy z) ∈ xgt ∧ Cond.selects (xmy z).cls (xmy z) (xmy z) ∈ xgt
def xokp (w : Nat) (q : Nat × Nat × Nat × Nat) : Prop := match q with
  | (i, 0, ci, k) => Cond.fieldLink (xcn w) i (xT ci k).1 (xT ci k).2.1 (xT ci k).2.2.1 ∈ xgt ∧ k < xN ci ∧ ci < 9
  | (i, 1, ci, k) => Cond.fieldLinkNest (xcn w) i (xT ci k).1 (xT ci k).2.1 (xT ci k).2.2.1 "PairNames" ∈ lw_tbl ∧ k < xN ci ∧ ci < 9
  | (i, 2, z, _) => Cond.methodLink (xcn w) i (xmy z) ∈ xgt ∧ xokV z
  | (i, 3, z, _) => Cond.methodLink (xcn w) i (xmy z) ∈ xgt ∧ xokS z
  | (i, 4, z, _) => Cond.methodLink (xcn w) i (xmy z) ∈ xgt ∧ xokI z
  | (i, 5, z, _) => Cond.methodLinkNest (xcn w) i (xmy z) "PairNames" ∈ lw_tbl ∧ xokI z
  | (i, 6, _, _) => Cond.methodLink (xcn w) i objectInit ∈ xgt
  | (i, 7, ci, _) => Cond.classLink (xcn w) i (xcn ci) ∈ xgt ∧ ci < 9
  | (i, 8, e, _) => Cond.classLink (xcn w) i (xec e) ∈ xgt ∧ e < 3
  | (i, 9, k, _) => Cond.constantLong (xcn w) i ((xls[k]?).getD 0) ∈ xgt
  | (i, 10, k, _) => Cond.constantDouble (xcn w) i ((xds[k]?).getD 0) ∈ xgt
  | (i, 11, k, _) => Cond.stringRef (xcn w) i ((xss[k]?).getD "") ∈ lw_tbl
  | (i, 12, _, _) => Cond.methodLink (xcn w) i Lib.Math.max.name ∈ xgt
  | (i, 13, _, _) => Cond.methodLink (xcn w) i Lib.Math.min.name ∈ xgt
  | _ => False

set_option maxRecDepth 100000 in
theorem xc_0 : xokc 0 := ⟨xmem (p := 186) rfl rfl, xmem (p := 53) rfl rfl, rfl, by decide +kernel, by decide +kernel, by decide +kernel⟩
set_option maxRecDepth 100000 in
theorem xd_0 : xokI 0 := ⟨xc_0, xmem (p := 185) rfl rfl, rfl, rfl, rfl⟩
set_option maxRecDepth 100000 in
theorem xc_1 : xokc 1 := ⟨xmem (p := 405) rfl rfl, xmem (p := 53) rfl rfl, rfl, by decide +kernel, by decide +kernel, by decide +kernel⟩
set_option maxRecDepth 100000 in
theorem xd_1 : xokV 1 := ⟨xc_1, xmem (p := 403) rfl rfl, xmem (p := 404) rfl rfl⟩
set_option maxRecDepth 100000 in
theorem xc_2 : xokc 2 := ⟨xmem (p := 728) rfl rfl, xmem (p := 53) rfl rfl, rfl, by decide +kernel, by decide +kernel, by decide +kernel⟩
set_option maxRecDepth 100000 in
theorem xd_2 : xokV 2 := ⟨xc_2, xmem (p := 726) rfl rfl, xmem (p := 727) rfl rfl⟩
set_option maxRecDepth 100000 in
theorem xc_3 : xokc 3 := ⟨xmem (p := 389) rfl rfl, xmem (p := 53) rfl rfl, rfl, by decide +kernel, by decide +kernel, by decide +kernel⟩
set_option maxRecDepth 100000 in
theorem xd_3 : xokV 3 := ⟨xc_3, xmem (p := 387) rfl rfl, xmem (p := 388) rfl rfl⟩
set_option maxRecDepth 100000 in
theorem xc_4 : xokc 4 := ⟨xmem (p := 401) rfl rfl, xmem (p := 53) rfl rfl, rfl, by decide +kernel, by decide +kernel, by decide +kernel⟩
set_option maxRecDepth 100000 in
theorem xd_4 : xokV 4 := ⟨xc_4, xmem (p := 400) rfl rfl, xmem (p := 4) rfl rfl⟩
set_option maxRecDepth 100000 in
theorem xc_5 : xokc 5 := ⟨xmem (p := 410) rfl rfl, xmem (p := 53) rfl rfl, rfl, by decide +kernel, by decide +kernel, by decide +kernel⟩
set_option maxRecDepth 100000 in
theorem xd_5 : xokV 5 := ⟨xc_5, xmem (p := 409) rfl rfl, xmem (p := 5) rfl rfl⟩
set_option maxRecDepth 100000 in
theorem xc_6 : xokc 6 := ⟨xmem (p := 397) rfl rfl, xmem (p := 53) rfl rfl, rfl, by decide +kernel, by decide +kernel, by decide +kernel⟩
set_option maxRecDepth 100000 in
theorem xd_6 : xokV 6 := ⟨xc_6, xmem (p := 395) rfl rfl, xmem (p := 396) rfl rfl⟩
set_option maxRecDepth 100000 in
theorem xc_7 : xokc 7 := ⟨xmem (p := 609) rfl rfl, xmem (p := 53) rfl rfl, rfl, by decide +kernel, by decide +kernel, by decide +kernel⟩
set_option maxRecDepth 100000 in
theorem xd_7 : xokV 7 := ⟨xc_7, xmem (p := 607) rfl rfl, xmem (p := 608) rfl rfl⟩
set_option maxRecDepth 100000 in
theorem xc_8 : xokc 8 := ⟨xmem (p := 619) rfl rfl, xmem (p := 53) rfl rfl, rfl, by decide +kernel, by decide +kernel, by decide +kernel⟩
set_option maxRecDepth 100000 in
theorem xd_8 : xokV 8 := ⟨xc_8, xmem (p := 618) rfl rfl, xmem (p := 12) rfl rfl⟩
set_option maxRecDepth 100000 in
theorem xc_9 : xokc 9 := ⟨xmem (p := 615) rfl rfl, xmem (p := 53) rfl rfl, rfl, by decide +kernel, by decide +kernel, by decide +kernel⟩
set_option maxRecDepth 100000 in
theorem xd_9 : xokV 9 := ⟨xc_9, xmem (p := 613) rfl rfl, xmem (p := 614) rfl rfl⟩
set_option maxRecDepth 100000 in
theorem xc_10 : xokc 10 := ⟨xmem (p := 640) rfl rfl, xmem (p := 53) rfl rfl, rfl, by decide +kernel, by decide +kernel, by decide +kernel⟩
set_option maxRecDepth 100000 in
theorem xd_10 : xokV 10 := ⟨xc_10, xmem (p := 638) rfl rfl, xmem (p := 639) rfl rfl⟩
set_option maxRecDepth 100000 in
theorem xc_11 : xokc 11 := ⟨xmem (p := 104) rfl rfl, xmem (p := 51) rfl rfl, rfl, by decide +kernel, by decide +kernel, by decide +kernel⟩
set_option maxRecDepth 100000 in
theorem xd_11 : xokI 11 := ⟨xc_11, xmem (p := 103) rfl rfl, rfl, rfl, rfl⟩
set_option maxRecDepth 100000 in
theorem xc_12 : xokc 12 := ⟨xmem (p := 291) rfl rfl, xmem (p := 51) rfl rfl, rfl, by decide +kernel, by decide +kernel, by decide +kernel⟩
set_option maxRecDepth 100000 in
theorem xd_12 : xokV 12 := ⟨xc_12, xmem (p := 289) rfl rfl, xmem (p := 290) rfl rfl⟩
set_option maxRecDepth 100000 in
theorem xc_13 : xokc 13 := ⟨xmem (p := 113) rfl rfl, xmem (p := 51) rfl rfl, rfl, by decide +kernel, by decide +kernel, by decide +kernel⟩
set_option maxRecDepth 100000 in
theorem xd_13 : xokV 13 := ⟨xc_13, xmem (p := 111) rfl rfl, xmem (p := 112) rfl rfl⟩
set_option maxRecDepth 100000 in
theorem xc_14 : xokc 14 := ⟨xmem (p := 552) rfl rfl, xmem (p := 51) rfl rfl, rfl, by decide +kernel, by decide +kernel, by decide +kernel⟩
set_option maxRecDepth 100000 in
theorem xd_14 : xokV 14 := ⟨xc_14, xmem (p := 550) rfl rfl, xmem (p := 551) rfl rfl⟩
set_option maxRecDepth 100000 in
theorem xc_15 : xokc 15 := ⟨xmem (p := 273) rfl rfl, xmem (p := 51) rfl rfl, rfl, by decide +kernel, by decide +kernel, by decide +kernel⟩
set_option maxRecDepth 100000 in
theorem xd_15 : xokV 15 := ⟨xc_15, xmem (p := 271) rfl rfl, xmem (p := 272) rfl rfl⟩
set_option maxRecDepth 100000 in
theorem xc_16 : xokc 16 := ⟨xmem (p := 166) rfl rfl, xmem (p := 52) rfl rfl, rfl, by decide +kernel, by decide +kernel, by decide +kernel⟩
set_option maxRecDepth 100000 in
theorem xd_16 : xokI 16 := ⟨xc_16, xmem (p := 165) rfl rfl, rfl, rfl, rfl⟩
set_option maxRecDepth 100000 in
theorem xc_17 : xokc 17 := ⟨xmem (p := 249) rfl rfl, xmem (p := 52) rfl rfl, rfl, by decide +kernel, by decide +kernel, by decide +kernel⟩
set_option maxRecDepth 100000 in
theorem xd_17 : xokV 17 := ⟨xc_17, xmem (p := 247) rfl rfl, xmem (p := 248) rfl rfl⟩
set_option maxRecDepth 100000 in
theorem xc_18 : xokc 18 := ⟨xmem (p := 741) rfl rfl, xmem (p := 52) rfl rfl, rfl, by decide +kernel, by decide +kernel, by decide +kernel⟩
set_option maxRecDepth 100000 in
theorem xd_18 : xokV 18 := ⟨xc_18, xmem (p := 739) rfl rfl, xmem (p := 740) rfl rfl⟩
set_option maxRecDepth 100000 in
theorem xc_19 : xokc 19 := ⟨xmem (p := 98) rfl rfl, xmem (p := 50) rfl rfl, rfl, by decide +kernel, by decide +kernel, by decide +kernel⟩
set_option maxRecDepth 100000 in
theorem xd_19 : xokI 19 := ⟨xc_19, xmem (p := 97) rfl rfl, rfl, rfl, rfl⟩
set_option maxRecDepth 100000 in
theorem xc_20 : xokc 20 := ⟨xmem (p := 269) rfl rfl, xmem (p := 50) rfl rfl, rfl, by decide +kernel, by decide +kernel, by decide +kernel⟩
set_option maxRecDepth 100000 in
theorem xd_20 : xokV 20 := ⟨xc_20, xmem (p := 267) rfl rfl, xmem (p := 268) rfl rfl⟩
set_option maxRecDepth 100000 in
theorem xc_21 : xokc 21 := ⟨xmem (p := 308) rfl rfl, xmem (p := 50) rfl rfl, rfl, by decide +kernel, by decide +kernel, by decide +kernel⟩
set_option maxRecDepth 100000 in
theorem xd_21 : xokV 21 := ⟨xc_21, xmem (p := 306) rfl rfl, xmem (p := 307) rfl rfl⟩
set_option maxRecDepth 100000 in
theorem xc_22 : xokc 22 := ⟨xmem (p := 428) rfl rfl, xmem (p := 50) rfl rfl, rfl, by decide +kernel, by decide +kernel, by decide +kernel⟩
set_option maxRecDepth 100000 in
theorem xd_22 : xokV 22 := ⟨xc_22, xmem (p := 426) rfl rfl, xmem (p := 427) rfl rfl⟩
set_option maxRecDepth 100000 in
theorem xc_23 : xokc 23 := ⟨xmem (p := 312) rfl rfl, xmem (p := 50) rfl rfl, rfl, by decide +kernel, by decide +kernel, by decide +kernel⟩
set_option maxRecDepth 100000 in
theorem xd_23 : xokV 23 := ⟨xc_23, xmem (p := 310) rfl rfl, xmem (p := 311) rfl rfl⟩
set_option maxRecDepth 100000 in
theorem xc_24 : xokc 24 := ⟨xmem (p := 381) rfl rfl, xmem (p := 50) rfl rfl, rfl, by decide +kernel, by decide +kernel, by decide +kernel⟩
set_option maxRecDepth 100000 in
theorem xd_24 : xokV 24 := ⟨xc_24, xmem (p := 379) rfl rfl, xmem (p := 380) rfl rfl⟩
set_option maxRecDepth 100000 in
theorem xc_25 : xokc 25 := ⟨xmem (p := 299) rfl rfl, xmem (p := 50) rfl rfl, rfl, by decide +kernel, by decide +kernel, by decide +kernel⟩
set_option maxRecDepth 100000 in
theorem xd_25 : xokV 25 := ⟨xc_25, xmem (p := 297) rfl rfl, xmem (p := 298) rfl rfl⟩
set_option maxRecDepth 100000 in
theorem xc_26 : xokc 26 := ⟨xmem (p := 359) rfl rfl, xmem (p := 50) rfl rfl, rfl, by decide +kernel, by decide +kernel, by decide +kernel⟩
set_option maxRecDepth 100000 in
theorem xd_26 : xokV 26 := ⟨xc_26, xmem (p := 357) rfl rfl, xmem (p := 358) rfl rfl⟩
set_option maxRecDepth 100000 in
theorem xc_27 : xokc 27 := ⟨xmem (p := 564) rfl rfl, xmem (p := 50) rfl rfl, rfl, by decide +kernel, by decide +kernel, by decide +kernel⟩
set_option maxRecDepth 100000 in
theorem xd_27 : xokV 27 := ⟨xc_27, xmem (p := 562) rfl rfl, xmem (p := 563) rfl rfl⟩
set_option maxRecDepth 100000 in
theorem xc_28 : xokc 28 := ⟨xmem (p := 202) rfl rfl, xmem (p := 54) rfl rfl, rfl, by decide +kernel, by decide +kernel, by decide +kernel⟩
set_option maxRecDepth 100000 in
theorem xd_28 : xokI 28 := ⟨xc_28, xmem (p := 201) rfl rfl, rfl, rfl, rfl⟩
set_option maxRecDepth 100000 in
theorem xc_29 : xokc 29 := ⟨xmem (p := 281) rfl rfl, xmem (p := 54) rfl rfl, rfl, by decide +kernel, by decide +kernel, by decide +kernel⟩
set_option maxRecDepth 100000 in
theorem xd_29 : xokV 29 := ⟨xc_29, xmem (p := 279) rfl rfl, xmem (p := 280) rfl rfl⟩
set_option maxRecDepth 100000 in
theorem xc_30 : xokc 30 := ⟨xmem (p := 285) rfl rfl, xmem (p := 54) rfl rfl, rfl, by decide +kernel, by decide +kernel, by decide +kernel⟩
set_option maxRecDepth 100000 in
theorem xd_30 : xokV 30 := ⟨xc_30, xmem (p := 284) rfl rfl, xmem (p := 0) rfl rfl⟩
set_option maxRecDepth 100000 in
theorem xc_31 : xokc 31 := ⟨xmem (p := 295) rfl rfl, xmem (p := 54) rfl rfl, rfl, by decide +kernel, by decide +kernel, by decide +kernel⟩
set_option maxRecDepth 100000 in
theorem xd_31 : xokV 31 := ⟨xc_31, xmem (p := 294) rfl rfl, xmem (p := 1) rfl rfl⟩
set_option maxRecDepth 100000 in
theorem xc_32 : xokc 32 := ⟨xmem (p := 573) rfl rfl, xmem (p := 54) rfl rfl, rfl, by decide +kernel, by decide +kernel, by decide +kernel⟩
set_option maxRecDepth 100000 in
theorem xd_32 : xokV 32 := ⟨xc_32, xmem (p := 571) rfl rfl, xmem (p := 572) rfl rfl⟩
set_option maxRecDepth 100000 in
theorem xc_33 : xokc 33 := ⟨xmem (p := 304) rfl rfl, xmem (p := 54) rfl rfl, rfl, by decide +kernel, by decide +kernel, by decide +kernel⟩
set_option maxRecDepth 100000 in
theorem xd_33 : xokV 33 := ⟨xc_33, xmem (p := 302) rfl rfl, xmem (p := 303) rfl rfl⟩
set_option maxRecDepth 100000 in
theorem xc_34 : xokc 34 := ⟨xmem (p := 335) rfl rfl, xmem (p := 54) rfl rfl, rfl, by decide +kernel, by decide +kernel, by decide +kernel⟩
set_option maxRecDepth 100000 in
theorem xd_34 : xokV 34 := ⟨xc_34, xmem (p := 333) rfl rfl, xmem (p := 334) rfl rfl⟩
set_option maxRecDepth 100000 in
theorem xc_35 : xokc 35 := ⟨xmem (p := 81) rfl rfl, xmem (p := 49) rfl rfl, rfl, by decide +kernel, by decide +kernel, by decide +kernel⟩
set_option maxRecDepth 100000 in
theorem xd_35 : xokI 35 := ⟨xc_35, xmem (p := 80) rfl rfl, rfl, rfl, rfl⟩
set_option maxRecDepth 100000 in
theorem xc_36 : xokc 36 := ⟨xmem (p := 261) rfl rfl, xmem (p := 49) rfl rfl, rfl, by decide +kernel, by decide +kernel, by decide +kernel⟩
set_option maxRecDepth 100000 in
theorem xd_36 : xokV 36 := ⟨xc_36, xmem (p := 259) rfl rfl, xmem (p := 260) rfl rfl⟩
set_option maxRecDepth 100000 in
theorem xc_37 : xokc 37 := ⟨xmem (p := 363) rfl rfl, xmem (p := 49) rfl rfl, rfl, by decide +kernel, by decide +kernel, by decide +kernel⟩
set_option maxRecDepth 100000 in
theorem xd_37 : xokV 37 := ⟨xc_37, xmem (p := 361) rfl rfl, xmem (p := 362) rfl rfl⟩
set_option maxRecDepth 100000 in
theorem xc_38 : xokc 38 := ⟨xmem (p := 265) rfl rfl, xmem (p := 49) rfl rfl, rfl, by decide +kernel, by decide +kernel, by decide +kernel⟩
set_option maxRecDepth 100000 in
theorem xd_38 : xokV 38 := ⟨xc_38, xmem (p := 263) rfl rfl, xmem (p := 264) rfl rfl⟩
set_option maxRecDepth 100000 in
theorem xc_39 : xokc 39 := ⟨xmem (p := 327) rfl rfl, xmem (p := 49) rfl rfl, rfl, by decide +kernel, by decide +kernel, by decide +kernel⟩
set_option maxRecDepth 100000 in
theorem xd_39 : xokV 39 := ⟨xc_39, xmem (p := 325) rfl rfl, xmem (p := 326) rfl rfl⟩
set_option maxRecDepth 100000 in
theorem xc_40 : xokc 40 := ⟨xmem (p := 257) rfl rfl, xmem (p := 49) rfl rfl, rfl, by decide +kernel, by decide +kernel, by decide +kernel⟩
set_option maxRecDepth 100000 in
theorem xd_40 : xokV 40 := ⟨xc_40, xmem (p := 255) rfl rfl, xmem (p := 256) rfl rfl⟩
set_option maxRecDepth 100000 in
theorem xc_41 : xokc 41 := ⟨xmem (p := 323) rfl rfl, xmem (p := 49) rfl rfl, rfl, by decide +kernel, by decide +kernel, by decide +kernel⟩
set_option maxRecDepth 100000 in
theorem xd_41 : xokV 41 := ⟨xc_41, xmem (p := 322) rfl rfl, xmem (p := 2) rfl rfl⟩
set_option maxRecDepth 100000 in
theorem xc_42 : xokc 42 := ⟨xmem (p := 376) rfl rfl, xmem (p := 49) rfl rfl, rfl, by decide +kernel, by decide +kernel, by decide +kernel⟩
set_option maxRecDepth 100000 in
theorem xd_42 : xokV 42 := ⟨xc_42, xmem (p := 374) rfl rfl, xmem (p := 375) rfl rfl⟩
set_option maxRecDepth 100000 in
theorem xc_43 : xokc 43 := ⟨xmem (p := 319) rfl rfl, xmem (p := 49) rfl rfl, rfl, by decide +kernel, by decide +kernel, by decide +kernel⟩
set_option maxRecDepth 100000 in
theorem xd_43 : xokV 43 := ⟨xc_43, xmem (p := 317) rfl rfl, xmem (p := 318) rfl rfl⟩
set_option maxRecDepth 100000 in
theorem xc_44 : xokc 44 := ⟨xmem (p := 577) rfl rfl, xmem (p := 49) rfl rfl, rfl, by decide +kernel, by decide +kernel, by decide +kernel⟩
set_option maxRecDepth 100000 in
theorem xd_44 : xokV 44 := ⟨xc_44, xmem (p := 575) rfl rfl, xmem (p := 576) rfl rfl⟩
set_option maxRecDepth 100000 in
theorem xc_45 : xokc 45 := ⟨xmem (p := 354) rfl rfl, xmem (p := 49) rfl rfl, rfl, by decide +kernel, by decide +kernel, by decide +kernel⟩
set_option maxRecDepth 100000 in
theorem xd_45 : xokV 45 := ⟨xc_45, xmem (p := 352) rfl rfl, xmem (p := 353) rfl rfl⟩
set_option maxRecDepth 100000 in
theorem xc_46 : xokc 46 := ⟨xmem (p := 527) rfl rfl, xmem (p := 49) rfl rfl, rfl, by decide +kernel, by decide +kernel, by decide +kernel⟩
set_option maxRecDepth 100000 in
theorem xd_46 : xokV 46 := ⟨xc_46, xmem (p := 525) rfl rfl, xmem (p := 526) rfl rfl⟩
set_option maxRecDepth 100000 in
theorem xc_47 : xokc 47 := ⟨xmem (p := 75) rfl rfl, xmem (p := 48) rfl rfl, rfl, by decide +kernel, by decide +kernel, by decide +kernel⟩
set_option maxRecDepth 100000 in
theorem xd_47 : xokI 47 := ⟨xc_47, xmem (p := 74) rfl rfl, rfl, rfl, rfl⟩
set_option maxRecDepth 100000 in
theorem xc_48 : xokc 48 := ⟨xmem (p := 253) rfl rfl, xmem (p := 48) rfl rfl, rfl, by decide +kernel, by decide +kernel, by decide +kernel⟩
set_option maxRecDepth 100000 in
theorem xd_48 : xokV 48 := ⟨xc_48, xmem (p := 251) rfl rfl, xmem (p := 252) rfl rfl⟩
set_option maxRecDepth 100000 in
theorem xc_49 : xokc 49 := ⟨xmem (p := 560) rfl rfl, xmem (p := 48) rfl rfl, rfl, by decide +kernel, by decide +kernel, by decide +kernel⟩
set_option maxRecDepth 100000 in
theorem xd_49 : xokV 49 := ⟨xc_49, xmem (p := 558) rfl rfl, xmem (p := 559) rfl rfl⟩
set_option maxRecDepth 100000 in
theorem xc_50 : xokc 50 := ⟨xmem (p := 424) rfl rfl, xmem (p := 48) rfl rfl, rfl, by decide +kernel, by decide +kernel, by decide +kernel⟩
set_option maxRecDepth 100000 in
theorem xd_50 : xokV 50 := ⟨xc_50, xmem (p := 422) rfl rfl, xmem (p := 423) rfl rfl⟩
set_option maxRecDepth 100000 in
theorem xc_51 : xokc 51 := ⟨xmem (p := 437) rfl rfl, xmem (p := 48) rfl rfl, rfl, by decide +kernel, by decide +kernel, by decide +kernel⟩
set_option maxRecDepth 100000 in
theorem xd_51 : xokV 51 := ⟨xc_51, xmem (p := 435) rfl rfl, xmem (p := 436) rfl rfl⟩
set_option maxRecDepth 100000 in
theorem xc_52 : xokc 52 := ⟨xmem (p := 532) rfl rfl, xmem (p := 48) rfl rfl, rfl, by decide +kernel, by decide +kernel, by decide +kernel⟩
set_option maxRecDepth 100000 in
theorem xd_52 : xokV 52 := ⟨xc_52, xmem (p := 530) rfl rfl, xmem (p := 531) rfl rfl⟩
set_option maxRecDepth 100000 in
theorem xc_53 : xokc 53 := ⟨xmem (p := 569) rfl rfl, xmem (p := 48) rfl rfl, rfl, by decide +kernel, by decide +kernel, by decide +kernel⟩
set_option maxRecDepth 100000 in
theorem xd_53 : xokV 53 := ⟨xc_53, xmem (p := 567) rfl rfl, xmem (p := 568) rfl rfl⟩
set_option maxRecDepth 100000 in
theorem xc_54 : xokc 54 := ⟨xmem (p := 548) rfl rfl, xmem (p := 48) rfl rfl, rfl, by decide +kernel, by decide +kernel, by decide +kernel⟩
set_option maxRecDepth 100000 in
theorem xd_54 : xokV 54 := ⟨xc_54, xmem (p := 546) rfl rfl, xmem (p := 547) rfl rfl⟩
set_option maxRecDepth 100000 in
theorem xc_55 : xokc 55 := ⟨xmem (p := 556) rfl rfl, xmem (p := 48) rfl rfl, rfl, by decide +kernel, by decide +kernel, by decide +kernel⟩
set_option maxRecDepth 100000 in
theorem xd_55 : xokV 55 := ⟨xc_55, xmem (p := 554) rfl rfl, xmem (p := 555) rfl rfl⟩
set_option maxRecDepth 100000 in
theorem xc_56 : xokc 56 := ⟨xmem (p := 522) rfl rfl, xmem (p := 48) rfl rfl, rfl, by decide +kernel, by decide +kernel, by decide +kernel⟩
set_option maxRecDepth 100000 in
theorem xd_56 : xokV 56 := ⟨xc_56, xmem (p := 520) rfl rfl, xmem (p := 521) rfl rfl⟩
set_option maxRecDepth 100000 in
theorem xc_57 : xokc 57 := ⟨xmem (p := 372) rfl rfl, xmem (p := 48) rfl rfl, rfl, by decide +kernel, by decide +kernel, by decide +kernel⟩
set_option maxRecDepth 100000 in
theorem xd_57 : xokV 57 := ⟨xc_57, xmem (p := 370) rfl rfl, xmem (p := 371) rfl rfl⟩
set_option maxRecDepth 100000 in
theorem xc_58 : xokc 58 := ⟨xmem (p := 680) rfl rfl, xmem (p := 48) rfl rfl, rfl, by decide +kernel, by decide +kernel, by decide +kernel⟩
set_option maxRecDepth 100000 in
theorem xd_58 : xokV 58 := ⟨xc_58, xmem (p := 678) rfl rfl, xmem (p := 679) rfl rfl⟩
set_option maxRecDepth 100000 in
theorem xc_59 : xokc 59 := ⟨xmem (p := 345) rfl rfl, xmem (p := 48) rfl rfl, rfl, by decide +kernel, by decide +kernel, by decide +kernel⟩
set_option maxRecDepth 100000 in
theorem xd_59 : xokV 59 := ⟨xc_59, xmem (p := 343) rfl rfl, xmem (p := 344) rfl rfl⟩
set_option maxRecDepth 100000 in
theorem xc_60 : xokc 60 := ⟨xmem (p := 350) rfl rfl, xmem (p := 48) rfl rfl, rfl, by decide +kernel, by decide +kernel, by decide +kernel⟩
set_option maxRecDepth 100000 in
theorem xd_60 : xokV 60 := ⟨xc_60, xmem (p := 349) rfl rfl, xmem (p := 3) rfl rfl⟩
set_option maxRecDepth 100000 in
theorem xc_61 : xokc 61 := ⟨xmem (p := 367) rfl rfl, xmem (p := 48) rfl rfl, rfl, by decide +kernel, by decide +kernel, by decide +kernel⟩
set_option maxRecDepth 100000 in
theorem xd_61 : xokV 61 := ⟨xc_61, xmem (p := 365) rfl rfl, xmem (p := 366) rfl rfl⟩
set_option maxRecDepth 100000 in
theorem xc_62 : xokc 62 := ⟨xmem (p := 67) rfl rfl, xmem (p := 47) rfl rfl, rfl, by decide +kernel, by decide +kernel, by decide +kernel⟩
set_option maxRecDepth 100000 in
theorem xd_62 : xokI 62 := ⟨xc_62, xmem (p := 66) rfl rfl, rfl, rfl, rfl⟩
set_option maxRecDepth 100000 in
theorem xc_63 : xokc 63 := ⟨xmem (p := 605) rfl rfl, xmem (p := 47) rfl rfl, rfl, by decide +kernel, by decide +kernel, by decide +kernel⟩
set_option maxRecDepth 100000 in
theorem xd_63 : xokV 63 := ⟨xc_63, xmem (p := 603) rfl rfl, xmem (p := 604) rfl rfl⟩
set_option maxRecDepth 100000 in
theorem xc_64 : xokc 64 := ⟨xmem (p := 649) rfl rfl, xmem (p := 47) rfl rfl, rfl, by decide +kernel, by decide +kernel, by decide +kernel⟩
set_option maxRecDepth 100000 in
theorem xd_64 : xokV 64 := ⟨xc_64, xmem (p := 647) rfl rfl, xmem (p := 648) rfl rfl⟩
set_option maxRecDepth 100000 in
theorem xc_65 : xokc 65 := ⟨xmem (p := 674) rfl rfl, xmem (p := 47) rfl rfl, rfl, by decide +kernel, by decide +kernel, by decide +kernel⟩
set_option maxRecDepth 100000 in
theorem xd_65 : xokV 65 := ⟨xc_65, xmem (p := 672) rfl rfl, xmem (p := 673) rfl rfl⟩
set_option maxRecDepth 100000 in
theorem xc_66 : xokc 66 := ⟨xmem (p := 688) rfl rfl, xmem (p := 47) rfl rfl, rfl, by decide +kernel, by decide +kernel, by decide +kernel⟩
set_option maxRecDepth 100000 in
theorem xd_66 : xokV 66 := ⟨xc_66, xmem (p := 686) rfl rfl, xmem (p := 687) rfl rfl⟩
set_option maxRecDepth 100000 in
theorem xc_67 : xokc 67 := ⟨xmem (p := 245) rfl rfl, xmem (p := 47) rfl rfl, rfl, by decide +kernel, by decide +kernel, by decide +kernel⟩
set_option maxRecDepth 100000 in
theorem xd_67 : xokV 67 := ⟨xc_67, xmem (p := 243) rfl rfl, xmem (p := 244) rfl rfl⟩
set_option maxRecDepth 100000 in
theorem xc_68 : xokc 68 := ⟨xmem (p := 331) rfl rfl, xmem (p := 47) rfl rfl, rfl, by decide +kernel, by decide +kernel, by decide +kernel⟩
set_option maxRecDepth 100000 in
theorem xd_68 : xokV 68 := ⟨xc_68, xmem (p := 329) rfl rfl, xmem (p := 330) rfl rfl⟩
set_option maxRecDepth 100000 in
theorem xc_69 : xokc 69 := ⟨xmem (p := 341) rfl rfl, xmem (p := 47) rfl rfl, rfl, by decide +kernel, by decide +kernel, by decide +kernel⟩
set_option maxRecDepth 100000 in
theorem xd_69 : xokV 69 := ⟨xc_69, xmem (p := 339) rfl rfl, xmem (p := 340) rfl rfl⟩
set_option maxRecDepth 100000 in
theorem xc_70 : xokc 70 := ⟨xmem (p := 699) rfl rfl, xmem (p := 47) rfl rfl, rfl, by decide +kernel, by decide +kernel, by decide +kernel⟩
set_option maxRecDepth 100000 in
theorem xd_70 : xokV 70 := ⟨xc_70, xmem (p := 697) rfl rfl, xmem (p := 698) rfl rfl⟩
set_option maxRecDepth 100000 in
theorem xc_71 : xokc 71 := ⟨xmem (p := 707) rfl rfl, xmem (p := 47) rfl rfl, rfl, by decide +kernel, by decide +kernel, by decide +kernel⟩
set_option maxRecDepth 100000 in
theorem xd_71 : xokV 71 := ⟨xc_71, xmem (p := 705) rfl rfl, xmem (p := 706) rfl rfl⟩
set_option maxRecDepth 100000 in
theorem xc_72 : xokc 72 := ⟨xmem (p := 722) rfl rfl, xmem (p := 47) rfl rfl, rfl, by decide +kernel, by decide +kernel, by decide +kernel⟩
set_option maxRecDepth 100000 in
theorem xd_72 : xokV 72 := ⟨xc_72, xmem (p := 720) rfl rfl, xmem (p := 721) rfl rfl⟩
set_option maxRecDepth 100000 in
theorem xc_73 : xokc 73 := ⟨xmem (p := 385) rfl rfl, xmem (p := 47) rfl rfl, rfl, by decide +kernel, by decide +kernel, by decide +kernel⟩
set_option maxRecDepth 100000 in
theorem xd_73 : xokV 73 := ⟨xc_73, xmem (p := 383) rfl rfl, xmem (p := 384) rfl rfl⟩
set_option maxRecDepth 100000 in
theorem xc_74 : xokc 74 := ⟨xmem (p := 393) rfl rfl, xmem (p := 47) rfl rfl, rfl, by decide +kernel, by decide +kernel, by decide +kernel⟩
set_option maxRecDepth 100000 in
theorem xd_74 : xokV 74 := ⟨xc_74, xmem (p := 391) rfl rfl, xmem (p := 392) rfl rfl⟩
set_option maxRecDepth 100000 in
theorem xc_75 : xokc 75 := ⟨xmem (p := 736) rfl rfl, xmem (p := 47) rfl rfl, rfl, by decide +kernel, by decide +kernel, by decide +kernel⟩
set_option maxRecDepth 100000 in
theorem xd_75 : xokV 75 := ⟨xc_75, xmem (p := 734) rfl rfl, xmem (p := 735) rfl rfl⟩
set_option maxRecDepth 100000 in
theorem xc_76 : xokc 76 := ⟨xmem (p := 748) rfl rfl, xmem (p := 47) rfl rfl, rfl, by decide +kernel, by decide +kernel, by decide +kernel⟩
set_option maxRecDepth 100000 in
theorem xd_76 : xokV 76 := ⟨xc_76, xmem (p := 746) rfl rfl, xmem (p := 747) rfl rfl⟩
set_option maxRecDepth 100000 in
theorem xc_77 : xokc 77 := ⟨xmem (p := 756) rfl rfl, xmem (p := 47) rfl rfl, rfl, by decide +kernel, by decide +kernel, by decide +kernel⟩
set_option maxRecDepth 100000 in
theorem xd_77 : xokV 77 := ⟨xc_77, xmem (p := 754) rfl rfl, xmem (p := 755) rfl rfl⟩
set_option maxRecDepth 100000 in
theorem xc_78 : xokc 78 := ⟨xmem (p := 763) rfl rfl, xmem (p := 47) rfl rfl, rfl, by decide +kernel, by decide +kernel, by decide +kernel⟩
set_option maxRecDepth 100000 in
theorem xd_78 : xokV 78 := ⟨xc_78, xmem (p := 761) rfl rfl, xmem (p := 762) rfl rfl⟩
set_option maxRecDepth 100000 in
theorem xc_79 : xokc 79 := ⟨xmem (p := 771) rfl rfl, xmem (p := 47) rfl rfl, rfl, by decide +kernel, by decide +kernel, by decide +kernel⟩
set_option maxRecDepth 100000 in
theorem xd_79 : xokV 79 := ⟨xc_79, xmem (p := 769) rfl rfl, xmem (p := 770) rfl rfl⟩
set_option maxRecDepth 100000 in
theorem xc_80 : xokc 80 := ⟨xmem (p := 778) rfl rfl, xmem (p := 47) rfl rfl, rfl, by decide +kernel, by decide +kernel, by decide +kernel⟩
set_option maxRecDepth 100000 in
theorem xd_80 : xokV 80 := ⟨xc_80, xmem (p := 776) rfl rfl, xmem (p := 777) rfl rfl⟩
set_option maxRecDepth 100000 in
theorem xc_81 : xokc 81 := ⟨xmem (p := 450) rfl rfl, xmem (p := 47) rfl rfl, rfl, by decide +kernel, by decide +kernel, by decide +kernel⟩
set_option maxRecDepth 100000 in
theorem xd_81 : xokV 81 := ⟨xc_81, xmem (p := 448) rfl rfl, xmem (p := 449) rfl rfl⟩
set_option maxRecDepth 100000 in
theorem xc_82 : xokc 82 := ⟨xmem (p := 790) rfl rfl, xmem (p := 47) rfl rfl, rfl, by decide +kernel, by decide +kernel, by decide +kernel⟩
set_option maxRecDepth 100000 in
theorem xd_82 : xokV 82 := ⟨xc_82, xmem (p := 788) rfl rfl, xmem (p := 789) rfl rfl⟩
set_option maxRecDepth 100000 in
theorem xc_83 : xokc 83 := ⟨xmem (p := 798) rfl rfl, xmem (p := 47) rfl rfl, rfl, by decide +kernel, by decide +kernel, by decide +kernel⟩
set_option maxRecDepth 100000 in
theorem xd_83 : xokV 83 := ⟨xc_83, xmem (p := 796) rfl rfl, xmem (p := 797) rfl rfl⟩
set_option maxRecDepth 100000 in
theorem xc_84 : xokc 84 := ⟨xmem (p := 805) rfl rfl, xmem (p := 47) rfl rfl, rfl, by decide +kernel, by decide +kernel, by decide +kernel⟩
set_option maxRecDepth 100000 in
theorem xd_84 : xokV 84 := ⟨xc_84, xmem (p := 803) rfl rfl, xmem (p := 804) rfl rfl⟩
set_option maxRecDepth 100000 in
theorem xc_85 : xokc 85 := ⟨xmem (p := 414) rfl rfl, xmem (p := 47) rfl rfl, rfl, by decide +kernel, by decide +kernel, by decide +kernel⟩
set_option maxRecDepth 100000 in
theorem xd_85 : xokV 85 := ⟨xc_85, xmem (p := 412) rfl rfl, xmem (p := 413) rfl rfl⟩
set_option maxRecDepth 100000 in
theorem xc_86 : xokc 86 := ⟨xmem (p := 433) rfl rfl, xmem (p := 47) rfl rfl, rfl, by decide +kernel, by decide +kernel, by decide +kernel⟩
set_option maxRecDepth 100000 in
theorem xd_86 : xokV 86 := ⟨xc_86, xmem (p := 431) rfl rfl, xmem (p := 432) rfl rfl⟩
set_option maxRecDepth 100000 in
theorem xc_87 : xokc 87 := ⟨xmem (p := 441) rfl rfl, xmem (p := 47) rfl rfl, rfl, by decide +kernel, by decide +kernel, by decide +kernel⟩
set_option maxRecDepth 100000 in
theorem xd_87 : xokV 87 := ⟨xc_87, xmem (p := 439) rfl rfl, xmem (p := 440) rfl rfl⟩
set_option maxRecDepth 100000 in
theorem xc_88 : xokc 88 := ⟨xmem (p := 710) rfl rfl, xmem (p := 47) rfl rfl, rfl, by decide +kernel, by decide +kernel, by decide +kernel⟩
set_option maxRecDepth 100000 in
theorem xd_88 : xokS 88 := ⟨xc_88, xmem (p := 709) rfl rfl⟩
set_option maxRecDepth 100000 in
theorem xc_89 : xokc 89 := ⟨xmem (p := 714) rfl rfl, xmem (p := 47) rfl rfl, rfl, by decide +kernel, by decide +kernel, by decide +kernel⟩
set_option maxRecDepth 100000 in
theorem xd_89 : xokS 89 := ⟨xc_89, xmem (p := 713) rfl rfl⟩
set_option maxRecDepth 100000 in
theorem xc_90 : xokc 90 := ⟨xmem (p := 418) rfl rfl, xmem (p := 47) rfl rfl, rfl, by decide +kernel, by decide +kernel, by decide +kernel⟩
set_option maxRecDepth 100000 in
theorem xd_90 : xokV 90 := ⟨xc_90, xmem (p := 417) rfl rfl, xmem (p := 6) rfl rfl⟩
set_option maxRecDepth 100000 in
theorem xc_91 : xokc 91 := ⟨xmem (p := 581) rfl rfl, xmem (p := 47) rfl rfl, rfl, by decide +kernel, by decide +kernel, by decide +kernel⟩
set_option maxRecDepth 100000 in
theorem xd_91 : xokV 91 := ⟨xc_91, xmem (p := 580) rfl rfl, xmem (p := 10) rfl rfl⟩
set_option maxRecDepth 100000 in
theorem xc_92 : xokc 92 := ⟨xmem (p := 537) rfl rfl, xmem (p := 47) rfl rfl, rfl, by decide +kernel, by decide +kernel, by decide +kernel⟩
set_option maxRecDepth 100000 in
theorem xd_92 : xokS 92 := ⟨xc_92, xmem (p := 536) rfl rfl⟩
set_option maxRecDepth 100000 in
theorem xc_93 : xokc 93 := ⟨xmem (p := 446) rfl rfl, xmem (p := 47) rfl rfl, rfl, by decide +kernel, by decide +kernel, by decide +kernel⟩
set_option maxRecDepth 100000 in
theorem xd_93 : xokV 93 := ⟨xc_93, xmem (p := 445) rfl rfl, xmem (p := 7) rfl rfl⟩
set_option maxRecDepth 100000 in
theorem xc_94 : xokc 94 := ⟨xmem (p := 543) rfl rfl, xmem (p := 47) rfl rfl, rfl, by decide +kernel, by decide +kernel, by decide +kernel⟩
set_option maxRecDepth 100000 in
theorem xd_94 : xokV 94 := ⟨xc_94, xmem (p := 542) rfl rfl, xmem (p := 9) rfl rfl⟩
set_option maxRecDepth 100000 in
theorem xc_95 : xokc 95 := ⟨xmem (p := 595) rfl rfl, xmem (p := 47) rfl rfl, rfl, by decide +kernel, by decide +kernel, by decide +kernel⟩
set_option maxRecDepth 100000 in
theorem xd_95 : xokV 95 := ⟨xc_95, xmem (p := 594) rfl rfl, xmem (p := 11) rfl rfl⟩
set_option maxRecDepth 100000 in
theorem xc_96 : xokc 96 := ⟨xmem (p := 587) rfl rfl, xmem (p := 47) rfl rfl, rfl, by decide +kernel, by decide +kernel, by decide +kernel⟩
set_option maxRecDepth 100000 in
theorem xd_96 : xokS 96 := ⟨xc_96, xmem (p := 586) rfl rfl⟩
set_option maxRecDepth 100000 in
theorem xc_97 : xokc 97 := ⟨xmem (p := 810) rfl rfl, xmem (p := 55) rfl rfl, rfl, by decide +kernel, by decide +kernel, by decide +kernel⟩
set_option maxRecDepth 100000 in
theorem xd_97 : xokI 97 := ⟨xc_97, xmem (p := 809) rfl rfl, rfl, rfl, rfl⟩
set_option maxRecDepth 100000 in
theorem xc_98 : xokc 98 := ⟨xmem (p := 876) rfl rfl, xmem (p := 55) rfl rfl, rfl, by decide +kernel, by decide +kernel, by decide +kernel⟩
set_option maxRecDepth 100000 in
theorem xd_98 : xokV 98 := ⟨xc_98, xmem (p := 874) rfl rfl, xmem (p := 875) rfl rfl⟩
set_option maxRecDepth 100000 in
theorem xc_99 : xokc 99 := ⟨xmem (p := 887) rfl rfl, xmem (p := 55) rfl rfl, rfl, by decide +kernel, by decide +kernel, by decide +kernel⟩
set_option maxRecDepth 100000 in
theorem xd_99 : xokS 99 := ⟨xc_99, xmem (p := 886) rfl rfl⟩
set_option maxRecDepth 100000 in
theorem xc_100 : xokc 100 := ⟨xmem (p := 891) rfl rfl, xmem (p := 55) rfl rfl, rfl, by decide +kernel, by decide +kernel, by decide +kernel⟩
set_option maxRecDepth 100000 in
theorem xd_100 : xokV 100 := ⟨xc_100, xmem (p := 890) rfl rfl, xmem (p := 14) rfl rfl⟩
set_option maxRecDepth 100000 in
theorem xc_101 : xokc 101 := ⟨xmem (p := 895) rfl rfl, xmem (p := 55) rfl rfl, rfl, by decide +kernel, by decide +kernel, by decide +kernel⟩
set_option maxRecDepth 100000 in
theorem xd_101 : xokV 101 := ⟨xc_101, xmem (p := 894) rfl rfl, xmem (p := 15) rfl rfl⟩
set_option maxRecDepth 100000 in
theorem xc_102 : xokc 102 := ⟨xmem (p := 1083) rfl rfl, xmem (p := 55) rfl rfl, rfl, by decide +kernel, by decide +kernel, by decide +kernel⟩
set_option maxRecDepth 100000 in
theorem xd_102 : xokV 102 := ⟨xc_102, xmem (p := 1082) rfl rfl, xmem (p := 41) rfl rfl⟩
set_option maxRecDepth 100000 in
theorem xc_103 : xokc 103 := ⟨xmem (p := 1087) rfl rfl, xmem (p := 55) rfl rfl, rfl, by decide +kernel, by decide +kernel, by decide +kernel⟩
set_option maxRecDepth 100000 in
theorem xd_103 : xokV 103 := ⟨xc_103, xmem (p := 1086) rfl rfl, xmem (p := 42) rfl rfl⟩
set_option maxRecDepth 100000 in
theorem xc_104 : xokc 104 := ⟨xmem (p := 903) rfl rfl, xmem (p := 55) rfl rfl, rfl, by decide +kernel, by decide +kernel, by decide +kernel⟩
set_option maxRecDepth 100000 in
theorem xd_104 : xokV 104 := ⟨xc_104, xmem (p := 902) rfl rfl, xmem (p := 16) rfl rfl⟩
set_option maxRecDepth 100000 in
theorem xc_105 : xokc 105 := ⟨xmem (p := 923) rfl rfl, xmem (p := 55) rfl rfl, rfl, by decide +kernel, by decide +kernel, by decide +kernel⟩
set_option maxRecDepth 100000 in
theorem xd_105 : xokV 105 := ⟨xc_105, xmem (p := 922) rfl rfl, xmem (p := 20) rfl rfl⟩
set_option maxRecDepth 100000 in
theorem xc_106 : xokc 106 := ⟨xmem (p := 927) rfl rfl, xmem (p := 55) rfl rfl, rfl, by decide +kernel, by decide +kernel, by decide +kernel⟩
set_option maxRecDepth 100000 in
theorem xd_106 : xokV 106 := ⟨xc_106, xmem (p := 926) rfl rfl, xmem (p := 21) rfl rfl⟩
set_option maxRecDepth 100000 in
theorem xc_107 : xokc 107 := ⟨xmem (p := 979) rfl rfl, xmem (p := 55) rfl rfl, rfl, by decide +kernel, by decide +kernel, by decide +kernel⟩
set_option maxRecDepth 100000 in
theorem xd_107 : xokV 107 := ⟨xc_107, xmem (p := 978) rfl rfl, xmem (p := 29) rfl rfl⟩
set_option maxRecDepth 100000 in
theorem xc_108 : xokc 108 := ⟨xmem (p := 983) rfl rfl, xmem (p := 55) rfl rfl, rfl, by decide +kernel, by decide +kernel, by decide +kernel⟩
set_option maxRecDepth 100000 in
theorem xd_108 : xokV 108 := ⟨xc_108, xmem (p := 982) rfl rfl, xmem (p := 30) rfl rfl⟩
set_option maxRecDepth 100000 in
theorem xc_109 : xokc 109 := ⟨xmem (p := 915) rfl rfl, xmem (p := 55) rfl rfl, rfl, by decide +kernel, by decide +kernel, by decide +kernel⟩
set_option maxRecDepth 100000 in
theorem xd_109 : xokV 109 := ⟨xc_109, xmem (p := 914) rfl rfl, xmem (p := 18) rfl rfl⟩
set_option maxRecDepth 100000 in
theorem xc_110 : xokc 110 := ⟨xmem (p := 919) rfl rfl, xmem (p := 55) rfl rfl, rfl, by decide +kernel, by decide +kernel, by decide +kernel⟩
set_option maxRecDepth 100000 in
theorem xd_110 : xokV 110 := ⟨xc_110, xmem (p := 918) rfl rfl, xmem (p := 19) rfl rfl⟩
set_option maxRecDepth 100000 in
theorem xc_111 : xokc 111 := ⟨xmem (p := 931) rfl rfl, xmem (p := 55) rfl rfl, rfl, by decide +kernel, by decide +kernel, by decide +kernel⟩
set_option maxRecDepth 100000 in
theorem xd_111 : xokV 111 := ⟨xc_111, xmem (p := 930) rfl rfl, xmem (p := 22) rfl rfl⟩
set_option maxRecDepth 100000 in
theorem xc_112 : xokc 112 := ⟨xmem (p := 1059) rfl rfl, xmem (p := 55) rfl rfl, rfl, by decide +kernel, by decide +kernel, by decide +kernel⟩
set_option maxRecDepth 100000 in
theorem xd_112 : xokV 112 := ⟨xc_112, xmem (p := 1058) rfl rfl, xmem (p := 38) rfl rfl⟩
set_option maxRecDepth 100000 in
theorem xc_113 : xokc 113 := ⟨xmem (p := 987) rfl rfl, xmem (p := 55) rfl rfl, rfl, by decide +kernel, by decide +kernel, by decide +kernel⟩
set_option maxRecDepth 100000 in
theorem xd_113 : xokV 113 := ⟨xc_113, xmem (p := 986) rfl rfl, xmem (p := 31) rfl rfl⟩
set_option maxRecDepth 100000 in
theorem xc_114 : xokc 114 := ⟨xmem (p := 1055) rfl rfl, xmem (p := 55) rfl rfl, rfl, by decide +kernel, by decide +kernel, by decide +kernel⟩
set_option maxRecDepth 100000 in
theorem xd_114 : xokV 114 := ⟨xc_114, xmem (p := 1054) rfl rfl, xmem (p := 37) rfl rfl⟩
set_option maxRecDepth 100000 in
theorem xc_115 : xokc 115 := ⟨xmem (p := 1019) rfl rfl, xmem (p := 55) rfl rfl, rfl, by decide +kernel, by decide +kernel, by decide +kernel⟩
set_option maxRecDepth 100000 in
theorem xd_115 : xokV 115 := ⟨xc_115, xmem (p := 1018) rfl rfl, xmem (p := 32) rfl rfl⟩
set_option maxRecDepth 100000 in
theorem xc_116 : xokc 116 := ⟨xmem (p := 884) rfl rfl, xmem (p := 55) rfl rfl, rfl, by decide +kernel, by decide +kernel, by decide +kernel⟩
set_option maxRecDepth 100000 in
theorem xd_116 : xokV 116 := ⟨xc_116, xmem (p := 883) rfl rfl, xmem (p := 13) rfl rfl⟩
set_option maxRecDepth 100000 in
theorem xc_117 : xokc 117 := ⟨xmem (p := 880) rfl rfl, xmem (p := 55) rfl rfl, rfl, by decide +kernel, by decide +kernel, by decide +kernel⟩
set_option maxRecDepth 100000 in
theorem xd_117 : xokV 117 := ⟨xc_117, xmem (p := 878) rfl rfl, xmem (p := 879) rfl rfl⟩
set_option maxRecDepth 100000 in
theorem xc_118 : xokc 118 := ⟨xmem (p := 899) rfl rfl, xmem (p := 55) rfl rfl, rfl, by decide +kernel, by decide +kernel, by decide +kernel⟩
set_option maxRecDepth 100000 in
theorem xd_118 : xokV 118 := ⟨xc_118, xmem (p := 897) rfl rfl, xmem (p := 898) rfl rfl⟩
set_option maxRecDepth 100000 in
theorem xc_119 : xokc 119 := ⟨xmem (p := 911) rfl rfl, xmem (p := 55) rfl rfl, rfl, by decide +kernel, by decide +kernel, by decide +kernel⟩
set_option maxRecDepth 100000 in
theorem xd_119 : xokV 119 := ⟨xc_119, xmem (p := 910) rfl rfl, xmem (p := 17) rfl rfl⟩
set_option maxRecDepth 100000 in
theorem xc_120 : xokc 120 := ⟨xmem (p := 907) rfl rfl, xmem (p := 55) rfl rfl, rfl, by decide +kernel, by decide +kernel, by decide +kernel⟩
set_option maxRecDepth 100000 in
theorem xd_120 : xokV 120 := ⟨xc_120, xmem (p := 905) rfl rfl, xmem (p := 906) rfl rfl⟩
set_option maxRecDepth 100000 in
theorem xc_121 : xokc 121 := ⟨xmem (p := 939) rfl rfl, xmem (p := 55) rfl rfl, rfl, by decide +kernel, by decide +kernel, by decide +kernel⟩
set_option maxRecDepth 100000 in
theorem xd_121 : xokV 121 := ⟨xc_121, xmem (p := 938) rfl rfl, xmem (p := 23) rfl rfl⟩
set_option maxRecDepth 100000 in
theorem xc_122 : xokc 122 := ⟨xmem (p := 935) rfl rfl, xmem (p := 55) rfl rfl, rfl, by decide +kernel, by decide +kernel, by decide +kernel⟩
set_option maxRecDepth 100000 in
theorem xd_122 : xokV 122 := ⟨xc_122, xmem (p := 933) rfl rfl, xmem (p := 934) rfl rfl⟩
set_option maxRecDepth 100000 in
theorem xc_123 : xokc 123 := ⟨xmem (p := 955) rfl rfl, xmem (p := 55) rfl rfl, rfl, by decide +kernel, by decide +kernel, by decide +kernel⟩
set_option maxRecDepth 100000 in
theorem xd_123 : xokV 123 := ⟨xc_123, xmem (p := 954) rfl rfl, xmem (p := 26) rfl rfl⟩
set_option maxRecDepth 100000 in
theorem xc_124 : xokc 124 := ⟨xmem (p := 951) rfl rfl, xmem (p := 55) rfl rfl, rfl, by decide +kernel, by decide +kernel, by decide +kernel⟩
set_option maxRecDepth 100000 in
theorem xd_124 : xokV 124 := ⟨xc_124, xmem (p := 950) rfl rfl, xmem (p := 25) rfl rfl⟩
set_option maxRecDepth 100000 in
theorem xc_125 : xokc 125 := ⟨xmem (p := 947) rfl rfl, xmem (p := 55) rfl rfl, rfl, by decide +kernel, by decide +kernel, by decide +kernel⟩
set_option maxRecDepth 100000 in
theorem xd_125 : xokV 125 := ⟨xc_125, xmem (p := 946) rfl rfl, xmem (p := 24) rfl rfl⟩
set_option maxRecDepth 100000 in
theorem xc_126 : xokc 126 := ⟨xmem (p := 963) rfl rfl, xmem (p := 55) rfl rfl, rfl, by decide +kernel, by decide +kernel, by decide +kernel⟩
set_option maxRecDepth 100000 in
theorem xd_126 : xokV 126 := ⟨xc_126, xmem (p := 962) rfl rfl, xmem (p := 27) rfl rfl⟩
set_option maxRecDepth 100000 in
theorem xc_127 : xokc 127 := ⟨xmem (p := 943) rfl rfl, xmem (p := 55) rfl rfl, rfl, by decide +kernel, by decide +kernel, by decide +kernel⟩
set_option maxRecDepth 100000 in
theorem xd_127 : xokV 127 := ⟨xc_127, xmem (p := 941) rfl rfl, xmem (p := 942) rfl rfl⟩
set_option maxRecDepth 100000 in
theorem xc_128 : xokc 128 := ⟨xmem (p := 959) rfl rfl, xmem (p := 55) rfl rfl, rfl, by decide +kernel, by decide +kernel, by decide +kernel⟩
set_option maxRecDepth 100000 in
theorem xd_128 : xokV 128 := ⟨xc_128, xmem (p := 957) rfl rfl, xmem (p := 958) rfl rfl⟩
set_option maxRecDepth 100000 in
theorem xc_129 : xokc 129 := ⟨xmem (p := 971) rfl rfl, xmem (p := 55) rfl rfl, rfl, by decide +kernel, by decide +kernel, by decide +kernel⟩
set_option maxRecDepth 100000 in
theorem xd_129 : xokV 129 := ⟨xc_129, xmem (p := 970) rfl rfl, xmem (p := 28) rfl rfl⟩
set_option maxRecDepth 100000 in
theorem xc_130 : xokc 130 := ⟨xmem (p := 967) rfl rfl, xmem (p := 55) rfl rfl, rfl, by decide +kernel, by decide +kernel, by decide +kernel⟩
set_option maxRecDepth 100000 in
theorem xd_130 : xokV 130 := ⟨xc_130, xmem (p := 965) rfl rfl, xmem (p := 966) rfl rfl⟩
set_option maxRecDepth 100000 in
theorem xc_131 : xokc 131 := ⟨xmem (p := 975) rfl rfl, xmem (p := 55) rfl rfl, rfl, by decide +kernel, by decide +kernel, by decide +kernel⟩
set_option maxRecDepth 100000 in
theorem xd_131 : xokV 131 := ⟨xc_131, xmem (p := 973) rfl rfl, xmem (p := 974) rfl rfl⟩
set_option maxRecDepth 100000 in
theorem xc_132 : xokc 132 := ⟨xmem (p := 991) rfl rfl, xmem (p := 55) rfl rfl, rfl, by decide +kernel, by decide +kernel, by decide +kernel⟩
set_option maxRecDepth 100000 in
theorem xd_132 : xokV 132 := ⟨xc_132, xmem (p := 989) rfl rfl, xmem (p := 990) rfl rfl⟩
set_option maxRecDepth 100000 in
theorem xc_133 : xokc 133 := ⟨xmem (p := 995) rfl rfl, xmem (p := 55) rfl rfl, rfl, by decide +kernel, by decide +kernel, by decide +kernel⟩
set_option maxRecDepth 100000 in
theorem xd_133 : xokV 133 := ⟨xc_133, xmem (p := 993) rfl rfl, xmem (p := 994) rfl rfl⟩
set_option maxRecDepth 100000 in
theorem xc_134 : xokc 134 := ⟨xmem (p := 999) rfl rfl, xmem (p := 55) rfl rfl, rfl, by decide +kernel, by decide +kernel, by decide +kernel⟩
set_option maxRecDepth 100000 in
theorem xd_134 : xokV 134 := ⟨xc_134, xmem (p := 997) rfl rfl, xmem (p := 998) rfl rfl⟩
set_option maxRecDepth 100000 in
theorem xc_135 : xokc 135 := ⟨xmem (p := 1003) rfl rfl, xmem (p := 55) rfl rfl, rfl, by decide +kernel, by decide +kernel, by decide +kernel⟩
set_option maxRecDepth 100000 in
theorem xd_135 : xokV 135 := ⟨xc_135, xmem (p := 1001) rfl rfl, xmem (p := 1002) rfl rfl⟩
set_option maxRecDepth 100000 in
theorem xc_136 : xokc 136 := ⟨xmem (p := 1007) rfl rfl, xmem (p := 55) rfl rfl, rfl, by decide +kernel, by decide +kernel, by decide +kernel⟩
set_option maxRecDepth 100000 in
theorem xd_136 : xokV 136 := ⟨xc_136, xmem (p := 1005) rfl rfl, xmem (p := 1006) rfl rfl⟩
set_option maxRecDepth 100000 in
theorem xc_137 : xokc 137 := ⟨xmem (p := 1011) rfl rfl, xmem (p := 55) rfl rfl, rfl, by decide +kernel, by decide +kernel, by decide +kernel⟩
set_option maxRecDepth 100000 in
theorem xd_137 : xokV 137 := ⟨xc_137, xmem (p := 1009) rfl rfl, xmem (p := 1010) rfl rfl⟩
set_option maxRecDepth 100000 in
theorem xc_138 : xokc 138 := ⟨xmem (p := 1015) rfl rfl, xmem (p := 55) rfl rfl, rfl, by decide +kernel, by decide +kernel, by decide +kernel⟩
set_option maxRecDepth 100000 in
theorem xd_138 : xokV 138 := ⟨xc_138, xmem (p := 1013) rfl rfl, xmem (p := 1014) rfl rfl⟩
set_option maxRecDepth 100000 in
theorem xc_139 : xokc 139 := ⟨xmem (p := 1027) rfl rfl, xmem (p := 55) rfl rfl, rfl, by decide +kernel, by decide +kernel, by decide +kernel⟩
set_option maxRecDepth 100000 in
theorem xd_139 : xokV 139 := ⟨xc_139, xmem (p := 1026) rfl rfl, xmem (p := 33) rfl rfl⟩
set_option maxRecDepth 100000 in
theorem xc_140 : xokc 140 := ⟨xmem (p := 1023) rfl rfl, xmem (p := 55) rfl rfl, rfl, by decide +kernel, by decide +kernel, by decide +kernel⟩
set_option maxRecDepth 100000 in
theorem xd_140 : xokV 140 := ⟨xc_140, xmem (p := 1021) rfl rfl, xmem (p := 1022) rfl rfl⟩
set_option maxRecDepth 100000 in
theorem xc_141 : xokc 141 := ⟨xmem (p := 1031) rfl rfl, xmem (p := 55) rfl rfl, rfl, by decide +kernel, by decide +kernel, by decide +kernel⟩
set_option maxRecDepth 100000 in
theorem xd_141 : xokV 141 := ⟨xc_141, xmem (p := 1029) rfl rfl, xmem (p := 1030) rfl rfl⟩
set_option maxRecDepth 100000 in
theorem xc_142 : xokc 142 := ⟨xmem (p := 1039) rfl rfl, xmem (p := 55) rfl rfl, rfl, by decide +kernel, by decide +kernel, by decide +kernel⟩
set_option maxRecDepth 100000 in
theorem xd_142 : xokV 142 := ⟨xc_142, xmem (p := 1038) rfl rfl, xmem (p := 34) rfl rfl⟩
set_option maxRecDepth 100000 in
theorem xc_143 : xokc 143 := ⟨xmem (p := 1035) rfl rfl, xmem (p := 55) rfl rfl, rfl, by decide +kernel, by decide +kernel, by decide +kernel⟩
set_option maxRecDepth 100000 in
theorem xd_143 : xokV 143 := ⟨xc_143, xmem (p := 1033) rfl rfl, xmem (p := 1034) rfl rfl⟩
set_option maxRecDepth 100000 in
theorem xc_144 : xokc 144 := ⟨xmem (p := 1051) rfl rfl, xmem (p := 55) rfl rfl, rfl, by decide +kernel, by decide +kernel, by decide +kernel⟩
set_option maxRecDepth 100000 in
theorem xd_144 : xokV 144 := ⟨xc_144, xmem (p := 1050) rfl rfl, xmem (p := 36) rfl rfl⟩
set_option maxRecDepth 100000 in
theorem xc_145 : xokc 145 := ⟨xmem (p := 1047) rfl rfl, xmem (p := 55) rfl rfl, rfl, by decide +kernel, by decide +kernel, by decide +kernel⟩
set_option maxRecDepth 100000 in
theorem xd_145 : xokV 145 := ⟨xc_145, xmem (p := 1046) rfl rfl, xmem (p := 35) rfl rfl⟩
set_option maxRecDepth 100000 in
theorem xc_146 : xokc 146 := ⟨xmem (p := 1043) rfl rfl, xmem (p := 55) rfl rfl, rfl, by decide +kernel, by decide +kernel, by decide +kernel⟩
set_option maxRecDepth 100000 in
theorem xd_146 : xokV 146 := ⟨xc_146, xmem (p := 1041) rfl rfl, xmem (p := 1042) rfl rfl⟩
set_option maxRecDepth 100000 in
theorem xc_147 : xokc 147 := ⟨xmem (p := 1067) rfl rfl, xmem (p := 55) rfl rfl, rfl, by decide +kernel, by decide +kernel, by decide +kernel⟩
set_option maxRecDepth 100000 in
theorem xd_147 : xokV 147 := ⟨xc_147, xmem (p := 1066) rfl rfl, xmem (p := 39) rfl rfl⟩
set_option maxRecDepth 100000 in
theorem xc_148 : xokc 148 := ⟨xmem (p := 1063) rfl rfl, xmem (p := 55) rfl rfl, rfl, by decide +kernel, by decide +kernel, by decide +kernel⟩
set_option maxRecDepth 100000 in
theorem xd_148 : xokV 148 := ⟨xc_148, xmem (p := 1061) rfl rfl, xmem (p := 1062) rfl rfl⟩
set_option maxRecDepth 100000 in
theorem xc_149 : xokc 149 := ⟨xmem (p := 1071) rfl rfl, xmem (p := 55) rfl rfl, rfl, by decide +kernel, by decide +kernel, by decide +kernel⟩
set_option maxRecDepth 100000 in
theorem xd_149 : xokV 149 := ⟨xc_149, xmem (p := 1069) rfl rfl, xmem (p := 1070) rfl rfl⟩
set_option maxRecDepth 100000 in
theorem xc_150 : xokc 150 := ⟨xmem (p := 1079) rfl rfl, xmem (p := 55) rfl rfl, rfl, by decide +kernel, by decide +kernel, by decide +kernel⟩
set_option maxRecDepth 100000 in
theorem xd_150 : xokV 150 := ⟨xc_150, xmem (p := 1078) rfl rfl, xmem (p := 40) rfl rfl⟩
set_option maxRecDepth 100000 in
theorem xc_151 : xokc 151 := ⟨xmem (p := 1075) rfl rfl, xmem (p := 55) rfl rfl, rfl, by decide +kernel, by decide +kernel, by decide +kernel⟩
set_option maxRecDepth 100000 in
theorem xd_151 : xokV 151 := ⟨xc_151, xmem (p := 1073) rfl rfl, xmem (p := 1074) rfl rfl⟩
set_option maxRecDepth 100000 in
theorem xc_152 : xokc 152 := ⟨xmem (p := 1095) rfl rfl, xmem (p := 55) rfl rfl, rfl, by decide +kernel, by decide +kernel, by decide +kernel⟩
set_option maxRecDepth 100000 in
theorem xd_152 : xokV 152 := ⟨xc_152, xmem (p := 1094) rfl rfl, xmem (p := 43) rfl rfl⟩
set_option maxRecDepth 100000 in
theorem xc_153 : xokc 153 := ⟨xmem (p := 1091) rfl rfl, xmem (p := 55) rfl rfl, rfl, by decide +kernel, by decide +kernel, by decide +kernel⟩
set_option maxRecDepth 100000 in
theorem xd_153 : xokV 153 := ⟨xc_153, xmem (p := 1089) rfl rfl, xmem (p := 1090) rfl rfl⟩
set_option maxRecDepth 100000 in
theorem xc_154 : xokc 154 := ⟨xmem (p := 1103) rfl rfl, xmem (p := 55) rfl rfl, rfl, by decide +kernel, by decide +kernel, by decide +kernel⟩
set_option maxRecDepth 100000 in
theorem xd_154 : xokV 154 := ⟨xc_154, xmem (p := 1102) rfl rfl, xmem (p := 44) rfl rfl⟩
set_option maxRecDepth 100000 in
theorem xc_155 : xokc 155 := ⟨xmem (p := 1099) rfl rfl, xmem (p := 55) rfl rfl, rfl, by decide +kernel, by decide +kernel, by decide +kernel⟩
set_option maxRecDepth 100000 in
theorem xd_155 : xokV 155 := ⟨xc_155, xmem (p := 1097) rfl rfl, xmem (p := 1098) rfl rfl⟩
set_option maxRecDepth 100000 in
theorem xc_156 : xokc 156 := ⟨xmem (p := 1116) rfl rfl, xmem (p := 55) rfl rfl, rfl, by decide +kernel, by decide +kernel, by decide +kernel⟩
set_option maxRecDepth 100000 in
theorem xd_156 : xokS 156 := ⟨xc_156, xmem (p := 1115) rfl rfl⟩
set_option maxRecDepth 100000 in
theorem xc_157 : xokc 157 := ⟨xmem (p := 1112) rfl rfl, xmem (p := 55) rfl rfl, rfl, by decide +kernel, by decide +kernel, by decide +kernel⟩
set_option maxRecDepth 100000 in
theorem xd_157 : xokV 157 := ⟨xc_157, xmem (p := 1111) rfl rfl, xmem (p := 45) rfl rfl⟩
set_option maxRecDepth 100000 in
theorem xc_158 : xokc 158 := ⟨xmem (p := 1107) rfl rfl, xmem (p := 55) rfl rfl, rfl, by decide +kernel, by decide +kernel, by decide +kernel⟩
set_option maxRecDepth 100000 in
theorem xd_158 : xokV 158 := ⟨xc_158, xmem (p := 1105) rfl rfl, xmem (p := 1106) rfl rfl⟩
set_option maxRecDepth 100000 in
theorem xc_161 : xokc 161 := ⟨xmem (p := 599) rfl rfl, xmem (p := 46) rfl rfl, rfl, by decide +kernel, by decide +kernel, by decide +kernel⟩
set_option maxRecDepth 100000 in
theorem xd_161 : xokS 161 := ⟨xc_161, xmem (p := 598) rfl rfl⟩
set_option maxRecDepth 100000 in
theorem xc_162 : xokc 162 := ⟨xmem (p := 644) rfl rfl, xmem (p := 46) rfl rfl, rfl, by decide +kernel, by decide +kernel, by decide +kernel⟩
set_option maxRecDepth 100000 in
theorem xd_162 : xokS 162 := ⟨xc_162, xmem (p := 643) rfl rfl⟩
set_option maxRecDepth 100000 in
theorem xc_163 : xokc 163 := ⟨xmem (p := 670) rfl rfl, xmem (p := 46) rfl rfl, rfl, by decide +kernel, by decide +kernel, by decide +kernel⟩
set_option maxRecDepth 100000 in
theorem xd_163 : xokS 163 := ⟨xc_163, xmem (p := 669) rfl rfl⟩
set_option maxRecDepth 100000 in
theorem xc_164 : xokc 164 := ⟨xmem (p := 684) rfl rfl, xmem (p := 46) rfl rfl, rfl, by decide +kernel, by decide +kernel, by decide +kernel⟩
set_option maxRecDepth 100000 in
theorem xd_164 : xokS 164 := ⟨xc_164, xmem (p := 683) rfl rfl⟩
set_option maxRecDepth 100000 in
theorem xc_165 : xokc 165 := ⟨xmem (p := 695) rfl rfl, xmem (p := 46) rfl rfl, rfl, by decide +kernel, by decide +kernel, by decide +kernel⟩
set_option maxRecDepth 100000 in
theorem xd_165 : xokS 165 := ⟨xc_165, xmem (p := 694) rfl rfl⟩
set_option maxRecDepth 100000 in
theorem xc_166 : xokc 166 := ⟨xmem (p := 703) rfl rfl, xmem (p := 46) rfl rfl, rfl, by decide +kernel, by decide +kernel, by decide +kernel⟩
set_option maxRecDepth 100000 in
theorem xd_166 : xokS 166 := ⟨xc_166, xmem (p := 702) rfl rfl⟩
set_option maxRecDepth 100000 in
theorem xc_167 : xokc 167 := ⟨xmem (p := 718) rfl rfl, xmem (p := 46) rfl rfl, rfl, by decide +kernel, by decide +kernel, by decide +kernel⟩
set_option maxRecDepth 100000 in
theorem xd_167 : xokS 167 := ⟨xc_167, xmem (p := 717) rfl rfl⟩
set_option maxRecDepth 100000 in
theorem xc_168 : xokc 168 := ⟨xmem (p := 732) rfl rfl, xmem (p := 46) rfl rfl, rfl, by decide +kernel, by decide +kernel, by decide +kernel⟩
set_option maxRecDepth 100000 in
theorem xd_168 : xokS 168 := ⟨xc_168, xmem (p := 731) rfl rfl⟩
set_option maxRecDepth 100000 in
theorem xc_169 : xokc 169 := ⟨xmem (p := 744) rfl rfl, xmem (p := 46) rfl rfl, rfl, by decide +kernel, by decide +kernel, by decide +kernel⟩
set_option maxRecDepth 100000 in
theorem xd_169 : xokS 169 := ⟨xc_169, xmem (p := 743) rfl rfl⟩
set_option maxRecDepth 100000 in
theorem xc_170 : xokc 170 := ⟨xmem (p := 752) rfl rfl, xmem (p := 46) rfl rfl, rfl, by decide +kernel, by decide +kernel, by decide +kernel⟩
set_option maxRecDepth 100000 in
theorem xd_170 : xokS 170 := ⟨xc_170, xmem (p := 751) rfl rfl⟩
set_option maxRecDepth 100000 in
theorem xc_171 : xokc 171 := ⟨xmem (p := 759) rfl rfl, xmem (p := 46) rfl rfl, rfl, by decide +kernel, by decide +kernel, by decide +kernel⟩
set_option maxRecDepth 100000 in
theorem xd_171 : xokS 171 := ⟨xc_171, xmem (p := 758) rfl rfl⟩
set_option maxRecDepth 100000 in
theorem xc_172 : xokc 172 := ⟨xmem (p := 767) rfl rfl, xmem (p := 46) rfl rfl, rfl, by decide +kernel, by decide +kernel, by decide +kernel⟩
set_option maxRecDepth 100000 in
theorem xd_172 : xokS 172 := ⟨xc_172, xmem (p := 766) rfl rfl⟩
set_option maxRecDepth 100000 in
theorem xc_173 : xokc 173 := ⟨xmem (p := 774) rfl rfl, xmem (p := 46) rfl rfl, rfl, by decide +kernel, by decide +kernel, by decide +kernel⟩
set_option maxRecDepth 100000 in
theorem xd_173 : xokS 173 := ⟨xc_173, xmem (p := 773) rfl rfl⟩
set_option maxRecDepth 100000 in
theorem xc_174 : xokc 174 := ⟨xmem (p := 782) rfl rfl, xmem (p := 46) rfl rfl, rfl, by decide +kernel, by decide +kernel, by decide +kernel⟩
set_option maxRecDepth 100000 in
theorem xd_174 : xokS 174 := ⟨xc_174, xmem (p := 781) rfl rfl⟩
set_option maxRecDepth 100000 in
theorem xc_175 : xokc 175 := ⟨xmem (p := 786) rfl rfl, xmem (p := 46) rfl rfl, rfl, by decide +kernel, by decide +kernel, by decide +kernel⟩
set_option maxRecDepth 100000 in
theorem xd_175 : xokS 175 := ⟨xc_175, xmem (p := 785) rfl rfl⟩
set_option maxRecDepth 100000 in
theorem xc_176 : xokc 176 := ⟨xmem (p := 794) rfl rfl, xmem (p := 46) rfl rfl, rfl, by decide +kernel, by decide +kernel, by decide +kernel⟩
set_option maxRecDepth 100000 in
theorem xd_176 : xokS 176 := ⟨xc_176, xmem (p := 793) rfl rfl⟩
set_option maxRecDepth 100000 in
theorem xc_177 : xokc 177 := ⟨xmem (p := 801) rfl rfl, xmem (p := 46) rfl rfl, rfl, by decide +kernel, by decide +kernel, by decide +kernel⟩
set_option maxRecDepth 100000 in
theorem xd_177 : xokS 177 := ⟨xc_177, xmem (p := 800) rfl rfl⟩
set_option maxRecDepth 100000 in
theorem xr_0_0 : xokp 0 (3, 6, 0, 0) := xmem (p := 187) rfl rfl
set_option maxRecDepth 100000 in
theorem xr_0_1 : xokp 0 (9, 7, 1, 0) := ⟨xmem (p := 188) rfl rfl, by decide⟩
set_option maxRecDepth 100000 in
theorem xr_0_2 : xokp 0 (11, 4, 11, 0) := ⟨xmem (p := 189) rfl rfl, xd_11⟩
set_option maxRecDepth 100000 in
theorem xr_0_3 : xokp 0 (14, 0, 0, 0) := ⟨xmem (p := 190) rfl rfl, by decide, by decide⟩
set_option maxRecDepth 100000 in
theorem xr_0_4 : xokp 0 (20, 0, 0, 1) := ⟨xmem (p := 191) rfl rfl, by decide, by decide⟩
set_option maxRecDepth 100000 in
theorem xr_0_5 : xokp 0 (33, 2, 4, 0) := ⟨xmem (p := 398) rfl rfl, xd_4⟩
set_option maxRecDepth 100000 in
theorem xr_0_6 : xokp 0 (32, 2, 1, 0) := ⟨xmem (p := 402) rfl rfl, xd_1⟩
set_option maxRecDepth 100000 in
theorem xr_0_7 : xokp 0 (24, 2, 12, 0) := ⟨xmem (p := 406) rfl rfl, xd_12⟩
set_option maxRecDepth 100000 in
theorem xr_0_8 : xokp 0 (37, 2, 5, 0) := ⟨xmem (p := 407) rfl rfl, xd_5⟩
set_option maxRecDepth 100000 in
theorem xr_0_9 : xokp 0 (40, 2, 6, 0) := ⟨xmem (p := 610) rfl rfl, xd_6⟩
set_option maxRecDepth 100000 in
theorem xr_0_10 : xokp 0 (44, 2, 8, 0) := ⟨xmem (p := 616) rfl rfl, xd_8⟩
set_option maxRecDepth 100000 in
theorem xr_0_11 : xokp 0 (47, 2, 38, 0) := ⟨xmem (p := 641) rfl rfl, xd_38⟩
set_option maxRecDepth 100000 in
theorem xr_0_12 : xokp 0 (28, 2, 13, 0) := ⟨xmem (p := 729) rfl rfl, xd_13⟩
set_option maxRecDepth 100000 in
theorem xq_0 : ∀ q ∈ xpl_0, xokp 0 q := (List.forall_mem_cons.mpr ⟨xr_0_0, (List.forall_mem_cons.mpr ⟨xr_0_1, (List.forall_mem_cons.mpr ⟨xr_0_2, (List.forall_mem_cons.mpr ⟨xr_0_3, (List.forall_mem_cons.mpr ⟨xr_0_4, (List.forall_mem_cons.mpr ⟨xr_0_5, (List.forall_mem_cons.mpr ⟨xr_0_6, (List.forall_mem_cons.mpr ⟨xr_0_7, (List.forall_mem_cons.mpr ⟨xr_0_8, (List.forall_mem_cons.mpr ⟨xr_0_9, (List.forall_mem_cons.mpr ⟨xr_0_10, (List.forall_mem_cons.mpr ⟨xr_0_11, (List.forall_mem_cons.mpr ⟨xr_0_12, (fun _ h => nomatch h)⟩)⟩)⟩)⟩)⟩)⟩)⟩)⟩)⟩)⟩)⟩)⟩)⟩)
set_option maxRecDepth 100000 in
theorem xr_1_0 : xokp 1 (3, 6, 0, 0) := xmem (p := 105) rfl rfl
set_option maxRecDepth 100000 in
theorem xr_1_1 : xokp 1 (9, 0, 1, 0) := ⟨xmem (p := 106) rfl rfl, by decide, by decide⟩
set_option maxRecDepth 100000 in
theorem xq_1 : ∀ q ∈ xpl_1, xokp 1 q := (List.forall_mem_cons.mpr ⟨xr_1_0, (List.forall_mem_cons.mpr ⟨xr_1_1, (fun _ h => nomatch h)⟩)⟩)
set_option maxRecDepth 100000 in
theorem xr_2_0 : xokp 2 (3, 6, 0, 0) := xmem (p := 167) rfl rfl
set_option maxRecDepth 100000 in
theorem xr_2_1 : xokp 2 (9, 7, 6, 0) := ⟨xmem (p := 168) rfl rfl, by decide⟩
set_option maxRecDepth 100000 in
theorem xr_2_2 : xokp 2 (17, 4, 47, 0) := ⟨xmem (p := 170) rfl rfl, xd_47⟩
set_option maxRecDepth 100000 in
theorem xr_2_3 : xokp 2 (11, 0, 2, 0) := ⟨xmem (p := 171) rfl rfl, by decide, by decide⟩
set_option maxRecDepth 100000 in
theorem xr_2_4 : xokp 2 (26, 0, 2, 1) := ⟨xmem (p := 172) rfl rfl, by decide, by decide⟩
set_option maxRecDepth 100000 in
theorem xr_2_5 : xokp 2 (18, 0, 2, 2) := ⟨xmem (p := 174) rfl rfl, by decide, by decide⟩
set_option maxRecDepth 100000 in
theorem xr_2_6 : xokp 2 (22, 2, 48, 0) := ⟨xmem (p := 250) rfl rfl, xd_48⟩
set_option maxRecDepth 100000 in
theorem xr_2_7 : xokp 2 (29, 13, 0, 0) := xmem (p := 275) rfl rfl
set_option maxRecDepth 100000 in
theorem xq_2 : ∀ q ∈ xpl_2, xokp 2 q := (List.forall_mem_cons.mpr ⟨xr_2_0, (List.forall_mem_cons.mpr ⟨xr_2_1, (List.forall_mem_cons.mpr ⟨xr_2_2, (List.forall_mem_cons.mpr ⟨xr_2_3, (List.forall_mem_cons.mpr ⟨xr_2_4, (List.forall_mem_cons.mpr ⟨xr_2_5, (List.forall_mem_cons.mpr ⟨xr_2_6, (List.forall_mem_cons.mpr ⟨xr_2_7, (fun _ h => nomatch h)⟩)⟩)⟩)⟩)⟩)⟩)⟩)⟩)
set_option maxRecDepth 100000 in
theorem xr_3_0 : xokp 3 (3, 6, 0, 0) := xmem (p := 99) rfl rfl
set_option maxRecDepth 100000 in
theorem xr_3_1 : xokp 3 (9, 7, 1, 0) := ⟨xmem (p := 100) rfl rfl, by decide⟩
set_option maxRecDepth 100000 in
theorem xr_3_2 : xokp 3 (11, 4, 11, 0) := ⟨xmem (p := 102) rfl rfl, xd_11⟩
set_option maxRecDepth 100000 in
theorem xr_3_3 : xokp 3 (29, 2, 13, 0) := ⟨xmem (p := 110) rfl rfl, xd_13⟩
set_option maxRecDepth 100000 in
theorem xr_3_4 : xokp 3 (14, 0, 3, 0) := ⟨xmem (p := 114) rfl rfl, by decide, by decide⟩
set_option maxRecDepth 100000 in
theorem xr_3_5 : xokp 3 (20, 0, 3, 1) := ⟨xmem (p := 116) rfl rfl, by decide, by decide⟩
set_option maxRecDepth 100000 in
theorem xr_3_6 : xokp 3 (23, 0, 3, 2) := ⟨xmem (p := 118) rfl rfl, by decide, by decide⟩
set_option maxRecDepth 100000 in
theorem xr_3_7 : xokp 3 (26, 0, 3, 3) := ⟨xmem (p := 120) rfl rfl, by decide, by decide⟩
set_option maxRecDepth 100000 in
theorem xr_3_8 : xokp 3 (33, 2, 15, 0) := ⟨xmem (p := 270) rfl rfl, xd_15⟩
set_option maxRecDepth 100000 in
theorem xr_3_9 : xokp 3 (37, 2, 12, 0) := ⟨xmem (p := 300) rfl rfl, xd_12⟩
set_option maxRecDepth 100000 in
theorem xr_3_10 : xokp 3 (45, 12, 0, 0) := xmem (p := 313) rfl rfl
set_option maxRecDepth 100000 in
theorem xr_3_11 : xokp 3 (41, 2, 21, 0) := ⟨xmem (p := 429) rfl rfl, xd_21⟩
set_option maxRecDepth 100000 in
theorem xq_3 : ∀ q ∈ xpl_3, xokp 3 q := (List.forall_mem_cons.mpr ⟨xr_3_0, (List.forall_mem_cons.mpr ⟨xr_3_1, (List.forall_mem_cons.mpr ⟨xr_3_2, (List.forall_mem_cons.mpr ⟨xr_3_3, (List.forall_mem_cons.mpr ⟨xr_3_4, (List.forall_mem_cons.mpr ⟨xr_3_5, (List.forall_mem_cons.mpr ⟨xr_3_6, (List.forall_mem_cons.mpr ⟨xr_3_7, (List.forall_mem_cons.mpr ⟨xr_3_8, (List.forall_mem_cons.mpr ⟨xr_3_9, (List.forall_mem_cons.mpr ⟨xr_3_10, (List.forall_mem_cons.mpr ⟨xr_3_11, (fun _ h => nomatch h)⟩)⟩)⟩)⟩)⟩)⟩)⟩)⟩)⟩)⟩)⟩)⟩)
set_option maxRecDepth 100000 in
theorem xr_4_0 : xokp 4 (66, 1, 5, 1) := ⟨List.mem_of_getElem? (i := 86) rfl, by decide, by decide⟩
set_option maxRecDepth 100000 in
theorem xr_4_1 : xokp 4 (36, 1, 6, 0) := ⟨List.mem_of_getElem? (i := 135) rfl, by decide, by decide⟩
set_option maxRecDepth 100000 in
theorem xr_4_2 : xokp 4 (56, 1, 6, 1) := ⟨List.mem_of_getElem? (i := 138) rfl, by decide, by decide⟩
set_option maxRecDepth 100000 in
theorem xr_4_3 : xokp 4 (49, 1, 6, 2) := ⟨List.mem_of_getElem? (i := 141) rfl, by decide, by decide⟩
set_option maxRecDepth 100000 in
theorem xr_4_4 : xokp 4 (87, 1, 6, 3) := ⟨List.mem_of_getElem? (i := 144) rfl, by decide, by decide⟩
set_option maxRecDepth 100000 in
theorem xr_4_5 : xokp 4 (3, 6, 0, 0) := xmem (p := 203) rfl rfl
set_option maxRecDepth 100000 in
theorem xr_4_6 : xokp 4 (9, 7, 1, 0) := ⟨xmem (p := 204) rfl rfl, by decide⟩
set_option maxRecDepth 100000 in
theorem xr_4_7 : xokp 4 (11, 4, 11, 0) := ⟨xmem (p := 205) rfl rfl, xd_11⟩
set_option maxRecDepth 100000 in
theorem xr_4_8 : xokp 4 (14, 0, 4, 0) := ⟨xmem (p := 206) rfl rfl, by decide, by decide⟩
set_option maxRecDepth 100000 in
theorem xr_4_9 : xokp 4 (20, 0, 4, 1) := ⟨xmem (p := 207) rfl rfl, by decide, by decide⟩
set_option maxRecDepth 100000 in
theorem xr_4_10 : xokp 4 (23, 0, 4, 2) := ⟨xmem (p := 208) rfl rfl, by decide, by decide⟩
set_option maxRecDepth 100000 in
theorem xr_4_11 : xokp 4 (27, 0, 4, 3) := ⟨xmem (p := 209) rfl rfl, by decide, by decide⟩
set_option maxRecDepth 100000 in
theorem xr_4_12 : xokp 4 (30, 0, 4, 4) := ⟨xmem (p := 210) rfl rfl, by decide, by decide⟩
set_option maxRecDepth 100000 in
theorem xr_4_13 : xokp 4 (33, 0, 4, 5) := ⟨xmem (p := 211) rfl rfl, by decide, by decide⟩
set_option maxRecDepth 100000 in
theorem xr_4_14 : xokp 4 (42, 2, 30, 0) := ⟨xmem (p := 282) rfl rfl, xd_30⟩
set_option maxRecDepth 100000 in
theorem xr_4_15 : xokp 4 (71, 2, 36, 0) := ⟨xmem (p := 286) rfl rfl, xd_36⟩
set_option maxRecDepth 100000 in
theorem xr_4_16 : xokp 4 (72, 2, 13, 0) := ⟨xmem (p := 287) rfl rfl, xd_13⟩
set_option maxRecDepth 100000 in
theorem xr_4_17 : xokp 4 (52, 2, 12, 0) := ⟨xmem (p := 288) rfl rfl, xd_12⟩
set_option maxRecDepth 100000 in
theorem xr_4_18 : xokp 4 (46, 2, 31, 0) := ⟨xmem (p := 292) rfl rfl, xd_31⟩
set_option maxRecDepth 100000 in
theorem xr_4_19 : xokp 4 (60, 2, 25, 0) := ⟨xmem (p := 296) rfl rfl, xd_25⟩
set_option maxRecDepth 100000 in
theorem xr_4_20 : xokp 4 (76, 2, 21, 0) := ⟨xmem (p := 305) rfl rfl, xd_21⟩
set_option maxRecDepth 100000 in
theorem xr_4_21 : xokp 4 (80, 2, 23, 0) := ⟨xmem (p := 309) rfl rfl, xd_23⟩
set_option maxRecDepth 100000 in
theorem xr_4_22 : xokp 4 (84, 2, 43, 0) := ⟨xmem (p := 316) rfl rfl, xd_43⟩
set_option maxRecDepth 100000 in
theorem xr_4_23 : xokp 4 (90, 2, 29, 0) := ⟨xmem (p := 336) rfl rfl, xd_29⟩
set_option maxRecDepth 100000 in
theorem xr_4_24 : xokp 4 (94, 2, 33, 0) := ⟨xmem (p := 337) rfl rfl, xd_33⟩
set_option maxRecDepth 100000 in
theorem xq_4 : ∀ q ∈ xpl_4, xokp 4 q := (List.forall_mem_cons.mpr ⟨xr_4_0, (List.forall_mem_cons.mpr ⟨xr_4_1, (List.forall_mem_cons.mpr ⟨xr_4_2, (List.forall_mem_cons.mpr ⟨xr_4_3, (List.forall_mem_cons.mpr ⟨xr_4_4, (List.forall_mem_cons.mpr ⟨xr_4_5, (List.forall_mem_cons.mpr ⟨xr_4_6, (List.forall_mem_cons.mpr ⟨xr_4_7, (List.forall_mem_cons.mpr ⟨xr_4_8, (List.forall_mem_cons.mpr ⟨xr_4_9, (List.forall_mem_cons.mpr ⟨xr_4_10, (List.forall_mem_cons.mpr ⟨xr_4_11, (List.forall_mem_cons.mpr ⟨xr_4_12, (List.forall_mem_cons.mpr ⟨xr_4_13, (List.forall_mem_cons.mpr ⟨xr_4_14, (List.forall_mem_cons.mpr ⟨xr_4_15, (List.forall_mem_cons.mpr ⟨xr_4_16, (List.forall_mem_cons.mpr ⟨xr_4_17, (List.forall_mem_cons.mpr ⟨xr_4_18, (List.forall_mem_cons.mpr ⟨xr_4_19, (List.forall_mem_cons.mpr ⟨xr_4_20, (List.forall_mem_cons.mpr ⟨xr_4_21, (List.forall_mem_cons.mpr ⟨xr_4_22, (List.forall_mem_cons.mpr ⟨xr_4_23, (List.forall_mem_cons.mpr ⟨xr_4_24, (fun _ h => nomatch h)⟩)⟩)⟩)⟩)⟩)⟩)⟩)⟩)⟩)⟩)⟩)⟩)⟩)⟩)⟩)⟩)⟩)⟩)⟩)⟩)⟩)⟩)⟩)⟩)⟩)
set_option maxRecDepth 100000 in
theorem xr_5_0 : xokp 5 (3, 6, 0, 0) := xmem (p := 82) rfl rfl
set_option maxRecDepth 100000 in
theorem xr_5_1 : xokp 5 (9, 0, 5, 0) := ⟨xmem (p := 83) rfl rfl, by decide, by decide⟩
set_option maxRecDepth 100000 in
theorem xr_5_2 : xokp 5 (15, 0, 5, 1) := ⟨xmem (p := 84) rfl rfl, by decide, by decide⟩
set_option maxRecDepth 100000 in
theorem xr_5_3 : xokp 5 (19, 2, 36, 0) := ⟨xmem (p := 258) rfl rfl, xd_36⟩
set_option maxRecDepth 100000 in
theorem xr_5_4 : xokp 5 (23, 2, 38, 0) := ⟨xmem (p := 262) rfl rfl, xd_38⟩
set_option maxRecDepth 100000 in
theorem xr_5_5 : xokp 5 (31, 2, 41, 0) := ⟨xmem (p := 320) rfl rfl, xd_41⟩
set_option maxRecDepth 100000 in
theorem xr_5_6 : xokp 5 (35, 2, 39, 0) := ⟨xmem (p := 324) rfl rfl, xd_39⟩
set_option maxRecDepth 100000 in
theorem xr_5_7 : xokp 5 (27, 2, 37, 0) := ⟨xmem (p := 377) rfl rfl, xd_37⟩
set_option maxRecDepth 100000 in
theorem xr_5_8 : xokp 5 (38, 2, 45, 0) := ⟨xmem (p := 528) rfl rfl, xd_45⟩
set_option maxRecDepth 100000 in
theorem xq_5 : ∀ q ∈ xpl_5, xokp 5 q := (List.forall_mem_cons.mpr ⟨xr_5_0, (List.forall_mem_cons.mpr ⟨xr_5_1, (List.forall_mem_cons.mpr ⟨xr_5_2, (List.forall_mem_cons.mpr ⟨xr_5_3, (List.forall_mem_cons.mpr ⟨xr_5_4, (List.forall_mem_cons.mpr ⟨xr_5_5, (List.forall_mem_cons.mpr ⟨xr_5_6, (List.forall_mem_cons.mpr ⟨xr_5_7, (List.forall_mem_cons.mpr ⟨xr_5_8, (fun _ h => nomatch h)⟩)⟩)⟩)⟩)⟩)⟩)⟩)⟩)⟩)
set_option maxRecDepth 100000 in
theorem xr_6_0 : xokp 6 (3, 6, 0, 0) := xmem (p := 76) rfl rfl
set_option maxRecDepth 100000 in
theorem xr_6_1 : xokp 6 (9, 7, 5, 0) := ⟨xmem (p := 77) rfl rfl, by decide⟩
set_option maxRecDepth 100000 in
theorem xr_6_2 : xokp 6 (11, 5, 35, 0) := ⟨List.mem_of_getElem? (i := 79) rfl, xd_35⟩
set_option maxRecDepth 100000 in
theorem xr_6_3 : xokp 6 (63, 1, 5, 1) := ⟨List.mem_of_getElem? (i := 87) rfl, by decide, by decide⟩
set_option maxRecDepth 100000 in
theorem xr_6_4 : xokp 6 (18, 7, 3, 0) := ⟨xmem (p := 94) rfl rfl, by decide⟩
set_option maxRecDepth 100000 in
theorem xr_6_5 : xokp 6 (20, 4, 19, 0) := ⟨xmem (p := 96) rfl rfl, xd_19⟩
set_option maxRecDepth 100000 in
theorem xr_6_6 : xokp 6 (92, 1, 3, 0) := ⟨List.mem_of_getElem? (i := 115) rfl, by decide, by decide⟩
set_option maxRecDepth 100000 in
theorem xr_6_7 : xokp 6 (95, 1, 3, 1) := ⟨List.mem_of_getElem? (i := 117) rfl, by decide, by decide⟩
set_option maxRecDepth 100000 in
theorem xr_6_8 : xokp 6 (77, 1, 3, 2) := ⟨List.mem_of_getElem? (i := 119) rfl, by decide, by decide⟩
set_option maxRecDepth 100000 in
theorem xr_6_9 : xokp 6 (70, 1, 3, 3) := ⟨List.mem_of_getElem? (i := 121) rfl, by decide, by decide⟩
set_option maxRecDepth 100000 in
theorem xr_6_10 : xokp 6 (25, 7, 1, 0) := ⟨xmem (p := 131) rfl rfl, by decide⟩
set_option maxRecDepth 100000 in
theorem xr_6_11 : xokp 6 (27, 4, 11, 0) := ⟨xmem (p := 132) rfl rfl, xd_11⟩
set_option maxRecDepth 100000 in
theorem xr_6_12 : xokp 6 (37, 2, 13, 0) := ⟨xmem (p := 133) rfl rfl, xd_13⟩
set_option maxRecDepth 100000 in
theorem xr_6_13 : xokp 6 (12, 0, 6, 0) := ⟨xmem (p := 134) rfl rfl, by decide, by decide⟩
set_option maxRecDepth 100000 in
theorem xr_6_14 : xokp 6 (21, 0, 6, 1) := ⟨xmem (p := 137) rfl rfl, by decide, by decide⟩
set_option maxRecDepth 100000 in
theorem xr_6_15 : xokp 6 (30, 0, 6, 2) := ⟨xmem (p := 140) rfl rfl, by decide, by decide⟩
set_option maxRecDepth 100000 in
theorem xr_6_16 : xokp 6 (51, 0, 6, 3) := ⟨xmem (p := 143) rfl rfl, by decide, by decide⟩
set_option maxRecDepth 100000 in
theorem xr_6_17 : xokp 6 (55, 0, 6, 4) := ⟨xmem (p := 146) rfl rfl, by decide, by decide⟩
set_option maxRecDepth 100000 in
theorem xr_6_18 : xokp 6 (34, 0, 6, 5) := ⟨xmem (p := 148) rfl rfl, by decide, by decide⟩
set_option maxRecDepth 100000 in
theorem xr_6_19 : xokp 6 (41, 2, 40, 0) := ⟨xmem (p := 254) rfl rfl, xd_40⟩
set_option maxRecDepth 100000 in
theorem xr_6_20 : xokp 6 (45, 2, 20, 0) := ⟨xmem (p := 266) rfl rfl, xd_20⟩
set_option maxRecDepth 100000 in
theorem xr_6_21 : xokp 6 (48, 2, 15, 0) := ⟨xmem (p := 274) rfl rfl, xd_15⟩
set_option maxRecDepth 100000 in
theorem xr_6_22 : xokp 6 (118, 2, 21, 0) := ⟨xmem (p := 346) rfl rfl, xd_21⟩
set_option maxRecDepth 100000 in
theorem xr_6_23 : xokp 6 (122, 2, 60, 0) := ⟨xmem (p := 347) rfl rfl, xd_60⟩
set_option maxRecDepth 100000 in
theorem xr_6_24 : xokp 6 (58, 2, 45, 0) := ⟨xmem (p := 351) rfl rfl, xd_45⟩
set_option maxRecDepth 100000 in
theorem xr_6_25 : xokp 6 (76, 2, 12, 0) := ⟨xmem (p := 355) rfl rfl, xd_12⟩
set_option maxRecDepth 100000 in
theorem xr_6_26 : xokp 6 (62, 2, 26, 0) := ⟨xmem (p := 356) rfl rfl, xd_26⟩
set_option maxRecDepth 100000 in
theorem xr_6_27 : xokp 6 (125, 2, 37, 0) := ⟨xmem (p := 360) rfl rfl, xd_37⟩
set_option maxRecDepth 100000 in
theorem xr_6_28 : xokp 6 (73, 2, 36, 0) := ⟨xmem (p := 368) rfl rfl, xd_36⟩
set_option maxRecDepth 100000 in
theorem xr_6_29 : xokp 6 (128, 2, 57, 0) := ⟨xmem (p := 369) rfl rfl, xd_57⟩
set_option maxRecDepth 100000 in
theorem xr_6_30 : xokp 6 (111, 2, 42, 0) := ⟨xmem (p := 373) rfl rfl, xd_42⟩
set_option maxRecDepth 100000 in
theorem xr_6_31 : xokp 6 (115, 2, 24, 0) := ⟨xmem (p := 378) rfl rfl, xd_24⟩
set_option maxRecDepth 100000 in
theorem xr_6_32 : xokp 6 (66, 2, 22, 0) := ⟨xmem (p := 425) rfl rfl, xd_22⟩
set_option maxRecDepth 100000 in
theorem xr_6_33 : xokp 6 (99, 2, 51, 0) := ⟨xmem (p := 523) rfl rfl, xd_51⟩
set_option maxRecDepth 100000 in
theorem xr_6_34 : xokp 6 (102, 2, 46, 0) := ⟨xmem (p := 524) rfl rfl, xd_46⟩
set_option maxRecDepth 100000 in
theorem xr_6_35 : xokp 6 (105, 2, 52, 0) := ⟨xmem (p := 529) rfl rfl, xd_52⟩
set_option maxRecDepth 100000 in
theorem xr_6_36 : xokp 6 (80, 12, 0, 0) := xmem (p := 533) rfl rfl
set_option maxRecDepth 100000 in
theorem xr_6_37 : xokp 6 (108, 2, 50, 0) := ⟨xmem (p := 534) rfl rfl, xd_50⟩
set_option maxRecDepth 100000 in
theorem xr_6_38 : xokp 6 (89, 2, 14, 0) := ⟨xmem (p := 549) rfl rfl, xd_14⟩
set_option maxRecDepth 100000 in
theorem xr_6_39 : xokp 6 (98, 2, 49, 0) := ⟨xmem (p := 557) rfl rfl, xd_49⟩
set_option maxRecDepth 100000 in
theorem xr_6_40 : xokp 6 (86, 2, 27, 0) := ⟨xmem (p := 561) rfl rfl, xd_27⟩
set_option maxRecDepth 100000 in
theorem xq_6 : ∀ q ∈ xpl_6, xokp 6 q := (List.forall_mem_cons.mpr ⟨xr_6_0, (List.forall_mem_cons.mpr ⟨xr_6_1, (List.forall_mem_cons.mpr ⟨xr_6_2, (List.forall_mem_cons.mpr ⟨xr_6_3, (List.forall_mem_cons.mpr ⟨xr_6_4, (List.forall_mem_cons.mpr ⟨xr_6_5, (List.forall_mem_cons.mpr ⟨xr_6_6, (List.forall_mem_cons.mpr ⟨xr_6_7, (List.forall_mem_cons.mpr ⟨xr_6_8, (List.forall_mem_cons.mpr ⟨xr_6_9, (List.forall_mem_cons.mpr ⟨xr_6_10, (List.forall_mem_cons.mpr ⟨xr_6_11, (List.forall_mem_cons.mpr ⟨xr_6_12, (List.forall_mem_cons.mpr ⟨xr_6_13, (List.forall_mem_cons.mpr ⟨xr_6_14, (List.forall_mem_cons.mpr ⟨xr_6_15, (List.forall_mem_cons.mpr ⟨xr_6_16, (List.forall_mem_cons.mpr ⟨xr_6_17, (List.forall_mem_cons.mpr ⟨xr_6_18, (List.forall_mem_cons.mpr ⟨xr_6_19, (List.forall_mem_cons.mpr ⟨xr_6_20, (List.forall_mem_cons.mpr ⟨xr_6_21, (List.forall_mem_cons.mpr ⟨xr_6_22, (List.forall_mem_cons.mpr ⟨xr_6_23, (List.forall_mem_cons.mpr ⟨xr_6_24, (List.forall_mem_cons.mpr ⟨xr_6_25, (List.forall_mem_cons.mpr ⟨xr_6_26, (List.forall_mem_cons.mpr ⟨xr_6_27, (List.forall_mem_cons.mpr ⟨xr_6_28, (List.forall_mem_cons.mpr ⟨xr_6_29, (List.forall_mem_cons.mpr ⟨xr_6_30, (List.forall_mem_cons.mpr ⟨xr_6_31, (List.forall_mem_cons.mpr ⟨xr_6_32, (List.forall_mem_cons.mpr ⟨xr_6_33, (List.forall_mem_cons.mpr ⟨xr_6_34, (List.forall_mem_cons.mpr ⟨xr_6_35, (List.forall_mem_cons.mpr ⟨xr_6_36, (List.forall_mem_cons.mpr ⟨xr_6_37, (List.forall_mem_cons.mpr ⟨xr_6_38, (List.forall_mem_cons.mpr ⟨xr_6_39, (List.forall_mem_cons.mpr ⟨xr_6_40, (fun _ h => nomatch h)⟩)⟩)⟩)⟩)⟩)⟩)⟩)⟩)⟩)⟩)⟩)⟩)⟩)⟩)⟩)⟩)⟩)⟩)⟩)⟩)⟩)⟩)⟩)⟩)⟩)⟩)⟩)⟩)⟩)⟩)⟩)⟩)⟩)⟩)⟩)⟩)⟩)⟩)⟩)⟩)⟩)
set_option maxRecDepth 100000 in
theorem xr_7_0 : xokp 7 (3, 6, 0, 0) := xmem (p := 68) rfl rfl
set_option maxRecDepth 100000 in
theorem xr_7_1 : xokp 7 (9, 7, 6, 0) := ⟨xmem (p := 71) rfl rfl, by decide⟩
set_option maxRecDepth 100000 in
theorem xr_7_2 : xokp 7 (11, 4, 47, 0) := ⟨xmem (p := 73) rfl rfl, xd_47⟩
set_option maxRecDepth 100000 in
theorem xr_7_3 : xokp 7 (81, 1, 5, 1) := ⟨List.mem_of_getElem? (i := 85) rfl, by decide, by decide⟩
set_option maxRecDepth 100000 in
theorem xr_7_4 : xokp 7 (51, 1, 6, 0) := ⟨List.mem_of_getElem? (i := 136) rfl, by decide, by decide⟩
set_option maxRecDepth 100000 in
theorem xr_7_5 : xokp 7 (85, 1, 6, 1) := ⟨List.mem_of_getElem? (i := 139) rfl, by decide, by decide⟩
set_option maxRecDepth 100000 in
theorem xr_7_6 : xokp 7 (174, 1, 6, 2) := ⟨List.mem_of_getElem? (i := 142) rfl, by decide, by decide⟩
set_option maxRecDepth 100000 in
theorem xr_7_7 : xokp 7 (263, 1, 6, 3) := ⟨List.mem_of_getElem? (i := 145) rfl, by decide, by decide⟩
set_option maxRecDepth 100000 in
theorem xr_7_8 : xokp 7 (144, 1, 6, 4) := ⟨List.mem_of_getElem? (i := 147) rfl, by decide, by decide⟩
set_option maxRecDepth 100000 in
theorem xr_7_9 : xokp 7 (16, 7, 2, 0) := ⟨xmem (p := 162) rfl rfl, by decide⟩
set_option maxRecDepth 100000 in
theorem xr_7_10 : xokp 7 (18, 4, 16, 0) := ⟨xmem (p := 164) rfl rfl, xd_16⟩
set_option maxRecDepth 100000 in
theorem xr_7_11 : xokp 7 (194, 1, 2, 1) := ⟨List.mem_of_getElem? (i := 173) rfl, by decide, by decide⟩
set_option maxRecDepth 100000 in
theorem xr_7_12 : xokp 7 (23, 7, 0, 0) := ⟨xmem (p := 182) rfl rfl, by decide⟩
set_option maxRecDepth 100000 in
theorem xr_7_13 : xokp 7 (25, 5, 0, 0) := ⟨List.mem_of_getElem? (i := 184) rfl, xd_0⟩
set_option maxRecDepth 100000 in
theorem xr_7_14 : xokp 7 (187, 1, 0, 1) := ⟨List.mem_of_getElem? (i := 192) rfl, by decide, by decide⟩
set_option maxRecDepth 100000 in
theorem xr_7_15 : xokp 7 (30, 7, 4, 0) := ⟨xmem (p := 198) rfl rfl, by decide⟩
set_option maxRecDepth 100000 in
theorem xr_7_16 : xokp 7 (32, 5, 28, 0) := ⟨List.mem_of_getElem? (i := 200) rfl, xd_28⟩
set_option maxRecDepth 100000 in
theorem xr_7_17 : xokp 7 (137, 1, 4, 5) := ⟨List.mem_of_getElem? (i := 212) rfl, by decide, by decide⟩
set_option maxRecDepth 100000 in
theorem xr_7_18 : xokp 7 (12, 0, 7, 0) := ⟨xmem (p := 226) rfl rfl, by decide, by decide⟩
set_option maxRecDepth 100000 in
theorem xr_7_19 : xokp 7 (19, 0, 7, 1) := ⟨xmem (p := 227) rfl rfl, by decide, by decide⟩
set_option maxRecDepth 100000 in
theorem xr_7_20 : xokp 7 (26, 0, 7, 2) := ⟨xmem (p := 228) rfl rfl, by decide, by decide⟩
set_option maxRecDepth 100000 in
theorem xr_7_21 : xokp 7 (33, 0, 7, 3) := ⟨xmem (p := 229) rfl rfl, by decide, by decide⟩
set_option maxRecDepth 100000 in
theorem xr_7_22 : xokp 7 (37, 0, 7, 4) := ⟨xmem (p := 230) rfl rfl, by decide, by decide⟩
set_option maxRecDepth 100000 in
theorem xr_7_23 : xokp 7 (70, 2, 17, 0) := ⟨xmem (p := 246) rfl rfl, xd_17⟩
set_option maxRecDepth 100000 in
theorem xr_7_24 : xokp 7 (131, 2, 29, 0) := ⟨xmem (p := 278) rfl rfl, xd_29⟩
set_option maxRecDepth 100000 in
theorem xr_7_25 : xokp 7 (134, 2, 33, 0) := ⟨xmem (p := 301) rfl rfl, xd_33⟩
set_option maxRecDepth 100000 in
theorem xr_7_26 : xokp 7 (140, 2, 34, 0) := ⟨xmem (p := 332) rfl rfl, xd_34⟩
set_option maxRecDepth 100000 in
theorem xr_7_27 : xokp 7 (147, 2, 59, 0) := ⟨xmem (p := 342) rfl rfl, xd_59⟩
set_option maxRecDepth 100000 in
theorem xr_7_28 : xokp 7 (150, 2, 61, 0) := ⟨xmem (p := 364) rfl rfl, xd_61⟩
set_option maxRecDepth 100000 in
theorem xr_7_29 : xokp 7 (78, 2, 3, 0) := ⟨xmem (p := 386) rfl rfl, xd_3⟩
set_option maxRecDepth 100000 in
theorem xr_7_30 : xokp 7 (191, 2, 6, 0) := ⟨xmem (p := 394) rfl rfl, xd_6⟩
set_option maxRecDepth 100000 in
theorem xr_7_31 : xokp 7 (227, 2, 90, 0) := ⟨xmem (p := 415) rfl rfl, xd_90⟩
set_option maxRecDepth 100000 in
theorem xr_7_32 : xokp 7 (158, 2, 48, 0) := ⟨xmem (p := 419) rfl rfl, xd_48⟩
set_option maxRecDepth 100000 in
theorem xr_7_33 : xokp 7 (181, 2, 13, 0) := ⟨xmem (p := 420) rfl rfl, xd_13⟩
set_option maxRecDepth 100000 in
theorem xr_7_34 : xokp 7 (233, 2, 50, 0) := ⟨xmem (p := 421) rfl rfl, xd_50⟩
set_option maxRecDepth 100000 in
theorem xr_7_35 : xokp 7 (153, 2, 51, 0) := ⟨xmem (p := 434) rfl rfl, xd_51⟩
set_option maxRecDepth 100000 in
theorem xr_7_36 : xokp 7 (236, 9, 0, 0) := xmem (p := 442) rfl rfl
set_option maxRecDepth 100000 in
theorem xr_7_37 : xokp 7 (238, 2, 93, 0) := ⟨xmem (p := 443) rfl rfl, xd_93⟩
set_option maxRecDepth 100000 in
theorem xr_7_38 : xokp 7 (271, 2, 81, 0) := ⟨xmem (p := 447) rfl rfl, xd_81⟩
set_option maxRecDepth 100000 in
theorem xr_7_39 : xokp 7 (44, 8, 0, 0) := ⟨xmem (p := 451) rfl rfl, by decide⟩
set_option maxRecDepth 100000 in
theorem xr_7_40 : xokp 7 (217, 11, 0, 0) := List.mem_of_getElem? (i := 492) rfl
set_option maxRecDepth 100000 in
theorem xr_7_41 : xokp 7 (219, 2, 56, 0) := ⟨xmem (p := 519) rfl rfl, xd_56⟩
set_option maxRecDepth 100000 in
theorem xr_7_42 : xokp 7 (245, 3, 92, 0) := ⟨xmem (p := 535) rfl rfl, xd_92⟩
set_option maxRecDepth 100000 in
theorem xr_7_43 : xokp 7 (269, 9, 1, 0) := xmem (p := 538) rfl rfl
set_option maxRecDepth 100000 in
theorem xr_7_44 : xokp 7 (178, 2, 12, 0) := ⟨xmem (p := 539) rfl rfl, xd_12⟩
set_option maxRecDepth 100000 in
theorem xr_7_45 : xokp 7 (242, 2, 94, 0) := ⟨xmem (p := 540) rfl rfl, xd_94⟩
set_option maxRecDepth 100000 in
theorem xr_7_46 : xokp 7 (116, 2, 36, 0) := ⟨xmem (p := 544) rfl rfl, xd_36⟩
set_option maxRecDepth 100000 in
theorem xr_7_47 : xokp 7 (224, 2, 54, 0) := ⟨xmem (p := 545) rfl rfl, xd_54⟩
set_option maxRecDepth 100000 in
theorem xr_7_48 : xokp 7 (205, 2, 55, 0) := ⟨xmem (p := 553) rfl rfl, xd_55⟩
set_option maxRecDepth 100000 in
theorem xr_7_49 : xokp 7 (89, 2, 21, 0) := ⟨xmem (p := 565) rfl rfl, xd_21⟩
set_option maxRecDepth 100000 in
theorem xr_7_50 : xokp 7 (161, 2, 53, 0) := ⟨xmem (p := 566) rfl rfl, xd_53⟩
set_option maxRecDepth 100000 in
theorem xr_7_51 : xokp 7 (214, 2, 32, 0) := ⟨xmem (p := 570) rfl rfl, xd_32⟩
set_option maxRecDepth 100000 in
theorem xr_7_52 : xokp 7 (209, 2, 44, 0) := ⟨xmem (p := 574) rfl rfl, xd_44⟩
set_option maxRecDepth 100000 in
theorem xr_7_53 : xokp 7 (230, 2, 91, 0) := ⟨xmem (p := 578) rfl rfl, xd_91⟩
set_option maxRecDepth 100000 in
theorem xr_7_54 : xokp 7 (266, 2, 52, 0) := ⟨xmem (p := 582) rfl rfl, xd_52⟩
set_option maxRecDepth 100000 in
theorem xr_7_55 : xokp 7 (249, 2, 85, 0) := ⟨xmem (p := 583) rfl rfl, xd_85⟩
set_option maxRecDepth 100000 in
theorem xr_7_56 : xokp 7 (252, 2, 86, 0) := ⟨xmem (p := 584) rfl rfl, xd_86⟩
set_option maxRecDepth 100000 in
theorem xr_7_57 : xokp 7 (256, 3, 96, 0) := ⟨xmem (p := 585) rfl rfl, xd_96⟩
set_option maxRecDepth 100000 in
theorem xr_7_58 : xokp 7 (275, 9, 2, 0) := xmem (p := 588) rfl rfl
set_option maxRecDepth 100000 in
theorem xr_7_59 : xokp 7 (277, 10, 0, 0) := xmem (p := 589) rfl rfl
set_option maxRecDepth 100000 in
theorem xr_7_60 : xokp 7 (279, 9, 3, 0) := xmem (p := 590) rfl rfl
set_option maxRecDepth 100000 in
theorem xr_7_61 : xokp 7 (281, 9, 4, 0) := xmem (p := 591) rfl rfl
set_option maxRecDepth 100000 in
theorem xr_7_62 : xokp 7 (260, 2, 95, 0) := ⟨xmem (p := 592) rfl rfl, xd_95⟩
set_option maxRecDepth 100000 in
theorem xr_7_63 : xokp 7 (274, 2, 1, 0) := ⟨xmem (p := 596) rfl rfl, xd_1⟩
set_option maxRecDepth 100000 in
theorem xr_7_64 : xokp 7 (40, 2, 7, 0) := ⟨xmem (p := 606) rfl rfl, xd_7⟩
set_option maxRecDepth 100000 in
theorem xr_7_65 : xokp 7 (46, 11, 1, 0) := List.mem_of_getElem? (i := 611) rfl
set_option maxRecDepth 100000 in
theorem xr_7_66 : xokp 7 (55, 2, 9, 0) := ⟨xmem (p := 612) rfl rfl, xd_9⟩
set_option maxRecDepth 100000 in
theorem xr_7_67 : xokp 7 (59, 2, 37, 0) := ⟨xmem (p := 620) rfl rfl, xd_37⟩
set_option maxRecDepth 100000 in
theorem xr_7_68 : xokp 7 (65, 8, 1, 0) := ⟨xmem (p := 621) rfl rfl, by decide⟩
set_option maxRecDepth 100000 in
theorem xr_7_69 : xokp 7 (67, 11, 2, 0) := List.mem_of_getElem? (i := 630) rfl
set_option maxRecDepth 100000 in
theorem xr_7_70 : xokp 7 (74, 2, 10, 0) := ⟨xmem (p := 637) rfl rfl, xd_10⟩
set_option maxRecDepth 100000 in
theorem xr_7_71 : xokp 7 (94, 8, 2, 0) := ⟨xmem (p := 650) rfl rfl, by decide⟩
set_option maxRecDepth 100000 in
theorem xr_7_72 : xokp 7 (96, 11, 3, 0) := List.mem_of_getElem? (i := 659) rfl
set_option maxRecDepth 100000 in
theorem xr_7_73 : xokp 7 (99, 11, 4, 0) := List.mem_of_getElem? (i := 666) rfl
set_option maxRecDepth 100000 in
theorem xr_7_74 : xokp 7 (101, 2, 38, 0) := ⟨xmem (p := 667) rfl rfl, xd_38⟩
set_option maxRecDepth 100000 in
theorem xr_7_75 : xokp 7 (105, 11, 5, 0) := List.mem_of_getElem? (i := 675) rfl
set_option maxRecDepth 100000 in
theorem xr_7_76 : xokp 7 (107, 2, 39, 0) := ⟨xmem (p := 676) rfl rfl, xd_39⟩
set_option maxRecDepth 100000 in
theorem xr_7_77 : xokp 7 (110, 2, 58, 0) := ⟨xmem (p := 677) rfl rfl, xd_58⟩
set_option maxRecDepth 100000 in
theorem xr_7_78 : xokp 7 (113, 2, 22, 0) := ⟨xmem (p := 681) rfl rfl, xd_22⟩
set_option maxRecDepth 100000 in
theorem xr_7_79 : xokp 7 (120, 11, 6, 0) := List.mem_of_getElem? (i := 689) rfl
set_option maxRecDepth 100000 in
theorem xr_7_80 : xokp 7 (122, 2, 57, 0) := ⟨xmem (p := 690) rfl rfl, xd_57⟩
set_option maxRecDepth 100000 in
theorem xr_7_81 : xokp 7 (125, 2, 49, 0) := ⟨xmem (p := 691) rfl rfl, xd_49⟩
set_option maxRecDepth 100000 in
theorem xr_7_82 : xokp 7 (128, 2, 24, 0) := ⟨xmem (p := 692) rfl rfl, xd_24⟩
set_option maxRecDepth 100000 in
theorem xr_7_83 : xokp 7 (156, 11, 7, 0) := List.mem_of_getElem? (i := 700) rfl
set_option maxRecDepth 100000 in
theorem xr_7_84 : xokp 7 (164, 3, 88, 0) := ⟨xmem (p := 708) rfl rfl, xd_88⟩
set_option maxRecDepth 100000 in
theorem xr_7_85 : xokp 7 (167, 11, 8, 0) := List.mem_of_getElem? (i := 711) rfl
set_option maxRecDepth 100000 in
theorem xr_7_86 : xokp 7 (169, 3, 89, 0) := ⟨xmem (p := 712) rfl rfl, xd_89⟩
set_option maxRecDepth 100000 in
theorem xr_7_87 : xokp 7 (172, 11, 9, 0) := List.mem_of_getElem? (i := 715) rfl
set_option maxRecDepth 100000 in
theorem xr_7_88 : xokp 7 (185, 11, 10, 0) := List.mem_of_getElem? (i := 723) rfl
set_option maxRecDepth 100000 in
theorem xr_7_89 : xokp 7 (188, 11, 11, 0) := List.mem_of_getElem? (i := 724) rfl
set_option maxRecDepth 100000 in
theorem xr_7_90 : xokp 7 (190, 2, 2, 0) := ⟨xmem (p := 725) rfl rfl, xd_2⟩
set_option maxRecDepth 100000 in
theorem xr_7_91 : xokp 7 (196, 11, 12, 0) := List.mem_of_getElem? (i := 737) rfl
set_option maxRecDepth 100000 in
theorem xr_7_92 : xokp 7 (198, 2, 18, 0) := ⟨xmem (p := 738) rfl rfl, xd_18⟩
set_option maxRecDepth 100000 in
theorem xr_7_93 : xokp 7 (201, 11, 13, 0) := List.mem_of_getElem? (i := 749) rfl
set_option maxRecDepth 100000 in
theorem xr_7_94 : xokp 7 (203, 11, 14, 0) := List.mem_of_getElem? (i := 764) rfl
set_option maxRecDepth 100000 in
theorem xr_7_95 : xokp 7 (212, 11, 15, 0) := List.mem_of_getElem? (i := 779) rfl
set_option maxRecDepth 100000 in
theorem xr_7_96 : xokp 7 (222, 11, 16, 0) := List.mem_of_getElem? (i := 791) rfl
set_option maxRecDepth 100000 in
theorem xq_7 : ∀ q ∈ xpl_7, xokp 7 q := (List.forall_mem_cons.mpr ⟨xr_7_0, (List.forall_mem_cons.mpr ⟨xr_7_1, (List.forall_mem_cons.mpr ⟨xr_7_2, (List.forall_mem_cons.mpr ⟨xr_7_3, (List.forall_mem_cons.mpr ⟨xr_7_4, (List.forall_mem_cons.mpr ⟨xr_7_5, (List.forall_mem_cons.mpr ⟨xr_7_6, (List.forall_mem_cons.mpr ⟨xr_7_7, (List.forall_mem_cons.mpr ⟨xr_7_8, (List.forall_mem_cons.mpr ⟨xr_7_9, (List.forall_mem_cons.mpr ⟨xr_7_10, (List.forall_mem_cons.mpr ⟨xr_7_11, (List.forall_mem_cons.mpr ⟨xr_7_12, (List.forall_mem_cons.mpr ⟨xr_7_13, (List.forall_mem_cons.mpr ⟨xr_7_14, (List.forall_mem_cons.mpr ⟨xr_7_15, (List.forall_mem_cons.mpr ⟨xr_7_16, (List.forall_mem_cons.mpr ⟨xr_7_17, (List.forall_mem_cons.mpr ⟨xr_7_18, (List.forall_mem_cons.mpr ⟨xr_7_19, (List.forall_mem_cons.mpr ⟨xr_7_20, (List.forall_mem_cons.mpr ⟨xr_7_21, (List.forall_mem_cons.mpr ⟨xr_7_22, (List.forall_mem_cons.mpr ⟨xr_7_23, (List.forall_mem_cons.mpr ⟨xr_7_24, (List.forall_mem_cons.mpr ⟨xr_7_25, (List.forall_mem_cons.mpr ⟨xr_7_26, (List.forall_mem_cons.mpr ⟨xr_7_27, (List.forall_mem_cons.mpr ⟨xr_7_28, (List.forall_mem_cons.mpr ⟨xr_7_29, (List.forall_mem_cons.mpr ⟨xr_7_30, (List.forall_mem_cons.mpr ⟨xr_7_31, (List.forall_mem_cons.mpr ⟨xr_7_32, (List.forall_mem_cons.mpr ⟨xr_7_33, (List.forall_mem_cons.mpr ⟨xr_7_34, (List.forall_mem_cons.mpr ⟨xr_7_35, (List.forall_mem_cons.mpr ⟨xr_7_36, (List.forall_mem_cons.mpr ⟨xr_7_37, (List.forall_mem_cons.mpr ⟨xr_7_38, (List.forall_mem_cons.mpr ⟨xr_7_39, (List.forall_mem_cons.mpr ⟨xr_7_40, (List.forall_mem_cons.mpr ⟨xr_7_41, (List.forall_mem_cons.mpr ⟨xr_7_42, (List.forall_mem_cons.mpr ⟨xr_7_43, (List.forall_mem_cons.mpr ⟨xr_7_44, (List.forall_mem_cons.mpr ⟨xr_7_45, (List.forall_mem_cons.mpr ⟨xr_7_46, (List.forall_mem_cons.mpr ⟨xr_7_47, (List.forall_mem_cons.mpr ⟨xr_7_48, (List.forall_mem_cons.mpr ⟨xr_7_49, (List.forall_mem_cons.mpr ⟨xr_7_50, (List.forall_mem_cons.mpr ⟨xr_7_51, (List.forall_mem_cons.mpr ⟨xr_7_52, (List.forall_mem_cons.mpr ⟨xr_7_53, (List.forall_mem_cons.mpr ⟨xr_7_54, (List.forall_mem_cons.mpr ⟨xr_7_55, (List.forall_mem_cons.mpr ⟨xr_7_56, (List.forall_mem_cons.mpr ⟨xr_7_57, (List.forall_mem_cons.mpr ⟨xr_7_58, (List.forall_mem_cons.mpr ⟨xr_7_59, (List.forall_mem_cons.mpr ⟨xr_7_60, (List.forall_mem_cons.mpr ⟨xr_7_61, (List.forall_mem_cons.mpr ⟨xr_7_62, (List.forall_mem_cons.mpr ⟨xr_7_63, (List.forall_mem_cons.mpr ⟨xr_7_64, (List.forall_mem_cons.mpr ⟨xr_7_65, (List.forall_mem_cons.mpr ⟨xr_7_66, (List.forall_mem_cons.mpr ⟨xr_7_67, (List.forall_mem_cons.mpr ⟨xr_7_68, (List.forall_mem_cons.mpr ⟨xr_7_69, (List.forall_mem_cons.mpr ⟨xr_7_70, (List.forall_mem_cons.mpr ⟨xr_7_71, (List.forall_mem_cons.mpr ⟨xr_7_72, (List.forall_mem_cons.mpr ⟨xr_7_73, (List.forall_mem_cons.mpr ⟨xr_7_74, (List.forall_mem_cons.mpr ⟨xr_7_75, (List.forall_mem_cons.mpr ⟨xr_7_76, (List.forall_mem_cons.mpr ⟨xr_7_77, (List.forall_mem_cons.mpr ⟨xr_7_78, (List.forall_mem_cons.mpr ⟨xr_7_79, (List.forall_mem_cons.mpr ⟨xr_7_80, (List.forall_mem_cons.mpr ⟨xr_7_81, (List.forall_mem_cons.mpr ⟨xr_7_82, (List.forall_mem_cons.mpr ⟨xr_7_83, (List.forall_mem_cons.mpr ⟨xr_7_84, (List.forall_mem_cons.mpr ⟨xr_7_85, (List.forall_mem_cons.mpr ⟨xr_7_86, (List.forall_mem_cons.mpr ⟨xr_7_87, (List.forall_mem_cons.mpr ⟨xr_7_88, (List.forall_mem_cons.mpr ⟨xr_7_89, (List.forall_mem_cons.mpr ⟨xr_7_90, (List.forall_mem_cons.mpr ⟨xr_7_91, (List.forall_mem_cons.mpr ⟨xr_7_92, (List.forall_mem_cons.mpr ⟨xr_7_93, (List.forall_mem_cons.mpr ⟨xr_7_94, (List.forall_mem_cons.mpr ⟨xr_7_95, (List.forall_mem_cons.mpr ⟨xr_7_96, (fun _ h => nomatch h)⟩)⟩)⟩)⟩)⟩)⟩)⟩)⟩)⟩)⟩)⟩)⟩)⟩)⟩)⟩)⟩)⟩)⟩)⟩)⟩)⟩)⟩)⟩)⟩)⟩)⟩)⟩)⟩)⟩)⟩)⟩)⟩)⟩)⟩)⟩)⟩)⟩)⟩)⟩)⟩)⟩)⟩)⟩)⟩)⟩)⟩)⟩)⟩)⟩)⟩)⟩)⟩)⟩)⟩)⟩)⟩)⟩)⟩)⟩)⟩)⟩)⟩)⟩)⟩)⟩)⟩)⟩)⟩)⟩)⟩)⟩)⟩)⟩)⟩)⟩)⟩)⟩)⟩)⟩)⟩)⟩)⟩)⟩)⟩)⟩)⟩)⟩)⟩)⟩)⟩)⟩)⟩)⟩)⟩)⟩)⟩)⟩)
set_option maxRecDepth 100000 in
theorem xr_8_0 : xokp 8 (1, 6, 0, 0) := xmem (p := 811) rfl rfl
set_option maxRecDepth 100000 in
theorem xr_8_1 : xokp 8 (37, 0, 8, 0) := ⟨xmem (p := 812) rfl rfl, by decide, by decide⟩
set_option maxRecDepth 100000 in
theorem xr_8_2 : xokp 8 (7, 0, 8, 1) := ⟨xmem (p := 813) rfl rfl, by decide, by decide⟩
set_option maxRecDepth 100000 in
theorem xr_8_3 : xokp 8 (13, 0, 8, 2) := ⟨xmem (p := 814) rfl rfl, by decide, by decide⟩
set_option maxRecDepth 100000 in
theorem xr_8_4 : xokp 8 (16, 0, 8, 3) := ⟨xmem (p := 815) rfl rfl, by decide, by decide⟩
set_option maxRecDepth 100000 in
theorem xr_8_5 : xokp 8 (41, 0, 8, 4) := ⟨xmem (p := 816) rfl rfl, by decide, by decide⟩
set_option maxRecDepth 100000 in
theorem xr_8_6 : xokp 8 (19, 0, 8, 5) := ⟨xmem (p := 817) rfl rfl, by decide, by decide⟩
set_option maxRecDepth 100000 in
theorem xr_8_7 : xokp 8 (77, 0, 8, 6) := ⟨xmem (p := 818) rfl rfl, by decide, by decide⟩
set_option maxRecDepth 100000 in
theorem xr_8_8 : xokp 8 (22, 0, 8, 7) := ⟨xmem (p := 819) rfl rfl, by decide, by decide⟩
set_option maxRecDepth 100000 in
theorem xr_8_9 : xokp 8 (25, 0, 8, 8) := ⟨xmem (p := 820) rfl rfl, by decide, by decide⟩
set_option maxRecDepth 100000 in
theorem xr_8_10 : xokp 8 (28, 0, 8, 9) := ⟨xmem (p := 821) rfl rfl, by decide, by decide⟩
set_option maxRecDepth 100000 in
theorem xr_8_11 : xokp 8 (31, 0, 8, 10) := ⟨xmem (p := 822) rfl rfl, by decide, by decide⟩
set_option maxRecDepth 100000 in
theorem xr_8_12 : xokp 8 (34, 0, 8, 11) := ⟨xmem (p := 823) rfl rfl, by decide, by decide⟩
set_option maxRecDepth 100000 in
theorem xr_8_13 : xokp 8 (67, 0, 8, 12) := ⟨xmem (p := 824) rfl rfl, by decide, by decide⟩
set_option maxRecDepth 100000 in
theorem xr_8_14 : xokp 8 (70, 0, 8, 13) := ⟨xmem (p := 825) rfl rfl, by decide, by decide⟩
set_option maxRecDepth 100000 in
theorem xr_8_15 : xokp 8 (74, 0, 8, 14) := ⟨xmem (p := 826) rfl rfl, by decide, by decide⟩
set_option maxRecDepth 100000 in
theorem xr_8_16 : xokp 8 (110, 0, 8, 15) := ⟨xmem (p := 827) rfl rfl, by decide, by decide⟩
set_option maxRecDepth 100000 in
theorem xr_8_17 : xokp 8 (113, 0, 8, 16) := ⟨xmem (p := 828) rfl rfl, by decide, by decide⟩
set_option maxRecDepth 100000 in
theorem xr_8_18 : xokp 8 (103, 0, 8, 17) := ⟨xmem (p := 829) rfl rfl, by decide, by decide⟩
set_option maxRecDepth 100000 in
theorem xr_8_19 : xokp 8 (116, 0, 8, 18) := ⟨xmem (p := 830) rfl rfl, by decide, by decide⟩
set_option maxRecDepth 100000 in
theorem xr_8_20 : xokp 8 (191, 0, 8, 19) := ⟨xmem (p := 831) rfl rfl, by decide, by decide⟩
set_option maxRecDepth 100000 in
theorem xr_8_21 : xokp 8 (80, 2, 116, 0) := ⟨xmem (p := 881) rfl rfl, xd_116⟩
set_option maxRecDepth 100000 in
theorem xr_8_22 : xokp 8 (44, 3, 99, 0) := ⟨xmem (p := 885) rfl rfl, xd_99⟩
set_option maxRecDepth 100000 in
theorem xr_8_23 : xokp 8 (84, 2, 100, 0) := ⟨xmem (p := 888) rfl rfl, xd_100⟩
set_option maxRecDepth 100000 in
theorem xr_8_24 : xokp 8 (87, 2, 101, 0) := ⟨xmem (p := 892) rfl rfl, xd_101⟩
set_option maxRecDepth 100000 in
theorem xr_8_25 : xokp 8 (48, 2, 104, 0) := ⟨xmem (p := 900) rfl rfl, xd_104⟩
set_option maxRecDepth 100000 in
theorem xr_8_26 : xokp 8 (96, 2, 119, 0) := ⟨xmem (p := 908) rfl rfl, xd_119⟩
set_option maxRecDepth 100000 in
theorem xr_8_27 : xokp 8 (90, 2, 109, 0) := ⟨xmem (p := 912) rfl rfl, xd_109⟩
set_option maxRecDepth 100000 in
theorem xr_8_28 : xokp 8 (93, 2, 110, 0) := ⟨xmem (p := 916) rfl rfl, xd_110⟩
set_option maxRecDepth 100000 in
theorem xr_8_29 : xokp 8 (52, 2, 105, 0) := ⟨xmem (p := 920) rfl rfl, xd_105⟩
set_option maxRecDepth 100000 in
theorem xr_8_30 : xokp 8 (56, 2, 106, 0) := ⟨xmem (p := 924) rfl rfl, xd_106⟩
set_option maxRecDepth 100000 in
theorem xr_8_31 : xokp 8 (63, 2, 111, 0) := ⟨xmem (p := 928) rfl rfl, xd_111⟩
set_option maxRecDepth 100000 in
theorem xr_8_32 : xokp 8 (99, 2, 121, 0) := ⟨xmem (p := 936) rfl rfl, xd_121⟩
set_option maxRecDepth 100000 in
theorem xr_8_33 : xokp 8 (122, 2, 125, 0) := ⟨xmem (p := 944) rfl rfl, xd_125⟩
set_option maxRecDepth 100000 in
theorem xr_8_34 : xokp 8 (119, 2, 124, 0) := ⟨xmem (p := 948) rfl rfl, xd_124⟩
set_option maxRecDepth 100000 in
theorem xr_8_35 : xokp 8 (106, 2, 123, 0) := ⟨xmem (p := 952) rfl rfl, xd_123⟩
set_option maxRecDepth 100000 in
theorem xr_8_36 : xokp 8 (125, 2, 126, 0) := ⟨xmem (p := 960) rfl rfl, xd_126⟩
set_option maxRecDepth 100000 in
theorem xr_8_37 : xokp 8 (128, 2, 129, 0) := ⟨xmem (p := 968) rfl rfl, xd_129⟩
set_option maxRecDepth 100000 in
theorem xr_8_38 : xokp 8 (131, 2, 107, 0) := ⟨xmem (p := 976) rfl rfl, xd_107⟩
set_option maxRecDepth 100000 in
theorem xr_8_39 : xokp 8 (59, 2, 108, 0) := ⟨xmem (p := 980) rfl rfl, xd_108⟩
set_option maxRecDepth 100000 in
theorem xr_8_40 : xokp 8 (134, 2, 113, 0) := ⟨xmem (p := 984) rfl rfl, xd_113⟩
set_option maxRecDepth 100000 in
theorem xr_8_41 : xokp 8 (137, 2, 115, 0) := ⟨xmem (p := 1016) rfl rfl, xd_115⟩
set_option maxRecDepth 100000 in
theorem xr_8_42 : xokp 8 (140, 2, 139, 0) := ⟨xmem (p := 1024) rfl rfl, xd_139⟩
set_option maxRecDepth 100000 in
theorem xr_8_43 : xokp 8 (143, 2, 142, 0) := ⟨xmem (p := 1036) rfl rfl, xd_142⟩
set_option maxRecDepth 100000 in
theorem xr_8_44 : xokp 8 (155, 2, 145, 0) := ⟨xmem (p := 1044) rfl rfl, xd_145⟩
set_option maxRecDepth 100000 in
theorem xr_8_45 : xokp 8 (146, 2, 144, 0) := ⟨xmem (p := 1048) rfl rfl, xd_144⟩
set_option maxRecDepth 100000 in
theorem xr_8_46 : xokp 8 (149, 2, 114, 0) := ⟨xmem (p := 1052) rfl rfl, xd_114⟩
set_option maxRecDepth 100000 in
theorem xr_8_47 : xokp 8 (152, 2, 112, 0) := ⟨xmem (p := 1056) rfl rfl, xd_112⟩
set_option maxRecDepth 100000 in
theorem xr_8_48 : xokp 8 (158, 2, 147, 0) := ⟨xmem (p := 1064) rfl rfl, xd_147⟩
set_option maxRecDepth 100000 in
theorem xr_8_49 : xokp 8 (167, 2, 150, 0) := ⟨xmem (p := 1076) rfl rfl, xd_150⟩
set_option maxRecDepth 100000 in
theorem xr_8_50 : xokp 8 (161, 2, 102, 0) := ⟨xmem (p := 1080) rfl rfl, xd_102⟩
set_option maxRecDepth 100000 in
theorem xr_8_51 : xokp 8 (164, 2, 103, 0) := ⟨xmem (p := 1084) rfl rfl, xd_103⟩
set_option maxRecDepth 100000 in
theorem xr_8_52 : xokp 8 (170, 2, 152, 0) := ⟨xmem (p := 1092) rfl rfl, xd_152⟩
set_option maxRecDepth 100000 in
theorem xr_8_53 : xokp 8 (173, 2, 154, 0) := ⟨xmem (p := 1100) rfl rfl, xd_154⟩
set_option maxRecDepth 100000 in
theorem xr_8_54 : xokp 8 (195, 9, 5, 0) := xmem (p := 1108) rfl rfl
set_option maxRecDepth 100000 in
theorem xr_8_55 : xokp 8 (197, 2, 157, 0) := ⟨xmem (p := 1109) rfl rfl, xd_157⟩
set_option maxRecDepth 100000 in
theorem xr_8_56 : xokp 8 (189, 9, 6, 0) := xmem (p := 1113) rfl rfl
set_option maxRecDepth 100000 in
theorem xr_8_57 : xokp 8 (201, 3, 156, 0) := ⟨xmem (p := 1114) rfl rfl, xd_156⟩
set_option maxRecDepth 100000 in
theorem xr_8_58 : xokp 8 (177, 9, 7, 0) := xmem (p := 1117) rfl rfl
set_option maxRecDepth 100000 in
theorem xr_8_59 : xokp 8 (179, 10, 1, 0) := xmem (p := 1118) rfl rfl
set_option maxRecDepth 100000 in
theorem xr_8_60 : xokp 8 (181, 10, 2, 0) := xmem (p := 1119) rfl rfl
set_option maxRecDepth 100000 in
theorem xr_8_61 : xokp 8 (183, 9, 8, 0) := xmem (p := 1120) rfl rfl
set_option maxRecDepth 100000 in
theorem xr_8_62 : xokp 8 (185, 10, 3, 0) := xmem (p := 1121) rfl rfl
set_option maxRecDepth 100000 in
theorem xr_8_63 : xokp 8 (187, 9, 9, 0) := xmem (p := 1122) rfl rfl
set_option maxRecDepth 100000 in
theorem xq_8 : ∀ q ∈ xpl_8, xokp 8 q := (List.forall_mem_cons.mpr ⟨xr_8_0, (List.forall_mem_cons.mpr ⟨xr_8_1, (List.forall_mem_cons.mpr ⟨xr_8_2, (List.forall_mem_cons.mpr ⟨xr_8_3, (List.forall_mem_cons.mpr ⟨xr_8_4, (List.forall_mem_cons.mpr ⟨xr_8_5, (List.forall_mem_cons.mpr ⟨xr_8_6, (List.forall_mem_cons.mpr ⟨xr_8_7, (List.forall_mem_cons.mpr ⟨xr_8_8, (List.forall_mem_cons.mpr ⟨xr_8_9, (List.forall_mem_cons.mpr ⟨xr_8_10, (List.forall_mem_cons.mpr ⟨xr_8_11, (List.forall_mem_cons.mpr ⟨xr_8_12, (List.forall_mem_cons.mpr ⟨xr_8_13, (List.forall_mem_cons.mpr ⟨xr_8_14, (List.forall_mem_cons.mpr ⟨xr_8_15, (List.forall_mem_cons.mpr ⟨xr_8_16, (List.forall_mem_cons.mpr ⟨xr_8_17, (List.forall_mem_cons.mpr ⟨xr_8_18, (List.forall_mem_cons.mpr ⟨xr_8_19, (List.forall_mem_cons.mpr ⟨xr_8_20, (List.forall_mem_cons.mpr ⟨xr_8_21, (List.forall_mem_cons.mpr ⟨xr_8_22, (List.forall_mem_cons.mpr ⟨xr_8_23, (List.forall_mem_cons.mpr ⟨xr_8_24, (List.forall_mem_cons.mpr ⟨xr_8_25, (List.forall_mem_cons.mpr ⟨xr_8_26, (List.forall_mem_cons.mpr ⟨xr_8_27, (List.forall_mem_cons.mpr ⟨xr_8_28, (List.forall_mem_cons.mpr ⟨xr_8_29, (List.forall_mem_cons.mpr ⟨xr_8_30, (List.forall_mem_cons.mpr ⟨xr_8_31, (List.forall_mem_cons.mpr ⟨xr_8_32, (List.forall_mem_cons.mpr ⟨xr_8_33, (List.forall_mem_cons.mpr ⟨xr_8_34, (List.forall_mem_cons.mpr ⟨xr_8_35, (List.forall_mem_cons.mpr ⟨xr_8_36, (List.forall_mem_cons.mpr ⟨xr_8_37, (List.forall_mem_cons.mpr ⟨xr_8_38, (List.forall_mem_cons.mpr ⟨xr_8_39, (List.forall_mem_cons.mpr ⟨xr_8_40, (List.forall_mem_cons.mpr ⟨xr_8_41, (List.forall_mem_cons.mpr ⟨xr_8_42, (List.forall_mem_cons.mpr ⟨xr_8_43, (List.forall_mem_cons.mpr ⟨xr_8_44, (List.forall_mem_cons.mpr ⟨xr_8_45, (List.forall_mem_cons.mpr ⟨xr_8_46, (List.forall_mem_cons.mpr ⟨xr_8_47, (List.forall_mem_cons.mpr ⟨xr_8_48, (List.forall_mem_cons.mpr ⟨xr_8_49, (List.forall_mem_cons.mpr ⟨xr_8_50, (List.forall_mem_cons.mpr ⟨xr_8_51, (List.forall_mem_cons.mpr ⟨xr_8_52, (List.forall_mem_cons.mpr ⟨xr_8_53, (List.forall_mem_cons.mpr ⟨xr_8_54, (List.forall_mem_cons.mpr ⟨xr_8_55, (List.forall_mem_cons.mpr ⟨xr_8_56, (List.forall_mem_cons.mpr ⟨xr_8_57, (List.forall_mem_cons.mpr ⟨xr_8_58, (List.forall_mem_cons.mpr ⟨xr_8_59, (List.forall_mem_cons.mpr ⟨xr_8_60, (List.forall_mem_cons.mpr ⟨xr_8_61, (List.forall_mem_cons.mpr ⟨xr_8_62, (List.forall_mem_cons.mpr ⟨xr_8_63, (fun _ h => nomatch h)⟩)⟩)⟩)⟩)⟩)⟩)⟩)⟩)⟩)⟩)⟩)⟩)⟩)⟩)⟩)⟩)⟩)⟩)⟩)⟩)⟩)⟩)⟩)⟩)⟩)⟩)⟩)⟩)⟩)⟩)⟩)⟩)⟩)⟩)⟩)⟩)⟩)⟩)⟩)⟩)⟩)⟩)⟩)⟩)⟩)⟩)⟩)⟩)⟩)⟩)⟩)⟩)⟩)⟩)⟩)⟩)⟩)⟩)⟩)⟩)⟩)⟩)⟩)⟩)
set_option maxRecDepth 100000 in
theorem xr_9_0 : xokp 9 (8, 7, 7, 0) := ⟨xmem (p := 63) rfl rfl, by decide⟩
set_option maxRecDepth 100000 in
theorem xr_9_1 : xokp 9 (69, 4, 62, 0) := ⟨xmem (p := 65) rfl rfl, xd_62⟩
set_option maxRecDepth 100000 in
theorem xr_9_2 : xokp 9 (92, 2, 67, 0) := ⟨xmem (p := 242) rfl rfl, xd_67⟩
set_option maxRecDepth 100000 in
theorem xr_9_3 : xokp 9 (96, 2, 68, 0) := ⟨xmem (p := 328) rfl rfl, xd_68⟩
set_option maxRecDepth 100000 in
theorem xr_9_4 : xokp 9 (100, 2, 69, 0) := ⟨xmem (p := 338) rfl rfl, xd_69⟩
set_option maxRecDepth 100000 in
theorem xr_9_5 : xokp 9 (114, 2, 73, 0) := ⟨xmem (p := 382) rfl rfl, xd_73⟩
set_option maxRecDepth 100000 in
theorem xr_9_6 : xokp 9 (118, 2, 74, 0) := ⟨xmem (p := 390) rfl rfl, xd_74⟩
set_option maxRecDepth 100000 in
theorem xr_9_7 : xokp 9 (152, 2, 85, 0) := ⟨xmem (p := 411) rfl rfl, xd_85⟩
set_option maxRecDepth 100000 in
theorem xr_9_8 : xokp 9 (156, 2, 86, 0) := ⟨xmem (p := 430) rfl rfl, xd_86⟩
set_option maxRecDepth 100000 in
theorem xr_9_9 : xokp 9 (161, 2, 87, 0) := ⟨xmem (p := 438) rfl rfl, xd_87⟩
set_option maxRecDepth 100000 in
theorem xr_9_10 : xokp 9 (73, 3, 161, 0) := ⟨xmem (p := 597) rfl rfl, xd_161⟩
set_option maxRecDepth 100000 in
theorem xr_9_11 : xokp 9 (13, 8, 0, 0) := ⟨xmem (p := 600) rfl rfl, by decide⟩
set_option maxRecDepth 100000 in
theorem xr_9_12 : xokp 9 (15, 8, 1, 0) := ⟨xmem (p := 601) rfl rfl, by decide⟩
set_option maxRecDepth 100000 in
theorem xr_9_13 : xokp 9 (7, 2, 63, 0) := ⟨xmem (p := 602) rfl rfl, xd_63⟩
set_option maxRecDepth 100000 in
theorem xr_9_14 : xokp 9 (82, 3, 162, 0) := ⟨xmem (p := 642) rfl rfl, xd_162⟩
set_option maxRecDepth 100000 in
theorem xr_9_15 : xokp 9 (21, 8, 2, 0) := ⟨xmem (p := 645) rfl rfl, by decide⟩
set_option maxRecDepth 100000 in
theorem xr_9_16 : xokp 9 (17, 2, 64, 0) := ⟨xmem (p := 646) rfl rfl, xd_64⟩
set_option maxRecDepth 100000 in
theorem xr_9_17 : xokp 9 (86, 3, 163, 0) := ⟨xmem (p := 668) rfl rfl, xd_163⟩
set_option maxRecDepth 100000 in
theorem xr_9_18 : xokp 9 (23, 2, 65, 0) := ⟨xmem (p := 671) rfl rfl, xd_65⟩
set_option maxRecDepth 100000 in
theorem xr_9_19 : xokp 9 (89, 3, 164, 0) := ⟨xmem (p := 682) rfl rfl, xd_164⟩
set_option maxRecDepth 100000 in
theorem xr_9_20 : xokp 9 (26, 2, 66, 0) := ⟨xmem (p := 685) rfl rfl, xd_66⟩
set_option maxRecDepth 100000 in
theorem xr_9_21 : xokp 9 (104, 3, 165, 0) := ⟨xmem (p := 693) rfl rfl, xd_165⟩
set_option maxRecDepth 100000 in
theorem xr_9_22 : xokp 9 (29, 2, 70, 0) := ⟨xmem (p := 696) rfl rfl, xd_70⟩
set_option maxRecDepth 100000 in
theorem xr_9_23 : xokp 9 (107, 3, 166, 0) := ⟨xmem (p := 701) rfl rfl, xd_166⟩
set_option maxRecDepth 100000 in
theorem xr_9_24 : xokp 9 (32, 2, 71, 0) := ⟨xmem (p := 704) rfl rfl, xd_71⟩
set_option maxRecDepth 100000 in
theorem xr_9_25 : xokp 9 (111, 3, 167, 0) := ⟨xmem (p := 716) rfl rfl, xd_167⟩
set_option maxRecDepth 100000 in
theorem xr_9_26 : xokp 9 (36, 2, 72, 0) := ⟨xmem (p := 719) rfl rfl, xd_72⟩
set_option maxRecDepth 100000 in
theorem xr_9_27 : xokp 9 (122, 3, 168, 0) := ⟨xmem (p := 730) rfl rfl, xd_168⟩
set_option maxRecDepth 100000 in
theorem xr_9_28 : xokp 9 (39, 2, 75, 0) := ⟨xmem (p := 733) rfl rfl, xd_75⟩
set_option maxRecDepth 100000 in
theorem xr_9_29 : xokp 9 (125, 3, 169, 0) := ⟨xmem (p := 742) rfl rfl, xd_169⟩
set_option maxRecDepth 100000 in
theorem xr_9_30 : xokp 9 (42, 2, 76, 0) := ⟨xmem (p := 745) rfl rfl, xd_76⟩
set_option maxRecDepth 100000 in
theorem xr_9_31 : xokp 9 (128, 3, 170, 0) := ⟨xmem (p := 750) rfl rfl, xd_170⟩
set_option maxRecDepth 100000 in
theorem xr_9_32 : xokp 9 (45, 2, 77, 0) := ⟨xmem (p := 753) rfl rfl, xd_77⟩
set_option maxRecDepth 100000 in
theorem xr_9_33 : xokp 9 (131, 3, 171, 0) := ⟨xmem (p := 757) rfl rfl, xd_171⟩
set_option maxRecDepth 100000 in
theorem xr_9_34 : xokp 9 (48, 2, 78, 0) := ⟨xmem (p := 760) rfl rfl, xd_78⟩
set_option maxRecDepth 100000 in
theorem xr_9_35 : xokp 9 (134, 3, 172, 0) := ⟨xmem (p := 765) rfl rfl, xd_172⟩
set_option maxRecDepth 100000 in
theorem xr_9_36 : xokp 9 (51, 2, 79, 0) := ⟨xmem (p := 768) rfl rfl, xd_79⟩
set_option maxRecDepth 100000 in
theorem xr_9_37 : xokp 9 (137, 3, 173, 0) := ⟨xmem (p := 772) rfl rfl, xd_173⟩
set_option maxRecDepth 100000 in
theorem xr_9_38 : xokp 9 (54, 2, 80, 0) := ⟨xmem (p := 775) rfl rfl, xd_80⟩
set_option maxRecDepth 100000 in
theorem xr_9_39 : xokp 9 (140, 3, 174, 0) := ⟨xmem (p := 780) rfl rfl, xd_174⟩
set_option maxRecDepth 100000 in
theorem xr_9_40 : xokp 9 (57, 2, 81, 0) := ⟨xmem (p := 783) rfl rfl, xd_81⟩
set_option maxRecDepth 100000 in
theorem xr_9_41 : xokp 9 (143, 3, 175, 0) := ⟨xmem (p := 784) rfl rfl, xd_175⟩
set_option maxRecDepth 100000 in
theorem xr_9_42 : xokp 9 (60, 2, 82, 0) := ⟨xmem (p := 787) rfl rfl, xd_82⟩
set_option maxRecDepth 100000 in
theorem xr_9_43 : xokp 9 (146, 3, 176, 0) := ⟨xmem (p := 792) rfl rfl, xd_176⟩
set_option maxRecDepth 100000 in
theorem xr_9_44 : xokp 9 (63, 2, 83, 0) := ⟨xmem (p := 795) rfl rfl, xd_83⟩
set_option maxRecDepth 100000 in
theorem xr_9_45 : xokp 9 (149, 3, 177, 0) := ⟨xmem (p := 799) rfl rfl, xd_177⟩
set_option maxRecDepth 100000 in
theorem xr_9_46 : xokp 9 (66, 2, 84, 0) := ⟨xmem (p := 802) rfl rfl, xd_84⟩
set_option maxRecDepth 100000 in
theorem xr_9_47 : xokp 9 (70, 7, 8, 0) := ⟨xmem (p := 806) rfl rfl, by decide⟩
set_option maxRecDepth 100000 in
theorem xr_9_48 : xokp 9 (72, 4, 97, 0) := ⟨xmem (p := 808) rfl rfl, xd_97⟩
set_option maxRecDepth 100000 in
theorem xr_9_49 : xokp 9 (79, 2, 98, 0) := ⟨xmem (p := 873) rfl rfl, xd_98⟩
set_option maxRecDepth 100000 in
theorem xr_9_50 : xokp 9 (78, 2, 117, 0) := ⟨xmem (p := 877) rfl rfl, xd_117⟩
set_option maxRecDepth 100000 in
theorem xr_9_51 : xokp 9 (85, 2, 118, 0) := ⟨xmem (p := 896) rfl rfl, xd_118⟩
set_option maxRecDepth 100000 in
theorem xr_9_52 : xokp 9 (88, 2, 120, 0) := ⟨xmem (p := 904) rfl rfl, xd_120⟩
set_option maxRecDepth 100000 in
theorem xr_9_53 : xokp 9 (91, 2, 122, 0) := ⟨xmem (p := 932) rfl rfl, xd_122⟩
set_option maxRecDepth 100000 in
theorem xr_9_54 : xokp 9 (95, 2, 127, 0) := ⟨xmem (p := 940) rfl rfl, xd_127⟩
set_option maxRecDepth 100000 in
theorem xr_9_55 : xokp 9 (99, 2, 128, 0) := ⟨xmem (p := 956) rfl rfl, xd_128⟩
set_option maxRecDepth 100000 in
theorem xr_9_56 : xokp 9 (103, 2, 130, 0) := ⟨xmem (p := 964) rfl rfl, xd_130⟩
set_option maxRecDepth 100000 in
theorem xr_9_57 : xokp 9 (106, 2, 131, 0) := ⟨xmem (p := 972) rfl rfl, xd_131⟩
set_option maxRecDepth 100000 in
theorem xr_9_58 : xokp 9 (110, 2, 132, 0) := ⟨xmem (p := 988) rfl rfl, xd_132⟩
set_option maxRecDepth 100000 in
theorem xr_9_59 : xokp 9 (113, 2, 133, 0) := ⟨xmem (p := 992) rfl rfl, xd_133⟩
set_option maxRecDepth 100000 in
theorem xr_9_60 : xokp 9 (117, 2, 134, 0) := ⟨xmem (p := 996) rfl rfl, xd_134⟩
set_option maxRecDepth 100000 in
theorem xr_9_61 : xokp 9 (121, 2, 135, 0) := ⟨xmem (p := 1000) rfl rfl, xd_135⟩
set_option maxRecDepth 100000 in
theorem xr_9_62 : xokp 9 (124, 2, 136, 0) := ⟨xmem (p := 1004) rfl rfl, xd_136⟩
set_option maxRecDepth 100000 in
theorem xr_9_63 : xokp 9 (127, 2, 137, 0) := ⟨xmem (p := 1008) rfl rfl, xd_137⟩
set_option maxRecDepth 100000 in
theorem xr_9_64 : xokp 9 (130, 2, 138, 0) := ⟨xmem (p := 1012) rfl rfl, xd_138⟩
set_option maxRecDepth 100000 in
theorem xr_9_65 : xokp 9 (133, 2, 140, 0) := ⟨xmem (p := 1020) rfl rfl, xd_140⟩
set_option maxRecDepth 100000 in
theorem xr_9_66 : xokp 9 (136, 2, 141, 0) := ⟨xmem (p := 1028) rfl rfl, xd_141⟩
set_option maxRecDepth 100000 in
theorem xr_9_67 : xokp 9 (139, 2, 143, 0) := ⟨xmem (p := 1032) rfl rfl, xd_143⟩
set_option maxRecDepth 100000 in
theorem xr_9_68 : xokp 9 (142, 2, 146, 0) := ⟨xmem (p := 1040) rfl rfl, xd_146⟩
set_option maxRecDepth 100000 in
theorem xr_9_69 : xokp 9 (145, 2, 148, 0) := ⟨xmem (p := 1060) rfl rfl, xd_148⟩
set_option maxRecDepth 100000 in
theorem xr_9_70 : xokp 9 (148, 2, 149, 0) := ⟨xmem (p := 1068) rfl rfl, xd_149⟩
set_option maxRecDepth 100000 in
theorem xr_9_71 : xokp 9 (151, 2, 151, 0) := ⟨xmem (p := 1072) rfl rfl, xd_151⟩
set_option maxRecDepth 100000 in
theorem xr_9_72 : xokp 9 (155, 2, 153, 0) := ⟨xmem (p := 1088) rfl rfl, xd_153⟩
set_option maxRecDepth 100000 in
theorem xr_9_73 : xokp 9 (160, 2, 155, 0) := ⟨xmem (p := 1096) rfl rfl, xd_155⟩
set_option maxRecDepth 100000 in
theorem xr_9_74 : xokp 9 (165, 2, 158, 0) := ⟨xmem (p := 1104) rfl rfl, xd_158⟩
set_option maxRecDepth 100000 in
theorem xq_9 : ∀ q ∈ xpl_9, xokp 9 q := (List.forall_mem_cons.mpr ⟨xr_9_0, (List.forall_mem_cons.mpr ⟨xr_9_1, (List.forall_mem_cons.mpr ⟨xr_9_2, (List.forall_mem_cons.mpr ⟨xr_9_3, (List.forall_mem_cons.mpr ⟨xr_9_4, (List.forall_mem_cons.mpr ⟨xr_9_5, (List.forall_mem_cons.mpr ⟨xr_9_6, (List.forall_mem_cons.mpr ⟨xr_9_7, (List.forall_mem_cons.mpr ⟨xr_9_8, (List.forall_mem_cons.mpr ⟨xr_9_9, (List.forall_mem_cons.mpr ⟨xr_9_10, (List.forall_mem_cons.mpr ⟨xr_9_11, (List.forall_mem_cons.mpr ⟨xr_9_12, (List.forall_mem_cons.mpr ⟨xr_9_13, (List.forall_mem_cons.mpr ⟨xr_9_14, (List.forall_mem_cons.mpr ⟨xr_9_15, (List.forall_mem_cons.mpr ⟨xr_9_16, (List.forall_mem_cons.mpr ⟨xr_9_17, (List.forall_mem_cons.mpr ⟨xr_9_18, (List.forall_mem_cons.mpr ⟨xr_9_19, (List.forall_mem_cons.mpr ⟨xr_9_20, (List.forall_mem_cons.mpr ⟨xr_9_21, (List.forall_mem_cons.mpr ⟨xr_9_22, (List.forall_mem_cons.mpr ⟨xr_9_23, (List.forall_mem_cons.mpr ⟨xr_9_24, (List.forall_mem_cons.mpr ⟨xr_9_25, (List.forall_mem_cons.mpr ⟨xr_9_26, (List.forall_mem_cons.mpr ⟨xr_9_27, (List.forall_mem_cons.mpr ⟨xr_9_28, (List.forall_mem_cons.mpr ⟨xr_9_29, (List.forall_mem_cons.mpr ⟨xr_9_30, (List.forall_mem_cons.mpr ⟨xr_9_31, (List.forall_mem_cons.mpr ⟨xr_9_32, (List.forall_mem_cons.mpr ⟨xr_9_33, (List.forall_mem_cons.mpr ⟨xr_9_34, (List.forall_mem_cons.mpr ⟨xr_9_35, (List.forall_mem_cons.mpr ⟨xr_9_36, (List.forall_mem_cons.mpr ⟨xr_9_37, (List.forall_mem_cons.mpr ⟨xr_9_38, (List.forall_mem_cons.mpr ⟨xr_9_39, (List.forall_mem_cons.mpr ⟨xr_9_40, (List.forall_mem_cons.mpr ⟨xr_9_41, (List.forall_mem_cons.mpr ⟨xr_9_42, (List.forall_mem_cons.mpr ⟨xr_9_43, (List.forall_mem_cons.mpr ⟨xr_9_44, (List.forall_mem_cons.mpr ⟨xr_9_45, (List.forall_mem_cons.mpr ⟨xr_9_46, (List.forall_mem_cons.mpr ⟨xr_9_47, (List.forall_mem_cons.mpr ⟨xr_9_48, (List.forall_mem_cons.mpr ⟨xr_9_49, (List.forall_mem_cons.mpr ⟨xr_9_50, (List.forall_mem_cons.mpr ⟨xr_9_51, (List.forall_mem_cons.mpr ⟨xr_9_52, (List.forall_mem_cons.mpr ⟨xr_9_53, (List.forall_mem_cons.mpr ⟨xr_9_54, (List.forall_mem_cons.mpr ⟨xr_9_55, (List.forall_mem_cons.mpr ⟨xr_9_56, (List.forall_mem_cons.mpr ⟨xr_9_57, (List.forall_mem_cons.mpr ⟨xr_9_58, (List.forall_mem_cons.mpr ⟨xr_9_59, (List.forall_mem_cons.mpr ⟨xr_9_60, (List.forall_mem_cons.mpr ⟨xr_9_61, (List.forall_mem_cons.mpr ⟨xr_9_62, (List.forall_mem_cons.mpr ⟨xr_9_63, (List.forall_mem_cons.mpr ⟨xr_9_64, (List.forall_mem_cons.mpr ⟨xr_9_65, (List.forall_mem_cons.mpr ⟨xr_9_66, (List.forall_mem_cons.mpr ⟨xr_9_67, (List.forall_mem_cons.mpr ⟨xr_9_68, (List.forall_mem_cons.mpr ⟨xr_9_69, (List.forall_mem_cons.mpr ⟨xr_9_70, (List.forall_mem_cons.mpr ⟨xr_9_71, (List.forall_mem_cons.mpr ⟨xr_9_72, (List.forall_mem_cons.mpr ⟨xr_9_73, (List.forall_mem_cons.mpr ⟨xr_9_74, (fun _ h => nomatch h)⟩)⟩)⟩)⟩)⟩)⟩)⟩)⟩)⟩)⟩)⟩)⟩)⟩)⟩)⟩)⟩)⟩)⟩)⟩)⟩)⟩)⟩)⟩)⟩)⟩)⟩)⟩)⟩)⟩)⟩)⟩)⟩)⟩)⟩)⟩)⟩)⟩)⟩)⟩)⟩)⟩)⟩)⟩)⟩)⟩)⟩)⟩)⟩)⟩)⟩)⟩)⟩)⟩)⟩)⟩)⟩)⟩)⟩)⟩)⟩)⟩)⟩)⟩)⟩)⟩)⟩)⟩)⟩)⟩)⟩)⟩)⟩)⟩)⟩)⟩)
theorem xpl_ok (w : Nat) : ∀ q ∈ xpl w, xokp w q := by
  unfold xpl
  split
  · exact xq_0
  · exact xq_1
  · exact xq_2
  · exact xq_3
  · exact xq_4
  · exact xq_5
  · exact xq_6
  · exact xq_7
  · exact xq_8
  · exact xq_9
  · exact fun _ h => nomatch h
theorem xpf_ok {w i k a b : Nat} (h : xpf w i = some (k, a, b)) : xokp w (i, k, a, b) := by
  unfold xpf at h
  obtain ⟨q, hq, he⟩ := Option.map_eq_some_iff.mp h
  have h1 := List.mem_of_find?_eq_some hq
  have h2 := List.find?_some hq
  have h3 := xpl_ok w q h1
  obtain ⟨i', r⟩ := q
  have e1 : i' = i := by simpa using h2
  have e2 : r = (k, a, b) := he
  rw [e1, e2] at h3
  exact h3
end
section
/-! A small machine: the instructions that occur, over a heap that is a function from addresses to cells; its runs are functions, so they can be reckoned with. That the real machine does the same is part 05. -/
abbrev xE : Type := (Nat × vp_A) ⊕ (Nat × List Value)
/-- the heap: its cells, the next address (0: not known any more), cells and slots made so far -/
abbrev xH : Type := (Nat → Option xE) × Nat × Nat × Nat
abbrev xL : Type := List (Option Value)
/-- returned, or thrown: the class's number -/
abbrev xR : Type := (Option Value) ⊕ Nat
abbrev xC : Type := Nat × xL × List Value × xH
def xup (h : xH) (a : Nat) (e : xE) : xH := (fun b => if b = a then some e else h.1 b, h.2)
def xnew (h : xH) (e : xE) (n : Nat) : xH := (fun b => if b = h.2.1 then some e else h.1 b, h.2.1 + 1, h.2.2.1 + 1, h.2.2.2 + n)
def xdead (h : xH) : xH := (h.1, 0, h.2.2.1 + 1, h.2.2.2 + 6)
/-- the pools' entries of the three exceptions' constructors in PairNames -/
def xic : Nat → Nat := fun e => match e with
  | 0 => 48
  | 1 => 69
  | _ => 98
def xtg (pc : Nat) (off : Int) : Option Int := if 0 ≤ (pc : Int) + off then some ((pc : Int) + off) else none
/-- an exception's making and throwing: the four instructions behind 'new' -/
def xthr (y pc e : Nat) : Bool := decide (xmo y = 7) && decide (e < 3) && decide (decode (xmb y) (pc + 3) = .ok (.dup, 1)) && (match decode (xmb y) (pc + 4) with
  | .ok (.ldc is, 2) => (match xpf 7 is with
    | some (11, _, _) => true
    | _ => false)
  | _ => false) && decide (decode (xmb y) (pc + 6) = .ok (.invokespecial (xic e), 3)) && decide (decode (xmb y) (pc + 9) = .ok (.athrow, 1)) && decide (xmh y = []) && decide (6 ≤ xmf y) && decide (90 ≤ xmc y)
/-- there is room for a call -/
def xrm (y z : Nat) : Bool := decide (xmf z + 1 ≤ xmf y) && decide (8 + (xml z + 11) + xmc z ≤ xmc y)
def xfin (y ci k : Nat) : Bool := (xT ci k).2.2.2 == false || ((xmy y).name == "<init>" && (xT ci k).1 == xcn (xmo y))
def xtr (y pc : Nat) (i : Instr) (len : Nat) : Option (Instr × Nat) := match i with
  | .iload_n k => if len = 1 then some (.iload k.val, pc + 1) else none
  | .iload k => if len = 2 then some (.iload k, pc + 2) else none
  | .aload_n k => if len = 1 then some (.aload k.val, pc + 1) else none
  | .aload k => if len = 2 then some (.aload k, pc + 2) else none
  | .lload_n k => if len = 1 then some (.lload k.val, pc + 1) else none
  | .lload k => if len = 2 then some (.lload k, pc + 2) else none
  | .dload_n k => if len = 1 then some (.dload k.val, pc + 1) else none
  | .dload k => if len = 2 then some (.dload k, pc + 2) else none
  | .istore_n k => if len = 1 then some (.istore k.val, pc + 1) else none
  | .istore k => if len = 2 then some (.istore k, pc + 2) else none
  | .astore_n k => if len = 1 then some (.astore k.val, pc + 1) else none
  | .astore k => if len = 2 then some (.astore k, pc + 2) else none
  | .lstore_n k => if len = 1 then some (.lstore k.val, pc + 1) else none
  | .lstore k => if len = 2 then some (.lstore k, pc + 2) else none
  | .dstore_n k => if len = 1 then some (.dstore k.val, pc + 1) else none
  | .dstore k => if len = 2 then some (.dstore k, pc + 2) else none
  | .iconst n => if len = 1 then some (.iconst n, pc + 1) else none
  | .bipush n => if len = 2 ∧ (Int8.ofInt n).toInt32 = Int32.ofInt n then some (.iconst n, pc + 2) else none
  | .sipush n => if len = 3 ∧ (Int16.ofInt n).toInt32 = Int32.ofInt n then some (.iconst n, pc + 3) else none
  | .lconst k => if len = 1 then some (.lconst k, pc + 1) else none
  | .dconst k => if len = 1 then some (.dconst k, pc + 1) else none
  | .ldc2_w i => if len = 3 then (match xpf (xmo y) i with
    | some (9, k, _) => some (.ldc2_w (2 * k), pc + 3)
    | some (10, k, _) => some (.ldc2_w (2 * k + 1), pc + 3)
    | _ => none) else none
  | .aconst_null => if len = 1 then some (.aconst_null, pc + 1) else none
  | .iadd => if len = 1 then some (.iadd, pc + 1) else none
  | .isub => if len = 1 then some (.isub, pc + 1) else none
  | .imul => if len = 1 then some (.imul, pc + 1) else none
  | .iand => if len = 1 then some (.iand, pc + 1) else none
  | .ladd => if len = 1 then some (.ladd, pc + 1) else none
  | .lsub => if len = 1 then some (.lsub, pc + 1) else none
  | .lmul => if len = 1 then some (.lmul, pc + 1) else none
  | .lor => if len = 1 then some (.lor, pc + 1) else none
  | .lshl => if len = 1 then some (.lshl, pc + 1) else none
  | .lcmp => if len = 1 then some (.lcmp, pc + 1) else none
  | .dmul => if len = 1 then some (.dmul, pc + 1) else none
  | .dsub => if len = 1 then some (.dsub, pc + 1) else none
  | .ddiv => if len = 1 then some (.ddiv, pc + 1) else none
  | .dneg => if len = 1 then some (.dneg, pc + 1) else none
  | .dcmp o => if len = 1 then some (.dcmp o, pc + 1) else none
  | .i2l => if len = 1 then some (.i2l, pc + 1) else none
  | .i2d => if len = 1 then some (.i2d, pc + 1) else none
  | .l2d => if len = 1 then some (.l2d, pc + 1) else none
  | .d2l => if len = 1 then some (.d2l, pc + 1) else none
  | .dup => if len = 1 then some (.dup, pc + 1) else none
  | .dup2 => if len = 1 then some (.dup2, pc + 1) else none
  | .pop => if len = 1 then some (.pop, pc + 1) else none
  | .iinc k n => if len = 3 then some (.iinc k n, pc + 3) else none
  | .goto off => if len = 3 then (xtg pc off).map (fun t => (.goto t, pc + 3)) else none
  | .if_icmp c off => if len = 3 then (xtg pc off).map (fun t => (.if_icmp c t, pc + 3)) else none
  | .ifCond c off => if len = 3 then (xtg pc off).map (fun t => (.ifCond c t, pc + 3)) else none
  | .ifnull off => if len = 3 then (xtg pc off).map (fun t => (.ifnull t, pc + 3)) else none
  | .tableswitch d lo hi offs => if (0 ≤ (pc : Int) + d ∧ offs.all (fun o => decide (0 ≤ (pc : Int) + o)) = true) then some (.tableswitch (pc + d) lo hi (offs.map (fun o => pc + o)), pc) else none
  | .iaload => if len = 1 then some (.iaload, pc + 1) else none
  | .iastore => if len = 1 then some (.iastore, pc + 1) else none
  | .laload => if len = 1 then some (.laload, pc + 1) else none
  | .lastore => if len = 1 then some (.lastore, pc + 1) else none
  | .aaload => if len = 1 then some (.aaload, pc + 1) else none
  | .aastore => if len = 1 then some (.aastore, pc + 1) else none
  | .arraylength => if len = 1 then some (.arraylength, pc + 1) else none
  | .newarray t => if len = 2 then some (.newarray t, pc + 2) else none
  | .anewarray i => if len = 3 ∧ (xpf (xmo y) i = some (7, 6, 0)) then some (.anewarray 6, pc + 3) else none
  | .getfield i => if len = 3 then (match xpf (xmo y) i with
    | some (0, ci, k) => some (.getfield (64 * ci + k), pc + 3)
    | some (1, ci, k) => some (.getfield (64 * ci + k), pc + 3)
    | _ => none) else none
  | .putfield i => if len = 3 then (match xpf (xmo y) i with
    | some (0, ci, k) => if xfin y ci k = true then some (.putfield (64 * ci + k), pc + 3) else none
    | some (1, ci, k) => if (xT ci k).2.2.2 = false then some (.putfield (64 * ci + k), pc + 3) else none
    | _ => none) else none
  | .new i => if len = 3 then (match xpf (xmo y) i with
    | some (7, ci, _) => some (.new ci, pc + 3)
    | some (8, e, _) => if xthr y pc e = true then some (.new (100 + e), pc + 3) else none
    | _ => none) else none
  | .invokevirtual i => if len = 3 then (match xpf (xmo y) i with
    | some (2, z, _) => if xrm y z = true ∧ xmh z = [] ∧ z < 1000 then some (.invokevirtual z, pc + 3) else none
    | _ => none) else none
  | .invokestatic i => if len = 3 then (match xpf (xmo y) i with
    | some (3, z, _) => if xrm y z = true ∧ z < 1000 then some (.invokestatic z, pc + 3) else none
    | some (12, _, _) => if 1 ≤ xmf y ∧ 21 ≤ xmc y then some (.invokestatic 1001, pc + 3) else none
    | some (13, _, _) => if 1 ≤ xmf y ∧ 21 ≤ xmc y then some (.invokestatic 1002, pc + 3) else none
    | _ => none) else none
  | .invokespecial i => if len = 3 then (match xpf (xmo y) i with
    | some (4, z, _) => if xrm y z = true ∧ z < 1000 then some (.invokespecial z, pc + 3) else none
    | some (5, z, _) => if xrm y z = true ∧ z < 1000 then some (.invokespecial z, pc + 3) else none
    | some (6, _, _) => if 1 ≤ xmf y ∧ 20 ≤ xmc y then some (.invokespecial 1000, pc + 3) else none
    | _ => none) else none
  | .ireturn => if len = 1 then some (.ireturn, pc + 1) else none
  | .lreturn => if len = 1 then some (.lreturn, pc + 1) else none
  | .dreturn => if len = 1 then some (.dreturn, pc + 1) else none
  | .return_ => if len = 1 then some (.return_, pc + 1) else none
  | _ => none
/-- the instruction at a place, and the place behind it -/
def xop (y pc : Nat) : Option (Instr × Nat) := match decode (xmb y) pc with
  | .ok (i, len) => xtr y pc i len
  | _ => none
/-- the handler of a place: where the caught one lies, and the local that it goes to -/
def xhs (y pc e : Nat) : List (Nat × Nat × Nat × Nat) → Option (Nat × Nat)
  | [] => none
  | (s, t, hp, ct) :: r => if s ≤ pc ∧ pc < t then (if ct = 0 then none else (match xpf (xmo y) ct with
    | some (8, e', _) => if e' = e then (match decode (xmb y) hp with
      | .ok (.astore_n k, 1) => if k.val < xml y then some (hp, k.val) else none
      | _ => none) else xhs y pc e r
    | _ => none)) else xhs y pc e r
def xrcv (h : xH) (b c : Nat) : Bool := match h.1 b with
  | some (.inr (d, _)) => d == c
  | _ => false
def xcat (v : Option Value) : Option Value := match v with
  | some w => if w.category = 2 then none else some w
  | none => none
/-- storing a value of one slot, of two -/
def xs1 : xL → Nat → Value → xL
  | [], _, _ => []
  | _ :: r, 0, v => some v :: r
  | [_], _ + 1, _ => [none]
  | a :: _ :: r, 1, v => xcat a :: some v :: r
  | a :: b :: r, k + 2, v => a :: xs1 (b :: r) (k + 1) v
def xs2 : xL → Nat → Value → xL
  | [], _, _ => []
  | [_], _, _ => [none]
  | _ :: _ :: r, 0, v => some v :: none :: r
  | [_, _], _ + 1, _ => [none, none]
  | a :: _ :: _ :: r, 1, v => xcat a :: some v :: none :: r
  | a :: b :: c :: r, k + 2, v => a :: xs2 (b :: c :: r) (k + 1) v
def xnx (n : Nat) (L : xL) (st : List Value) (h : xH) : Option (xC ⊕ (xR × xH)) := some (.inl (n, L, st, h))
def xfit (ty : FieldType) (v : Value) : Bool := match ty, v with
  | .int, .int _ => true
  | .boolean, .int x => x == 0 || x == 1
  | .long, .long _ => true
  | .object _, .ref _ => true
  | .array _, .ref _ => true
  | _, _ => false
def xnr (ty : Option FieldType) (x : Int32) : Bool := match ty with
  | some .int => true
  | some .boolean => x == 0 || x == 1
  | _ => false
def xbr {α : Type} (c : Bool) (a b : α) : α := if c = true then a else b
def xcmp (c : ClassFile.Cond) (a b : Int32) : Bool := match c with
  | .eq => decide (a = b)
  | .ne => decide (a ≠ b)
  | .lt => decide (a < b)
  | .ge => decide (b ≤ a)
  | .gt => decide (b < a)
  | .le => decide (a ≤ b)
def xdef (ci : Nat) : List Value := (List.range (xN ci)).map (fun j => defaultValue (xty ci j))
def xargs : List Value → xL
  | [] => []
  | v :: vs => if v.category = 2 then some v :: none :: xargs vs else some v :: xargs vs
/-- a call: the method, its arguments, what stays on the stack -/
def xca (o : Instr) (st : List Value) (h : xH) : Option (Nat × List Value × List Value) := match o with
  | .invokevirtual z => (match st.drop (xna z) with
    | .ref b :: rest => if xrcv h b (xmo z) = true ∧ rest.length ≤ 4 ∧ (xargs (.ref b :: (st.take (xna z)).reverse)).length ≤ xml z then some (z, .ref b :: (st.take (xna z)).reverse, rest) else none
    | _ => none)
  | .invokestatic z => if z < 1000 ∧ (st.drop (xna z)).length ≤ 4 ∧ xna z ≤ st.length ∧ (xargs (st.take (xna z)).reverse).length ≤ xml z then some (z, (st.take (xna z)).reverse, st.drop (xna z)) else none
  | .invokespecial z => if z < 1000 then (match st.drop (xna z) with
    | .ref b :: rest => if rest.length ≤ 4 ∧ (xargs (.ref b :: (st.take (xna z)).reverse)).length ≤ xml z then some (z, .ref b :: (st.take (xna z)).reverse, rest) else none
    | _ => none) else none
  | _ => none
def xsp (i : Instr) : Bool := match i with
  | .invokespecial _ => true
  | _ => false
def xret (sp : Bool) (y pc n : Nat) (L : xL) (rest : List Value) (r : Option (xR × xH)) : Option (xC ⊕ (xR × xH)) := match r with
  | some (.inl (some v), h) => xnx n L (v :: rest) h
  | some (.inl none, h) => xnx n L rest h
  | some (.inr e, h) => (match (if sp = true then none else xhs y pc e (xmh y)) with
    | some (hp, k) => xnx (hp + 1) ((xs1 L k .null).set k none) [] h
    | none => none)
  | none => none
/-- no NaN -/
def xnn (x : UInt64) : Bool := decide (x &&& 0x7fffffffffffffff ≤ 0x7ff0000000000000)
/-- the step of an instruction that calls nothing -/
def xloc (y : Nat) (i : Instr) (n : Nat) (L : xL) (st : List Value) (h : xH) : Option (xC ⊕ (xR × xH)) := match i with
  | .iload k => (match L[k]? with
    | some (some (.int x)) => xnx n L (.int x :: st) h
    | _ => none)
  | .aload k => (match L[k]? with
    | some (some (.ref x)) => xnx n L (.ref x :: st) h
    | some (some .null) => xnx n L (.null :: st) h
    | _ => none)
  | .lload k => (match L[k]? with
    | some (some (.long x)) => xnx n L (.long x :: st) h
    | _ => none)
  | .dload k => (match L[k]? with
    | some (some (.double x)) => xnx n L (.double x :: st) h
    | _ => none)
  | .istore k => (match st with
    | .int x :: st => if k < L.length then xnx n (xs1 L k (.int x)) st h else none
    | _ => none)
  | .astore k => (match st with
    | .ref x :: st => if k < L.length then xnx n (xs1 L k (.ref x)) st h else none
    | .null :: st => if k < L.length then xnx n (xs1 L k .null) st h else none
    | _ => none)
  | .lstore k => (match st with
    | .long x :: st => if k + 1 < L.length then xnx n (xs2 L k (.long x)) st h else none
    | _ => none)
  | .dstore k => (match st with
    | .double x :: st => if k + 1 < L.length then xnx n (xs2 L k (.double x)) st h else none
    | _ => none)
  | .iconst k => xnx n L (.int (Int32.ofInt k) :: st) h
  | .lconst k => xnx n L (.long (Int64.ofNat k.val) :: st) h
  | .dconst k => xnx n L (.double (if k = 0 then FP.dconst0 else FP.dconst1) :: st) h
  | .ldc2_w k => if k % 2 = 0 then xnx n L (.long ((xls[k / 2]?).getD 0) :: st) h else xnx n L (.double ((xds[k / 2]?).getD 0) :: st) h
  | .aconst_null => xnx n L (.null :: st) h
  | .iadd => (match st with
    | .int b :: .int a :: st => xnx n L (.int (a + b) :: st) h
    | _ => none)
  | .isub => (match st with
    | .int b :: .int a :: st => xnx n L (.int (a - b) :: st) h
    | _ => none)
  | .imul => (match st with
    | .int b :: .int a :: st => xnx n L (.int (a * b) :: st) h
    | _ => none)
  | .iand => (match st with
    | .int b :: .int a :: st => xnx n L (.int (a &&& b) :: st) h
    | _ => none)
  | .ladd => (match st with
    | .long b :: .long a :: st => xnx n L (.long (a + b) :: st) h
    | _ => none)
  | .lsub => (match st with
    | .long b :: .long a :: st => xnx n L (.long (a - b) :: st) h
    | _ => none)
  | .lmul => (match st with
    | .long b :: .long a :: st => xnx n L (.long (a * b) :: st) h
    | _ => none)
  | .lor => (match st with
    | .long b :: .long a :: st => xnx n L (.long (a ||| b) :: st) h
    | _ => none)
  | .lshl => (match st with
    | .int b :: .long a :: st => xnx n L (.long (a <<< (b.toInt64 &&& 63)) :: st) h
    | _ => none)
  | .lcmp => (match st with
    | .long b :: .long a :: st => xnx n L (.int (lg_cmp a b) :: st) h
    | _ => none)
  | .dmul => (match st with
    | .double b :: .double a :: st => if xnn (FP.dmul a b) = true then xnx n L (.double (FP.dmul a b) :: st) h else none
    | _ => none)
  | .dsub => (match st with
    | .double b :: .double a :: st => if xnn (FP.dsub a b) = true then xnx n L (.double (FP.dsub a b) :: st) h else none
    | _ => none)
  | .ddiv => (match st with
    | .double b :: .double a :: st => if xnn (FP.ddiv a b) = true then xnx n L (.double (FP.ddiv a b) :: st) h else none
    | _ => none)
  | .dneg => (match st with
    | .double a :: st => xnx n L (.double (FP.dneg a) :: st) h
    | _ => none)
  | .dcmp o => (match st with
    | .double b :: .double a :: st => xnx n L (.int (Op.cmpValue (FP.dcmp a b) o) :: st) h
    | _ => none)
  | .i2l => (match st with
    | .int a :: st => xnx n L (.long a.toInt64 :: st) h
    | _ => none)
  | .i2d => (match st with
    | .int a :: st => xnx n L (.double (FP.i2d a) :: st) h
    | _ => none)
  | .l2d => (match st with
    | .long a :: st => xnx n L (.double (FP.l2d a) :: st) h
    | _ => none)
  | .d2l => (match st with
    | .double a :: st => xnx n L (.long (FP.d2l a) :: st) h
    | _ => none)
  | .dup => (match st with
    | a :: st => if a.category = 1 then xnx n L (a :: a :: st) h else none
    | _ => none)
  | .dup2 => (match st with
    | a :: b :: st => if a.category = 1 ∧ b.category = 1 then xnx n L (a :: b :: a :: b :: st) h else none
    | _ => none)
  | .pop => (match st with
    | a :: st => if a.category = 1 then xnx n L st h else none
    | _ => none)
  | .iinc k c => (match L[k]? with
    | some (some (.int x)) => xnx n (xs1 L k (.int (x + Int32.ofInt c))) st h
    | _ => none)
  | .goto t => xnx t.toNat L st h
  | .if_icmp c t => (match st with
    | .int b :: .int a :: st => xbr (xcmp c a b) (xnx t.toNat L st h) (xnx n L st h)
    | _ => none)
  | .ifCond c t => (match st with
    | .int a :: st => xbr (xcmp c a 0) (xnx t.toNat L st h) (xnx n L st h)
    | _ => none)
  | .ifnull t => (match st with
    | .null :: st => xnx t.toNat L st h
    | .ref _ :: st => xnx n L st h
    | _ => none)
  | .tableswitch d lo hi ts => (match st with
    | .int a :: st => if a.toInt < lo ∨ hi < a.toInt then xnx d.toNat L st h else (match ts[(a.toInt - lo).toNat]? with
      | some t => xnx t.toNat L st h
      | none => none)
    | _ => none)
  | .iaload => (match st with
    | .int i :: .ref a :: st => (match h.1 a with
      | some (.inl (k, m, .inl f)) => if (k = 0 ∨ k = 3) ∧ ¬ i < 0 ∧ i.toNatClampNeg < m then xnx n L (.int (f i.toNatClampNeg) :: st) h else none
      | _ => none)
    | _ => none)
  | .laload => (match st with
    | .int i :: .ref a :: st => (match h.1 a with
      | some (.inl (1, m, .inr (.inl f))) => if ¬ i < 0 ∧ i.toNatClampNeg < m then xnx n L (.long (f i.toNatClampNeg) :: st) h else none
      | _ => none)
    | _ => none)
  | .aaload => (match st with
    | .int i :: .ref a :: st => (match h.1 a with
      | some (.inl (2, m, .inr (.inr (.inr (.inr f))))) => if ¬ i < 0 ∧ i.toNatClampNeg < m then xnx n L (va_rf (f i.toNatClampNeg) :: st) h else none
      | _ => none)
    | _ => none)
  | .iastore => (match st with
    | .int v :: .int i :: .ref a :: st => (match h.1 a with
      | some (.inl (0, m, .inl f)) => if ¬ i < 0 ∧ i.toNatClampNeg < m then xnx n L st (xup h a (.inl (0, m, .inl (va_up f i.toNatClampNeg v)))) else none
      | _ => none)
    | _ => none)
  | .lastore => (match st with
    | .long v :: .int i :: .ref a :: st => (match h.1 a with
      | some (.inl (1, m, .inr (.inl f))) => if ¬ i < 0 ∧ i.toNatClampNeg < m then xnx n L st (xup h a (.inl (1, m, .inr (.inl (va_up f i.toNatClampNeg v))))) else none
      | _ => none)
    | _ => none)
  | .aastore => (match st with
    | .ref v :: .int i :: .ref a :: st => (match h.1 a with
      | some (.inl (2, m, .inr (.inr (.inr (.inr f))))) => if xrcv h v 6 = true ∧ ¬ i < 0 ∧ i.toNatClampNeg < m then xnx n L st (xup h a (.inl (2, m, .inr (.inr (.inr (.inr (va_up f i.toNatClampNeg (some v)))))))) else none
      | _ => none)
    | _ => none)
  | .arraylength => (match st with
    | .ref a :: st => (match h.1 a with
      | some (.inl (_, m, _)) => xnx n L (.int (Int32.ofNat m) :: st) h
      | _ => none)
    | _ => none)
  | .newarray t => (match st with
    | .int i :: st => if h.2.1 ≠ 0 ∧ ¬ i < 0 ∧ i.toNatClampNeg ≤ 1000 then (match t with
      | .int => xnx n L (.ref h.2.1 :: st) (xnew h (.inl (0, i.toNatClampNeg, .inl (fun _ => 0))) i.toNatClampNeg)
      | .long => xnx n L (.ref h.2.1 :: st) (xnew h (.inl (1, i.toNatClampNeg, .inr (.inl (fun _ => 0)))) i.toNatClampNeg)
      | _ => none) else none
    | _ => none)
  | .anewarray _ => (match st with
    | .int i :: st => if h.2.1 ≠ 0 ∧ ¬ i < 0 ∧ i.toNatClampNeg ≤ 1000 then xnx n L (.ref h.2.1 :: st) (xnew h (.inl (2, i.toNatClampNeg, .inr (.inr (.inr (.inr (fun _ => none)))))) i.toNatClampNeg) else none
    | _ => none)
  | .getfield r => (match st with
    | .ref a :: st => (match h.1 a with
      | some (.inr (c, fs)) => if c = r / 64 then (match fs[r % 64]? with
        | some v => xnx n L (v :: st) h
        | none => none) else none
      | _ => none)
    | _ => none)
  | .putfield r => (match st with
    | v :: .ref a :: st => (match h.1 a with
      | some (.inr (c, fs)) => if c = r / 64 ∧ r % 64 < fs.length ∧ xfit (xty (r / 64) (r % 64)) v = true then xnx n L st (xup h a (.inr (c, fs.set (r % 64) v))) else none
      | _ => none)
    | _ => none)
  | .new c => if c < 100 then (if h.2.1 ≠ 0 then xnx n L (.ref h.2.1 :: st) (xnew h (.inr (c, xdef c)) (xN c)) else none) else (if st.length ≤ 4 then some (.inr (.inr (c - 100), xdead h)) else none)
  | .invokestatic z => (match st with
    | .int b :: .int a :: st => if st.length ≤ 4 then (if z = 1001 then xnx n L (.int (if a < b then b else a) :: st) h else if z = 1002 then xnx n L (.int (if b < a then b else a) :: st) h else none) else none
    | _ => none)
  | .invokespecial z => (match st with
    | .ref _ :: st => if z = 1000 ∧ st.length ≤ 4 then xnx n L st h else none
    | _ => none)
  | .ireturn => (match st with
    | [.int x] => if xnr (xmr y) x = true then some (.inr (.inl (some (.int x)), h)) else none
    | _ => none)
  | .lreturn => (match st with
    | [.long x] => if xmr y = some .long then some (.inr (.inl (some (.long x)), h)) else none
    | _ => none)
  | .dreturn => (match st with
    | [.double x] => if xmr y = some .double then some (.inr (.inl (some (.double x)), h)) else none
    | _ => none)
  | .return_ => (match st with
    | [] => if xmr y = none then some (.inr (.inl none, h)) else none
    | _ => none)
  | _ => none
abbrev xCall : Type := Nat → List Value → xH → Option (xR × xH)
def xstep (call : xCall) (y : Nat) (o : Option (Instr × Nat)) (pc : Nat) (L : xL) (st : List Value) (h : xH) : Option (xC ⊕ (xR × xH)) := match o with
  | none => none
  | some (i, n) => (match xca i st h with
    | some (z, a, rest) => xret (xsp i) y pc n L rest (call z a h)
    | none => xloc y i n L st h)
/-- the locals at a method's entry -/
def xent (z : Nat) (a : List Value) : xL := xargs a ++ List.replicate (xml z - (xargs a).length) none
def xrun : Nat → Nat → Nat → xL → List Value → xH → Option (xR × xH)
  | 0, _, _, _, _, _ => none
  | k + 1, y, pc, L, st, h => (match xstep (fun z a h => xrun k z 0 (xent z a) [] h) y (xop y pc) pc L st h with
    | some (.inl (pc', L', st', h')) => xrun k y pc' L' st' h'
    | some (.inr r) => some r
    | none => none)
def xRuns (y pc : Nat) (L : xL) (st : List Value) (h : xH) (r : xR × xH) : Prop := ∃ k : Nat, xrun k y pc L st h = some r
/-- what a run from here comes to -/
noncomputable def xf (y pc : Nat) (L : xL) (st : List Value) (h : xH) : Option (xR × xH) := @dite _ (∃ r, xRuns y pc L st h r) (Classical.propDecidable _) (fun p => some (Classical.choose p)) (fun _ => none)
/-- what a call comes to -/
noncomputable def xev (z : Nat) (a : List Value) (h : xH) : Option (xR × xH) := xf z 0 (xent z a) [] h
noncomputable def xk (y : Nat) (c : Option (xC ⊕ (xR × xH))) : Option (xR × xH) := match c with
  | some (.inl (pc, L, st, h)) => xf y pc L st h
  | some (.inr r) => some r
  | none => none
theorem xstep_mono {c1 c2 : xCall} (hc : ∀ z a h r, c1 z a h = some r → c2 z a h = some r) {y : Nat} {o : Option (Instr × Nat)} {pc : Nat} {L : xL} {st : List Value} {h : xH} {r : xC ⊕ (xR × xH)} (hs : xstep c1 y o pc L st h = some r) : xstep c2 y o pc L st h = some r := by
  cases o with
  | none => exact hs
  | some q =>
    obtain ⟨i, n⟩ := q
    unfold xstep at hs ⊢
    cases ha : xca i st h with
    | none => simp only [ha] at hs ⊢; exact hs
    | some w =>
      obtain ⟨z, a, rest⟩ := w
      simp only [ha] at hs ⊢
      cases hz : c1 z a h with
      | none => rw [hz] at hs; simp [xret] at hs
      | some v => rw [hz] at hs; rw [hc _ _ _ _ hz]; exact hs
theorem xrun_succ : ∀ (k y pc : Nat) (L : xL) (st : List Value) (h : xH) (r : xR × xH), xrun k y pc L st h = some r → xrun (k + 1) y pc L st h = some r := by
  intro k
  induction k with
  | zero => intro y pc L st h r hr; simp [xrun] at hr
  | succ k ih =>
    intro y pc L st h r hr
    rw [xrun] at hr ⊢
    cases hs : xstep (fun z a h => xrun k z 0 (xent z a) [] h) y (xop y pc) pc L st h with
    | none => simp [hs] at hr
    | some q =>
      rw [xstep_mono (c2 := fun z a h => xrun (k + 1) z 0 (xent z a) [] h) (fun z a h r hr => ih _ _ _ _ _ _ hr) hs]
      rw [hs] at hr
      cases q with
      | inl c => obtain ⟨pc', L', st', h'⟩ := c; exact ih _ _ _ _ _ _ hr
      | inr r' => exact hr
theorem xrun_le {k m y pc : Nat} {L : xL} {st : List Value} {h : xH} {r : xR × xH} (hkm : k ≤ m) (hr : xrun k y pc L st h = some r) : xrun m y pc L st h = some r := by
  induction m with
  | zero => rw [Nat.le_zero.mp hkm] at hr; exact hr
  | succ m ih =>
    by_cases hk : k = m + 1
    · rw [← hk]; exact hr
    · exact xrun_succ _ _ _ _ _ _ _ (ih (by omega))
theorem xRuns_det {y pc : Nat} {L : xL} {st : List Value} {h : xH} {r r' : xR × xH} (h1 : xRuns y pc L st h r) (h2 : xRuns y pc L st h r') : r = r' := by
  obtain ⟨k, hk⟩ := h1
  obtain ⟨m, hm⟩ := h2
  have a := xrun_le (Nat.le_max_left k m) hk
  have b := xrun_le (Nat.le_max_right k m) hm
  exact Option.some.inj (a.symm.trans b)
theorem xf_of {y pc : Nat} {L : xL} {st : List Value} {h : xH} {r : xR × xH} (h1 : xRuns y pc L st h r) : xf y pc L st h = some r := by
  unfold xf
  have hx : ∃ r, xRuns y pc L st h r := ⟨r, h1⟩
  rw [dif_pos hx]
  exact congrArg some (xRuns_det (Classical.choose_spec hx) h1)
theorem xf_runs {y pc : Nat} {L : xL} {st : List Value} {h : xH} {r : xR × xH} (h1 : xf y pc L st h = some r) : xRuns y pc L st h r := by
  unfold xf at h1
  by_cases hx : ∃ r, xRuns y pc L st h r
  · rw [dif_pos hx] at h1
    have := Classical.choose_spec hx
    rw [Option.some.inj h1] at this
    exact this
  · rw [dif_neg hx] at h1
    cases h1
/-- THE STEP -/
theorem xf_step (y pc : Nat) (L : xL) (st : List Value) (h : xH) : xf y pc L st h = xk y (xstep xev y (xop y pc) pc L st h) := by
  have fwd : ∀ r, xRuns y pc L st h r → xk y (xstep xev y (xop y pc) pc L st h) = some r := by
    intro r ⟨k, hk⟩
    cases k with
    | zero => simp [xrun] at hk
    | succ k =>
      rw [xrun] at hk
      cases hs : xstep (fun z a h => xrun k z 0 (xent z a) [] h) y (xop y pc) pc L st h with
      | none => simp [hs] at hk
      | some q =>
        rw [xstep_mono (c2 := xev) (fun z a h r hr => xf_of ⟨k, hr⟩) hs]
        rw [hs] at hk
        cases q with
        | inl c => obtain ⟨pc', L', st', h'⟩ := c; exact xf_of ⟨k, hk⟩
        | inr r' => exact hk
  have bwd : ∀ r, xk y (xstep xev y (xop y pc) pc L st h) = some r → xRuns y pc L st h r := by
    intro r hr
    have key : ∀ q, xstep xev y (xop y pc) pc L st h = some q → ∃ k, xstep (fun z a h => xrun k z 0 (xent z a) [] h) y (xop y pc) pc L st h = some q := by
      intro q hq
      cases ho : xop y pc with
      | none => rw [ho] at hq; simp [xstep] at hq
      | some w =>
        obtain ⟨i, n⟩ := w
        rw [ho] at hq
        unfold xstep at hq ⊢
        cases ha : xca i st h with
        | none => simp only [ha] at hq ⊢; exact ⟨0, hq⟩
        | some w =>
          obtain ⟨z, a, rest⟩ := w
          simp only [ha] at hq ⊢
          cases hz : xev z a h with
          | none => rw [hz] at hq; simp [xret] at hq
          | some v =>
            obtain ⟨k, hk⟩ := xf_runs hz
            exact ⟨k, by rw [hk]; rw [hz] at hq; exact hq⟩
    cases hs : xstep xev y (xop y pc) pc L st h with
    | none => simp [hs, xk] at hr
    | some q =>
      obtain ⟨k, hk⟩ := key q hs
      rw [hs] at hr
      cases q with
      | inl c =>
        obtain ⟨pc', L', st', h'⟩ := c
        obtain ⟨m, hm⟩ := xf_runs (show xf y pc' L' st' h' = some r from hr)
        refine ⟨max k m + 1, ?_⟩
        rw [xrun, xstep_mono (c2 := fun z a h => xrun (max k m) z 0 (xent z a) [] h) (fun z a h r hr => xrun_le (Nat.le_max_left k m) hr) hk]
        exact xrun_le (Nat.le_max_right k m) hm
      | inr r' =>
        refine ⟨k + 1, ?_⟩
        rw [xrun, hk]
        exact hr
  cases hx : xf y pc L st h with
  | some r => exact (fwd r (xf_runs hx)).symm
  | none =>
    cases hy : xk y (xstep xev y (xop y pc) pc L st h) with
    | none => rfl
    | some r => rw [xf_of (bwd r hy)] at hx; cases hx
/-- the cells and slots made only grow -/
theorem xop_at {y pc : Nat} {o : Instr × Nat} (ho : xop y pc = some o) (L : xL) (st : List Value) (h : xH) : xf y pc L st h = xk y (xstep xev y (some o) pc L st h) := by
  rw [xf_step, ho]
end
section
/-! The small machine's heap and locals, and the real ones. -/
theorem xg_if {α : Type} {c : Prop} {d : Decidable c} {a b : α} (h : (@ite _ c d (some a) none) = some b) : c ∧ a = b := by
  by_cases hc : c
  · rw [if_pos hc] at h; exact ⟨hc, Option.some.inj h⟩
  · rw [if_neg hc] at h; cases h
theorem xg_if2 {α : Type} {c : Prop} {d : Decidable c} {a : Option α} {b : α} (h : (@ite _ c d a none) = some b) : c ∧ a = some b := by
  by_cases hc : c
  · rw [if_pos hc] at h; exact ⟨hc, h⟩
  · rw [if_neg hc] at h; cases h
theorem xnx_inj {n pc' : Nat} {L L' : xL} {st st' : List Value} {h h' : xH} (e : xnx n L st h = some (.inl (pc', L', st', h'))) : n = pc' ∧ L = L' ∧ st = st' ∧ h = h' := by
  unfold xnx at e; cases e; exact ⟨rfl, rfl, rfl, rfl⟩
theorem xtg_ok {pc : Nat} {off t : Int} (h : xtg pc off = some t) : (pc : Int) + off = (t.toNat : Int) := by
  unfold xtg at h
  obtain ⟨h1, h2⟩ := xg_if h
  omega
/-- numbers of the launch: classes and slots, array classes; the first address of our own; the script's cell, length, values -/
abbrev xG : Type := va_G × (Nat → ClassId) × Nat × Nat × Nat × (Nat → Int32)
def xA (G : xG) : Nat → Prop := fun q => G.2.2.1 ≤ q
def xat (G : xG) (s : State) (a : Nat) (e : xE) (H : Heap) : Prop := match e with
  | .inl (k, x) => if k = 3 then (a = G.2.2.2.1 ∧ x = (G.2.2.2.2.1, .inl G.2.2.2.2.2) ∧ va_X G.2.2.2.1 G.2.2.2.2.1 G.2.2.2.2.2 s H) else (k < 3 ∧ G.2.2.1 ≤ a ∧ H[a]? = some (vp_cell (G.2.1 k) x))
  | .inr o => G.2.2.1 ≤ a ∧ va_at G.1 vwCl (a, .inr o) H
def xRp (G : xG) (s : State) (h : xH) (H : Heap) : Prop := (∀ (a : Nat) (e : xE), h.1 a = some e → xat G s a e H) ∧ (h.2.1 ≠ 0 → H.size = h.2.1) ∧ G.2.2.1 ≤ H.size
theorem xat_kept {G : xG} {s : State} {a : Nat} {e : xE} {H H1 : Heap} (h : xat G s a e H) (hq : H1[a]? = H[a]?) : xat G s a e H1 := by
  cases e with
  | inl x =>
    obtain ⟨k, x⟩ := x
    unfold xat at h ⊢
    by_cases hk : k = 3
    · simp only [hk, if_true] at h ⊢
      obtain ⟨h1, h2, h3⟩ := h
      exact ⟨h1, h2, h3.kept (by rw [← h1]; exact hq)⟩
    · simp only [hk, if_false] at h ⊢
      exact ⟨h.1, h.2.1, hq.trans h.2.2⟩
  | inr o => exact ⟨h.1, h.2.kept hq⟩
theorem xat_moved {G : xG} {s U : State} {a : Nat} {e : xE} {H : Heap} (hvm : s.vm.Alike U.vm) (h : xat G s a e H) : xat G U a e H := by
  cases e with
  | inl x =>
    obtain ⟨k, x⟩ := x
    unfold xat at h ⊢
    by_cases hk : k = 3
    · simp only [hk, if_true] at h ⊢
      exact ⟨h.1, h.2.1, h.2.2.moved hvm⟩
    · simp only [hk, if_false] at h ⊢
      exact h
  | inr o => exact h
theorem xat_lt {G : xG} {s : State} {a : Nat} {e : xE} {H : Heap} (h : xat G s a e H) : a < H.size := by
  cases e with
  | inl x =>
    obtain ⟨k, x⟩ := x
    unfold xat at h
    by_cases hk : k = 3
    · simp only [hk, if_true] at h
      obtain ⟨h1, h2, scr, h3, -⟩ := h
      rw [h1]
      exact (Array.getElem?_eq_some_iff.mp h3).1
    · simp only [hk, if_false] at h
      exact (Array.getElem?_eq_some_iff.mp h.2.2).1
  | inr o => exact h.2.lt
theorem xRp_moved {G : xG} {s U : State} {h : xH} {H : Heap} (hvm : s.vm.Alike U.vm) (hR : xRp G s h H) : xRp G U h H := ⟨fun a e he => xat_moved hvm (hR.1 a e he), hR.2⟩
theorem xRp_put {G : xG} {s : State} {h : xH} {H H1 : Heap} {a : Nat} {e : xE} (hR : xRp G s h H) (he : xat G s a e H1) (z : H1.size = H.size) (oq : ∀ q : Nat, q ≠ a → H1[q]? = H[q]?) : xRp G s (xup h a e) H1 := by
  refine ⟨fun b x hb => ?_, fun hn => by rw [z]; exact hR.2.1 hn, by rw [z]; exact hR.2.2⟩
  by_cases hba : b = a
  · simp only [xup, hba, if_true] at hb
    cases hb
    rw [hba]
    exact he
  · simp only [xup, hba, if_false] at hb
    exact xat_kept (hR.1 b x hb) (oq b hba)
theorem xRp_new {G : xG} {s : State} {h : xH} {H H1 : Heap} {e : xE} {n : Nat} (hR : xRp G s h H) (hn : h.2.1 ≠ 0) (he : xat G s H.size e H1) (z : H1.size = H.size + 1) (oq : ∀ q : Nat, q < H.size → H1[q]? = H[q]?) : xRp G s (xnew h e n) H1 := by
  have hz := hR.2.1 hn
  refine ⟨fun b x hb => ?_, fun _ => by rw [z, hz]; rfl, Nat.le_trans hR.2.2 (by omega)⟩
  by_cases hba : b = h.2.1
  · simp only [xnew, hba, if_true] at hb
    cases hb
    rw [hba, ← hz]
    exact he
  · simp only [xnew, hba, if_false] at hb
    have := hR.1 b x hb
    exact xat_kept this (oq b (xat_lt this))
/-- locals -/
def xLr (ls : Array Slot) (L : xL) : Prop := ls.size = L.length ∧ lv_wf ls ∧ ∀ (i : Nat) (v : Value), L[i]? = some (some v) → ls[i]? = some (.val v)
def xpairs (L : xL) : List (Nat × Value) := (List.range L.length).filterMap (fun i => match L[i]? with
  | some (some v) => some (i, v)
  | _ => none)
theorem xpairs_of {L : xL} {i : Nat} {v : Value} (h : L[i]? = some (some v)) : (i, v) ∈ xpairs L := by
  unfold xpairs
  refine List.mem_filterMap.mpr ⟨i, List.mem_range.mpr (List.getElem?_eq_some_iff.mp h).1, ?_⟩
  rw [h]
theorem xpairs_to {L : xL} {q : Nat × Value} (h : q ∈ xpairs L) : L[q.1]? = some (some q.2) := by
  unfold xpairs at h
  obtain ⟨i, -, hi⟩ := List.mem_filterMap.mp h
  split at hi
  · rename_i v hv
    cases hi
    exact hv
  · cases hi
theorem xLr_has {ls : Array Slot} {L : xL} (h : xLr ls L) : lv_has ls L.length (xpairs L) := ⟨h.1, h.2.1, fun q hq => h.2.2 q.1 q.2 (xpairs_to hq)⟩
theorem xs1_len : ∀ (L : xL) (k : Nat) (v : Value), (xs1 L k v).length = L.length := by
  intro L
  induction L with
  | nil => intro k v; simp [xs1]
  | cons a r ih =>
    intro k v
    match k with
    | 0 => simp [xs1]
    | 1 => cases r <;> simp [xs1]
    | k + 2 => cases r <;> simp [xs1, ih]
theorem xs1_get : ∀ (L : xL) (k : Nat) (v : Value) (j : Nat) (w : Value), (xs1 L k v)[j]? = some (some w) → (j = k ∧ w = v) ∨ (j ≠ k ∧ L[j]? = some (some w) ∧ (j + 1 = k → w.category ≠ 2)) := by
  intro L
  induction L with
  | nil => intro k v j w h; simp [xs1] at h
  | cons a r ih =>
    intro k v j w h
    match k with
    | 0 =>
      cases j with
      | zero => simp [xs1] at h; exact Or.inl ⟨rfl, h.symm⟩
      | succ j => simp [xs1] at h; exact Or.inr ⟨by omega, by simpa using h, fun e => by omega⟩
    | 1 =>
      cases r with
      | nil => cases j <;> simp [xs1] at h
      | cons b r =>
        match j with
        | 0 =>
          simp [xs1, xcat] at h
          cases a with
          | none => simp at h
          | some u =>
            simp at h
            obtain ⟨h1, h2⟩ := h
            subst h2
            exact Or.inr ⟨by omega, by simp, fun _ => h1⟩
        | 1 => simp [xs1] at h; exact Or.inl ⟨rfl, h.symm⟩
        | j + 2 => simp [xs1] at h; exact Or.inr ⟨by omega, by simpa using h, fun e => by omega⟩
    | k + 2 =>
      cases r with
      | nil => cases j <;> simp [xs1] at h
      | cons b r =>
        rw [xs1] at h
        cases j with
        | zero => simp at h; exact Or.inr ⟨by omega, by simpa using h, fun e => by omega⟩
        | succ j =>
          rw [List.getElem?_cons_succ] at h
          rcases ih (k + 1) v j w h with ⟨h1, h2⟩ | ⟨h1, h2, h3⟩
          · exact Or.inl ⟨by omega, h2⟩
          · exact Or.inr ⟨by omega, by simpa using h2, fun e => h3 (by omega)⟩
theorem xs2_len : ∀ (L : xL) (k : Nat) (v : Value), (xs2 L k v).length = L.length := by
  intro L
  induction L with
  | nil => intro k v; simp [xs2]
  | cons a r ih =>
    intro k v
    match r, k with
    | [], k => simp [xs2]
    | [b], 0 => simp [xs2]
    | [b], k + 1 => simp [xs2]
    | b :: c :: r, 0 => simp [xs2]
    | b :: c :: r, 1 => simp [xs2]
    | b :: c :: r, k + 2 => simp [xs2, ih]
theorem xs2_get : ∀ (L : xL) (k : Nat) (v : Value) (j : Nat) (w : Value), (xs2 L k v)[j]? = some (some w) → (j = k ∧ w = v) ∨ (j ≠ k ∧ j ≠ k + 1 ∧ L[j]? = some (some w) ∧ (j + 1 = k → w.category ≠ 2)) := by
  intro L
  induction L with
  | nil => intro k v j w h; simp [xs2] at h
  | cons a r ih =>
    intro k v j w h
    match r, k, ih, h with
    | [], k, _, h => cases j <;> simp [xs2] at h
    | [b], 0, _, h =>
      match j with
      | 0 => simp [xs2] at h; exact Or.inl ⟨rfl, h.symm⟩
      | 1 => simp [xs2] at h
      | j + 2 => simp [xs2] at h
    | [b], k + 1, _, h =>
      match j with
      | 0 => simp [xs2] at h
      | 1 => simp [xs2] at h
      | j + 2 => simp [xs2] at h
    | b :: c :: r, 0, _, h =>
      match j with
      | 0 => simp [xs2] at h; exact Or.inl ⟨rfl, h.symm⟩
      | 1 => simp [xs2] at h
      | j + 2 => simp [xs2] at h; exact Or.inr ⟨by omega, by omega, by simpa using h, fun e => by omega⟩
    | b :: c :: r, 1, _, h =>
      match j with
      | 0 =>
        simp [xs2, xcat] at h
        cases a with
        | none => simp at h
        | some u =>
          simp at h
          obtain ⟨h1, h2⟩ := h
          subst h2
          exact Or.inr ⟨by omega, by omega, by simp, fun _ => h1⟩
      | 1 => simp [xs2] at h; exact Or.inl ⟨rfl, h.symm⟩
      | 2 => simp [xs2] at h
      | j + 3 => simp [xs2] at h; exact Or.inr ⟨by omega, by omega, by simpa using h, fun e => by omega⟩
    | b :: c :: r, k + 2, ih, h =>
      rw [xs2] at h
      cases j with
      | zero => simp at h; exact Or.inr ⟨by omega, by omega, by simpa using h, fun e => by omega⟩
      | succ j =>
        rw [List.getElem?_cons_succ] at h
        rcases ih (k + 1) v j w h with ⟨h1, h2⟩ | ⟨h1, h2, h3, h4⟩
        · exact Or.inl ⟨by omega, h2⟩
        · exact Or.inr ⟨by omega, by omega, by simpa using h3, fun e => h4 (by omega)⟩
/-- behind a store of one slot, as the kit's rows have it -/
theorem xLr_s1 {ls' : Array Slot} {L : xL} {k : Nat} {v : Value} (h : lv_has ls' L.length ((k, v) :: (xpairs L).filter (fun q => !(q.1 == k) && !(q.1 + 1 == k && q.2.category == 2)))) : xLr ls' (xs1 L k v) := by
  refine ⟨by rw [xs1_len]; exact h.1, h.2.1, fun j w hj => ?_⟩
  rcases xs1_get L k v j w hj with ⟨h1, h2⟩ | ⟨h1, h2, h3⟩
  · subst h1; subst h2
    exact h.2.2 _ List.mem_cons_self
  · refine h.2.2 (j, w) (List.mem_cons_of_mem _ (List.mem_filter.mpr ⟨xpairs_of h2, ?_⟩))
    by_cases e : j + 1 = k
    · simp [h1, e, h3 e]
    · simp [h1, e]
theorem xLr_s2 {ls' : Array Slot} {L : xL} {k : Nat} {v : Value} (h : lv_has ls' L.length ((k, v) :: (xpairs L).filter (fun q => !(q.1 == k) && (!(q.1 == k + 1) && !(q.1 + 1 == k && q.2.category == 2))))) : xLr ls' (xs2 L k v) := by
  refine ⟨by rw [xs2_len]; exact h.1, h.2.1, fun j w hj => ?_⟩
  rcases xs2_get L k v j w hj with ⟨h1, h2⟩ | ⟨h1, h2, h3, h4⟩
  · subst h1; subst h2
    exact h.2.2 _ List.mem_cons_self
  · refine h.2.2 (j, w) (List.mem_cons_of_mem _ (List.mem_filter.mpr ⟨xpairs_of h3, ?_⟩))
    by_cases e : j + 1 = k
    · simp [h1, h2, e, h4 e]
    · simp [h1, h2, e]
/-- a handler's local: its old value is gone -/
theorem xLr_drop {ls' : Array Slot} {L : xL} {k : Nat} {v : Value} (h : xLr ls' (xs1 L k v)) : xLr ls' ((xs1 L k v).set k none) := by
  refine ⟨by rw [List.length_set]; exact h.1, h.2.1, fun j w hj => ?_⟩
  by_cases e : k = j
  · subst e
    rw [List.getElem?_set_self'] at hj
    cases hx : (xs1 L k v)[k]? <;> simp [hx] at hj
  · rw [List.getElem?_set_ne e] at hj
    exact h.2.2 j w hj
/-- the locals at a method's entry -/
theorem xargs_len : ∀ (a : List Value), (lg_sl a).length = (xargs a).length := by
  intro a
  induction a with
  | nil => simp [lg_sl, xargs]
  | cons v vs ih =>
    unfold xargs
    have e : lg_sl (v :: vs) = (if v.category = 2 then [Slot.val v, Slot.second] else [Slot.val v]) ++ lg_sl vs := by simp [lg_sl]
    rw [e]
    by_cases h : v.category = 2
    · simp [h, ih]
    · simp [h, ih]
theorem xargs_get : ∀ (a : List Value) (b i : Nat) (v : Value), (xargs a)[i]? = some (some v) → (b + i, v) ∈ lv_args b a := by
  intro a
  induction a with
  | nil => intro b i v h; simp [xargs] at h
  | cons u vs ih =>
    intro b i v h
    unfold xargs at h
    unfold lv_args
    by_cases hu : u.category = 2
    · simp only [hu, if_true] at h ⊢
      match i with
      | 0 => simp at h; subst h; exact List.mem_cons_self
      | 1 => simp at h
      | i + 2 =>
        simp at h
        have := ih (b + 2) i v h
        rw [show b + 2 + i = b + (i + 2) by omega] at this
        exact List.mem_cons_of_mem _ this
    · simp only [hu, if_false] at h ⊢
      match i with
      | 0 => simp at h; subst h; exact List.mem_cons_self
      | i + 1 =>
        simp at h
        have := ih (b + 1) i v h
        rw [show b + 1 + i = b + (i + 1) by omega] at this
        exact List.mem_cons_of_mem _ this
theorem xent_len {z : Nat} {a : List Value} (h : (xargs a).length ≤ xml z) : (xent z a).length = xml z := by
  unfold xent
  rw [List.length_append, List.length_replicate]
  omega
theorem xLr_ent {z : Nat} {a : List Value} (h : (xargs a).length ≤ xml z) : xLr ((lg_sl a ++ List.replicate (xml z - (lg_sl a).length) Slot.unset).toArray) (xent z a) := by
  have hl := lv_entry a (n := xml z) (by rw [xargs_len]; exact h)
  refine ⟨by rw [xent_len h]; exact hl.1, hl.2.1, fun i v hi => ?_⟩
  unfold xent at hi
  by_cases hi2 : i < (xargs a).length
  · rw [List.getElem?_append_left hi2] at hi
    have := xargs_get a 0 i v hi
    rw [Nat.zero_add] at this
    exact hl.2.2 _ this
  · rw [List.getElem?_append_right (by omega)] at hi
    rw [List.getElem?_replicate] at hi
    split at hi <;> cases hi
theorem xs1_any : ∀ (L : xL) (k : Nat) (v w : Value), (xs1 L k v).set k none = (xs1 L k w).set k none := by
  intro L
  induction L with
  | nil => intro k v w; simp [xs1]
  | cons a r ih =>
    intro k v w
    match k with
    | 0 => simp [xs1]
    | 1 => cases r <;> simp [xs1]
    | k + 2 =>
      cases r with
      | nil => simp [xs1]
      | cons b r =>
        simp only [xs1, List.set_cons_succ]
        rw [ih (k + 1) v w]
end
section
/-! What stays so at every place of a run: the tables, the statics, the texts. -/
theorem xcl_get {ci : Nat} (h : ci < 9) : vwCl[ci]? = some (xcn ci, xT ci, xN ci) := by
  match ci, h with
  | 0, _ => rfl
  | 1, _ => rfl
  | 2, _ => rfl
  | 3, _ => rfl
  | 4, _ => rfl
  | 5, _ => rfl
  | 6, _ => rfl
  | 7, _ => rfl
  | 8, _ => rfl
theorem xlay_in {ci : Nat} (h : ci < 9) : ∀ w ∈ u_ws (xcn ci) (xT ci) (xN ci), w ∈ xgt := by
  have key : ∀ c, c < 9 → ∀ w ∈ u_ws (xcn c) (xT c) (xN c), w ∈ lw_tbl ∧ goodWord w = true := by decide +kernel
  exact fun w hw => List.mem_filter.mpr (key ci h w hw)
theorem xinst_in {ci : Nat} (h : ci < 9) : Cond.instantiable (xcn ci) (xN ci) ∈ xgt := by
  have key : ∀ c, c < 9 → Cond.instantiable (xcn c) (xN c) ∈ lw_tbl ∧ goodWord (Cond.instantiable (xcn c) (xN c)) = true := by decide +kernel
  exact List.mem_filter.mpr (key ci h)
theorem xini_in {ci : Nat} (h : ci < 9) : Cond.initialized (xcn ci) ∈ xgt := by
  have key : ∀ c, c < 9 → Cond.initialized (xcn c) ∈ lw_tbl ∧ goodWord (Cond.initialized (xcn c)) = true := by decide +kernel
  exact List.mem_filter.mpr (key ci h)
theorem xty_ok {ci : Nat} (h : ci < 9) : ∀ k, k < xN ci → parseFieldDescriptor (xT ci k).2.2.1 = some (xty ci k) := by
  have key : ∀ c, c < 9 → ∀ k, k < xN c → parseFieldDescriptor (xT c k).2.2.1 = some (xty c k) := by decide +kernel
  exact key ci h
theorem xnm_ok {ci : Nat} (h : ci < 9) : ∀ a, a < xN ci → ∀ b, b < xN ci → a ≠ b → (xT ci a).2.1 ≠ (xT ci b).2.1 := by
  have key : ∀ c, c < 9 → ∀ a, a < xN c → ∀ b, b < xN c → a ≠ b → (xT c a).2.1 ≠ (xT c b).2.1 := by decide +kernel
  exact key ci h
/-- words that aren't good ones, but stay so -/
def xnw (w : Cond) : Bool := match w with
  | .fieldLinkNest .. => true
  | .methodLinkNest .. => true
  | .castable .. => true
  | .declares .. => true
  | _ => false
theorem xnw_warm {w : Cond} (h : xnw w = true) {s U : State} (hW : s.WarmedH U.vm) (hZ : va_Nw w s) : va_Nw w U := by
  cases w with
  | fieldLinkNest a b c d e f => exact va_Nw.warmF hW hZ
  | methodLinkNest a b c d => exact va_Nw.warmM hW hZ
  | castable a b => exact va_Nw.warmC hW hZ
  | declares a => exact va_Nw.warmD hW hZ
  | _ => cases h
theorem xnw_tabs {w : Cond} (h : xnw w = true) : w.onTables = true := by
  cases w with
  | fieldLinkNest a b c d e f => rfl
  | methodLinkNest a b c d => rfl
  | castable a b => rfl
  | declares a => rfl
  | _ => cases h
def xexn : List String := ["java/lang/RuntimeException", "java/lang/Exception"]
def xtys (G : xG) : List (ClassId × FieldType) := [(G.2.1 0, .int), (G.2.1 1, .long), (G.2.1 2, .object "PairNames$State")]
/-- the tables and the statics, as every place of a run has them -/
def xEn (G : xG) (s : State) : Prop := va_K G.1 vwCl (xtys G) s ∧ (∀ w ∈ lw_tbl, xnw w = true → va_Nw w s) ∧ (∀ d e, d < 3 → e < 3 → d ≠ e → va_Nc (xec d) (xec e) s) ∧ (∀ i k a, xpf 7 i = some (11, k, a) → ∃ sa, vk_R RX7 i ((xss[k]?).getD "") sa s) ∧
  vx_Zq Bundle.tN "UNASSIGNED_STACK" Bundle.steD (xA G) s s.heap ∧ vx_Zq Bundle.tN "SUPPRESSED_SENTINEL" Bundle.listD (xA G) s s.heap ∧ va_AO "PairNames$State" s
theorem xEn_moved {G : xG} {s U : State} (h : xEn G s) (hW : s.WarmedH U.vm) (hq : ∀ a : Nat, a < s.heap.size → ¬ xA G a → U.heap[a]? = s.heap[a]?) : xEn G U := by
  obtain ⟨h1, h2, h3, h4, h5, h6, h7⟩ := h
  refine ⟨va_K.moved hW.alike h1, fun w hw hn => xnw_warm hn hW (h2 w hw hn), fun d e hd he hne => va_Nc.moved hW.alike (h3 d e hd he hne), fun i k a hi => ?_, vx_Zq.moved hW.alike (h5.kept hq), vx_Zq.moved hW.alike (h6.kept hq), va_AO.moved hW.alike h7⟩
  obtain ⟨sa, hsa⟩ := h4 i k a hi
  exact ⟨sa, vk_R.warm hW hsa⟩
/-- the words of a throw -/
theorem xthrow_ok (e : Nat) (h : e < 3) : (∀ w ∈ (vx_atS RX7 (xic e) (xec e) xexn).filter goodWord, w ∈ lw_tbl) ∧ (∀ w ∈ (vx_atS RX7 (xic e) (xec e) xexn).filter (fun w => !goodWord w), w ∈ lw_tbl ∧ xnw w = true) := by
  have key : ∀ e, e < 3 → (∀ w ∈ (vx_atS RX7 (xic e) (xec e) xexn).filter goodWord, w ∈ lw_tbl) ∧ (∀ w ∈ (vx_atS RX7 (xic e) (xec e) xexn).filter (fun w => !goodWord w), w ∈ lw_tbl ∧ xnw w = true) := by decide +kernel
  exact key e h
theorem xfit_ok {ty : FieldType} {v : Value} (h : xfit ty v = true) : narrow ty v = v ∧ fits ty v = true := by
  cases ty <;> cases v <;> first | (exact ⟨rfl, rfl⟩) | (simp [xfit] at h; done) | skip
  all_goals
    simp only [xfit, Bool.or_eq_true, beq_iff_eq] at h
    rcases h with h | h <;> subst h <;> exact ⟨by decide, by decide⟩
theorem xnr_ok {y : Nat} {x : Int32} (h : xnr (xmr y) x = true) : ∃ ty, xmr y = some ty ∧ narrow ty (.int x) = .int x := by
  unfold xnr at h
  split at h
  · rename_i he
    exact ⟨_, he, rfl⟩
  · rename_i he
    refine ⟨_, he, ?_⟩
    simp only [Bool.or_eq_true, beq_iff_eq] at h
    rcases h with h | h <;> subst h <;> decide
  · cases h
end
section
/-! One step of the small machine is one of the real one. Arms written by gen_step.py. -/
/-- what holds of a frame all through: the machine, the code, the tables' words, the room -/
def xCx (G : xG) (y : Nat) (p : Program) (l : Launch) (R : Room) (s : State) (m : MethodId) (args : Array Value) (meth : Method) (c : Code) : Prop :=
  p.tables.exec = Jvm.exec ∧ c.code = xmb y ∧ c.maxLocals = xml y ∧ meth.sig.returnType = xmr y ∧ meth.locks = false ∧ s.vm.findClass (xcn (xmo y)) = some m.cls ∧ (∀ w ∈ xgt, w.before args s = true) ∧ xEn G s ∧ l.stackTraces = false ∧ ((xmy y).name = "<init>" → meth.name = "<init>") ∧ xmf y ≤ R.frames ∧ xmc y ≤ R.locals ∧ (xmo y = 7 ∨ xmh y ≠ [] → c.exceptionTable.toList = tableOf (xmh y))
theorem xnn_ok {x : UInt64} (h : xnn x = true) : vf_n64 x := by
  unfold vf_n64
  exact of_decide_eq_true h
theorem xin_of {i : Int32} {m : Nat} (hn : ¬ i < 0) (hlt : i.toNatClampNeg < m) : vp_in i m := fun q => q.elim hn (fun q => absurd hlt (Nat.not_lt.mpr q))
theorem xdiv {ci k : Nat} (h : k < xN ci) : (64 * ci + k) / 64 = ci := by
  have : xN ci ≤ 20 := by unfold xN; split <;> decide
  omega
theorem xmod {ci k : Nat} (h : k < xN ci) : (64 * ci + k) % 64 = k := by
  have : xN ci ≤ 20 := by unfold xN; split <;> decide
  omega
theorem xcat_sum : ∀ {st : List Value} {k : Nat}, st.length ≤ k → (st.map fun v => v.category).sum ≤ 2 * k := by
  intro st
  induction st with
  | nil => intro k _; simp
  | cons v vs ih =>
    intro k hk
    simp only [List.length_cons] at hk
    have h1 := ih (k := k - 1) (by omega)
    have h2 : v.category ≤ 2 := by cases v <;> simp [Value.category]
    simp only [List.map_cons, List.sum_cons]
    omega
theorem xP1 {G : xG} {s : State} {a k : Nat} {x : vp_A} {H : Heap} (h : xat G s a (.inl (k, x)) H) (hk : k ≠ 3 := by decide) : va_P G.1 vwCl [(a, .inl (G.2.1 k, x))] H := by
  unfold xat at h
  simp only [hk, if_false] at h
  intro j q hq
  cases j with
  | zero => simp at hq; subst hq; exact h.2.2
  | succ j => simp at hq
theorem xP1o {G : xG} {s : State} {a ci : Nat} {fs : List Value} {H : Heap} (h : xat G s a (.inr (ci, fs)) H) : va_P G.1 vwCl [(a, .inr (ci, fs))] H := by
  intro j q hq
  cases j with
  | zero => simp at hq; subst hq; exact h.2
  | succ j => simp at hq
theorem xat_A {G : xG} {s : State} {a : Nat} {e : xE} {H : Heap} (h : xat G s a e H) (hk : (match e with
  | .inl (k, _) => decide (k = 3)
  | .inr _ => false) = false := by rfl) : xA G a := by
  cases e with
  | inl x =>
    obtain ⟨k, x⟩ := x
    unfold xat at h
    have : k ≠ 3 := fun q => by simp [q] at hk
    simp only [this, if_false] at h
    exact h.2.1
  | inr o => exact h.1
theorem xS_new {A : Nat → Prop} {H0 H H1 : Heap} {locs : List Loc} (h : va_S A H0 H locs) (z : H1.size = H.size + 1) (oq : ∀ q : Nat, q < H.size → H1[q]? = H[q]?) : va_S A H0 H1 locs :=
  ⟨Nat.le_trans h.1 (by omega), fun x h1 h2 => (oq x (Nat.lt_of_lt_of_le h1 h.1)).trans (h.2.1 x h1 h2), h.2.2⟩
theorem xrcv_at {G : xG} {s : State} {h : xH} {H : Heap} {b c : Nat} (hR : xRp G s h H) (hq : xrcv h b c = true) : ∃ fs, xat G s b (.inr (c, fs)) H := by
  unfold xrcv at hq
  split at hq
  · rename_i d fs hb
    rw [beq_iff_eq] at hq
    subst hq
    exact ⟨fs, hR.1 _ _ hb⟩
  · cases hq
theorem xfin_ok {y ci k : Nat} {nm : String} (hnm : (xmy y).name = "<init>" → nm = "<init>") (h : xfin y ci k = true) : (xT ci k).2.2.2 = false ∨ ((xT ci k).2.2.2 = true ∧ nm = "<init>" ∧ (xT ci k).1 = xcn (xmo y)) := by
  unfold xfin at h
  cases hf : (xT ci k).2.2.2 with
  | false => exact Or.inl rfl
  | true =>
    simp only [hf, Bool.or_eq_true, Bool.and_eq_true, beq_iff_eq] at h
    rcases h with h | h
    · cases h
    · exact Or.inr ⟨rfl, hnm h.1, h.2⟩
theorem xarr_int : Cond.arrayClass (newarray.typeOf .int) ∈ xgt := List.mem_filter.mpr ⟨by decide +kernel, by decide +kernel⟩
theorem xarr_long : Cond.arrayClass (newarray.typeOf .long) ∈ xgt := List.mem_filter.mpr ⟨by decide +kernel, by decide +kernel⟩
theorem xmath_maxS : Cond.static Lib.Math.max.name ∈ xgt := List.mem_filter.mpr ⟨by decide +kernel, by decide +kernel⟩
theorem xmath_minS : Cond.static Lib.Math.min.name ∈ xgt := List.mem_filter.mpr ⟨by decide +kernel, by decide +kernel⟩
theorem xmath_ini : Cond.initialized "java/lang/Math" ∈ xgt := List.mem_filter.mpr ⟨by decide +kernel, by decide +kernel⟩
theorem xmath_maxC : Cond.code Lib.Math.max.name Lib.Math.max.code 2 (some .int) ∈ xgt := List.mem_filter.mpr ⟨by decide +kernel, by decide +kernel⟩
theorem xmath_minC : Cond.code Lib.Math.min.name Lib.Math.min.code 2 (some .int) ∈ xgt := List.mem_filter.mpr ⟨by decide +kernel, by decide +kernel⟩
theorem xobj_I : Cond.instanceMethod objectInit ∈ xgt := List.mem_filter.mpr ⟨by decide +kernel, by decide +kernel⟩
theorem xobj_C : Cond.code objectInit ⟨#[0xb1]⟩ 1 none ∈ xgt := List.mem_filter.mpr ⟨by decide +kernel, by decide +kernel⟩
section ROWS
variable {G : xG} {p : Program} {l : Launch} {e : Env} {R : Room} {s : State} {m : MethodId} {args : Array Value} {below : List Frame} {meth : Method} {c : Code} {H : Heap} {locs : List Loc} {cells slots : Nat} {Q : State → Prop}
variable {cc : ByteArray} {pc : Nat} {ls : Array Slot} {rest : List Value} {a : Nat}
theorem xtk {L L' : xL} {st st' : List Value} {h h' : xH} {n1 n2 pc' c0 s0 : Nat} {b : Bool} (hl : xbr b (xnx n1 L st h) (xnx n2 L st h) = some (.inl (pc', L', st', h')))
    (kk : ∀ (ls' : Array Slot) (H' : Heap) (locs' : List Loc) (cells' slots' : Nat), xLr ls' L' → xRp G s h' H' → va_S (xA G) s.heap H' locs' → cells' + c0 = h'.2.2.1 → slots' + s0 = h'.2.2.2 → W p l e R s m args below meth c H' locs' cells' slots' Q (F0 m pc' ls' st'))
    (hL : xLr ls L) (hR : xRp G s h H) (hS : va_S (xA G) s.heap H locs) (hc : cells + c0 = h.2.2.1) (hs : slots + s0 = h.2.2.2) : W p l e R s m args below meth c H locs cells slots Q (F0 m (if b = true then n1 else n2) ls st) := by
  unfold xbr at hl
  cases b with
  | true =>
    obtain ⟨rfl, rfl, rfl, rfl⟩ := xnx_inj hl
    exact kk _ _ _ _ _ hL hR hS hc hs
  | false =>
    obtain ⟨rfl, rfl, rfl, rfl⟩ := xnx_inj (show xnx n2 L st h = _ from hl)
    exact kk _ _ _ _ _ hL hR hS hc hs
theorem x_iaload (hx : p.tables.exec = Jvm.exec) (hb : c.code = cc) (hK : va_K G.1 vwCl (xtys G) s) {k n : Nat} {f : Nat → Int32} (hk : k = 0 ∨ k = 3) (ha : xat G s a (.inl (k, n, .inl f)) H) {i : Int32} (hi : ¬ i < 0 ∧ i.toNatClampNeg < n) (hd : decode cc pc = .ok (.iaload, 1))
    (kk : W p l e R s m args below meth c H locs cells slots Q (F0 m (pc + 1) ls (.int (f i.toNatClampNeg) :: rest))) : W p l e R s m args below meth c H locs cells slots Q (F0 m pc ls (.int i :: .ref a :: rest)) := by
  rcases hk with rfl | rfl
  · exact va_iald hx hb hK (xP1 ha) 0 0 rfl rfl (xin_of hi.1 hi.2) hd kk
  · simp only [xat, if_true] at ha
    obtain ⟨rfl, h2, scr, h3, h4, h5, h6, h7⟩ := ha
    obtain ⟨rfl, h8⟩ := Prod.mk.inj h2
    cases h8
    exact W.iald (v := .int _) hx hb h3 h4 h5 (by rw [h6]; exact xin_of hi.1 hi.2) (h7 _ hi.2) rfl rfl hd kk
theorem x_alen (hx : p.tables.exec = Jvm.exec) (hb : c.code = cc) (hK : va_K G.1 vwCl (xtys G) s) {k n : Nat} {x : (Nat → Int32) ⊕ (Nat → Int64) ⊕ (Nat → UInt32) ⊕ (Nat → UInt64) ⊕ (Nat → Option Nat)} (ha : xat G s a (.inl (k, n, x)) H) (hd : decode cc pc = .ok (.arraylength, 1))
    (kk : W p l e R s m args below meth c H locs cells slots Q (F0 m (pc + 1) ls (.int (Int32.ofNat n) :: rest))) : W p l e R s m args below meth c H locs cells slots Q (F0 m pc ls (.ref a :: rest)) := by
  by_cases hk : k = 3
  · subst hk
    simp only [xat, if_true] at ha
    obtain ⟨rfl, h2, scr, h3, h4, h5, h6, h7⟩ := ha
    obtain ⟨rfl, h8⟩ := Prod.mk.inj h2
    exact W.alen (n := Int32.ofNat _) hx hb h3 h4 (by rw [h6] <;> rfl) rfl rfl hd kk
  · have hP := xP1 ha hk
    unfold xat at ha
    simp only [hk, if_false] at ha
    match k, ha.1, hP with
    | 0, _, hP => exact va_alen hx hb hK hP 0 0 rfl rfl rfl hd kk
    | 1, _, hP => exact va_alen hx hb hK hP 0 1 rfl rfl rfl hd kk
    | 2, _, hP => exact va_alen hx hb hK hP 0 2 rfl rfl rfl hd kk
theorem x_iastore (hx : p.tables.exec = Jvm.exec) (hb : c.code = cc) (hK : va_K G.1 vwCl (xtys G) s) {n : Nat} {f : Nat → Int32} (ha : xat G s a (.inl (0, n, .inl f)) H) {i v : Int32} (hi : ¬ i < 0 ∧ i.toNatClampNeg < n) (hd : decode cc pc = .ok (.iastore, 1))
    (kk : ∀ H1 : Heap, H1.size = H.size → xat G s a (.inl (0, n, .inl (va_up f i.toNatClampNeg v))) H1 → (∀ q : Nat, q ≠ a → H1[q]? = H[q]?) → W p l e R s m args below meth c H1 (locs ++ [⟨a, i.toNatClampNeg⟩]) cells slots Q (F0 m (pc + 1) ls rest)) : W p l e R s m args below meth c H locs cells slots Q (F0 m pc ls (.int v :: .int i :: .ref a :: rest)) := by
  obtain ⟨h1, h2, h3⟩ : 0 < 3 ∧ G.2.2.1 ≤ a ∧ H[a]? = some (vp_cell (G.2.1 0) (n, .inl f)) := ha
  refine W.iast hx hb h3 ((hK.2 0 _ rfl).1 n (fun j => .int (f j))) (fun q => by cases q) (by show ¬ (i < 0 ∨ (arrV _ _ _).slots.size ≤ _); rw [arrV_size]; exact xin_of hi.1 hi.2) rfl rfl hd fun H1 ee z oq => ?_
  refine kk H1 z ⟨h1, h2, ?_⟩ oq
  rw [ee, vp_cell_i, vp_cell_i, arrV_store]
  congr 2
  funext q
  by_cases hq : q = i.toNatClampNeg
  · subst hq
    simp [updV, va_up]
  · simp [updV, va_up, hq]
theorem x_lastore (hx : p.tables.exec = Jvm.exec) (hb : c.code = cc) (hK : va_K G.1 vwCl (xtys G) s) {n : Nat} {f : Nat → Int64} (ha : xat G s a (.inl (1, n, .inr (.inl f))) H) {i : Int32} {v : Int64} (hi : ¬ i < 0 ∧ i.toNatClampNeg < n) (hd : decode cc pc = .ok (.lastore, 1))
    (kk : ∀ H1 : Heap, H1.size = H.size → xat G s a (.inl (1, n, .inr (.inl (va_up f i.toNatClampNeg v)))) H1 → (∀ q : Nat, q ≠ a → H1[q]? = H[q]?) → W p l e R s m args below meth c H1 (locs ++ [⟨a, i.toNatClampNeg⟩]) cells slots Q (F0 m (pc + 1) ls rest)) : W p l e R s m args below meth c H locs cells slots Q (F0 m pc ls (.long v :: .int i :: .ref a :: rest)) := by
  obtain ⟨h1, h2, h3⟩ : 1 < 3 ∧ G.2.2.1 ≤ a ∧ H[a]? = some (vp_cell (G.2.1 1) (n, .inr (.inl f))) := ha
  refine W.last hx hb h3 ((hK.2 1 _ rfl).1 n (fun j => .long (f j))) (fun q => by cases q) (by show ¬ (i < 0 ∨ (arrV _ _ _).slots.size ≤ _); rw [arrV_size]; exact xin_of hi.1 hi.2) rfl rfl hd fun H1 ee z oq => ?_
  refine kk H1 z ⟨h1, h2, ?_⟩ oq
  rw [ee, vp_cell_l, vp_cell_l, arrV_store]
  congr 2
  funext q
  by_cases hq : q = i.toNatClampNeg
  · subst hq
    simp [updV, va_up]
  · simp [updV, va_up, hq]
theorem x_aastore (hx : p.tables.exec = Jvm.exec) (hb : c.code = cc) (hK : va_K G.1 vwCl (xtys G) s) {n v : Nat} {f : Nat → Option Nat} (ha : xat G s a (.inl (2, n, .inr (.inr (.inr (.inr f))))) H) (hv : ∃ fs, xat G s v (.inr (6, fs)) H) {i : Int32} (hi : ¬ i < 0 ∧ i.toNatClampNeg < n) (hd : decode cc pc = .ok (.aastore, 1))
    (kk : ∀ H1 : Heap, H1.size = H.size → xat G s a (.inl (2, n, .inr (.inr (.inr (.inr (va_up f i.toNatClampNeg (some v))))))) H1 → (∀ q : Nat, q ≠ a → H1[q]? = H[q]?) → W p l e R s m args below meth c H1 (locs ++ [⟨a, i.toNatClampNeg⟩]) cells slots Q (F0 m (pc + 1) ls rest)) : W p l e R s m args below meth c H locs cells slots Q (F0 m pc ls (.ref v :: .int i :: .ref a :: rest)) := by
  obtain ⟨fs, hv1, r', hr', cellV, g1, g2, g3, -⟩ := hv
  obtain ⟨h1, h2, h3⟩ : 2 < 3 ∧ G.2.2.1 ≤ a ∧ H[a]? = some (vp_cell (G.2.1 2) (n, .inr (.inr (.inr (.inr f))))) := ha
  have hcls := (hK.1 6 (xcn 6, xT 6, xN 6) rfl).2
  obtain ⟨kA, comp, k1, k2, k3, -⟩ := (hK.2 2 _ rfl).2
  have hcomp : comp = G.1.1 6 := Option.some.inj (k3.symm.trans hcls.1)
  subst hcomp
  obtain ⟨kC, hkC, -⟩ := hcls.2
  refine W.aast hx hb h3 (fun q h => by cases h) (fun h => by cases h) k1 k2 rfl hkC ⟨hi.1, by show _ < (arrV _ _ _).slots.size; rw [arrV_size]; exact hi.2⟩ g1 (fun q h => by rw [g3] at h; cases h) (by rw [g2]; exact hkC) (by rw [g2]; exact va_assign hcls) rfl rfl hd fun H1 ee z oq => ?_
  refine kk H1 z ⟨h1, h2, ?_⟩ oq
  rw [ee, vp_cell_q, vp_cell_q, arrV_store]
  congr 2
  funext q
  by_cases hq : q = i.toNatClampNeg
  · subst hq
    simp [updV, va_up, va_rf]
  · simp [updV, va_up, hq]
theorem x_put (hx : p.tables.exec = Jvm.exec) (hb : c.code = cc) (hts : ∀ w ∈ xgt, w.before args s = true) {ci k index : Nat} {own : String} (hc9 : ci < 9) (hown : s.vm.findClass own = some m.cls) (hK : va_K G.1 vwCl (xtys G) s) {fs : List Value} (ha : xat G s a (.inr (ci, fs)) H) (hk : k < xN ci)
    (hw : ((Cond.fieldLink own index (xT ci k).1 (xT ci k).2.1 (xT ci k).2.2.1).before args s = true ∧ ((xT ci k).2.2.2 = false ∨ ((xT ci k).2.2.2 = true ∧ meth.name = "<init>" ∧ (xT ci k).1 = own))) ∨ ((Cond.fieldLinkNest own index (xT ci k).1 (xT ci k).2.1 (xT ci k).2.2.1 "PairNames").before args s = true ∧ (xT ci k).2.2.2 = false))
    {v : Value} (hfit : xfit (xty ci k) v = true) (hl : k < fs.length) (hd : decode cc pc = .ok (.putfield index, 3))
    (kk : ∀ H1 : Heap, H1.size = H.size → xat G s a (.inr (ci, fs.set k v)) H1 → (∀ q : Nat, q ≠ a → H1[q]? = H[q]?) → W p l e R s m args below meth c H1 (locs ++ [⟨a, G.1.2 ci k⟩]) cells slots Q (F0 m (pc + 3) ls rest)) : W p l e R s m args below meth c H locs cells slots Q (F0 m pc ls (v :: .ref a :: rest)) := by
  have hin := xlay_in hc9
  have hc := xcl_get hc9
  have hap := va_apart (own := own) hts hin (xty ci) (xty_ok hc9) (xnm_ok hc9) hK hc
  obtain ⟨hA, r, h1, cell, q1, q2, q3, q4⟩ := ha
  have hr : r = (xcn ci, xT ci, xN ci) := Option.some.inj (h1.symm.trans hc)
  subst hr
  obtain ⟨hS, hfc, kC, hkC, hkind⟩ := hK.1 ci _ hc
  obtain ⟨cf, kf, fi, f, hi, hsl⟩ := hS k hk
  have hlay := hts _ (hin _ (u_in_lay hk))
  unfold u_lay at hlay
  have hst := (u_facts hfc hkC (u_lays hts hin hk) hi).1
  obtain ⟨hn, hf⟩ := xfit_ok hfit
  have fin : ∀ H' : Heap, H'[a]? = some (cell.setSlot f.slot v) → H'.size = H.size → (∀ q, q ≠ a → H'[q]? = H[q]?) → W p l e R s m args below meth c H' (locs ++ [⟨a, f.slot⟩]) cells slots Q (F0 m (pc + 3) ls rest) := by
    intro H' e1 e2 e3
    rw [hsl] at e1 ⊢
    exact kk H' e2 ⟨hA, _, hc, t_OB.to (V := updV (vp_V fs) k v) ⟨_, e1, q2, q3, t_set q4 hap hk v⟩ (fun j _ => vp_updV_set hl v j)⟩ e3
  rcases hw with ⟨hlink, hfin | ⟨hfin, hin2, hdecl⟩⟩ | ⟨hlink, hfin⟩
  · rw [if_neg (by rw [hfin]; decide)] at hlay
    have h6 := u_store hfc hkC hkind hlay hi (xty_ok hc9 k hk) hn hf
    exact W.putK hx hb (f := f) ⟨hown, hlink, ⟨_, _, _, hi⟩, hst⟩ (by rw [q2]; exact h6) q1 q3 (by rw [hsl]; exact k2_hasslot (q4 k hk)) rfl rfl hd fin
  · rw [if_pos hfin] at hlay
    have hcf : m.cls = cf := by
      obtain ⟨_, _, c', _, _, _, -, -, hf', -, -, -, hown2, -⟩ := Cond.laysFinal_spec hlay
      have e1 : c' = cf := by have := hi.symm.trans hf'; simp at this; exact this.1.symm
      rw [hdecl] at hown2
      rw [← e1]; exact Option.some.inj (hown.symm.trans hown2)
    have h6 := u_fits hfc hkC hkind (Or.inr hlay) hi (xty_ok hc9 k hk) hn hf
    exact W.putFinK hx hb hown hlink hi hst hcf hin2 (by rw [q2]; exact h6) q1 q3 (by rw [hsl]; exact k2_hasslot (q4 k hk)) rfl rfl hd fin
  · rw [if_neg (by rw [hfin]; decide)] at hlay
    have h6 := u_store hfc hkC hkind hlay hi (xty_ok hc9 k hk) hn hf
    exact va_WputK hx hb (f := f) hown hlink hi hst (by rw [q2]; exact h6) q1 q3 (by rw [hsl]; exact k2_hasslot (q4 k hk)) rfl rfl hd fin
theorem x_newa (hx : p.tables.exec = Jvm.exec) (hb : c.code = cc) (hK : va_K G.1 vwCl (xtys G) s) {atype : ArrayType} (hat : atype = .int) (harr : (Cond.arrayClass (newarray.typeOf .int)).before args s = true) {n : Int32} {N : Nat} (hN : n.toNatClampNeg = N) (hd : decode cc pc = .ok (.newarray atype, 2)) (hn : ¬ n < 0) (hle : N ≤ 1000) (hcells : cells + 1 ≤ R.cells) (hslots : slots + N ≤ R.slots)
    (kk : ∀ H1 : Heap, (G.2.2.1 ≤ H.size → xat G s H.size (.inl (0, N, .inl (fun _ => 0))) H1) → H1.size = H.size + 1 → (∀ q : Nat, q < H.size → H1[q]? = H[q]?) → W p l e R s m args below meth c H1 locs (cells + 1) (slots + N) Q (F0 m (pc + 2) ls (.ref H.size :: rest))) : W p l e R s m args below meth c H locs cells slots Q (F0 m pc ls (.int n :: rest)) := by
  subst hat
  refine va_newaK hx hb harr rfl hd rfl hn hN (by simp only [newarray.typeOf, componentBytes]; omega) hcells hslots rfl fun H1 cA e1 z1 o1 hAr hNm => ?_
  refine kk H1 (fun hA => ⟨by decide, hA, ?_⟩) z1 o1
  have h9 : s.vm.findClass ("[" ++ (FieldType.int).toString) = some (G.2.1 0) := (hK.2 0 _ rfl).2
  have hcA : cA = G.2.1 0 := Option.some.inj (hNm.symm.trans h9)
  rw [← hcA]
  exact e1
theorem x_newl (hx : p.tables.exec = Jvm.exec) (hb : c.code = cc) (hK : va_K G.1 vwCl (xtys G) s) {atype : ArrayType} (hat : atype = .long) (harr : (Cond.arrayClass (newarray.typeOf .long)).before args s = true) {n : Int32} {N : Nat} (hN : n.toNatClampNeg = N) (hd : decode cc pc = .ok (.newarray atype, 2)) (hn : ¬ n < 0) (hle : N ≤ 1000) (hcells : cells + 1 ≤ R.cells) (hslots : slots + N ≤ R.slots)
    (kk : ∀ H1 : Heap, (G.2.2.1 ≤ H.size → xat G s H.size (.inl (1, N, .inr (.inl (fun _ => 0)))) H1) → H1.size = H.size + 1 → (∀ q : Nat, q < H.size → H1[q]? = H[q]?) → W p l e R s m args below meth c H1 locs (cells + 1) (slots + N) Q (F0 m (pc + 2) ls (.ref H.size :: rest))) : W p l e R s m args below meth c H locs cells slots Q (F0 m pc ls (.int n :: rest)) := by
  subst hat
  refine va_newaK hx hb harr rfl hd rfl hn hN (by simp only [newarray.typeOf, componentBytes]; omega) hcells hslots rfl fun H1 cA e1 z1 o1 hAr hNm => ?_
  refine kk H1 (fun hA => ⟨by decide, hA, ?_⟩) z1 o1
  have h9 : s.vm.findClass ("[" ++ (FieldType.long).toString) = some (G.2.1 1) := (hK.2 1 _ rfl).2
  have hcA : cA = G.2.1 1 := Option.some.inj (hNm.symm.trans h9)
  rw [← hcA]
  exact e1
theorem x_newq (hx : p.tables.exec = Jvm.exec) (hb : c.code = cc) (hK : va_K G.1 vwCl (xtys G) s) {own : String} {index : Nat} (hown : s.vm.findClass own = some m.cls) (hclink : (Cond.classLink own index (xcn 6)).before args s = true) (hAO : va_AO "PairNames$State" s) (hA : G.2.2.1 ≤ H.size) {n : Int32} (hd : decode cc pc = .ok (.anewarray index, 3)) (hn : ¬ n < 0) (hle : n.toNatClampNeg ≤ 1000) (hcells : cells + 1 ≤ R.cells) (hslots : slots + n.toNatClampNeg ≤ R.slots)
    (kk : ∀ H1 : Heap, xat G s H.size (.inl (2, n.toNatClampNeg, .inr (.inr (.inr (.inr (fun _ => none)))))) H1 → H1.size = H.size + 1 → (∀ q : Nat, q < H.size → H1[q]? = H[q]?) → W p l e R s m args below meth c H1 locs (cells + 1) (slots + n.toNatClampNeg) Q (F0 m (pc + 3) ls (.ref H.size :: rest))) : W p l e R s m args below meth c H locs cells slots Q (F0 m pc ls (.int n :: rest)) := by
  refine W.anew hx hb hown (C := "PairNames$State") hclink (va_AO.use hAO) rfl hd rfl hn (by omega) hcells hslots fun cA kA comp f1 f2 f3 f4 => ?_
  generalize hH1 : H.push ({ cls := cA, slots := Array.replicate n.toNatClampNeg .null, vm := .none } : Cell) = H1
  have z1 : H1.size = H.size + 1 := by rw [← hH1, Array.size_push]
  have e1 : H1[H.size]? = some (arrV cA n.toNatClampNeg (fun _ => .null)) := by rw [← hH1, Array.getElem?_push_size, ← arrV_new]
  have o1 : ∀ q : Nat, q < H.size → H1[q]? = H[q]? := fun q hq => by rw [← hH1, Array.getElem?_push, if_neg (Nat.ne_of_lt hq)]
  refine kk H1 ⟨by decide, hA, ?_⟩ z1 o1
  obtain ⟨kA', comp', g1, g2, g3, g4⟩ := (hK.2 2 _ rfl).2
  have hcA : cA = G.2.1 2 := Option.some.inj (f1.symm.trans g4)
  rw [← hcA, vp_cell_q]
  exact e1
theorem x_new (hx : p.tables.exec = Jvm.exec) (hb : c.code = cc) (hts : ∀ w ∈ xgt, w.before args s = true) {ci index : Nat} {own : String} (hc9 : ci < 9) (hown : s.vm.findClass own = some m.cls) (hK : va_K G.1 vwCl (xtys G) s) (hcl : (Cond.classLink own index (xcn ci)).before args s = true) (hA : G.2.2.1 ≤ H.size) (hd : decode cc pc = .ok (.new index, 3)) (hcells : cells + 1 ≤ R.cells) (hslots : slots + xN ci ≤ R.slots)
    (kk : ∀ H1 : Heap, xat G s H.size (.inr (ci, xdef ci)) H1 → H1.size = H.size + 1 → (∀ q : Nat, q < H.size → H1[q]? = H[q]?) → W p l e R s m args below meth c H1 locs (cells + 1) (slots + xN ci) Q (F0 m (pc + 3) ls (.ref H.size :: rest))) : W p l e R s m args below meth c H locs cells slots Q (F0 m pc ls rest) := by
  have hc := xcl_get hc9
  have hKn := hK.1 ci _ hc
  refine W.newcK hx hb hown hcl (hts _ (xinst_in hc9)) (hts _ (xini_in hc9)) rfl hd hcells hslots hKn.2.1 rfl fun H1 kC hkC e1 z1 o1 => ?_
  refine kk H1 ⟨hA, _, hc, (u_born (xty ci) hts (xlay_in hc9) hKn hkC e1 (xty_ok hc9)).to (fun j hj => ?_)⟩ z1 o1
  have hj2 : j < xN ci := hj
  simp [vp_V, xdef, hj2]
end ROWS
set_option maxHeartbeats 4000000 in
/-- ONE STEP that calls nothing: if what comes behind it goes well, so does the step -/
theorem xloc_W {G : xG} {y : Nat} {p : Program} {l : Launch} {e : Env} {R : Room} {s : State} {m : MethodId} {args : Array Value} {below : List Frame} {meth : Method} {c : Code} {Q : State → Prop} {c0 s0 : Nat} (hC : xCx G y p l R s m args meth c)
    {pc len n pc' : Nat} {i i0 : Instr} {L L' : xL} {st st' : List Value} {h h' : xH} (hd : decode (xmb y) pc = .ok (i0, len)) (htr : xtr y pc i0 len = some (i, n)) (hl : xloc y i n L st h = some (.inl (pc', L', st', h')))
    (hbc : h'.2.2.1 ≤ c0 + R.cells) (hbs : h'.2.2.2 ≤ s0 + R.slots) {ls : Array Slot} {H : Heap} {locs : List Loc} {cells slots : Nat} (hL : xLr ls L) (hLen : L.length = xml y) (hR : xRp G s h H) (hS : va_S (xA G) s.heap H locs) (hc : cells + c0 = h.2.2.1) (hs : slots + s0 = h.2.2.2)
    (kk : ∀ (ls' : Array Slot) (H' : Heap) (locs' : List Loc) (cells' slots' : Nat), xLr ls' L' → xRp G s h' H' → va_S (xA G) s.heap H' locs' → cells' + c0 = h'.2.2.1 → slots' + s0 = h'.2.2.2 → W p l e R s m args below meth c H' locs' cells' slots' Q (F0 m pc' ls' st')) :
    W p l e R s m args below meth c H locs cells slots Q (F0 m pc ls st) := by
  obtain ⟨hx, hb, hml, hr, hlk, hown, hts, hEn, hst, hnm, hfr, hlo, htb⟩ := hC
  have hK := hEn.1
  have hNw := hEn.2.1
  have hAO := hEn.2.2.2.2.2.2
  cases i0 with
  | iload_n k =>
    obtain ⟨rfl, e⟩ := xg_if htr
    cases e
    simp only [xloc] at hl
    split at hl
    · rename_i hLx
      obtain ⟨rfl, rfl, rfl, rfl⟩ := xnx_inj hl
      exact lv_iload_n hx hb hd rfl (hL.2.2 _ _ hLx) (kk _ _ _ _ _ hL hR hS hc hs)
    · cases hl
  | iload k =>
    obtain ⟨rfl, e⟩ := xg_if htr
    cases e
    simp only [xloc] at hl
    split at hl
    · rename_i hLx
      obtain ⟨rfl, rfl, rfl, rfl⟩ := xnx_inj hl
      exact lv_iload hx hb hd (hL.2.2 _ _ hLx) (kk _ _ _ _ _ hL hR hS hc hs)
    · cases hl
  | lload_n k =>
    obtain ⟨rfl, e⟩ := xg_if htr
    cases e
    simp only [xloc] at hl
    split at hl
    · rename_i hLx
      obtain ⟨rfl, rfl, rfl, rfl⟩ := xnx_inj hl
      exact lv_lload_n hx hb hd rfl (hL.2.2 _ _ hLx) (kk _ _ _ _ _ hL hR hS hc hs)
    · cases hl
  | lload k =>
    obtain ⟨rfl, e⟩ := xg_if htr
    cases e
    simp only [xloc] at hl
    split at hl
    · rename_i hLx
      obtain ⟨rfl, rfl, rfl, rfl⟩ := xnx_inj hl
      exact lv_lload hx hb hd (hL.2.2 _ _ hLx) (kk _ _ _ _ _ hL hR hS hc hs)
    · cases hl
  | dload_n k =>
    obtain ⟨rfl, e⟩ := xg_if htr
    cases e
    simp only [xloc] at hl
    split at hl
    · rename_i hLx
      obtain ⟨rfl, rfl, rfl, rfl⟩ := xnx_inj hl
      exact lv_dload_n hx hb hd rfl (hL.2.2 _ _ hLx) (kk _ _ _ _ _ hL hR hS hc hs)
    · cases hl
  | dload k =>
    obtain ⟨rfl, e⟩ := xg_if htr
    cases e
    simp only [xloc] at hl
    split at hl
    · rename_i hLx
      obtain ⟨rfl, rfl, rfl, rfl⟩ := xnx_inj hl
      exact lv_dload hx hb hd (hL.2.2 _ _ hLx) (kk _ _ _ _ _ hL hR hS hc hs)
    · cases hl
  | aload_n k =>
    obtain ⟨rfl, e⟩ := xg_if htr
    cases e
    simp only [xloc] at hl
    split at hl
    · rename_i hLx
      obtain ⟨rfl, rfl, rfl, rfl⟩ := xnx_inj hl
      exact lv_aload_n hx hb hd rfl (hL.2.2 _ _ hLx) (kk _ _ _ _ _ hL hR hS hc hs)
    · rename_i hLx
      obtain ⟨rfl, rfl, rfl, rfl⟩ := xnx_inj hl
      exact lv_aload_nN hx hb hd rfl (hL.2.2 _ _ hLx) (kk _ _ _ _ _ hL hR hS hc hs)
    · cases hl
  | aload k =>
    obtain ⟨rfl, e⟩ := xg_if htr
    cases e
    simp only [xloc] at hl
    split at hl
    · rename_i hLx
      obtain ⟨rfl, rfl, rfl, rfl⟩ := xnx_inj hl
      exact lv_aload hx hb hd (hL.2.2 _ _ hLx) (kk _ _ _ _ _ hL hR hS hc hs)
    · rename_i hLx
      obtain ⟨rfl, rfl, rfl, rfl⟩ := xnx_inj hl
      exact lv_aloadN hx hb hd (hL.2.2 _ _ hLx) (kk _ _ _ _ _ hL hR hS hc hs)
    · cases hl
  | istore_n k =>
    obtain ⟨rfl, e⟩ := xg_if htr
    cases e
    simp only [xloc] at hl
    split at hl
    · obtain ⟨hk, hl⟩ := xg_if2 hl
      obtain ⟨rfl, rfl, rfl, rfl⟩ := xnx_inj hl
      exact lv_istore_n hx hb hd rfl (xLr_has hL) hk rfl (fun ls' hl' => kk _ _ _ _ _ (xLr_s1 hl') hR hS hc hs)
    · cases hl
  | istore k =>
    obtain ⟨rfl, e⟩ := xg_if htr
    cases e
    simp only [xloc] at hl
    split at hl
    · obtain ⟨hk, hl⟩ := xg_if2 hl
      obtain ⟨rfl, rfl, rfl, rfl⟩ := xnx_inj hl
      exact lv_istore hx hb hd (xLr_has hL) hk rfl (fun ls' hl' => kk _ _ _ _ _ (xLr_s1 hl') hR hS hc hs)
    · cases hl
  | lstore_n k =>
    obtain ⟨rfl, e⟩ := xg_if htr
    cases e
    simp only [xloc] at hl
    split at hl
    · obtain ⟨hk, hl⟩ := xg_if2 hl
      obtain ⟨rfl, rfl, rfl, rfl⟩ := xnx_inj hl
      exact lv_lstore_n hx hb hd rfl (xLr_has hL) hk rfl (fun ls' hl' => kk _ _ _ _ _ (xLr_s2 hl') hR hS hc hs)
    · cases hl
  | lstore k =>
    obtain ⟨rfl, e⟩ := xg_if htr
    cases e
    simp only [xloc] at hl
    split at hl
    · obtain ⟨hk, hl⟩ := xg_if2 hl
      obtain ⟨rfl, rfl, rfl, rfl⟩ := xnx_inj hl
      exact lv_lstore hx hb hd (xLr_has hL) hk rfl (fun ls' hl' => kk _ _ _ _ _ (xLr_s2 hl') hR hS hc hs)
    · cases hl
  | dstore_n k =>
    obtain ⟨rfl, e⟩ := xg_if htr
    cases e
    simp only [xloc] at hl
    split at hl
    · obtain ⟨hk, hl⟩ := xg_if2 hl
      obtain ⟨rfl, rfl, rfl, rfl⟩ := xnx_inj hl
      exact lv_dstore_n hx hb hd rfl (xLr_has hL) hk rfl (fun ls' hl' => kk _ _ _ _ _ (xLr_s2 hl') hR hS hc hs)
    · cases hl
  | dstore k =>
    obtain ⟨rfl, e⟩ := xg_if htr
    cases e
    simp only [xloc] at hl
    split at hl
    · obtain ⟨hk, hl⟩ := xg_if2 hl
      obtain ⟨rfl, rfl, rfl, rfl⟩ := xnx_inj hl
      exact lv_dstore hx hb hd (xLr_has hL) hk rfl (fun ls' hl' => kk _ _ _ _ _ (xLr_s2 hl') hR hS hc hs)
    · cases hl
  | astore_n k =>
    obtain ⟨rfl, e⟩ := xg_if htr
    cases e
    simp only [xloc] at hl
    split at hl
    · obtain ⟨hk, hl⟩ := xg_if2 hl
      obtain ⟨rfl, rfl, rfl, rfl⟩ := xnx_inj hl
      exact lv_astore_n hx hb hd rfl (xLr_has hL) hk rfl (fun ls' hl' => kk _ _ _ _ _ (xLr_s1 hl') hR hS hc hs)
    · obtain ⟨hk, hl⟩ := xg_if2 hl
      obtain ⟨rfl, rfl, rfl, rfl⟩ := xnx_inj hl
      exact lv_astore_nN hx hb hd rfl (xLr_has hL) hk rfl (fun ls' hl' => kk _ _ _ _ _ (xLr_s1 hl') hR hS hc hs)
    · cases hl
  | astore k =>
    obtain ⟨rfl, e⟩ := xg_if htr
    cases e
    simp only [xloc] at hl
    split at hl
    · obtain ⟨hk, hl⟩ := xg_if2 hl
      obtain ⟨rfl, rfl, rfl, rfl⟩ := xnx_inj hl
      exact lv_astore hx hb hd (xLr_has hL) hk rfl (fun ls' hl' => kk _ _ _ _ _ (xLr_s1 hl') hR hS hc hs)
    · obtain ⟨hk, hl⟩ := xg_if2 hl
      obtain ⟨rfl, rfl, rfl, rfl⟩ := xnx_inj hl
      exact lv_astoreN hx hb hd (xLr_has hL) hk rfl (fun ls' hl' => kk _ _ _ _ _ (xLr_s1 hl') hR hS hc hs)
    · cases hl
  | iconst k =>
    obtain ⟨rfl, e⟩ := xg_if htr
    cases e
    simp only [xloc] at hl
    obtain ⟨rfl, rfl, rfl, rfl⟩ := xnx_inj hl
    exact lv_iconst hx hb hd rfl (kk _ _ _ _ _ hL hR hS hc hs)
  | bipush k =>
    obtain ⟨⟨rfl, hv⟩, e⟩ := xg_if htr
    cases e
    simp only [xloc] at hl
    obtain ⟨rfl, rfl, rfl, rfl⟩ := xnx_inj hl
    exact lv_bipush hx hb hd hv (kk _ _ _ _ _ hL hR hS hc hs)
  | sipush k =>
    obtain ⟨⟨rfl, hv⟩, e⟩ := xg_if htr
    cases e
    simp only [xloc] at hl
    obtain ⟨rfl, rfl, rfl, rfl⟩ := xnx_inj hl
    exact lv_sipush hx hb hd hv (kk _ _ _ _ _ hL hR hS hc hs)
  | lconst k =>
    obtain ⟨rfl, e⟩ := xg_if htr
    cases e
    simp only [xloc] at hl
    obtain ⟨rfl, rfl, rfl, rfl⟩ := xnx_inj hl
    exact lv_lconst hx hb hd rfl (kk _ _ _ _ _ hL hR hS hc hs)
  | dconst k =>
    obtain ⟨rfl, e⟩ := xg_if htr
    cases e
    simp only [xloc] at hl
    obtain ⟨rfl, rfl, rfl, rfl⟩ := xnx_inj hl
    match k, hd, kk with
    | 0, hd, kk => exact lv_dconst0 hx hb hd (kk _ _ _ _ _ hL hR hS hc hs)
    | 1, hd, kk => exact lv_dconst1 hx hb hd (kk _ _ _ _ _ hL hR hS hc hs)
  | ldc2_w k =>
    obtain ⟨rfl, h1⟩ := xg_if2 htr
    split at h1
    · rename_i hpf
      cases h1
      simp only [xloc] at hl
      rw [if_pos (by omega), Nat.mul_div_cancel_left _ (by omega)] at hl
      obtain ⟨rfl, rfl, rfl, rfl⟩ := xnx_inj hl
      exact lv_ldc2 hx hb hown (hts _ (xpf_ok hpf)) hd (kk _ _ _ _ _ hL hR hS hc hs)
    · rename_i hpf
      cases h1
      simp only [xloc] at hl
      rw [if_neg (by omega)] at hl
      obtain ⟨rfl, rfl, rfl, rfl⟩ := xnx_inj hl
      rename_i _ k0 _
      rw [show (2 * k0 + 1) / 2 = k0 by omega] at kk
      exact lv_ldc2d hx hb hown (hts _ (xpf_ok hpf)) hd (kk _ _ _ _ _ hL hR hS hc hs)
    · cases h1
  | aconst_null =>
    obtain ⟨rfl, e⟩ := xg_if htr
    cases e
    simp only [xloc] at hl
    obtain ⟨rfl, rfl, rfl, rfl⟩ := xnx_inj hl
    exact lv_null hx hb hd (kk _ _ _ _ _ hL hR hS hc hs)
  | iadd =>
    obtain ⟨rfl, e⟩ := xg_if htr
    cases e
    simp only [xloc] at hl
    split at hl
    · obtain ⟨rfl, rfl, rfl, rfl⟩ := xnx_inj hl
      exact lv_iadd hx hb hd (kk _ _ _ _ _ hL hR hS hc hs)
    · cases hl
  | isub =>
    obtain ⟨rfl, e⟩ := xg_if htr
    cases e
    simp only [xloc] at hl
    split at hl
    · obtain ⟨rfl, rfl, rfl, rfl⟩ := xnx_inj hl
      exact lv_isub hx hb hd (kk _ _ _ _ _ hL hR hS hc hs)
    · cases hl
  | imul =>
    obtain ⟨rfl, e⟩ := xg_if htr
    cases e
    simp only [xloc] at hl
    split at hl
    · obtain ⟨rfl, rfl, rfl, rfl⟩ := xnx_inj hl
      exact lv_imul hx hb hd (kk _ _ _ _ _ hL hR hS hc hs)
    · cases hl
  | iand =>
    obtain ⟨rfl, e⟩ := xg_if htr
    cases e
    simp only [xloc] at hl
    split at hl
    · obtain ⟨rfl, rfl, rfl, rfl⟩ := xnx_inj hl
      exact lv_iand hx hb hd (kk _ _ _ _ _ hL hR hS hc hs)
    · cases hl
  | ladd =>
    obtain ⟨rfl, e⟩ := xg_if htr
    cases e
    simp only [xloc] at hl
    split at hl
    · obtain ⟨rfl, rfl, rfl, rfl⟩ := xnx_inj hl
      exact lv_ladd hx hb hd (kk _ _ _ _ _ hL hR hS hc hs)
    · cases hl
  | lsub =>
    obtain ⟨rfl, e⟩ := xg_if htr
    cases e
    simp only [xloc] at hl
    split at hl
    · obtain ⟨rfl, rfl, rfl, rfl⟩ := xnx_inj hl
      exact lv_lsub hx hb hd (kk _ _ _ _ _ hL hR hS hc hs)
    · cases hl
  | lmul =>
    obtain ⟨rfl, e⟩ := xg_if htr
    cases e
    simp only [xloc] at hl
    split at hl
    · obtain ⟨rfl, rfl, rfl, rfl⟩ := xnx_inj hl
      exact lv_lmul hx hb hd (kk _ _ _ _ _ hL hR hS hc hs)
    · cases hl
  | lor =>
    obtain ⟨rfl, e⟩ := xg_if htr
    cases e
    simp only [xloc] at hl
    split at hl
    · obtain ⟨rfl, rfl, rfl, rfl⟩ := xnx_inj hl
      exact lv_lor hx hb hd (kk _ _ _ _ _ hL hR hS hc hs)
    · cases hl
  | lshl =>
    obtain ⟨rfl, e⟩ := xg_if htr
    cases e
    simp only [xloc] at hl
    split at hl
    · obtain ⟨rfl, rfl, rfl, rfl⟩ := xnx_inj hl
      exact lv_lshl hx hb hd rfl (kk _ _ _ _ _ hL hR hS hc hs)
    · cases hl
  | lcmp =>
    obtain ⟨rfl, e⟩ := xg_if htr
    cases e
    simp only [xloc] at hl
    split at hl
    · obtain ⟨rfl, rfl, rfl, rfl⟩ := xnx_inj hl
      exact W.lcmp hx hb hd (kk _ _ _ _ _ hL hR hS hc hs)
    · cases hl
  | dmul =>
    obtain ⟨rfl, e⟩ := xg_if htr
    cases e
    simp only [xloc] at hl
    split at hl
    · obtain ⟨hn, hl⟩ := xg_if2 hl
      obtain ⟨rfl, rfl, rfl, rfl⟩ := xnx_inj hl
      exact lv_dmul hx hb hd (xnn_ok hn) (kk _ _ _ _ _ hL hR hS hc hs)
    · cases hl
  | dsub =>
    obtain ⟨rfl, e⟩ := xg_if htr
    cases e
    simp only [xloc] at hl
    split at hl
    · obtain ⟨hn, hl⟩ := xg_if2 hl
      obtain ⟨rfl, rfl, rfl, rfl⟩ := xnx_inj hl
      exact lv_dsub hx hb hd (xnn_ok hn) (kk _ _ _ _ _ hL hR hS hc hs)
    · cases hl
  | ddiv =>
    obtain ⟨rfl, e⟩ := xg_if htr
    cases e
    simp only [xloc] at hl
    split at hl
    · obtain ⟨hn, hl⟩ := xg_if2 hl
      obtain ⟨rfl, rfl, rfl, rfl⟩ := xnx_inj hl
      exact lv_ddiv hx hb hd (xnn_ok hn) (kk _ _ _ _ _ hL hR hS hc hs)
    · cases hl
  | dneg =>
    obtain ⟨rfl, e⟩ := xg_if htr
    cases e
    simp only [xloc] at hl
    split at hl
    · obtain ⟨rfl, rfl, rfl, rfl⟩ := xnx_inj hl
      exact lv_dneg hx hb hd (kk _ _ _ _ _ hL hR hS hc hs)
    · cases hl
  | i2d =>
    obtain ⟨rfl, e⟩ := xg_if htr
    cases e
    simp only [xloc] at hl
    split at hl
    · obtain ⟨rfl, rfl, rfl, rfl⟩ := xnx_inj hl
      exact lv_i2d hx hb hd (kk _ _ _ _ _ hL hR hS hc hs)
    · cases hl
  | l2d =>
    obtain ⟨rfl, e⟩ := xg_if htr
    cases e
    simp only [xloc] at hl
    split at hl
    · obtain ⟨rfl, rfl, rfl, rfl⟩ := xnx_inj hl
      exact lv_l2d hx hb hd (kk _ _ _ _ _ hL hR hS hc hs)
    · cases hl
  | d2l =>
    obtain ⟨rfl, e⟩ := xg_if htr
    cases e
    simp only [xloc] at hl
    split at hl
    · obtain ⟨rfl, rfl, rfl, rfl⟩ := xnx_inj hl
      exact lv_d2l hx hb hd (kk _ _ _ _ _ hL hR hS hc hs)
    · cases hl
  | dcmp o =>
    obtain ⟨rfl, e⟩ := xg_if htr
    cases e
    simp only [xloc] at hl
    split at hl
    · obtain ⟨rfl, rfl, rfl, rfl⟩ := xnx_inj hl
      exact lv_dcmp hx hb hd (kk _ _ _ _ _ hL hR hS hc hs)
    · cases hl
  | i2l =>
    obtain ⟨rfl, e⟩ := xg_if htr
    cases e
    simp only [xloc] at hl
    split at hl
    · obtain ⟨rfl, rfl, rfl, rfl⟩ := xnx_inj hl
      exact lv_i2l hx hb hd rfl (kk _ _ _ _ _ hL hR hS hc hs)
    · cases hl
  | dup =>
    obtain ⟨rfl, e⟩ := xg_if htr
    cases e
    simp only [xloc] at hl
    split at hl
    · obtain ⟨hn, hl⟩ := xg_if2 hl
      obtain ⟨rfl, rfl, rfl, rfl⟩ := xnx_inj hl
      exact lv_dup hx hb hd hn (kk _ _ _ _ _ hL hR hS hc hs)
    · cases hl
  | pop =>
    obtain ⟨rfl, e⟩ := xg_if htr
    cases e
    simp only [xloc] at hl
    split at hl
    · obtain ⟨hn, hl⟩ := xg_if2 hl
      obtain ⟨rfl, rfl, rfl, rfl⟩ := xnx_inj hl
      exact lv_pop hx hb hd hn (kk _ _ _ _ _ hL hR hS hc hs)
    · cases hl
  | dup2 =>
    obtain ⟨rfl, e⟩ := xg_if htr
    cases e
    simp only [xloc] at hl
    split at hl
    · obtain ⟨⟨hn, hn2⟩, hl⟩ := xg_if2 hl
      obtain ⟨rfl, rfl, rfl, rfl⟩ := xnx_inj hl
      exact lv_dup2_11 hx hb hd hn hn2 (kk _ _ _ _ _ hL hR hS hc hs)
    · cases hl
  | iinc k o =>
    obtain ⟨rfl, e⟩ := xg_if htr
    cases e
    simp only [xloc] at hl
    split at hl
    · rename_i hLx
      obtain ⟨rfl, rfl, rfl, rfl⟩ := xnx_inj hl
      obtain ⟨j, hj⟩ := List.getElem?_of_mem (xpairs_of hLx)
      exact lv_iinc hx hb hd (xLr_has hL) hj rfl (List.getElem?_eq_some_iff.mp hLx).1 rfl (fun ls' hl' => kk _ _ _ _ _ (xLr_s1 hl') hR hS hc hs)
    · cases hl
  | goto off =>
    obtain ⟨rfl, h1⟩ := xg_if2 htr
    obtain ⟨t, ht, e⟩ := Option.map_eq_some_iff.mp h1
    cases e
    simp only [xloc] at hl
    obtain ⟨rfl, rfl, rfl, rfl⟩ := xnx_inj hl
    exact lv_goto hx hb hd (xtg_ok ht) (kk _ _ _ _ _ hL hR hS hc hs)
  | if_icmp o off =>
    obtain ⟨rfl, h1⟩ := xg_if2 htr
    obtain ⟨t, ht, e⟩ := Option.map_eq_some_iff.mp h1
    cases e
    simp only [xloc] at hl
    split at hl
    · rename_i x2 x1 rest
      cases o with
      | eq =>
        exact lv_icmp_eq hx hb hd (xtg_ok ht) (fun hq => by rw [show xcmp .eq x1 x2 = true from decide_eq_true hq] at hl; exact xtk hl kk hL hR hS hc hs) (fun hq => by rw [show xcmp .eq x1 x2 = false from decide_eq_false hq] at hl; exact xtk hl kk hL hR hS hc hs)
      | ne =>
        exact lv_icmp_ne hx hb hd (xtg_ok ht) (fun hq => by rw [show xcmp .ne x1 x2 = true from decide_eq_true hq] at hl; exact xtk hl kk hL hR hS hc hs) (fun hq => by rw [show xcmp .ne x1 x2 = false from decide_eq_false (not_not_intro hq)] at hl; exact xtk hl kk hL hR hS hc hs)
      | lt =>
        exact lv_icmp_lt hx hb hd (xtg_ok ht) (fun hq => by rw [show xcmp .lt x1 x2 = true from decide_eq_true hq] at hl; exact xtk hl kk hL hR hS hc hs) (fun hq => by rw [show xcmp .lt x1 x2 = false from decide_eq_false hq] at hl; exact xtk hl kk hL hR hS hc hs)
      | ge =>
        exact lv_icmp_ge hx hb hd (xtg_ok ht) (fun hq => by rw [show xcmp .ge x1 x2 = true from decide_eq_true hq] at hl; exact xtk hl kk hL hR hS hc hs) (fun hq => by rw [show xcmp .ge x1 x2 = false from decide_eq_false hq] at hl; exact xtk hl kk hL hR hS hc hs)
      | gt =>
        exact lv_icmp_gt hx hb hd (xtg_ok ht) (fun hq => by rw [show xcmp .gt x1 x2 = true from decide_eq_true hq] at hl; exact xtk hl kk hL hR hS hc hs) (fun hq => by rw [show xcmp .gt x1 x2 = false from decide_eq_false hq] at hl; exact xtk hl kk hL hR hS hc hs)
      | le =>
        exact lv_icmp_le hx hb hd (xtg_ok ht) (fun hq => by rw [show xcmp .le x1 x2 = true from decide_eq_true hq] at hl; exact xtk hl kk hL hR hS hc hs) (fun hq => by rw [show xcmp .le x1 x2 = false from decide_eq_false hq] at hl; exact xtk hl kk hL hR hS hc hs)
    · cases hl
  | ifCond o off =>
    obtain ⟨rfl, h1⟩ := xg_if2 htr
    obtain ⟨t, ht, e⟩ := Option.map_eq_some_iff.mp h1
    cases e
    simp only [xloc] at hl
    split at hl
    · rename_i x1 rest
      cases o with
      | eq =>
        exact lv_if_eq hx hb hd (xtg_ok ht) (fun hq => by rw [show xcmp .eq x1 0 = true from decide_eq_true hq] at hl; exact xtk hl kk hL hR hS hc hs) (fun hq => by rw [show xcmp .eq x1 0 = false from decide_eq_false hq] at hl; exact xtk hl kk hL hR hS hc hs)
      | ne =>
        exact lv_if_ne hx hb hd (xtg_ok ht) (fun hq => by rw [show xcmp .ne x1 0 = true from decide_eq_true hq] at hl; exact xtk hl kk hL hR hS hc hs) (fun hq => by rw [show xcmp .ne x1 0 = false from decide_eq_false (not_not_intro hq)] at hl; exact xtk hl kk hL hR hS hc hs)
      | lt =>
        exact lv_if_lt hx hb hd (xtg_ok ht) (fun hq => by rw [show xcmp .lt x1 0 = true from decide_eq_true hq] at hl; exact xtk hl kk hL hR hS hc hs) (fun hq => by rw [show xcmp .lt x1 0 = false from decide_eq_false hq] at hl; exact xtk hl kk hL hR hS hc hs)
      | ge =>
        exact lv_if_ge hx hb hd (xtg_ok ht) (fun hq => by rw [show xcmp .ge x1 0 = true from decide_eq_true hq] at hl; exact xtk hl kk hL hR hS hc hs) (fun hq => by rw [show xcmp .ge x1 0 = false from decide_eq_false hq] at hl; exact xtk hl kk hL hR hS hc hs)
      | gt =>
        exact lv_if_gt hx hb hd (xtg_ok ht) (fun hq => by rw [show xcmp .gt x1 0 = true from decide_eq_true hq] at hl; exact xtk hl kk hL hR hS hc hs) (fun hq => by rw [show xcmp .gt x1 0 = false from decide_eq_false hq] at hl; exact xtk hl kk hL hR hS hc hs)
      | le =>
        exact lv_if_le hx hb hd (xtg_ok ht) (fun hq => by rw [show xcmp .le x1 0 = true from decide_eq_true hq] at hl; exact xtk hl kk hL hR hS hc hs) (fun hq => by rw [show xcmp .le x1 0 = false from decide_eq_false hq] at hl; exact xtk hl kk hL hR hS hc hs)
    · cases hl
  | ifnull off =>
    obtain ⟨rfl, h1⟩ := xg_if2 htr
    obtain ⟨t, ht, e⟩ := Option.map_eq_some_iff.mp h1
    cases e
    simp only [xloc] at hl
    split at hl
    · obtain ⟨rfl, rfl, rfl, rfl⟩ := xnx_inj hl
      exact lv_ifnullN hx hb hd (xtg_ok ht) (kk _ _ _ _ _ hL hR hS hc hs)
    · obtain ⟨rfl, rfl, rfl, rfl⟩ := xnx_inj hl
      exact lv_ifnull hx hb hd (kk _ _ _ _ _ hL hR hS hc hs)
    · cases hl
  | tableswitch d lo hi offs =>
    obtain ⟨⟨h1, h2⟩, e⟩ := xg_if htr
    cases e
    simp only [xloc] at hl
    split at hl
    · split at hl
      · rename_i hq
        obtain ⟨rfl, rfl, rfl, rfl⟩ := xnx_inj hl
        exact lv_tableOut hx hb hd hq (by omega) (kk _ _ _ _ _ hL hR hS hc hs)
      · rename_i hq
        split at hl
        · rename_i ho
          obtain ⟨rfl, rfl, rfl, rfl⟩ := xnx_inj hl
          rw [Array.getElem?_map] at ho
          obtain ⟨off, ho1, ho2⟩ := Option.map_eq_some_iff.mp ho
          subst ho2
          have h3 : 0 ≤ (pc : Int) + off := by
            have hm := Array.mem_of_getElem? ho1
            have h4 := Array.all_eq_true_iff_forall_mem.mp h2 off hm
            exact of_decide_eq_true h4
          exact lv_tableIn hx hb hd (fun q => hq (Or.inl q)) (fun q => hq (Or.inr q)) ho1 (by omega) (kk _ _ _ _ _ hL hR hS hc hs)
        · cases hl
    · cases hl
  | iaload =>
    obtain ⟨rfl, e⟩ := xg_if htr
    cases e
    simp only [xloc] at hl
    split at hl
    · split at hl
      · rename_i hcell
        obtain ⟨⟨hk, hn, hlt⟩, hl⟩ := xg_if2 hl
        obtain ⟨rfl, rfl, rfl, rfl⟩ := xnx_inj hl
        exact x_iaload hx hb hK hk (hR.1 _ _ hcell) ⟨hn, hlt⟩ hd (kk _ _ _ _ _ hL hR hS hc hs)
      · cases hl
    · cases hl
  | laload =>
    obtain ⟨rfl, e⟩ := xg_if htr
    cases e
    simp only [xloc] at hl
    split at hl
    · split at hl
      · rename_i hcell
        obtain ⟨⟨hn, hlt⟩, hl⟩ := xg_if2 hl
        obtain ⟨rfl, rfl, rfl, rfl⟩ := xnx_inj hl
        exact va_lald hx hb hK (xP1 (hR.1 _ _ hcell)) 0 1 rfl rfl (xin_of hn hlt) hd (kk _ _ _ _ _ hL hR hS hc hs)
      · cases hl
    · cases hl
  | aaload =>
    obtain ⟨rfl, e⟩ := xg_if htr
    cases e
    simp only [xloc] at hl
    split at hl
    · split at hl
      · rename_i hcell
        obtain ⟨⟨hn, hlt⟩, hl⟩ := xg_if2 hl
        obtain ⟨rfl, rfl, rfl, rfl⟩ := xnx_inj hl
        exact va_aldq hx hb hK (xP1 (hR.1 _ _ hcell)) 0 2 rfl rfl (xin_of hn hlt) hd (kk _ _ _ _ _ hL hR hS hc hs)
      · cases hl
    · cases hl
  | iastore =>
    obtain ⟨rfl, e⟩ := xg_if htr
    cases e
    simp only [xloc] at hl
    split at hl
    · split at hl
      · rename_i hcell
        obtain ⟨⟨hn, hlt⟩, hl⟩ := xg_if2 hl
        obtain ⟨rfl, rfl, rfl, rfl⟩ := xnx_inj hl
        exact x_iastore hx hb hK (hR.1 _ _ hcell) ⟨hn, hlt⟩ hd (fun H1 z he oq => kk _ _ _ _ _ hL (xRp_put hR he z oq) (hS.put z oq (xat_A (hR.1 _ _ hcell))) hc hs)
      · cases hl
    · cases hl
  | lastore =>
    obtain ⟨rfl, e⟩ := xg_if htr
    cases e
    simp only [xloc] at hl
    split at hl
    · split at hl
      · rename_i hcell
        obtain ⟨⟨hn, hlt⟩, hl⟩ := xg_if2 hl
        obtain ⟨rfl, rfl, rfl, rfl⟩ := xnx_inj hl
        exact x_lastore hx hb hK (hR.1 _ _ hcell) ⟨hn, hlt⟩ hd (fun H1 z he oq => kk _ _ _ _ _ hL (xRp_put hR he z oq) (hS.put z oq (xat_A (hR.1 _ _ hcell))) hc hs)
      · cases hl
    · cases hl
  | aastore =>
    obtain ⟨rfl, e⟩ := xg_if htr
    cases e
    simp only [xloc] at hl
    split at hl
    · split at hl
      · rename_i hcell
        obtain ⟨⟨hrc, hn, hlt⟩, hl⟩ := xg_if2 hl
        obtain ⟨rfl, rfl, rfl, rfl⟩ := xnx_inj hl
        exact x_aastore hx hb hK (hR.1 _ _ hcell) (xrcv_at hR hrc) ⟨hn, hlt⟩ hd (fun H1 z he oq => kk _ _ _ _ _ hL (xRp_put hR he z oq) (hS.put z oq (xat_A (hR.1 _ _ hcell))) hc hs)
      · cases hl
    · cases hl
  | arraylength =>
    obtain ⟨rfl, e⟩ := xg_if htr
    cases e
    simp only [xloc] at hl
    split at hl
    · split at hl
      · rename_i hcell
        obtain ⟨rfl, rfl, rfl, rfl⟩ := xnx_inj hl
        exact x_alen hx hb hK (hR.1 _ _ hcell) hd (kk _ _ _ _ _ hL hR hS hc hs)
      · cases hl
    · cases hl
  | newarray t =>
    obtain ⟨rfl, e⟩ := xg_if htr
    cases e
    simp only [xloc] at hl
    split at hl
    · obtain ⟨⟨hn0, hn, hle⟩, hl⟩ := xg_if2 hl
      have hz := hR.2.1 hn0
      split at hl
      · obtain ⟨rfl, rfl, rfl, rfl⟩ := xnx_inj hl
        refine x_newa hx hb hK rfl (hts _ xarr_int) rfl hd hn hle (by simp only [xnew] at hbc; omega) (by simp only [xnew] at hbs; omega) (fun H1 he z oq => ?_)
        rw [hz]
        exact kk _ _ _ _ _ hL (xRp_new hR hn0 (he hR.2.2) z oq) (xS_new hS z oq) (by simp only [xnew]; omega) (by simp only [xnew]; omega)
      · obtain ⟨rfl, rfl, rfl, rfl⟩ := xnx_inj hl
        refine x_newl hx hb hK rfl (hts _ xarr_long) rfl hd hn hle (by simp only [xnew] at hbc; omega) (by simp only [xnew] at hbs; omega) (fun H1 he z oq => ?_)
        rw [hz]
        exact kk _ _ _ _ _ hL (xRp_new hR hn0 (he hR.2.2) z oq) (xS_new hS z oq) (by simp only [xnew]; omega) (by simp only [xnew]; omega)
      · cases hl
    · cases hl
  | anewarray k =>
    obtain ⟨⟨rfl, hpf⟩, e⟩ := xg_if htr
    cases e
    simp only [xloc] at hl
    split at hl
    · obtain ⟨⟨hn0, hn, hle⟩, hl⟩ := xg_if2 hl
      have hz := hR.2.1 hn0
      obtain ⟨rfl, rfl, rfl, rfl⟩ := xnx_inj hl
      refine x_newq hx hb hK hown (hts _ (xpf_ok hpf).1) hAO hR.2.2 hd hn hle (by simp only [xnew] at hbc; omega) (by simp only [xnew] at hbs; omega) (fun H1 he z oq => ?_)
      rw [hz]
      exact kk _ _ _ _ _ hL (xRp_new hR hn0 he z oq) (xS_new hS z oq) (by simp only [xnew]; omega) (by simp only [xnew]; omega)
    · cases hl
  | getfield k =>
    obtain ⟨rfl, h1⟩ := xg_if2 htr
    split at h1
    · rename_i hpf
      cases h1
      obtain ⟨hw, hkN, hc9⟩ := xpf_ok hpf
      simp only [xloc] at hl
      split at hl
      · split at hl
        · rename_i hcell
          split at hl
          · rename_i hci
            subst hci
            split at hl
            · rename_i hv
              rw [xdiv hkN] at hcell
              rw [xmod hkN] at hv
              obtain ⟨rfl, rfl, rfl, rfl⟩ := xnx_inj hl
              exact va_get hx hb hts (xlay_in hc9) hown hK (xP1o (hR.1 _ _ hcell)) 0 rfl (xcl_get hc9) _ hkN (hts _ hw) (fun _ q => q) hv hd (kk _ _ _ _ _ hL hR hS hc hs)
            · cases hl
          · cases hl
        · cases hl
      · cases hl
    · rename_i hpf
      cases h1
      obtain ⟨hw, hkN, hc9⟩ := xpf_ok hpf
      simp only [xloc] at hl
      split at hl
      · split at hl
        · rename_i hcell
          split at hl
          · rename_i hci
            subst hci
            split at hl
            · rename_i hv
              rw [xdiv hkN] at hcell
              rw [xmod hkN] at hv
              obtain ⟨rfl, rfl, rfl, rfl⟩ := xnx_inj hl
              exact va_getN hx hb hts (xlay_in hc9) hown hK (xP1o (hR.1 _ _ hcell)) 0 rfl (xcl_get hc9) _ hkN (va_Nw.use rfl (hNw _ hw rfl)) (fun _ q => q) hv hd (kk _ _ _ _ _ hL hR hS hc hs)
            · cases hl
          · cases hl
        · cases hl
      · cases hl
    · cases h1
  | putfield k =>
    obtain ⟨rfl, h1⟩ := xg_if2 htr
    split at h1
    · rename_i hpf
      obtain ⟨hfin, e⟩ := xg_if h1
      cases e
      obtain ⟨hw, hkN, hc9⟩ := xpf_ok hpf
      simp only [xloc] at hl
      split at hl
      · split at hl
        · rename_i hcell
          obtain ⟨⟨hci, hlt, hfit⟩, hl⟩ := xg_if2 hl
          subst hci
          rw [xdiv hkN, xmod hkN] at hfit
          rw [xmod hkN] at hlt
          obtain ⟨rfl, rfl, rfl, rfl⟩ := xnx_inj hl
          rw [xmod hkN, xdiv hkN] at kk
          rw [xdiv hkN] at hcell
          exact x_put hx hb hts hc9 hown hK (hR.1 _ _ hcell) hkN (Or.inl ⟨hts _ hw, xfin_ok hnm hfin⟩) hfit hlt hd (fun H1 z he oq => kk _ _ _ _ _ hL (xRp_put hR he z oq) (hS.put z oq (xat_A (hR.1 _ _ hcell))) hc hs)
        · cases hl
      · cases hl
    · rename_i hpf
      obtain ⟨hfin, e⟩ := xg_if h1
      cases e
      obtain ⟨hw, hkN, hc9⟩ := xpf_ok hpf
      simp only [xloc] at hl
      split at hl
      · split at hl
        · rename_i hcell
          obtain ⟨⟨hci, hlt, hfit⟩, hl⟩ := xg_if2 hl
          subst hci
          rw [xdiv hkN, xmod hkN] at hfit
          rw [xmod hkN] at hlt
          obtain ⟨rfl, rfl, rfl, rfl⟩ := xnx_inj hl
          rw [xmod hkN, xdiv hkN] at kk
          rw [xdiv hkN] at hcell
          exact x_put hx hb hts hc9 hown hK (hR.1 _ _ hcell) hkN (Or.inr ⟨va_Nw.use rfl (hNw _ hw rfl), hfin⟩) hfit hlt hd (fun H1 z he oq => kk _ _ _ _ _ hL (xRp_put hR he z oq) (hS.put z oq (xat_A (hR.1 _ _ hcell))) hc hs)
        · cases hl
      · cases hl
    · cases h1
  | new k =>
    obtain ⟨rfl, h1⟩ := xg_if2 htr
    split at h1
    · rename_i hpf
      cases h1
      obtain ⟨hw, hc9⟩ := xpf_ok hpf
      simp only [xloc] at hl
      rw [if_pos (by omega)] at hl
      obtain ⟨hn0, hl⟩ := xg_if2 hl
      have hz := hR.2.1 hn0
      obtain ⟨rfl, rfl, rfl, rfl⟩ := xnx_inj hl
      refine x_new hx hb hts hc9 hown hK (hts _ hw) hR.2.2 hd (by simp only [xnew] at hbc; omega) (by simp only [xnew] at hbs; omega) (fun H1 he z oq => ?_)
      rw [hz]
      exact kk _ _ _ _ _ hL (xRp_new hR hn0 he z oq) (xS_new hS z oq) (by simp only [xnew]; omega) (by simp only [xnew]; omega)
    · obtain ⟨-, e⟩ := xg_if h1
      cases e
      simp only [xloc] at hl
      rw [if_neg (by omega)] at hl
      obtain ⟨-, hl⟩ := xg_if hl
      cases hl
    · cases h1
  | invokevirtual k =>
    obtain ⟨rfl, h1⟩ := xg_if2 htr
    split at h1
    · obtain ⟨-, e⟩ := xg_if h1
      cases e
      simp only [xloc] at hl
      cases hl
    · cases h1
  | invokestatic k =>
    obtain ⟨rfl, h1⟩ := xg_if2 htr
    split at h1
    · obtain ⟨⟨-, hz⟩, e⟩ := xg_if h1
      cases e
      simp only [xloc] at hl
      split at hl
      · obtain ⟨-, hl⟩ := xg_if2 hl
        rw [if_neg (by omega), if_neg (by omega)] at hl
        cases hl
      · cases hl
    · rename_i hpf
      obtain ⟨⟨hf1, hf2⟩, e⟩ := xg_if h1
      cases e
      simp only [xloc] at hl
      split at hl
      · obtain ⟨hst4, hl⟩ := xg_if2 hl
        rw [if_pos trivial] at hl
        obtain ⟨rfl, rfl, rfl, rfl⟩ := xnx_inj hl
        exact va_mmax hx hb (by rw [hml, ← hLen]; exact hL.1.symm) hown (hts _ (xpf_ok hpf)) (hts _ xmath_maxS) (hts _ xmath_ini) (hts _ xmath_maxC) (by omega) (by have := xcat_sum hst4; omega) (by omega) (by omega) hd (kk _ _ _ _ _ hL hR hS hc hs)
      · cases hl
    · rename_i hpf
      obtain ⟨⟨hf1, hf2⟩, e⟩ := xg_if h1
      cases e
      simp only [xloc] at hl
      split at hl
      · obtain ⟨hst4, hl⟩ := xg_if2 hl
        rw [if_neg (by decide), if_pos trivial] at hl
        obtain ⟨rfl, rfl, rfl, rfl⟩ := xnx_inj hl
        exact va_mmin hx hb (by rw [hml, ← hLen]; exact hL.1.symm) hown (hts _ (xpf_ok hpf)) (hts _ xmath_minS) (hts _ xmath_ini) (hts _ xmath_minC) (by omega) (by have := xcat_sum hst4; omega) (by omega) (by omega) hd (kk _ _ _ _ _ hL hR hS hc hs)
      · cases hl
    · cases h1
  | invokespecial k =>
    obtain ⟨rfl, h1⟩ := xg_if2 htr
    split at h1
    · obtain ⟨⟨-, hz⟩, e⟩ := xg_if h1
      cases e
      simp only [xloc] at hl
      split at hl
      · obtain ⟨⟨hz1, -⟩, -⟩ := xg_if2 hl
        omega
      · cases hl
    · obtain ⟨⟨-, hz⟩, e⟩ := xg_if h1
      cases e
      simp only [xloc] at hl
      split at hl
      · obtain ⟨⟨hz1, -⟩, -⟩ := xg_if2 hl
        omega
      · cases hl
    · rename_i hpf
      obtain ⟨⟨hf1, hf2⟩, e⟩ := xg_if h1
      cases e
      simp only [xloc] at hl
      split at hl
      · obtain ⟨⟨-, hst4⟩, hl⟩ := xg_if2 hl
        obtain ⟨rfl, rfl, rfl, rfl⟩ := xnx_inj hl
        exact W.objInit hx hb hown (hts _ (xpf_ok hpf)) (hts _ xobj_I) (hts _ xobj_C) rfl (by show ls.size = _; rw [hml, ← hLen]; exact hL.1) rfl hd (by omega) (by have := xcat_sum hst4; simp only [JFrame.monitorRoom]; omega) (kk _ _ _ _ _ hL hR hS hc hs)
      · cases hl
    · cases h1
  | ireturn =>
    obtain ⟨rfl, e⟩ := xg_if htr
    cases e
    simp only [xloc] at hl
    split at hl
    · obtain ⟨-, hl⟩ := xg_if hl
      cases hl
    · cases hl
  | lreturn =>
    obtain ⟨rfl, e⟩ := xg_if htr
    cases e
    simp only [xloc] at hl
    split at hl
    · obtain ⟨-, hl⟩ := xg_if hl
      cases hl
    · cases hl
  | dreturn =>
    obtain ⟨rfl, e⟩ := xg_if htr
    cases e
    simp only [xloc] at hl
    split at hl
    · obtain ⟨-, hl⟩ := xg_if hl
      cases hl
    · cases hl
  | return_ =>
    obtain ⟨rfl, e⟩ := xg_if htr
    cases e
    simp only [xloc] at hl
    split at hl
    · obtain ⟨-, hl⟩ := xg_if hl
      cases hl
    · cases hl
  | _ =>
    cases htr
end
section
/-! The small machine's runs are the real machine's. -/
def xhq (q : xC ⊕ (xR × xH)) : xH := match q with
  | .inl c => c.2.2.2
  | .inr r => r.2
theorem xloc_mono {y n : Nat} {i : Instr} {L : xL} {st : List Value} {h : xH} {q : xC ⊕ (xR × xH)} (hl : xloc y i n L st h = some q) : h.2.2.1 ≤ (xhq q).2.2.1 ∧ h.2.2.2 ≤ (xhq q).2.2.2 := by
  cases i <;> simp only [xloc, xbr] at hl
  all_goals
    (repeat' split at hl)
    all_goals first
      | (cases hl; done)
      | (simp only [xnx, Option.some.injEq] at hl; subst hl; exact ⟨Nat.le_refl _, Nat.le_refl _⟩)
      | (simp only [xnx, Option.some.injEq] at hl; subst hl; exact ⟨Nat.le_add_right _ _, Nat.le_add_right _ _⟩)
      | (cases hl; exact ⟨Nat.le_refl _, Nat.le_refl _⟩)
      | (cases hl; exact ⟨Nat.le_add_right _ _, Nat.le_add_right _ _⟩)
theorem xloc_len {y n pc' : Nat} {i : Instr} {L L' : xL} {st st' : List Value} {h h' : xH} (hl : xloc y i n L st h = some (.inl (pc', L', st', h'))) : L'.length = L.length := by
  cases i <;> simp only [xloc, xbr] at hl
  all_goals
    (repeat' split at hl)
    all_goals first
      | (cases hl; done)
      | (obtain ⟨-, rfl, -, -⟩ := xnx_inj hl; rfl)
      | (obtain ⟨-, rfl, -, -⟩ := xnx_inj hl; exact xs1_len _ _ _)
      | (obtain ⟨-, rfl, -, -⟩ := xnx_inj hl; exact xs2_len _ _ _)
/-- what a method's run came to, as the real machine's contract has it -/
def xQ (G : xG) (r : xR) (h1 : xH) : Array Value → State → Outcome → State → Prop := fun _ st o t => ∃ v, r = .inl v ∧ o = .returned v ∧ xRp G t h1 t.heap ∧ va_F (xA G) st t
def xX (G : xG) (r : xR) (h1 : xH) : String → State → State → Prop := fun E st t => ∃ k, r = .inr k ∧ E = xec k ∧ xRp G t h1 t.heap ∧ va_F (xA G) st t
def xPc (G : xG) (a : List Value) (h : xH) : Array Value → State → Prop := fun v U => v = a.toArray ∧ xRp G U h U.heap ∧ xEn G U
theorem xPc_blind {G : xG} {a : List Value} {h : xH} : FrameBlind (xPc G a h) := by
  intro v U g mk ⟨h1, h2, h3⟩
  have hvm : U.vm.Alike (U.calling g mk v).vm := Vm.Alike.refl U.vm
  exact ⟨h1, xRp_moved hvm h2, xEn_moved h3 (State.WarmedH.refl U) (fun _ _ _ => rfl)⟩
def xEnd (G : xG) (y : Nat) (p : Program) (l : Launch) (e : Env) (R : Room) (s : State) (m : MethodId) (args : Array Value) (below : List Frame) (meth : Method) (c : Code) (Q : State → Prop) (c0 s0 : Nat) (r : xR × xH) : Prop :=
  ∀ (pc : Nat) (L : xL) (st : List Value) (h : xH) (i : Instr) (n : Nat) (ls : Array Slot) (H : Heap) (locs : List Loc) (cells slots : Nat), xop y pc = some (i, n) → xloc y i n L st h = some (.inr r) → xLr ls L → L.length = xml y → xRp G s h H → va_S (xA G) s.heap H locs → cells + c0 = h.2.2.1 → slots + s0 = h.2.2.2 →
    W p l e R s m args below meth c H locs cells slots Q (F0 m pc ls st)
theorem xop_ok {y pc n : Nat} {i : Instr} (h : xop y pc = some (i, n)) : ∃ i0 len, decode (xmb y) pc = .ok (i0, len) ∧ xtr y pc i0 len = some (i, n) := by
  unfold xop at h
  split at h
  · rename_i i0 len hd
    exact ⟨i0, len, hd, h⟩
  · cases h
theorem xfit_exc (e : Nat) (h : e < 3) : Bundle.fit (xec e) = true := by
  have key : ∀ e, e < 3 → Bundle.fit (xec e) = true := by decide +kernel
  exact key e h
theorem xfit_names : ∀ n ∈ xexn, Bundle.fit n = true := by decide +kernel
theorem xini_exc (e : Nat) (h : e < 3) : Cond.initialized (xec e) ∈ xgt := by
  have key : ∀ e, e < 3 → Cond.initialized (xec e) ∈ lw_tbl ∧ goodWord (Cond.initialized (xec e)) = true := by decide +kernel
  exact List.mem_filter.mpr (key e h)
/-- instructions by the kind of their step -/
def xkind (i : Instr) : Nat := match i with
  | .ireturn => 1
  | .lreturn => 2
  | .dreturn => 3
  | .return_ => 4
  | .new _ => 5
  | .invokevirtual _ => 6
  | .invokestatic _ => 7
  | .invokespecial _ => 8
  | _ => 0
theorem xtr_kind {y pc len n : Nat} {i i0 : Instr} (htr : xtr y pc i0 len = some (i, n)) : xkind i0 = xkind i := by
  cases i0 <;> simp only [xtr] at htr
  all_goals
    (repeat' split at htr)
    all_goals first
      | (cases htr; done)
      | (cases htr; rfl)
      | (obtain ⟨t, ht, e⟩ := Option.map_eq_some_iff.mp htr; cases e; rfl)
theorem xloc_kind {y n : Nat} {i : Instr} {L : xL} {st : List Value} {h : xH} {r : xR × xH} (hl : xloc y i n L st h = some (.inr r)) : 1 ≤ xkind i ∧ xkind i ≤ 5 := by
  cases i <;> simp only [xloc, xbr] at hl
  all_goals
    (repeat' split at hl)
    all_goals first
      | (cases hl; done)
      | exact ⟨by simp [xkind], by simp [xkind]⟩
theorem xca_kind {i : Instr} {st : List Value} {h : xH} {q : Nat × List Value × List Value} (hq : xca i st h = some q) : 6 ≤ xkind i := by
  unfold xca at hq
  split at hq
  · exact Nat.le_refl _
  · simp [xkind]
  · simp [xkind]
  · cases hq
/-- a body's last step: a return -/
theorem xend_ret {G : xG} {y : Nat} {p : Program} {l : Launch} {e : Env} {R : Room} {s : State} {m : MethodId} {args : Array Value} {below : List Frame} {meth : Method} {c : Code} {c0 s0 : Nat} (hC : xCx G y p l R s m args meth c)
    {pc len n : Nat} {i i0 : Instr} {L : xL} {st : List Value} {h : xH} {r : xR} {h' : xH} (hd : decode (xmb y) pc = .ok (i0, len)) (htr : xtr y pc i0 len = some (i, n)) (hl : xloc y i n L st h = some (.inr (r, h')))
    {mc ms : Nat} (hmc : mc + c0 = h'.2.2.1) (hms : ms + s0 = h'.2.2.2) (hb0 : c0 + R.cells = h'.2.2.1) (hb1 : s0 + R.slots = h'.2.2.2) {ls : Array Slot} {H : Heap} {locs : List Loc} {cells slots : Nat} (hL : xLr ls L) (hLen : L.length = xml y) (hR : xRp G s h H) (hS : va_S (xA G) s.heap H locs) (hc : cells + c0 = h.2.2.1) (hs : slots + s0 = h.2.2.2) :
    W p l e R s m args below meth c H locs cells slots (vx_MQ below (xQ G r h') (xX G r h') args s mc ms (xA G)) (F0 m pc ls st) := by
  obtain ⟨hx, hb, hml, hr, hlk, hown, hts, hEn, hst, hnm, hfr, hlo, htb⟩ := hC
  have fin : ∀ (v : Option Value) (t : State), r = .inl v → h' = h → t.heap = H → s.WarmedH t.vm → xQ G r h' args s (.returned v) t := by
    intro v t hr hh ht hW
    rw [hr, hh]
    exact ⟨v, rfl, rfl, by rw [ht]; exact xRp_moved hW.alike hR, hS.F ht⟩
  cases i0 with
  | ireturn =>
    obtain ⟨rfl, ee⟩ := xg_if htr
    cases ee
    simp only [xloc] at hl
    split at hl
    · obtain ⟨hn, ee⟩ := xg_if hl
      cases ee
      obtain ⟨ty, h1, h2⟩ := xnr_ok hn
      have e1 : cells = mc := by omega
      have e2 : slots = ms := by omega
      subst e1; subst e2
      exact vx_ret (W.zret hx hb (hr.trans h1) h2 (fun t ht hW => fin _ t rfl rfl ht hW) hS.2.2 hd hlk)
    · cases hl
  | lreturn =>
    obtain ⟨rfl, ee⟩ := xg_if htr
    cases ee
    simp only [xloc] at hl
    split at hl
    · obtain ⟨hn, ee⟩ := xg_if hl
      cases ee
      have e1 : cells = mc := by omega
      have e2 : slots = ms := by omega
      subst e1; subst e2
      exact vx_ret (W.lret hx hb (hr.trans hn) (fun t ht hW => fin _ t rfl rfl ht hW) hS.2.2 hd hlk)
    · cases hl
  | dreturn =>
    obtain ⟨rfl, ee⟩ := xg_if htr
    cases ee
    simp only [xloc] at hl
    split at hl
    · obtain ⟨hn, ee⟩ := xg_if hl
      cases ee
      have e1 : cells = mc := by omega
      have e2 : slots = ms := by omega
      subst e1; subst e2
      exact vx_ret (W.dret hx hb (hr.trans hn) (fun t ht hW => fin _ t rfl rfl ht hW) hS.2.2 hd hlk)
    · cases hl
  | return_ =>
    obtain ⟨rfl, ee⟩ := xg_if htr
    cases ee
    simp only [xloc] at hl
    split at hl
    · obtain ⟨hn, ee⟩ := xg_if hl
      cases ee
      have e1 : cells = mc := by omega
      have e2 : slots = ms := by omega
      subst e1; subst e2
      exact vx_ret (W.vret hx hb (hr.trans hn) (fun t ht hW => fin _ t rfl rfl ht hW) hS.2.2 hd hlk)
    · cases hl
  | new k =>
    obtain ⟨rfl, h1⟩ := xg_if2 htr
    split at h1
    · rename_i hpf
      cases h1
      obtain ⟨hw, hc9⟩ := xpf_ok hpf
      simp only [xloc] at hl
      rw [if_pos (by omega)] at hl
      obtain ⟨-, hl⟩ := xg_if2 hl
      cases hl
    · rename_i ek _ hpf
      obtain ⟨hth, ee⟩ := xg_if h1
      cases ee
      obtain ⟨hw, he3⟩ := xpf_ok hpf
      simp only [xloc] at hl
      rw [if_neg (by omega)] at hl
      obtain ⟨hst4, ee⟩ := xg_if hl
      rw [Nat.add_sub_cancel_left] at ee
      cases ee
      simp only [xthr, Bool.and_eq_true, decide_eq_true_eq] at hth
      obtain ⟨⟨⟨⟨⟨⟨⟨⟨ho7, -⟩, d3⟩, d4⟩, d6⟩, d9⟩, hh⟩, hf6⟩, hl90⟩ := hth
      split at d4
      · rename_i is hd4
        split at d4
        · rename_i hps
          rw [ho7] at hw hown
          obtain ⟨sa, hsa⟩ := hEn.2.2.2.1 _ _ _ hps
          obtain ⟨g1, g2⟩ := xthrow_ok _ he3
          have hlt : l.stackTraces = false := hst
          have hat : ∀ w ∈ vx_atS RX7 (xic ek) (xec ek) xexn, w.before args s = true := vx_hat (B := lw_tbl.filter xnw) (fun w hw => hts w (List.mem_filter.mpr ⟨g1 w hw, (List.mem_filter.mp hw).2⟩)) (fun w hw => List.mem_filter.mpr (g2 w hw)) (fun w hw => va_Nw.use (xnw_tabs (List.mem_filter.mp hw).2) (hEn.2.1 w (List.mem_filter.mp hw).1 (List.mem_filter.mp hw).2))
          have hot : ∀ w ∈ Cond.classLink RX7 k (xec ek) :: Cond.initialized (xec ek) :: vx_atS RX7 (xic ek) (xec ek) xexn, vx_ot w = true := by
            intro w hw
            rcases List.mem_cons.mp hw with rfl | hw
            · rfl
            rcases List.mem_cons.mp hw with rfl | hw
            · rfl
            unfold vx_ot
            by_cases hg : goodWord w = true
            · rw [hg, Bool.or_true]
            · have := g2 w (List.mem_filter.mpr ⟨hw, by simp [hg]⟩)
              rw [xnw_tabs this.2, Bool.true_or]
          refine vx_throwS (names := xexn) hx hb hlt hown (xfit_exc _ he3) xfit_names (hts _ hw) (hts _ (xini_exc _ he3)) hsa hat hot hEn.2.2.2.2.1 hEn.2.2.2.2.2.1 hS (by rw [hml, ← hLen]; exact hL.1) hd d3 hd4 d6 d9 (fun x hx => by rw [htb (Or.inl ho7), hh] at hx; exact nomatch hx) (by show 2 + 3 < _; omega) (by have := xcat_sum hst4; show _ + (13 * (2 + 1) + 43) ≤ _; omega) ?_ ?_ hlk ?_ hS.2.2 ?_ ?_
          · simp only [xdead] at hb0; omega
          · simp only [xdead] at hb1; omega
          · intro t hW hz hq
            refine ⟨_, rfl, rfl, ⟨fun a e he => xat_kept (xat_moved hW (hR.1 a e he)) (hq a (xat_lt (hR.1 a e he))), fun hn => absurd rfl hn, Nat.le_trans hR.2.2 hz⟩, Nat.le_trans hS.1 hz, fun q h1 h2 => (hq q (Nat.lt_of_lt_of_le h1 hS.1)).trans (hS.2.1 q h1 h2)⟩
          · simp only [xdead] at hmc; omega
          · simp only [xdead] at hms; omega
        · cases d4
      · cases d4
    · cases h1
  | _ =>
    have h9 := xloc_kind hl
    rw [← xtr_kind htr] at h9
    exact absurd h9 (by simp [xkind])
end
section
/-! Calls, and the whole of a run. -/
theorem xtr_V {y pc len n z : Nat} {i0 : Instr} (htr : xtr y pc i0 len = some (.invokevirtual z, n)) : ∃ k b, i0 = .invokevirtual k ∧ len = 3 ∧ n = pc + 3 ∧ xpf (xmo y) k = some (2, z, b) ∧ xrm y z = true ∧ xmh z = [] := by
  have hk := xtr_kind htr
  cases i0 with
  | invokevirtual k =>
    obtain ⟨rfl, h1⟩ := xg_if2 htr
    split at h1
    · rename_i hpf
      obtain ⟨⟨h2, h3, -⟩, e⟩ := xg_if h1
      cases e
      exact ⟨k, _, rfl, rfl, rfl, hpf, h2, h3⟩
    · cases h1
  | _ => exact absurd hk (by simp [xkind])
theorem xtr_S {y pc len n z : Nat} {i0 : Instr} (hz : z < 1000) (htr : xtr y pc i0 len = some (.invokestatic z, n)) : ∃ k b, i0 = .invokestatic k ∧ len = 3 ∧ n = pc + 3 ∧ xpf (xmo y) k = some (3, z, b) ∧ xrm y z = true := by
  have hk := xtr_kind htr
  cases i0 with
  | invokestatic k =>
    obtain ⟨rfl, h1⟩ := xg_if2 htr
    split at h1
    · rename_i hpf
      obtain ⟨⟨h2, -⟩, e⟩ := xg_if h1
      cases e
      exact ⟨k, _, rfl, rfl, rfl, hpf, h2⟩
    · obtain ⟨-, e⟩ := xg_if h1
      cases e
      omega
    · obtain ⟨-, e⟩ := xg_if h1
      cases e
      omega
    · cases h1
  | _ => exact absurd hk (by simp [xkind])
theorem xtr_I {y pc len n z : Nat} {i0 : Instr} (hz : z < 1000) (htr : xtr y pc i0 len = some (.invokespecial z, n)) : ∃ k b, i0 = .invokespecial k ∧ len = 3 ∧ n = pc + 3 ∧ (xpf (xmo y) k = some (4, z, b) ∨ xpf (xmo y) k = some (5, z, b)) ∧ xrm y z = true := by
  have hk := xtr_kind htr
  cases i0 with
  | invokespecial k =>
    obtain ⟨rfl, h1⟩ := xg_if2 htr
    split at h1
    · rename_i hpf
      obtain ⟨⟨h2, -⟩, e⟩ := xg_if h1
      cases e
      exact ⟨k, _, rfl, rfl, rfl, Or.inl hpf, h2⟩
    · rename_i hpf
      obtain ⟨⟨h2, -⟩, e⟩ := xg_if h1
      cases e
      exact ⟨k, _, rfl, rfl, rfl, Or.inr hpf, h2⟩
    · obtain ⟨-, e⟩ := xg_if h1
      cases e
      omega
    · cases h1
  | _ => exact absurd hk (by simp [xkind])
/-- the claim of a run of k steps: from any frame that holds the picture -/
def xP (G : xG) (l : Launch) (k : Nat) : Prop :=
  ∀ (y pc : Nat) (L : xL) (st : List Value) (h : xH) (r : xR) (h' : xH), xrun k y pc L st h = some (r, h') →
  ∀ (p : Program) (e : Env) (R : Room) (s : State) (m : MethodId) (args : Array Value) (below : List Frame) (meth : Method) (c : Code) (Q : State → Prop) (c0 s0 : Nat), xCx G y p l R s m args meth c → xEnd G y p l e R s m args below meth c Q c0 s0 (r, h') → h'.2.2.1 ≤ c0 + R.cells → h'.2.2.2 ≤ s0 + R.slots →
  ∀ (ls : Array Slot) (H : Heap) (locs : List Loc) (cells slots : Nat), xLr ls L → L.length = xml y → xRp G s h H → va_S (xA G) s.heap H locs → cells + c0 = h.2.2.1 → slots + s0 = h.2.2.2 →
    W p l e R s m args below meth c H locs cells slots Q (F0 m pc ls st)
def xws (z : Nat) : List Cond := xcw z :: xgt
def xrmm (z mc ms : Nat) : Room := { frames := xmf z, cells := mc, slots := ms, locals := xmc z }
theorem xcx_body {G : xG} {z : Nat} {l : Launch} {p : Program} {e : Env} {s s₁ : State} {m : MethodId} {args : Array Value} {below : List Frame} {meth : Method} {c : Code} {rm : Room} (hlt : l.stackTraces = false) (hz : xokc z) (hrm : rm.frames = xmf z ∧ rm.locals = xmc z)
    (B : BodyLoose p l (xmy z) (headSpec (xws z) rm) (xmb z) (xml z) (xmr z) e s m args below meth c s₁) (hml : c.maxLocals = xml z) (htb : c.exceptionTable.toList = tableOf (xmh z)) (hEn : xEn G s) : xCx G z p l (headSpec (xws z) rm).room s m args meth c := by
  have hts := atoms_spec (ws := xws z) B.pre
  refine ⟨B.exec, B.bytes, hml, B.returns, B.notSynchronized, ?_, fun w hw => hts w (List.mem_cons_of_mem _ hw), hEn, hlt, fun hq => (name_of_methodNamed B.named B.method).1.trans hq, Nat.le_of_eq hrm.1.symm, Nat.le_of_eq hrm.2.symm, fun _ => htb⟩
  rw [← hz.2.2.1]
  exact findClass_of_methodNamed B.named
theorem xmet_body {G : xG} {l : Launch} {k z : Nat} {a : List Value} {h h1 : xH} {r : xR} (hP : xP G l k) (hr : xrun k z 0 (xent z a) [] h = some (r, h1)) (hz : xokc z) (hlen : (xargs a).length ≤ xml z) (hlt : l.stackTraces = false) (hm1 : h.2.2.1 ≤ h1.2.2.1) (hm2 : h.2.2.2 ≤ h1.2.2.2)
    {p : Program} {e : Env} {s s₁ : State} {m : MethodId} {args : Array Value} {below : List Frame} {meth : Method} {c : Code}
    (B : BodyLoose p l (xmy z) (headSpec (xws z) (xrmm z (h1.2.2.1 - h.2.2.1) (h1.2.2.2 - h.2.2.2))) (xmb z) (xml z) (xmr z) e s m args below meth c s₁) (hml : c.maxLocals = xml z) (htb : c.exceptionTable.toList = tableOf (xmh z)) (hp : xPc G a h args s) :
    W p l e (headSpec (xws z) (xrmm z (h1.2.2.1 - h.2.2.1) (h1.2.2.2 - h.2.2.2))).room s m args below meth c s.heap [] 0 0 (vx_MQ below (xQ G r h1) (xX G r h1) args s (h1.2.2.1 - h.2.2.1) (h1.2.2.2 - h.2.2.2) (xA G)) (entryFrame m args (xml z)) := by
  obtain ⟨rfl, hR, hEn⟩ := hp
  have hC := xcx_body (G := G) hlt hz ⟨rfl, rfl⟩ B hml htb hEn
  rw [lg_entry_eq]
  refine hP z 0 _ _ _ _ _ hr p e _ s m _ below meth c _ h.2.2.1 h.2.2.2 hC ?_ (by show _ ≤ _ + (h1.2.2.1 - h.2.2.1); omega) (by show _ ≤ _ + (h1.2.2.2 - h.2.2.2); omega) _ _ _ _ _ (xLr_ent hlen) (xent_len hlen) hR va_S.rf (by omega) (by omega)
  intro pc1 L1 st1 h2 i n ls H1 locs cells slots ho hl hL hLen hR1 hS hc hs
  obtain ⟨i0, len, hd, htr⟩ := xop_ok ho
  exact xend_ret hC hd htr hl (by omega) (by omega) (by show h.2.2.1 + (h1.2.2.1 - h.2.2.1) = _; omega) (by show h.2.2.2 + (h1.2.2.2 - h.2.2.2) = _; omega) hL hLen hR1 hS hc hs
/-- a callee's contract out of its run -/
theorem xmet {G : xG} {l : Launch} {k z : Nat} {a : List Value} {h h1 : xH} {r : xR} (hP : xP G l k) (hr : xrun k z 0 (xent z a) [] h = some (r, h1)) (hz : xokc z) (hlen : (xargs a).length ≤ xml z) (hlt : l.stackTraces = false) (hm1 : h.2.2.1 ≤ h1.2.2.1) (hm2 : h.2.2.2 ≤ h1.2.2.2) :
    vx_Met l (xmy z) (xws z) (xrmm z (h1.2.2.1 - h.2.2.1) (h1.2.2.2 - h.2.2.2)) (xPc G a h) (xQ G r h1) (xX G r h1) (h1.2.2.1 - h.2.2.1) (h1.2.2.2 - h.2.2.2) (xA G) := by
  by_cases hh : xmh z = []
  · refine vx_ofW (cc := xmb z) (maxL := xml z) (ret := xmr z) (ws' := xgt) hz.2.2.2.1 (by unfold xws xcw; rw [if_pos hh]) ?_
    intro p e s m args below meth c s₁ B hml htab hp
    refine xmet_body hP hr hz hlen hlt hm1 hm2 B hml ?_ hp
    rw [hh]
    cases ht : c.exceptionTable.toList with
    | nil => rfl
    | cons x t => exact (htab x (by rw [ht]; exact List.mem_cons_self)).elim
  · refine vx_ofWH (cc := xmb z) (maxL := xml z) (ret := xmr z) (hh := xmh z) (ws' := xgt) hz.2.2.2.1 (by unfold xws xcw; rw [if_neg hh]) ?_
    intro p e s m args below meth c s₁ B hml hp
    refine xmet_body hP hr hz hlen hlt hm1 hm2 B hml ?_ hp
    refine vx_table (x := xmy z) (hh := xmh z) (bytes := xmb z) (maxL' := xml z) (ret' := xmr z) B ?_
    have := atoms_spec (ws := xws z) B.pre (xcw z) List.mem_cons_self
    unfold xcw at this
    rw [if_neg hh] at this
    exact this
theorem xmet_plain {G : xG} {l : Launch} {z mc ms : Nat} {Pc : Array Value → State → Prop} {h1 : xH} {v : Option Value} {rm : Room} {ws : List Cond} (hM : vx_Met l (xmy z) ws rm Pc (xQ G (.inl v) h1) (xX G (.inl v) h1) mc ms (xA G)) : Met l (xmy z) ws rm Pc (xQ G (.inl v) h1) mc ms (xA G) := by
  intro p e h1 h2 h3 s m args below h4 h5 h6 h7
  obtain ⟨n, o, g1, g2, g3, g4⟩ := hM p e h1 h2 h3 s m args below h4 h5 h6 h7
  refine ⟨n, o, g1, g2, g3, ?_⟩
  rcases g4 with g4 | ⟨q, -, E, ce, L, ⟨k, hk, -⟩, -⟩
  · exact g4
  · cases hk
theorem xgood {ws : List Cond} (h : ∀ w ∈ ws, w ∈ xgt) : GoodIn xgt ws := fun w hw => ⟨h w hw, good_of_word (xgt_good (h w hw))⟩
theorem xws_in {z : Nat} (hz : xokc z) : ∀ w ∈ xws z, w ∈ xgt := fun w hw => (List.mem_cons.mp hw).elim (fun e => e ▸ hz.1) id
section CALLS
variable {G : xG} {p : Program} {l : Launch} {e : Env} {R : Room} {s : State} {m : MethodId} {args : Array Value} {below : List Frame} {meth : Method} {c : Code} {H : Heap} {locs : List Loc} {cells slots : Nat} {Q : State → Prop}
/-- behind a call -/
theorem x_ran {pc mc ms : Nat} {ls : Array Slot} {st0 rest : List Value} {a : Array Value} {r : xR} {h1 : xH} (hr : vx_Run p l e R s m args below meth c H locs cells slots mc ms (F0 m pc ls st0) rest (xQ G r h1 a) (xX G r h1) (xA G)) (hS : va_S (xA G) s.heap H locs)
    (kk : ∀ (v : Option Value) (H1 : Heap) (locs1 : List Loc), r = .inl v → xRp G s h1 H1 → va_S (xA G) s.heap H1 locs1 → W p l e R s m args below meth c H1 locs1 (cells + mc) (slots + ms) Q (F0 m (pc + 3) ls (v.toList ++ rest)))
    (kx : ∀ (k : Nat) (H1 : Heap) (locs1 : List Loc) (q : Nat) (ce : Cell), r = .inr k → xRp G s h1 H1 → va_S (xA G) s.heap H1 locs1 → H1[q]? = some ce → ce.vm = .none → s.vm.findClass (xec k) = some ce.cls → vx_W p l e R s m args below meth c H1 locs1 (cells + mc) (slots + ms) Q (F0 m pc ls rest) q) :
    W p l e R s m args below meth c H locs cells slots Q (F0 m pc ls st0) := by
  intro T hT X
  rcases hr T hT X with ⟨v, st₀, t, T', L, h0, X', hL, e1, e2, ⟨v', hv, hv2, hRp, hF⟩, st⟩ | ⟨q, st₀, t, T', L, E, ce, h0, X', hL, e1, e2, ⟨k, hk, hE, hRp, hF⟩, hce, hcv, hcl, st⟩
  · cases hv2
    obtain ⟨-, -, k3⟩ := vx_keep h0 e1 hS (fun _ _ z => z) (fun _ z => z) hL hF
    have hvm : s.vm.Alike t.vm := by rw [← e2]; exact X'.warmed.alike
    obtain ⟨t2, a1, b1⟩ := kk v T'.heap (locs ++ L) hv (by rw [e1]; exact xRp_moved hvm.symm hRp) k3 T' rfl X'
    exact ⟨t2, st t2 a1, b1⟩
  · obtain ⟨-, -, k3⟩ := vx_keep h0 e1 hS (fun _ _ z => z) (fun _ z => z) hL hF
    have hvm : s.vm.Alike t.vm := by rw [← e2]; exact X'.warmed.alike
    obtain ⟨t2, a1, b1⟩ := kx k T'.heap (locs ++ L) q ce hk (by rw [e1]; exact xRp_moved hvm.symm hRp) k3 (by rw [e1]; exact hce) hcv (by rw [← hE]; exact hcl) T' rfl X'
    exact ⟨t2, st.trans a1, b1⟩
theorem x_ranv {pc mc ms : Nat} {ls : Array Slot} {st0 rest : List Value} {a : Array Value} {v0 : Option Value} {h1 : xH} (hr : va_Run p l e R s m args below meth c H locs cells slots mc ms (F0 m pc ls st0) rest (xQ G (.inl v0) h1 a) (xA G)) (hS : va_S (xA G) s.heap H locs)
    (kk : ∀ (v : Option Value) (H1 : Heap) (locs1 : List Loc), (.inl v0 : xR) = .inl v → xRp G s h1 H1 → va_S (xA G) s.heap H1 locs1 → W p l e R s m args below meth c H1 locs1 (cells + mc) (slots + ms) Q (F0 m (pc + 3) ls (v.toList ++ rest))) :
    W p l e R s m args below meth c H locs cells slots Q (F0 m pc ls st0) :=
  x_ran (r := .inl v0) (h1 := h1) (fun T hT X => Or.inl (hr T hT X)) hS kk (fun k _ _ _ _ hk => by cases hk)
/-- a handler found by the numbers is the table's -/
theorem xhs_split {y pc e hp k : Nat} : ∀ (hh : List (Nat × Nat × Nat × Nat)), xhs y pc e hh = some (hp, k) → ∃ (pre suf : List (Nat × Nat × Nat × Nat)) (s t ct b : Nat) (k' : Fin 4), hh = pre ++ (s, t, hp, ct) :: suf ∧ (s ≤ pc ∧ pc < t) ∧ ct ≠ 0 ∧ xpf (xmo y) ct = some (8, e, b) ∧ decode (xmb y) hp = .ok (.astore_n k', 1) ∧ k = k'.val ∧ k < xml y ∧
    ∀ q ∈ pre, ¬ (q.1 ≤ pc ∧ pc < q.2.1) ∨ (q.2.2.2 ≠ 0 ∧ ∃ e' b', xpf (xmo y) q.2.2.2 = some (8, e', b') ∧ e' ≠ e) := by
  intro hh
  induction hh with
  | nil => intro h; cases h
  | cons q r ih =>
    intro h
    obtain ⟨s, t, hp0, ct⟩ := q
    unfold xhs at h
    split at h
    · rename_i hcov
      split at h
      · cases h
      · rename_i hct
        split at h
        · rename_i e' b' hpf
          split at h
          · rename_i hee
            split at h
            · rename_i k' hd
              obtain ⟨hlt, he⟩ := xg_if h
              cases he
              exact ⟨[], r, s, t, ct, _, k', rfl, hcov, hct, by rw [← hee]; exact hpf, hd, rfl, hlt, fun q hq => nomatch hq⟩
            · cases h
          · rename_i hee
            obtain ⟨pre, suf, s1, t1, ct1, b1, k', h1, h2, h3, h4, h5, h6, h7, h8⟩ := ih h
            refine ⟨(s, t, hp0, ct) :: pre, suf, s1, t1, ct1, b1, k', by rw [h1]; rfl, h2, h3, h4, h5, h6, h7, fun q hq => ?_⟩
            rcases List.mem_cons.mp hq with rfl | hq
            · exact Or.inr ⟨hct, e', _, hpf, hee⟩
            · exact h8 q hq
        · cases h
    · rename_i hcov
      obtain ⟨pre, suf, s1, t1, ct1, b1, k', h1, h2, h3, h4, h5, h6, h7, h8⟩ := ih h
      refine ⟨(s, t, hp0, ct) :: pre, suf, s1, t1, ct1, b1, k', by rw [h1]; rfl, h2, h3, h4, h5, h6, h7, fun q hq => ?_⟩
      rcases List.mem_cons.mp hq with rfl | hq
      · exact Or.inl hcov
      · exact h8 q hq
theorem xcast_in (e : Nat) (h : e < 3) : Cond.castable (xec e) (xec e) ∈ lw_tbl := by
  have key : ∀ e, e < 3 → Cond.castable (xec e) (xec e) ∈ lw_tbl := by decide +kernel
  exact key e h
/-- the handler takes it -/
theorem x_caught {y : Nat} (hC : xCx G y p l R s m args meth c) {pc e0 hp k : Nat} (hh : xhs y pc e0 (xmh y) = some (hp, k)) {ls : Array Slot} {rest : List Value} {L : xL} (hL : xLr ls L) (hLen : L.length = xml y) {q : Nat} {ce : Cell} (hq : H[q]? = some ce) (hv : ce.vm = .none) (hcl : s.vm.findClass (xec e0) = some ce.cls)
    (kk : ∀ ls' : Array Slot, xLr ls' ((xs1 L k .null).set k none) → W p l e R s m args below meth c H locs cells slots Q (F0 m (hp + 1) ls' [])) : vx_W p l e R s m args below meth c H locs cells slots Q (F0 m pc ls rest) q := by
  obtain ⟨hx, hb, hml, hr, hlk, hown, hts, hEn, hst, hnm, hfr, hlo, htb⟩ := hC
  obtain ⟨pre, suf, s1, t1, ct, b, k', h1, h2, h3, h4, h5, h6, h7, h8⟩ := xhs_split _ hh
  obtain ⟨hw, he3⟩ := xpf_ok h4
  subst h6
  refine vx_catch (name := xec e0) hown (tableOf pre) ⟨s1, t1, hp, ct⟩ (tableOf suf) (by rw [htb (Or.inr (by rw [h1]; simp)), h1]; simp [tableOf]) ?_ (by simp [covers, h2]) h3 (hts _ hw) (va_Nw.use rfl (hEn.2.1 _ (xcast_in _ he3) rfl)) hq hv hcl ?_
  · intro z hz
    obtain ⟨w, hw1, rfl⟩ := List.mem_map.mp hz
    rcases h8 w hw1 with h9 | ⟨h9, e', b', h10, h11⟩
    · refine Or.inl ?_
      have : (decide (w.1 ≤ pc) && decide (pc < w.2.1)) = false := by
        by_cases a1 : w.1 ≤ pc
        · have : ¬ pc < w.2.1 := fun q => h9 ⟨a1, q⟩
          simp [this]
        · simp [a1]
      exact this
    · obtain ⟨hw9, he9⟩ := xpf_ok h10
      exact Or.inr ⟨h9, _, hts _ hw9, hEn.2.2.1 _ _ he3 he9 (fun q => h11 q.symm)⟩
  · refine lv_astore_n hx hb h5 rfl (xLr_has hL) (by rw [hLen]; exact h7) rfl (fun ls' hl' => kk ls' ?_)
    have := xLr_drop (xLr_s1 hl')
    rw [xs1_any L _ _ .null] at this
    exact this
end CALLS
end
section
/-! Every run of the small machine is a run of the real one. -/
theorem xret_out {sp : Bool} {y pc n : Nat} {L : xL} {rest : List Value} {r : xR} {h1 : xH} {q : xC ⊕ (xR × xH)} (hr : xret sp y pc n L rest (some (r, h1)) = some q) :
    (∃ v, r = .inl v ∧ q = .inl (n, L, v.toList ++ rest, h1)) ∨ (∃ e hp k, r = .inr e ∧ sp = false ∧ xhs y pc e (xmh y) = some (hp, k) ∧ q = .inl (hp + 1, (xs1 L k .null).set k none, [], h1)) := by
  unfold xret at hr
  split at hr
  · rename_i v h he
    cases he
    cases hr
    exact Or.inl ⟨_, rfl, rfl⟩
  · rename_i h he
    cases he
    cases hr
    exact Or.inl ⟨_, rfl, rfl⟩
  · rename_i e h he
    cases he
    split at hr
    · rename_i hp k hx
      cases hr
      cases sp with
      | true => simp at hx
      | false => exact Or.inr ⟨_, _, _, rfl, rfl, by simpa using hx, rfl⟩
    · cases hr
  · rename_i he
    cases he
theorem xrun_mono : ∀ (k y pc : Nat) (L : xL) (st : List Value) (h : xH) (r : xR) (h' : xH), xrun k y pc L st h = some (r, h') → h.2.2.1 ≤ h'.2.2.1 ∧ h.2.2.2 ≤ h'.2.2.2 := by
  intro k
  induction k with
  | zero => intro y pc L st h r h' hr; simp [xrun] at hr
  | succ k ih =>
    intro y pc L st h r h' hr
    rw [xrun] at hr
    cases hs : xstep (fun z a h => xrun k z 0 (xent z a) [] h) y (xop y pc) pc L st h with
    | none => simp [hs] at hr
    | some q =>
      rw [hs] at hr
      have key : h.2.2.1 ≤ (xhq q).2.2.1 ∧ h.2.2.2 ≤ (xhq q).2.2.2 := by
        cases ho : xop y pc with
        | none => rw [ho] at hs; simp [xstep] at hs
        | some w =>
          obtain ⟨i, n⟩ := w
          rw [ho] at hs
          unfold xstep at hs
          cases ha : xca i st h with
          | none => simp only [ha] at hs; exact xloc_mono hs
          | some w =>
            obtain ⟨z, a, rest⟩ := w
            simp only [ha] at hs
            cases hz : xrun k z 0 (xent z a) [] h with
            | none => rw [hz] at hs; simp [xret] at hs
            | some v =>
              obtain ⟨r1, h1⟩ := v
              rw [hz] at hs
              have := ih _ _ _ _ _ _ _ hz
              rcases xret_out hs with ⟨v, -, rfl⟩ | ⟨e, hp, k, -, -, -, rfl⟩ <;> exact this
      cases q with
      | inl c =>
        obtain ⟨pc1, L1, st1, h1⟩ := c
        have := ih _ _ _ _ _ _ _ (show xrun k y pc1 L1 st1 h1 = some (r, h') from hr)
        exact ⟨Nat.le_trans key.1 this.1, Nat.le_trans key.2 this.2⟩
      | inr r1 =>
        cases (show some r1 = some (r, h') from hr)
        exact key
theorem xrm_ok {y z : Nat} (h : xrm y z = true) : xmf z + 1 ≤ xmf y ∧ 8 + (xml z + 11) + xmc z ≤ xmc y := by
  unfold xrm at h
  rw [Bool.and_eq_true] at h
  exact ⟨of_decide_eq_true h.1, of_decide_eq_true h.2⟩
theorem xcw_code {z : Nat} (h : xmh z = []) : xws z = .code (xmy z) (xmb z) (xml z) (xmr z) :: xgt := by
  unfold xws xcw
  rw [if_pos h]
theorem xcw_with {z : Nat} (h : ¬ xmh z = []) : xws z = .codeWith (xmy z) (xmb z) (xml z) (xmr z) (xmh z) :: xgt := by
  unfold xws xcw
  rw [if_neg h]
set_option maxHeartbeats 1000000 in
/-- ONE STEP that calls -/
theorem xcall_W {G : xG} {y : Nat} {p : Program} {l : Launch} {e : Env} {R : Room} {s : State} {m : MethodId} {args : Array Value} {below : List Frame} {meth : Method} {c : Code} {Q : State → Prop} {c0 s0 k : Nat} (hP : xP G l k) (hC : xCx G y p l R s m args meth c)
    {pc len n pc' z : Nat} {i i0 : Instr} {L L' : xL} {st st' a rest : List Value} {h h' : xH} (hd : decode (xmb y) pc = .ok (i0, len)) (htr : xtr y pc i0 len = some (i, n)) (hq : xca i st h = some (z, a, rest)) (hl : xret (xsp i) y pc n L rest (xrun k z 0 (xent z a) [] h) = some (.inl (pc', L', st', h')))
    (hbc : h'.2.2.1 ≤ c0 + R.cells) (hbs : h'.2.2.2 ≤ s0 + R.slots) {ls : Array Slot} {H : Heap} {locs : List Loc} {cells slots : Nat} (hL : xLr ls L) (hLen : L.length = xml y) (hR : xRp G s h H) (hS : va_S (xA G) s.heap H locs) (hc : cells + c0 = h.2.2.1) (hs : slots + s0 = h.2.2.2)
    (kk : ∀ (ls' : Array Slot) (H' : Heap) (locs' : List Loc) (cells' slots' : Nat), xLr ls' L' → xRp G s h' H' → va_S (xA G) s.heap H' locs' → cells' + c0 = h'.2.2.1 → slots' + s0 = h'.2.2.2 → W p l e R s m args below meth c H' locs' cells' slots' Q (F0 m pc' ls' st')) :
    W p l e R s m args below meth c H locs cells slots Q (F0 m pc ls st) := by
  obtain ⟨hx, hb, hml, hr, hlk, hown, hts, hEn, hst, hnm, hfr, hlo, htb⟩ := id hC
  cases hz : xrun k z 0 (xent z a) [] h with
  | none => rw [hz] at hl; simp [xret] at hl
  | some w =>
    obtain ⟨r, h1⟩ := w
    rw [hz] at hl
    obtain ⟨hm1, hm2⟩ := xrun_mono _ _ _ _ _ _ _ _ hz
    have hh1 : h' = h1 := by
      rcases xret_out hl with ⟨v, -, hv⟩ | ⟨e, hp, k, -, -, -, hv⟩ <;> (cases hv; rfl)
    subst hh1
    have hPc : ∀ U : State, U.heap = H → s.WarmedH U.vm → xPc G a h a.toArray U := fun U hU hW => ⟨rfl, by rw [hU]; exact xRp_moved hW.alike hR, xEn_moved hEn hW (fun q h1 h2 => by rw [hU]; exact hS.2.1 q h1 h2)⟩
    have hsize : ls.size = xml y := by rw [hL.1]; exact hLen
    have hf : cells + (h'.2.2.1 - h.2.2.1) ≤ R.cells ∧ slots + (h'.2.2.2 - h.2.2.2) ≤ R.slots := ⟨by omega, by omega⟩
    have k1 : n = pc + 3 → ∀ (v : Option Value) (H1 : Heap) (locs1 : List Loc), r = .inl v → xRp G s h' H1 → va_S (xA G) s.heap H1 locs1 → W p l e R s m args below meth c H1 locs1 (cells + (h'.2.2.1 - h.2.2.1)) (slots + (h'.2.2.2 - h.2.2.2)) Q (F0 m (pc + 3) ls (v.toList ++ rest)) := by
      intro hn v H1 locs1 hv hR1 hS1
      subst hn
      rcases xret_out hl with ⟨v', hv', he⟩ | ⟨e0, hp, k0, hv', -, -, -⟩
      · cases hv.symm.trans hv'
        cases he
        exact kk _ _ _ _ _ hL hR1 hS1 (by omega) (by omega)
      · cases hv.symm.trans hv'
    have k2 : ∀ (e0 : Nat) (H1 : Heap) (locs1 : List Loc) (q : Nat) (ce : Cell), r = .inr e0 → xRp G s h' H1 → va_S (xA G) s.heap H1 locs1 → H1[q]? = some ce → ce.vm = .none → s.vm.findClass (xec e0) = some ce.cls → vx_W p l e R s m args below meth c H1 locs1 (cells + (h'.2.2.1 - h.2.2.1)) (slots + (h'.2.2.2 - h.2.2.2)) Q (F0 m pc ls rest) q := by
      intro e0 H1 locs1 q ce hv hR1 hS1 hq1 hq2 hq3
      rcases xret_out hl with ⟨v', hv', -⟩ | ⟨e1, hp, k0, hv', -, hh, he⟩
      · cases hv.symm.trans hv'
      · cases hv.symm.trans hv'
        cases he
        exact x_caught hC hh hL hLen hq1 hq2 hq3 (fun ls' hl' => kk _ _ _ _ _ hl' hR1 hS1 (by omega) (by omega))
    unfold xca at hq
    split at hq
    · rename_i z0
      split at hq
      · rename_i b rest0 hdrop
        obtain ⟨⟨hrc, h4, hlen⟩, he⟩ := xg_if hq
        cases he
        obtain ⟨kx, bx, rfl, rfl, rfl, hpf, hrm, hhh⟩ := xtr_V htr
        obtain ⟨hw, hzc, hin, hsel⟩ := xpf_ok hpf
        obtain ⟨hr1, hr2⟩ := xrm_ok hrm
        obtain ⟨fs, hat⟩ := xrcv_at hR hrc
        have h9 : xmo z < 9 := by
          obtain ⟨-, r9, h9, -⟩ := hat
          exact (List.getElem?_eq_some_iff.mp h9).1
        have hrecv := va_recv (q0 := 0) hEn.1 (xP1o hat) (xcl_get h9) rfl
        have hM := xmet hP hz hzc hlen hst hm1 hm2
        have htk : (st.take (xna z)).length = xna z := by
          have hne : st.drop (xna z) ≠ [] := by rw [hdrop]; simp
          rw [List.length_take]
          have : ¬ st.length ≤ xna z := fun q => hne (List.drop_eq_nil_iff.mpr q)
          omega
        refine x_ran (vx_runV (C := (xmy z).cls) (As := (st.take (xna z)).reverse) (rest := rest) ⟨hx, hb, hml, hown, hts⟩ hM (cwV (xna z) hts (xgood ?_) (xcw_code hhh) rfl rfl ⟨rfl, hzc.2.2.2.2.1.1, hzc.2.2.2.2.1.2, hzc.2.2.2.2.2⟩ ⟨by show xmf z + 1 ≤ _; omega, by show 8 + (xml z + 11) + xmc z ≤ _; omega⟩) ⟨xPc_blind, by rw [hzc.2.2.1]; exact hrecv, hPc⟩ rfl (by rw [List.length_reverse, htk]) hsize ?_ (lv_room (by have := xcat_sum h4; omega)) hd hf) hS (k1 rfl) k2
        · intro w hw9
          unfold wsV at hw9
          rcases List.mem_append.mp hw9 with hw9 | hw9
          · simp only [List.mem_cons, List.not_mem_nil, or_false] at hw9
            rcases hw9 with rfl | rfl | rfl | rfl
            · exact hw
            · exact hin
            · exact hsel
            · exact hzc.2.1
          · exact xws_in hzc w hw9
        · show st = _
          rw [List.reverse_reverse, ← hdrop, List.take_append_drop]
      · cases hq
    · rename_i z0
      obtain ⟨⟨hz1, h4, hkl, hlen⟩, he⟩ := xg_if hq
      cases he
      obtain ⟨kx, bx, rfl, rfl, rfl, hpf, hrm⟩ := xtr_S hz1 htr
      obtain ⟨hw, hzc, hstt⟩ := xpf_ok hpf
      obtain ⟨hr1, hr2⟩ := xrm_ok hrm
      have hM := xmet hP hz hzc hlen hst hm1 hm2
      have htk : (st.take (xna z)).length = xna z := by rw [List.length_take]; omega
      have hdesc : ∀ sig, parseMethodDescriptor (xmy z).desc = some sig → xna z = sig.parameters.length := by
        intro sig hsig
        have := hzc.2.2.2.2.2
        rw [hsig] at this
        exact (Option.some.inj this).symm
      by_cases hhh : xmh z = []
      · refine x_ran (vx_runS (As := (st.take (xna z)).reverse) (rest := st.drop (xna z)) ⟨hx, hb, hml, hown, hts⟩ hM ⟨callB_of (xna z) hts (xgood (xws_in hzc)) (xcw_code hhh) rfl rfl (hts _ hzc.2.1) (hts _ hw) ⟨hzc.2.2.2.2.1.1, hzc.2.2.2.2.1.2, hzc.2.2.2.2.2⟩ ⟨by show xmf z + 1 ≤ _; omega, by show 8 + (xml z + 11) + xmc z ≤ _; omega⟩, hts _ hstt⟩ ⟨xPc_blind, hPc⟩ rfl (by rw [List.length_reverse, htk]) hsize ?_ (lv_room (by have := xcat_sum h4; omega)) hd hf) hS (k1 rfl) k2
        show st = _
        rw [List.reverse_reverse, List.take_append_drop]
      · have hcw : Cond.codeWith (xmy z) (xmb z) (xml z) (xmr z) (xmh z) ∈ xws z := by rw [xcw_with hhh]; exact List.mem_cons_self
        refine x_ran (vx_runSX (hh := xmh z) (As := (st.take (xna z)).reverse) (rest := st.drop (xna z)) ⟨hx, hb, hml, hown, hts⟩ hM ⟨⟨rfl, rfl, by show xmf z + 1 ≤ _; omega, by show 8 + (xml z + 11) + xmc z ≤ _; omega, pay_in hts (xgood (xws_in hzc)), hcw⟩, hts _ (xws_in hzc _ hcw), hts _ hzc.2.1, hzc.2.2.2.2.1, hdesc, hts _ hw, hts _ hstt⟩ ⟨xPc_blind, hPc⟩ rfl (by rw [List.length_reverse, htk]) hsize ?_ (lv_room (by have := xcat_sum h4; omega)) hd hf) hS (k1 rfl) k2
        show st = _
        rw [List.reverse_reverse, List.take_append_drop]
    · rename_i z0
      obtain ⟨hz1, hq⟩ := xg_if2 hq
      split at hq
      · rename_i b rest0 hdrop
        obtain ⟨⟨h4, hlen⟩, he⟩ := xg_if hq
        cases he
        obtain ⟨kx, bx, rfl, rfl, rfl, hpf, hrm⟩ := xtr_I hz1 htr
        obtain ⟨hr1, hr2⟩ := xrm_ok hrm
        have htk : (st.take (xna z)).length = xna z := by
          have hne : st.drop (xna z) ≠ [] := by rw [hdrop]; simp
          rw [List.length_take]
          have : ¬ st.length ≤ xna z := fun q => hne (List.drop_eq_nil_iff.mpr q)
          omega
        obtain ⟨v0, hv0⟩ : ∃ v, r = .inl v := by
          rcases xret_out hl with ⟨v, hv, -⟩ | ⟨e0, hp, k0, -, hsp, -, -⟩
          · exact ⟨v, hv⟩
          · cases hsp
        subst hv0
        have hst2 : st = (st.take (xna z)).reverse.reverse ++ .ref b :: rest := by rw [List.reverse_reverse, ← hdrop, List.take_append_drop]
        rcases hpf with hpf | hpf
        · obtain ⟨hw, hzc, hin, hnm1, hret, hhh⟩ := xpf_ok hpf
          have hM := xmet_plain (xmet hP hz hzc hlen hst hm1 hm2)
          have hcc := xcw_code hhh
          rw [hret] at hcc
          exact x_ranv (va_runI (bytes := xmb z) (maxL := xml z) (b := b) (As := (st.take (xna z)).reverse) (rest := rest) ⟨hx, hb, hml, hown, hts⟩ hM (cwI (xna z) hts (xgood (xws_in hzc)) hcc rfl rfl (hts _ hzc.2.1) (hts _ hw) (hts _ hin) hnm1 ⟨hzc.2.2.2.2.1.1, hzc.2.2.2.2.1.2, hzc.2.2.2.2.2⟩ ⟨by show xmf z + 1 ≤ _; omega, by show 8 + (xml z + 11) + xmc z ≤ _; omega⟩) ⟨xPc_blind, hPc⟩ rfl (by rw [List.length_reverse, htk]) hsize hst2 (lv_room (by have := xcat_sum h4; omega)) hd hf) hS (k1 rfl)
        · obtain ⟨hw, hzc, hin, hnm1, hret, hhh⟩ := xpf_ok hpf
          have hM := xmet_plain (xmet hP hz hzc hlen hst hm1 hm2)
          have hcc := xcw_code hhh
          rw [hret] at hcc
          exact x_ranv (va_runIN (host := "PairNames") (bytes := xmb z) (maxL := xml z) (b := b) (As := (st.take (xna z)).reverse) (rest := rest) ⟨hx, hb, hml, hown, hts⟩ hM ⟨va_cnB (xna z) hts (xgood (xws_in hzc)) hcc rfl rfl (hEn.2.1 _ hw rfl) (hts _ hzc.2.1) ⟨hzc.2.2.2.2.1.1, hzc.2.2.2.2.1.2, hzc.2.2.2.2.2⟩ ⟨by show xmf z + 1 ≤ _; omega, by show 8 + (xml z + 11) + xmc z ≤ _; omega⟩, hnm1, hts _ hin⟩ ⟨xPc_blind, hPc⟩ rfl (by rw [List.length_reverse, htk]) hsize hst2 (lv_room (by have := xcat_sum h4; omega)) hd hf) hS (k1 rfl)
      · cases hq
    · cases hq
/-- THE SOUNDNESS -/
theorem xP_all (G : xG) (l : Launch) : ∀ k : Nat, xP G l k := by
  intro k
  induction k with
  | zero => intro y pc L st h r h' hr; simp [xrun] at hr
  | succ k ih =>
    intro y pc L st h r h' hr p e R s m args below meth c Q c0 s0 hC hE hbc hbs ls H locs cells slots hL hLen hR hS hc hs
    rw [xrun] at hr
    cases ho : xop y pc with
    | none => rw [ho] at hr; simp [xstep] at hr
    | some w =>
      obtain ⟨i, n⟩ := w
      obtain ⟨i0, len, hd, htr⟩ := xop_ok ho
      rw [ho] at hr
      unfold xstep at hr
      cases ha : xca i st h with
      | none =>
        simp only [ha] at hr
        cases hl : xloc y i n L st h with
        | none => simp [hl] at hr
        | some q =>
          rw [hl] at hr
          cases q with
          | inl c1 =>
            obtain ⟨pc1, L1, st1, h1⟩ := c1
            have hr : xrun k y pc1 L1 st1 h1 = some (r, h') := hr
            obtain ⟨hm1, hm2⟩ := xrun_mono _ _ _ _ _ _ _ _ hr
            exact xloc_W hC hd htr hl (by omega) (by omega) hL hLen hR hS hc hs (fun ls' H' locs' cells' slots' g1 g2 g3 g4 g5 => ih y pc1 L1 st1 h1 r h' hr p e R s m args below meth c Q c0 s0 hC hE hbc hbs ls' H' locs' cells' slots' g1 ((xloc_len hl).trans hLen) g2 g3 g4 g5)
          | inr r1 =>
            cases (show some r1 = some (r, h') from hr)
            exact hE pc L st h i n ls H locs cells slots ho hl hL hLen hR hS hc hs
      | some w =>
        obtain ⟨z, a, rest⟩ := w
        simp only [ha] at hr
        cases hl : xret (xsp i) y pc n L rest (xrun k z 0 (xent z a) [] h) with
        | none => simp [hl] at hr
        | some q =>
          rw [hl] at hr
          cases q with
          | inl c1 =>
            obtain ⟨pc1, L1, st1, h1⟩ := c1
            have hr : xrun k y pc1 L1 st1 h1 = some (r, h') := hr
            obtain ⟨hm1, hm2⟩ := xrun_mono _ _ _ _ _ _ _ _ hr
            have hlen1 : L1.length = xml y := by
              cases hz : xrun k z 0 (xent z a) [] h with
              | none => rw [hz] at hl; simp [xret] at hl
              | some w =>
                obtain ⟨r2, h2⟩ := w
                rw [hz] at hl
                rcases xret_out hl with ⟨v, -, hv⟩ | ⟨e0, hp, k0, -, -, -, hv⟩
                · cases hv; exact hLen
                · cases hv; rw [List.length_set, xs1_len]; exact hLen
            exact xcall_W ih hC hd htr ha hl (by omega) (by omega) hL hLen hR hS hc hs (fun ls' H' locs' cells' slots' g1 g2 g3 g4 g5 => ih y pc1 L1 st1 h1 r h' hr p e R s m args below meth c Q c0 s0 hC hE hbc hbs ls' H' locs' cells' slots' g1 hlen1 g2 g3 g4 g5)
          | inr r1 =>
            exfalso
            cases hz : xrun k z 0 (xent z a) [] h with
            | none => rw [hz] at hl; simp [xret] at hl
            | some w =>
              obtain ⟨r2, h2⟩ := w
              rw [hz] at hl
              rcases xret_out hl with ⟨v, -, hv⟩ | ⟨e0, hp, k0, -, -, -, hv⟩ <;> cases hv
end
section
/-! THE CLAIM OUT OF ONE WALK OF THE LAW'S BODY. Your part is whole_start (and what it stands on); all else here is the same for every law, but numbers. -/
def R_law : String := "PairNamesLaw"
def lw_P (b : Addr) (xs : List Int32) (args : Array Value) (s : State) : Prop := args = #[.ref b] ∧ s.IntsAt b xs ∧ xs.length ≤ 1536 ∧ (Jvm.Cond.and given_1 narrow_1).before args s = true
/-- what a walk over the start with the record d0 says of its end, said of the start itself -/
theorem lw_closed {s t : State} {o : Outcome} {d0 : Drawn} {L : List Loc} {k n : Nat} (hd0 : s.drawn.sameBut d0 lw_cs) (hv : ∃ v, o = .returned v) (hW : (s.setDrawn d0).WarmedH t.vm) (hs : (s.setDrawn d0).sameButNew ({ t with vm := s.vm } : State) L k n) : State.butDraws s t lw_cs (fun t1 => Framed s o t1 L k n) := by
  have h2 : t.drawn = d0 := congrArg State.drawn hs.1
  refine ⟨⟨hv, hW, State.sameButNew.setDrawn hs s.drawn⟩, ?_, by decide⟩
  rw [h2]
  exact hd0
def lw_Q (_ : Array Value) (s : State) (o : Outcome) (t : State) : Prop := o = .returned (some (.int 1)) ∧ State.butDraws s t lw_cs (fun t1 => Framed s o t1 [] 601024 7293034)
def lw_Z (below : List Frame) (a : Array Value) (s : State) : State → Prop := fun t => ∃ o, t.status = .running ∧ Ended t below o ∧ lw_Q a s o t
/-- the law's own end, with 1 on the stack, nothing written that was there before, its room as the claim has it; d0: the record of draws at this point (at the entry s.drawn: begin with 'refine W.base ?_' and 'have hd0 := Drawn.sameBut.refl s.drawn lw_cs') -/
theorem lw_ret {p : Program} {l : Launch} {e : Env} {s : State} {m : MethodId} {below : List Frame} {meth : Method} {c : Code} {b : Nat} {d0 : Drawn} (hd0 : s.drawn.sameBut d0 lw_cs) (hx : p.tables.exec = Jvm.exec) (hb : c.code = code) (hr : meth.sig.returnType = ret) (hlocks : meth.locks = false) {pc : Nat} {H : Heap} {ls : Array Slot} (hdg : decode code pc = .ok (.ireturn, 1)) : W p l e room_1 (s.setDrawn d0) m #[Value.ref b] below meth c H [] 601024 7293034 (lw_Z below #[Value.ref b] s) (F0 m pc ls [.int 1]) := by
  intro T hT X
  obtain ⟨fs, hret, hrun, hended, hW, hframe⟩ := X.leave (v := some (.int 1)) (hlocks := hlocks) (fun h => by rw [hr] at h; cases h)
  have hmeth' : T.vm.method? m = some meth := X.method'
  refine ⟨T.setFrames fs, ?_, .returned (some (.int 1)), hrun, hended, rfl, lw_closed hd0 ⟨_, rfl⟩ hW hframe⟩
  jvm_step X.here [X.here.top, hx, hb, hdg, hmeth', hr, ret, narrow_b1]
  (try refine ⟨rfl, ?_⟩); (try refine ⟨rfl, ?_⟩)
  first | (intro acts; rw [hret _ acts rfl rfl rfl]) | rw [hret _ _ rfl rfl rfl]
  exact Steps.refl _
/-- what holds at the law's entry: the machine, the code, the tables' words (any of lw_tbl by 'hts w (by decide +kernel)'), the script of L ints xs at the cell b, what the Statement gives of the start (any of its parts by flat_of_before) -/
def lw_At (p : Program) (s : State) (m : MethodId) (meth : Method) (c : Code) (b L : Nat) (xs : Nat → Int32) : Prop :=
  p.tables.exec = Jvm.exec ∧ c.code = code ∧ meth.sig.returnType = ret ∧ c.maxLocals = 9 ∧ s.vm.findClass R_law = some m.cls ∧ (∀ w ∈ lw_tbl, w.before #[Value.ref b] s = true) ∧ va_X b L xs s s.heap ∧ b < s.heap.size ∧ meth.locks = false ∧ (Jvm.Cond.and given_1 narrow_1).before #[Value.ref b] s = true
/-! The claim out of one run of the law. -/
def xh0 (b N0 L : Nat) (xs : Nat → Int32) : xH := (fun a => if a = b then some (.inl (3, L, .inl xs)) else none, N0, 0, 0)
theorem xar_of {s : State} {args : Array Value} {ty : FieldType} (h : (Cond.arrayClass ty).before args s = true) (hty : ∀ C, ty ≠ .object C) : ∃ cA, ArrOfT s cA ty ∧ va_RA s cA ty := by
  obtain ⟨c, k, comp, h1, h2, h3⟩ := Cond.arrayClass_spec h
  refine ⟨c, fun n z => ⟨fun q hq => (by cases hq), k, h2, comp, h3⟩, ?_⟩
  cases ty with
  | object C => exact absurd rfl (hty C)
  | _ => exact h1
theorem xaq_of {s : State} {args : Array Value} {C : String} (h : (Cond.arrayOver (.object C)).before args s = true) : ∃ cA, ArrOfT s cA (.object C) ∧ va_RA s cA (.object C) := by
  obtain ⟨comp, c, k, h1, h2, h3, h4, h5⟩ := Cond.arrayOver_spec h
  exact ⟨c, fun n z => ⟨fun q hq => (by cases hq), k, h3, comp, h4⟩, k, comp, h3, h4, h1, h5⟩
def xflat : List Cond := flatC (Jvm.Cond.and given_1 narrow_1)
def xstrw : List Cond := (xpl_7.filter (fun q => q.2.1 == 11)).map (fun q => Cond.exactly (.string RX7 q.1) "java/lang/String")
set_option maxRecDepth 100000 in
theorem xstr_in : ∀ w ∈ xstrw, w ∈ xflat := by decide +kernel
set_option maxRecDepth 100000 in
theorem xnot_in : ∀ d, d < 3 → ∀ e, e < 3 → d ≠ e → Cond.not (.castable (xec d) (xec e)) ∈ xflat := by decide +kernel
set_option maxRecDepth 100000 in
theorem xsta_in : Cond.isRef (.static Bundle.tN "UNASSIGNED_STACK" Bundle.steD) ∈ xflat ∧ Cond.isRef (.static Bundle.tN "SUPPRESSED_SENTINEL" Bundle.listD) ∈ xflat := by decide +kernel
theorem xlays_in : Cond.laysStatic Bundle.tN "UNASSIGNED_STACK" Bundle.steD ∈ lw_tbl ∧ Cond.laysStatic Bundle.tN "SUPPRESSED_SENTINEL" Bundle.listD ∈ lw_tbl ∧ Cond.initialized Bundle.tN ∈ lw_tbl ∧ Cond.arrayOver (.object "PairNames$State") ∈ lw_tbl := by decide +kernel
/-- the tables at the law's entry -/
theorem xEn_start {s : State} {b : Nat} (hts : ∀ w ∈ lw_tbl, w.before #[Value.ref b] s = true) (hgv : (Jvm.Cond.and given_1 narrow_1).before #[Value.ref b] s = true) (L : Nat) (xs : Nat → Int32) : ∃ (D : va_G) (dA : Nat → ClassId), xEn (D, dA, s.heap.size, b, L, xs) s := by
  have htg : ∀ w ∈ xgt, w.before #[Value.ref b] s = true := fun w hw => hts w (xgt_tbl hw)
  have hfl : ∀ w ∈ xflat, w.before #[Value.ref b] s = true := flat_of_before _ hgv
  have hk : ∀ ci, ∃ (cC : ClassId) (iS : Nat → Nat), ci < 9 → u_Kn s (xcn ci) (xT ci) (xN ci) cC iS := by
    intro ci
    by_cases h : ci < 9
    · obtain ⟨cC, iS, h1⟩ := u_known (n := xN ci) htg (xlay_in h) (htg _ (xinst_in h))
      exact ⟨cC, iS, fun _ => h1⟩
    · exact ⟨0, fun _ => 0, fun q => absurd q h⟩
  obtain ⟨a0, h0⟩ := xar_of (htg _ xarr_int) (fun C q => by cases q)
  obtain ⟨a1, h1⟩ := xar_of (htg _ xarr_long) (fun C q => by cases q)
  obtain ⟨a2, h2⟩ := xaq_of (hts _ xlays_in.2.2.2)
  refine ⟨(fun k => Classical.choose (hk k), fun k => Classical.choose (Classical.choose_spec (hk k))), fun k => if k = 0 then a0 else if k = 1 then a1 else a2, ⟨?_, ?_⟩, ?_, ?_, ?_, ?_, ?_, va_AO.of (hts _ xlays_in.2.2.2)⟩
  · intro ci q hq
    have h9 : ci < 9 := (List.getElem?_eq_some_iff.mp hq).1
    rw [xcl_get h9] at hq
    cases hq
    exact Classical.choose_spec (Classical.choose_spec (hk ci)) h9
  · intro k q hq
    match k, hq with
    | 0, hq => cases hq; exact h0
    | 1, hq => cases hq; exact h1
    | 2, hq => cases hq; exact h2
    | k + 3, hq => simp [xtys] at hq
  · exact fun w hw hn => va_Nw.of (xnw_tabs hn) (hts w hw)
  · exact fun d e hd he hne => va_Nc.of (hfl _ (xnot_in d hd e he hne))
  · intro i k a hpf
    have hw := xpf_ok hpf
    have hex : Cond.exactly (.string RX7 i) "java/lang/String" ∈ xflat := by
      refine xstr_in _ (List.mem_map.mpr ⟨(i, 11, k, a), List.mem_filter.mpr ⟨?_, rfl⟩, rfl⟩)
      unfold xpf at hpf
      obtain ⟨q, hq, he⟩ := Option.map_eq_some_iff.mp hpf
      have g1 := List.mem_of_find?_eq_some hq
      have g2 := List.find?_some hq
      obtain ⟨i', r⟩ := q
      have e1 : i' = i := by simpa using g2
      have e2 : r = (11, k, a) := he
      rw [e1, e2] at g1
      exact g1
    obtain ⟨sa, c, cell, kk, e1, -⟩ := Cond.exactly_spec (hfl _ hex)
    exact ⟨sa, vk_R.of (hts _ hw) e1⟩
  · exact vx_Zqof (hts _ xlays_in.1) (hts _ xlays_in.2.2.1) (hfl _ xsta_in.1) (fun a ha => Nat.not_le.mpr ha)
  · exact vx_Zqof (hts _ xlays_in.2.1) (hts _ xlays_in.2.2.1) (hfl _ xsta_in.2) (fun a ha => Nat.not_le.mpr ha)
/-- the law's run, as the claim wants it -/
def xLawRuns : Prop := ∀ (b N0 L : Nat) (xs : Nat → Int32), L ≤ 1536 → b < N0 → ∃ h' : xH, xf 178 0 (xent 178 [.ref b]) [] (xh0 b N0 L xs) = some (.inl (some (.int 1)), h') ∧ h'.2.2.1 ≤ 601024 ∧ h'.2.2.2 ≤ 7293034
theorem x_start (hlaw : xLawRuns) {p : Program} {e : Env} {s : State} {m : MethodId} {below : List Frame} {meth : Method} {c : Code} (l : Launch) (hflags : l.flags = flags0) {b L : Nat} {xs : Nat → Int32} (hL : L ≤ 1536) (C0 : lw_At p s m meth c b L xs) : W p l e room_1 s m #[Value.ref b] below meth c s.heap [] 0 0 (lw_Z below #[Value.ref b] s) (entryFrame m ([Value.ref b] : List Value).toArray 9) := by
  obtain ⟨hx, hb, hr, hml, hown, hts, hX, hbl, hlocks, hgv⟩ := id C0
  obtain ⟨D, dA, hEn⟩ := xEn_start hts hgv L xs
  obtain ⟨h', hrun, hb1, hb2⟩ := hlaw b s.heap.size L xs hL hbl
  obtain ⟨k, hk⟩ := xf_runs hrun
  have hlt : l.stackTraces = false := by unfold Launch.stackTraces; rw [hflags]; decide
  have hC : xCx (D, dA, s.heap.size, b, L, xs) 178 p l room_1 s m #[Value.ref b] meth c := ⟨hx, hb, hml, hr, hlocks, hown, fun w hw => hts w (xgt_tbl hw), hEn, hlt, fun q => absurd q (by decide), Nat.le_refl _, Nat.le_refl _, fun q => by rcases q with q | q <;> exact absurd q (by decide)⟩
  rw [lg_entry_eq]
  have hlen : (xargs [.ref b]).length ≤ xml 178 := by show 1 ≤ 9; decide
  refine xP_all (D, dA, s.heap.size, b, L, xs) l k 178 0 _ _ _ _ _ hk p e room_1 s m _ below meth c _ 0 0 hC ?_ (by show _ ≤ 0 + 601024; omega) (by show _ ≤ 0 + 7293034; omega) _ _ _ _ _ (xLr_ent hlen) (xent_len hlen) ⟨?_, fun _ => rfl, Nat.le_refl _⟩ va_S.rf rfl rfl
  · intro pc1 L1 st1 h1 i n ls H1 locs cells slots ho hl hL1 hLen hR1 hS hc hs
    obtain ⟨i0, len, hd, htr⟩ := xop_ok ho
    have hkd := xloc_kind hl
    have hkt := xtr_kind htr
    have hi : i = .ireturn ∧ st1 = [.int 1] ∧ h1 = h' := by
      cases i <;> simp only [xloc, xbr] at hl
      all_goals
        (repeat' split at hl)
        all_goals first
          | (cases hl; done)
          | (cases hl; exact ⟨rfl, rfl, rfl⟩)
    obtain ⟨rfl, rfl, rfl⟩ := hi
    cases i0 with
    | ireturn =>
      obtain ⟨rfl, -⟩ := xg_if htr
      have hc1 : cells ≤ 601024 := by omega
      have hs1 : slots ≤ 7293034 := by omega
      exact va_forget hS.2.2 (W.widen hc1 hs1 (lw_ret (d0 := s.drawn) (Drawn.sameBut.refl s.drawn lw_cs) hx hb hr hlocks hd))
    | _ => exact absurd hkt (by simp [xkind])
  · intro a ee he
    unfold xh0 at he
    simp only at he
    split at he
    · rename_i hab
      cases he
      subst hab
      exact ⟨rfl, rfl, hX⟩
    · cases he
end
section
theorem xlaw_ok : xLawRuns := sorry
theorem whole_start {p : Program} {e : Env} {s : State} {m : MethodId} {below : List Frame} {meth : Method} {c : Code} (l : Launch) (hflags : l.flags = flags0) {b L : Nat} {xs : Nat → Int32} (hL : L ≤ 1536) (C0 : lw_At p s m meth c b L xs) : W p l e room_1 s m #[Value.ref b] below meth c s.heap [] 0 0 (lw_Z below #[Value.ref b] s) (entryFrame m ([Value.ref b] : List Value).toArray 9) :=
  x_start xlaw_ok l hflags hL C0
-- ===== YOUR PART ENDS =====
set_option maxHeartbeats 4000000 in
theorem lw_walk (l : Launch) (hflags : l.flags = flags0) (b : Addr) (xs : List Int32) : MetFree l x (headSpec (Jvm.Cond.code x code maxLocals ret :: tables_1) room_1) (lw_P b xs) (fun _ _ _ _ _ => True) lw_Q := by
  refine MetFree.of_bodyS (code := code) (maxLocals := maxLocals) (ret := ret) (by decide) ?_ ?_
  · intro args s m h hn
    obtain ⟨meth, c, h1, h2, h3, h4, h5, h6, -, -⟩ := Cond.code_spec hn (atoms_spec (ws := Jvm.Cond.code x code maxLocals ret :: tables_1) h _ List.mem_cons_self)
    exact ⟨meth, c, h1, h2, h3, h4, h5, h6⟩
  · intro p e s m args below meth c s₁ B hml0 hP _
    obtain ⟨rfl, hx, hbd, hgv⟩ := hP
    obtain ⟨scr, harrAt, hlist, hof, hsmall⟩ := hx
    obtain ⟨hcb, hkn, -, -⟩ := State.arrayAt?_spec harrAt
    have hown : s.vm.findClass R_law = some m.cls := findClass_of_methodNamed B.named
    have hts0 : ∀ c ∈ (Jvm.Cond.code x code maxLocals ret :: tables_1), c.before #[Value.ref b] s = true := atoms_spec (ws := Jvm.Cond.code x code maxLocals ret :: tables_1) B.pre
    have hts : ∀ w ∈ lw_tbl, w.before #[Value.ref b] s = true := k2_hts_sels lw_privs (fun w hw => hts0 w (List.mem_cons_of_mem _ hw)) lw_privs_ok
    have hml : c.maxLocals = 9 := B.maxLocals_eq (hts0 _ List.mem_cons_self)
    have X₀ : Stand p l e room_1 s m #[Value.ref b] below meth c s₁ [] 0 0 := Stand.of_body B
    have hh0 : s₁.heap = s.heap := by rw [B.state]; rfl
    have hsz : scr.slots.size = xs.length := by rw [← Array.length_toList, hlist, List.length_map]
    have hval : ∀ j : Nat, j < xs.length → scr.slots[j]? = some (.int (xs.getD j 0)) := fun j hj => by
      rw [← Array.getElem?_toList, hlist]
      simp [hj]
    have hbl : b < s.heap.size := (Array.getElem?_eq_some_iff.mp hcb).1
    have hX : va_X b xs.length (fun j => xs.getD j 0) s s.heap := ⟨scr, hcb, hof, hkn, hsz, hval⟩
    have K : W p l e room_1 s m #[Value.ref b] below meth c s₁.heap [] 0 0 (lw_Z below #[Value.ref b] s) (entryFrame m ([Value.ref b] : List Value).toArray 9) := by
      rw [hh0]
      exact whole_start l hflags hbd ⟨B.exec, B.bytes, B.returns, hml, hown, hts, hX, hbl, B.notSynchronized, hgv⟩
    obtain ⟨t, a1, o, b1, b2, b3⟩ := K s₁ rfl X₀
    exact ⟨t, o, a1, b1, b2, b3⟩
theorem lw_pre_spec {args : Array Value} {s : State} (h : (Jvm.Cond.and given_1 narrow_1).before args s = true) (hr : rest_1_c.before args s = true) : ∃ (b : Addr) (xs : List Int32), lw_P b xs args s := by
  have hs := flat_of_before _ h
  have hq := flat_of_before _ hr
  have hc : (Cond.count 1).before args s = true := hs _ (by decide +kernel)
  have harr : (Cond.arrayOf (.arg 0) .int).before args s = true := hs _ (by decide +kernel)
  have hle : (Cond.le (.length (.arg 0)) (.int 1536)).before args s = true := hs _ (by decide +kernel)
  have hlen : (Cond.isInt (.length (.arg 0))).before args s = true := hq _ (by decide +kernel)
  have hall : (Cond.all (.arg 0) (.isInt (.elem (.arg 0) (.index 0)))).before args s = true := hq _ (by decide +kernel)
  obtain ⟨b, xs, hb, hx⟩ := State.ints_of_pre rfl harr hlen hall
  have hsm : xs.length < 2 ^ 31 := hx.choose_spec.2.2.2
  have hev : (Term.length (.arg 0)).eval args s none [] s = some (.int xs.length.toInt32) := hx.length_eval hb
  have hv := Cond.le_ints hev (show (Term.int 1536).eval args s none [] s = some (.int 1536) from rfl)
  have hd : xs.length.toInt32 ≤ 1536 := by
    simpa [Cond.before, Cond.holds, hv] using hle
  have hN : xs.length ≤ 1536 := (Int32.ofNat_le_ofNat hsm (by decide)).mp (show Int32.ofNat xs.length ≤ Int32.ofNat 1536 from hd)
  exact ⟨b, xs, Cond.one_arg hc (show args[0]? = some (.ref b) from hb), hx, hN, h⟩
theorem lw_comes (l : Launch) (hflags : l.flags = flags0) : Comes l x (Jvm.Cond.code x code maxLocals ret :: tables_1) room_1 (fun tb e args s => Calls_1 tb e args s ∧ rest_1 tb e args s ∧ Pre_1 tb e args s)
    (fun _ _ args s o t => lw_Q args s o t) := by
  intro p e ha hc hk s m args below hf hfit hheap happ hpre
  obtain ⟨b, xs, hP⟩ := lw_pre_spec hpre.2.2 hpre.2.1
  obtain ⟨k, o, h1, h2, h3, hQ⟩ := lw_walk l hflags b xs p e ha hc hk s m args below hf ((Spec.applies_iff_loose hf).mp happ).1 hP trivial
  exact ⟨k, o, h1, h2, h3, hQ⟩
theorem lw_frame {s t : State} {o : Outcome} {args : Array Value} (h : State.butDraws s t lw_cs (fun t1 => Framed s o t1 [] 601024 7293034)) :
    State.butDraws s t [Jvm.Choice.named "NaN.bits"] (fun t1 => Framed s o t1 (fieldLocs frame_1_writes args s ++ arrayLocs frame_1_arrays args s ++ staticLocs frame_1_statics s) 601024 7293034) := h
theorem lw_limb (L : Cond) (hL : ∀ (args : Array Value) (s t : State), L.after args s (.returned (some (.int 1))) t = true) :
    ArmFor flags0 classFile x code maxLocals ret World_1 tables_1 room_1 Calls_1 rest_1 Pre_1
      (fun tb e a s o t => postC L tb e a s o t ∧ State.butDraws s t [Jvm.Choice.named "NaN.bits"] (fun t1 => Framed s o t1 (fieldLocs frame_1_writes a s ++ arrayLocs frame_1_arrays a s ++ staticLocs frame_1_statics s) 601024 7293034)) := by
  intro l hflags _ _ p e ha hc hk s m args below hf hfit hheap happ hpre
  obtain ⟨k, o, h1, h2, h3, rfl, hF⟩ := lw_comes l hflags p e ha hc hk s m args below hf hfit hheap happ hpre
  exact ⟨k, _, h1, h2, h3, hL args s _, lw_frame hF⟩
theorem i_vc : Claimed_1_1 ∧ Claimed_1_2 := ⟨lw_limb limb_1_1 (fun args s t => by simp [limb_1_1, Cond.after, Cond.holds, Cond.value]), lw_limb limb_1_2 (fun args s t => Cond.after_iff.mpr (by
  first | (rw [show limb_1_2 = Cond.eq .result (.int 1) from rfl, Cond.eq_ints (x := 1) (y := 1) rfl rfl]; simp; done) | (simp [limb_1_2, Cond.value, Term.eval]; done)))⟩
end
