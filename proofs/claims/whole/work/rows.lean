section
-- ===== PART A: goes FIRST, ahead of the names: the tables' words, and 'selects' of the private methods out of them =====
/-- a private method of a class that the tables say can be made, by its rows of tables_1 -/
def lw_okq (q : MethodName × Nat) : Prop := (q.1.cls ≠ "java/lang/invoke/MethodHandle" ∧ q.1.cls ≠ "java/lang/invoke/VarHandle") ∧ Cond.instantiable q.1.cls q.2 ∈ tables_1 ∧ Cond.privateMethod q.1 ∈ tables_1 ∧ Cond.instanceMethod q.1 ∈ tables_1
theorem lw_p0 : lw_okq (⟨"TypeFlow", "isAsTold", "(IIIIII)Z"⟩, 5) := ⟨⟨by decide +kernel, by decide +kernel⟩, List.mem_of_getElem? (i := 11) (by decide +kernel), List.mem_of_getElem? (i := 317) (by decide +kernel), List.mem_of_getElem? (i := 318) (by decide +kernel)⟩
theorem lw_p1 : lw_okq (⟨"TypeFlow$Worker", "none", "(I)I"⟩, 6) := ⟨⟨by decide +kernel, by decide +kernel⟩, List.mem_of_getElem? (i := 180) (by decide +kernel), List.mem_of_getElem? (i := 362) (by decide +kernel), List.mem_of_getElem? (i := 363) (by decide +kernel)⟩
theorem lw_p2 : lw_okq (⟨"TypeFlow$Putting", "take", "(II)I"⟩, 7) := ⟨⟨by decide +kernel, by decide +kernel⟩, List.mem_of_getElem? (i := 186) (by decide +kernel), List.mem_of_getElem? (i := 371) (by decide +kernel), List.mem_of_getElem? (i := 372) (by decide +kernel)⟩
theorem lw_p3 : lw_okq (⟨"TypeFlow$Putting", "bindTo", "(II)I"⟩, 7) := ⟨⟨by decide +kernel, by decide +kernel⟩, List.mem_of_getElem? (i := 186) (by decide +kernel), List.mem_of_getElem? (i := 384) (by decide +kernel), List.mem_of_getElem? (i := 385) (by decide +kernel)⟩
theorem lw_p4 : lw_okq (⟨"TypeFlow$Types", "isFrom", "(II)Z"⟩, 10) := ⟨⟨by decide +kernel, by decide +kernel⟩, List.mem_of_getElem? (i := 19) (by decide +kernel), List.mem_of_getElem? (i := 392) (by decide +kernel), List.mem_of_getElem? (i := 393) (by decide +kernel)⟩
theorem lw_p5 : lw_okq (⟨"TypeFlow$Types", "classAbove", "(I)I"⟩, 10) := ⟨⟨by decide +kernel, by decide +kernel⟩, List.mem_of_getElem? (i := 19) (by decide +kernel), List.mem_of_getElem? (i := 396) (by decide +kernel), List.mem_of_getElem? (i := 397) (by decide +kernel)⟩
theorem lw_p6 : lw_okq (⟨"TypeFlow$Types", "argumentWithoutImage", "(I)I"⟩, 10) := ⟨⟨by decide +kernel, by decide +kernel⟩, List.mem_of_getElem? (i := 19) (by decide +kernel), List.mem_of_getElem? (i := 404) (by decide +kernel), List.mem_of_getElem? (i := 405) (by decide +kernel)⟩
theorem lw_p7 : lw_okq (⟨"TypeFlow$Types", "imageOf", "(I)I"⟩, 10) := ⟨⟨by decide +kernel, by decide +kernel⟩, List.mem_of_getElem? (i := 19) (by decide +kernel), List.mem_of_getElem? (i := 408) (by decide +kernel), List.mem_of_getElem? (i := 409) (by decide +kernel)⟩
theorem lw_p8 : lw_okq (⟨"TypeFlow$Putting", "match", "(II)I"⟩, 7) := ⟨⟨by decide +kernel, by decide +kernel⟩, List.mem_of_getElem? (i := 186) (by decide +kernel), List.mem_of_getElem? (i := 412) (by decide +kernel), List.mem_of_getElem? (i := 413) (by decide +kernel)⟩
theorem lw_p9 : lw_okq (⟨"TypeFlow$Putting", "await", "(III)I"⟩, 7) := ⟨⟨by decide +kernel, by decide +kernel⟩, List.mem_of_getElem? (i := 186) (by decide +kernel), List.mem_of_getElem? (i := 416) (by decide +kernel), List.mem_of_getElem? (i := 417) (by decide +kernel)⟩
theorem lw_p10 : lw_okq (⟨"TypeFlow$Putting", "lookAtBounds", "(I)I"⟩, 7) := ⟨⟨by decide +kernel, by decide +kernel⟩, List.mem_of_getElem? (i := 186) (by decide +kernel), List.mem_of_getElem? (i := 420) (by decide +kernel), List.mem_of_getElem? (i := 421) (by decide +kernel)⟩
theorem lw_p11 : lw_okq (⟨"TypeFlow$Putting", "isBoundWithin", "(I)Z"⟩, 7) := ⟨⟨by decide +kernel, by decide +kernel⟩, List.mem_of_getElem? (i := 186) (by decide +kernel), List.mem_of_getElem? (i := 431) (by decide +kernel), List.mem_of_getElem? (i := 432) (by decide +kernel)⟩
theorem lw_p12 : lw_okq (⟨"TypeFlow$Worker", "orFault", "(II)I"⟩, 6) := ⟨⟨by decide +kernel, by decide +kernel⟩, List.mem_of_getElem? (i := 180) (by decide +kernel), List.mem_of_getElem? (i := 436) (by decide +kernel), List.mem_of_getElem? (i := 437) (by decide +kernel)⟩
theorem lw_p13 : lw_okq (⟨"TypeFlow$Worker", "filtered", "(II)I"⟩, 6) := ⟨⟨by decide +kernel, by decide +kernel⟩, List.mem_of_getElem? (i := 180) (by decide +kernel), List.mem_of_getElem? (i := 440) (by decide +kernel), List.mem_of_getElem? (i := 441) (by decide +kernel)⟩
theorem lw_p14 : lw_okq (⟨"TypeFlow$Worker", "memberOf", "(II)I"⟩, 6) := ⟨⟨by decide +kernel, by decide +kernel⟩, List.mem_of_getElem? (i := 180) (by decide +kernel), List.mem_of_getElem? (i := 444) (by decide +kernel), List.mem_of_getElem? (i := 445) (by decide +kernel)⟩
theorem lw_p15 : lw_okq (⟨"TypeFlow$Worker", "joined", "(III)I"⟩, 6) := ⟨⟨by decide +kernel, by decide +kernel⟩, List.mem_of_getElem? (i := 180) (by decide +kernel), List.mem_of_getElem? (i := 455) (by decide +kernel), List.mem_of_getElem? (i := 456) (by decide +kernel)⟩
def lw_privs_1 : List (MethodName × Nat) := [(⟨"TypeFlow", "isAsTold", "(IIIIII)Z"⟩, 5), (⟨"TypeFlow$Worker", "none", "(I)I"⟩, 6), (⟨"TypeFlow$Putting", "take", "(II)I"⟩, 7), (⟨"TypeFlow$Putting", "bindTo", "(II)I"⟩, 7), (⟨"TypeFlow$Types", "isFrom", "(II)Z"⟩, 10), (⟨"TypeFlow$Types", "classAbove", "(I)I"⟩, 10), (⟨"TypeFlow$Types", "argumentWithoutImage", "(I)I"⟩, 10), (⟨"TypeFlow$Types", "imageOf", "(I)I"⟩, 10), (⟨"TypeFlow$Putting", "match", "(II)I"⟩, 7), (⟨"TypeFlow$Putting", "await", "(III)I"⟩, 7), (⟨"TypeFlow$Putting", "lookAtBounds", "(I)I"⟩, 7), (⟨"TypeFlow$Putting", "isBoundWithin", "(I)Z"⟩, 7), (⟨"TypeFlow$Worker", "orFault", "(II)I"⟩, 6), (⟨"TypeFlow$Worker", "filtered", "(II)I"⟩, 6), (⟨"TypeFlow$Worker", "memberOf", "(II)I"⟩, 6), (⟨"TypeFlow$Worker", "joined", "(III)I"⟩, 6)]
theorem lw_r1 : ∀ q ∈ lw_privs_1, lw_okq q := List.forall_mem_cons.mpr ⟨lw_p0, List.forall_mem_cons.mpr ⟨lw_p1, List.forall_mem_cons.mpr ⟨lw_p2, List.forall_mem_cons.mpr ⟨lw_p3, List.forall_mem_cons.mpr ⟨lw_p4, List.forall_mem_cons.mpr ⟨lw_p5, List.forall_mem_cons.mpr ⟨lw_p6, List.forall_mem_cons.mpr ⟨lw_p7, List.forall_mem_cons.mpr ⟨lw_p8, List.forall_mem_cons.mpr ⟨lw_p9, List.forall_mem_cons.mpr ⟨lw_p10, List.forall_mem_cons.mpr ⟨lw_p11, List.forall_mem_cons.mpr ⟨lw_p12, List.forall_mem_cons.mpr ⟨lw_p13, List.forall_mem_cons.mpr ⟨lw_p14, List.forall_mem_cons.mpr ⟨lw_p15, fun _ h => absurd h List.not_mem_nil⟩⟩⟩⟩⟩⟩⟩⟩⟩⟩⟩⟩⟩⟩⟩⟩
theorem lw_p16 : lw_okq (⟨"TypeFlow$Worker", "castTo", "(II)I"⟩, 6) := ⟨⟨by decide +kernel, by decide +kernel⟩, List.mem_of_getElem? (i := 180) (by decide +kernel), List.mem_of_getElem? (i := 461) (by decide +kernel), List.mem_of_getElem? (i := 462) (by decide +kernel)⟩
theorem lw_p17 : lw_okq (⟨"TypeFlowModel", "isClassType", "(I)Z"⟩, 35) := ⟨⟨by decide +kernel, by decide +kernel⟩, List.mem_of_getElem? (i := 521) (by decide +kernel), List.mem_of_getElem? (i := 640) (by decide +kernel), List.mem_of_getElem? (i := 641) (by decide +kernel)⟩
theorem lw_p18 : lw_okq (⟨"TypeFlowModel", "isClass", "(I)Z"⟩, 35) := ⟨⟨by decide +kernel, by decide +kernel⟩, List.mem_of_getElem? (i := 521) (by decide +kernel), List.mem_of_getElem? (i := 648) (by decide +kernel), List.mem_of_getElem? (i := 649) (by decide +kernel)⟩
theorem lw_p19 : lw_okq (⟨"TypeFlowModel", "isArgument", "(I)Z"⟩, 35) := ⟨⟨by decide +kernel, by decide +kernel⟩, List.mem_of_getElem? (i := 521) (by decide +kernel), List.mem_of_getElem? (i := 652) (by decide +kernel), List.mem_of_getElem? (i := 653) (by decide +kernel)⟩
theorem lw_p20 : lw_okq (⟨"TypeFlowModel", "isType", "(I)Z"⟩, 35) := ⟨⟨by decide +kernel, by decide +kernel⟩, List.mem_of_getElem? (i := 521) (by decide +kernel), List.mem_of_getElem? (i := 656) (by decide +kernel), List.mem_of_getElem? (i := 657) (by decide +kernel)⟩
theorem lw_p21 : lw_okq (⟨"TypeFlowModel", "made", "(III)I"⟩, 35) := ⟨⟨by decide +kernel, by decide +kernel⟩, List.mem_of_getElem? (i := 521) (by decide +kernel), List.mem_of_getElem? (i := 663) (by decide +kernel), List.mem_of_getElem? (i := 664) (by decide +kernel)⟩
theorem lw_p22 : lw_okq (⟨"TypeFlowModel", "seenAs", "(II)I"⟩, 35) := ⟨⟨by decide +kernel, by decide +kernel⟩, List.mem_of_getElem? (i := 521) (by decide +kernel), List.mem_of_getElem? (i := 675) (by decide +kernel), List.mem_of_getElem? (i := 676) (by decide +kernel)⟩
theorem lw_p23 : lw_okq (⟨"TypeFlowModel", "comesFrom", "(II)Z"⟩, 35) := ⟨⟨by decide +kernel, by decide +kernel⟩, List.mem_of_getElem? (i := 521) (by decide +kernel), List.mem_of_getElem? (i := 679) (by decide +kernel), List.mem_of_getElem? (i := 680) (by decide +kernel)⟩
theorem lw_p24 : lw_okq (⟨"TypeFlowModel", "put", "(III)I"⟩, 35) := ⟨⟨by decide +kernel, by decide +kernel⟩, List.mem_of_getElem? (i := 521) (by decide +kernel), List.mem_of_getElem? (i := 683) (by decide +kernel), List.mem_of_getElem? (i := 684) (by decide +kernel)⟩
theorem lw_p25 : lw_okq (⟨"TypeFlowModel", "push", "(I)V"⟩, 35) := ⟨⟨by decide +kernel, by decide +kernel⟩, List.mem_of_getElem? (i := 521) (by decide +kernel), List.mem_of_getElem? (i := 687) (by decide +kernel), List.mem_of_getElem? (i := 688) (by decide +kernel)⟩
theorem lw_p26 : lw_okq (⟨"TypeFlowModel", "isOpen", "(I)Z"⟩, 35) := ⟨⟨by decide +kernel, by decide +kernel⟩, List.mem_of_getElem? (i := 521) (by decide +kernel), List.mem_of_getElem? (i := 691) (by decide +kernel), List.mem_of_getElem? (i := 692) (by decide +kernel)⟩
theorem lw_p27 : lw_okq (⟨"TypeFlowModel", "isClosed", "(I)Z"⟩, 35) := ⟨⟨by decide +kernel, by decide +kernel⟩, List.mem_of_getElem? (i := 521) (by decide +kernel), List.mem_of_getElem? (i := 699) (by decide +kernel), List.mem_of_getElem? (i := 700) (by decide +kernel)⟩
theorem lw_p28 : lw_okq (⟨"TypeFlowModel", "goesFor", "(II)I"⟩, 35) := ⟨⟨by decide +kernel, by decide +kernel⟩, List.mem_of_getElem? (i := 521) (by decide +kernel), List.mem_of_getElem? (i := 703) (by decide +kernel), List.mem_of_getElem? (i := 704) (by decide +kernel)⟩
theorem lw_p29 : lw_okq (⟨"TypeFlowModel", "commonOf", "(II)I"⟩, 35) := ⟨⟨by decide +kernel, by decide +kernel⟩, List.mem_of_getElem? (i := 521) (by decide +kernel), List.mem_of_getElem? (i := 711) (by decide +kernel), List.mem_of_getElem? (i := 712) (by decide +kernel)⟩
theorem lw_p30 : lw_okq (⟨"TypeFlowModel", "isRight", "(IIII)Z"⟩, 35) := ⟨⟨by decide +kernel, by decide +kernel⟩, List.mem_of_getElem? (i := 521) (by decide +kernel), List.mem_of_getElem? (i := 731) (by decide +kernel), List.mem_of_getElem? (i := 732) (by decide +kernel)⟩
theorem lw_p31 : lw_okq (⟨"TypeFlowModel", "isFunction", "(IZ)Z"⟩, 35) := ⟨⟨by decide +kernel, by decide +kernel⟩, List.mem_of_getElem? (i := 521) (by decide +kernel), List.mem_of_getElem? (i := 735) (by decide +kernel), List.mem_of_getElem? (i := 736) (by decide +kernel)⟩
def lw_privs_2 : List (MethodName × Nat) := [(⟨"TypeFlow$Worker", "castTo", "(II)I"⟩, 6), (⟨"TypeFlowModel", "isClassType", "(I)Z"⟩, 35), (⟨"TypeFlowModel", "isClass", "(I)Z"⟩, 35), (⟨"TypeFlowModel", "isArgument", "(I)Z"⟩, 35), (⟨"TypeFlowModel", "isType", "(I)Z"⟩, 35), (⟨"TypeFlowModel", "made", "(III)I"⟩, 35), (⟨"TypeFlowModel", "seenAs", "(II)I"⟩, 35), (⟨"TypeFlowModel", "comesFrom", "(II)Z"⟩, 35), (⟨"TypeFlowModel", "put", "(III)I"⟩, 35), (⟨"TypeFlowModel", "push", "(I)V"⟩, 35), (⟨"TypeFlowModel", "isOpen", "(I)Z"⟩, 35), (⟨"TypeFlowModel", "isClosed", "(I)Z"⟩, 35), (⟨"TypeFlowModel", "goesFor", "(II)I"⟩, 35), (⟨"TypeFlowModel", "commonOf", "(II)I"⟩, 35), (⟨"TypeFlowModel", "isRight", "(IIII)Z"⟩, 35), (⟨"TypeFlowModel", "isFunction", "(IZ)Z"⟩, 35)]
theorem lw_r2 : ∀ q ∈ lw_privs_2, lw_okq q := List.forall_mem_cons.mpr ⟨lw_p16, List.forall_mem_cons.mpr ⟨lw_p17, List.forall_mem_cons.mpr ⟨lw_p18, List.forall_mem_cons.mpr ⟨lw_p19, List.forall_mem_cons.mpr ⟨lw_p20, List.forall_mem_cons.mpr ⟨lw_p21, List.forall_mem_cons.mpr ⟨lw_p22, List.forall_mem_cons.mpr ⟨lw_p23, List.forall_mem_cons.mpr ⟨lw_p24, List.forall_mem_cons.mpr ⟨lw_p25, List.forall_mem_cons.mpr ⟨lw_p26, List.forall_mem_cons.mpr ⟨lw_p27, List.forall_mem_cons.mpr ⟨lw_p28, List.forall_mem_cons.mpr ⟨lw_p29, List.forall_mem_cons.mpr ⟨lw_p30, List.forall_mem_cons.mpr ⟨lw_p31, fun _ h => absurd h List.not_mem_nil⟩⟩⟩⟩⟩⟩⟩⟩⟩⟩⟩⟩⟩⟩⟩⟩
theorem lw_p32 : lw_okq (⟨"TypeFlowModel", "work", "(I)I"⟩, 35) := ⟨⟨by decide +kernel, by decide +kernel⟩, List.mem_of_getElem? (i := 521) (by decide +kernel), List.mem_of_getElem? (i := 747) (by decide +kernel), List.mem_of_getElem? (i := 748) (by decide +kernel)⟩
theorem lw_p33 : lw_okq (⟨"TypeFlowModel", "putTo", "(III)I"⟩, 35) := ⟨⟨by decide +kernel, by decide +kernel⟩, List.mem_of_getElem? (i := 521) (by decide +kernel), List.mem_of_getElem? (i := 751) (by decide +kernel), List.mem_of_getElem? (i := 752) (by decide +kernel)⟩
theorem lw_p34 : lw_okq (⟨"TypeFlowModel", "takes", "(II)Z"⟩, 35) := ⟨⟨by decide +kernel, by decide +kernel⟩, List.mem_of_getElem? (i := 521) (by decide +kernel), List.mem_of_getElem? (i := 755) (by decide +kernel), List.mem_of_getElem? (i := 756) (by decide +kernel)⟩
theorem lw_p35 : lw_okq (⟨"TypeFlowModel", "fails", "(I)Z"⟩, 35) := ⟨⟨by decide +kernel, by decide +kernel⟩, List.mem_of_getElem? (i := 521) (by decide +kernel), List.mem_of_getElem? (i := 759) (by decide +kernel), List.mem_of_getElem? (i := 760) (by decide +kernel)⟩
theorem lw_p36 : lw_okq (⟨"TypeFlowModel", "binds", "(II)Z"⟩, 35) := ⟨⟨by decide +kernel, by decide +kernel⟩, List.mem_of_getElem? (i := 521) (by decide +kernel), List.mem_of_getElem? (i := 763) (by decide +kernel), List.mem_of_getElem? (i := 764) (by decide +kernel)⟩
theorem lw_p37 : lw_okq (⟨"TypeFlowModel", "holds", "(II)Z"⟩, 35) := ⟨⟨by decide +kernel, by decide +kernel⟩, List.mem_of_getElem? (i := 521) (by decide +kernel), List.mem_of_getElem? (i := 767) (by decide +kernel), List.mem_of_getElem? (i := 768) (by decide +kernel)⟩
theorem lw_p38 : lw_okq (⟨"TypeFlowModel", "holdPair", "(II)V"⟩, 35) := ⟨⟨by decide +kernel, by decide +kernel⟩, List.mem_of_getElem? (i := 521) (by decide +kernel), List.mem_of_getElem? (i := 771) (by decide +kernel), List.mem_of_getElem? (i := 772) (by decide +kernel)⟩
theorem lw_p39 : lw_okq (⟨"TypeFlowModel", "orRoom", "(I)I"⟩, 35) := ⟨⟨by decide +kernel, by decide +kernel⟩, List.mem_of_getElem? (i := 521) (by decide +kernel), List.mem_of_getElem? (i := 775) (by decide +kernel), List.mem_of_getElem? (i := 776) (by decide +kernel)⟩
theorem lw_p40 : lw_okq (⟨"TypeFlowModel", "memberOf", "(II)I"⟩, 35) := ⟨⟨by decide +kernel, by decide +kernel⟩, List.mem_of_getElem? (i := 521) (by decide +kernel), List.mem_of_getElem? (i := 779) (by decide +kernel), List.mem_of_getElem? (i := 780) (by decide +kernel)⟩
theorem lw_p41 : lw_okq (⟨"TypeFlowModel", "joined", "(III)I"⟩, 35) := ⟨⟨by decide +kernel, by decide +kernel⟩, List.mem_of_getElem? (i := 521) (by decide +kernel), List.mem_of_getElem? (i := 783) (by decide +kernel), List.mem_of_getElem? (i := 784) (by decide +kernel)⟩
theorem lw_p42 : lw_okq (⟨"TypeFlowModel", "areKeys", "(II)Z"⟩, 35) := ⟨⟨by decide +kernel, by decide +kernel⟩, List.mem_of_getElem? (i := 521) (by decide +kernel), List.mem_of_getElem? (i := 787) (by decide +kernel), List.mem_of_getElem? (i := 788) (by decide +kernel)⟩
theorem lw_p43 : lw_okq (⟨"TypeFlowModel", "castOf", "(II)I"⟩, 35) := ⟨⟨by decide +kernel, by decide +kernel⟩, List.mem_of_getElem? (i := 521) (by decide +kernel), List.mem_of_getElem? (i := 791) (by decide +kernel), List.mem_of_getElem? (i := 792) (by decide +kernel)⟩
theorem lw_p44 : lw_okq (⟨"TypeFlowModel", "isOperator", "(I)Z"⟩, 35) := ⟨⟨by decide +kernel, by decide +kernel⟩, List.mem_of_getElem? (i := 521) (by decide +kernel), List.mem_of_getElem? (i := 799) (by decide +kernel), List.mem_of_getElem? (i := 800) (by decide +kernel)⟩
def lw_privs_3 : List (MethodName × Nat) := [(⟨"TypeFlowModel", "work", "(I)I"⟩, 35), (⟨"TypeFlowModel", "putTo", "(III)I"⟩, 35), (⟨"TypeFlowModel", "takes", "(II)Z"⟩, 35), (⟨"TypeFlowModel", "fails", "(I)Z"⟩, 35), (⟨"TypeFlowModel", "binds", "(II)Z"⟩, 35), (⟨"TypeFlowModel", "holds", "(II)Z"⟩, 35), (⟨"TypeFlowModel", "holdPair", "(II)V"⟩, 35), (⟨"TypeFlowModel", "orRoom", "(I)I"⟩, 35), (⟨"TypeFlowModel", "memberOf", "(II)I"⟩, 35), (⟨"TypeFlowModel", "joined", "(III)I"⟩, 35), (⟨"TypeFlowModel", "areKeys", "(II)Z"⟩, 35), (⟨"TypeFlowModel", "castOf", "(II)I"⟩, 35), (⟨"TypeFlowModel", "isOperator", "(I)Z"⟩, 35)]
theorem lw_r3 : ∀ q ∈ lw_privs_3, lw_okq q := List.forall_mem_cons.mpr ⟨lw_p32, List.forall_mem_cons.mpr ⟨lw_p33, List.forall_mem_cons.mpr ⟨lw_p34, List.forall_mem_cons.mpr ⟨lw_p35, List.forall_mem_cons.mpr ⟨lw_p36, List.forall_mem_cons.mpr ⟨lw_p37, List.forall_mem_cons.mpr ⟨lw_p38, List.forall_mem_cons.mpr ⟨lw_p39, List.forall_mem_cons.mpr ⟨lw_p40, List.forall_mem_cons.mpr ⟨lw_p41, List.forall_mem_cons.mpr ⟨lw_p42, List.forall_mem_cons.mpr ⟨lw_p43, List.forall_mem_cons.mpr ⟨lw_p44, fun _ h => absurd h List.not_mem_nil⟩⟩⟩⟩⟩⟩⟩⟩⟩⟩⟩⟩⟩
def lw_privs : List (MethodName × Nat) := lw_privs_1 ++ (lw_privs_2 ++ (lw_privs_3))
def lw_tbl : List Cond := k2_sels lw_privs ++ tables_1
theorem lw_privs_ok : ∀ q ∈ lw_privs, lw_okq q := by
  show ∀ q ∈ lw_privs_1 ++ (lw_privs_2 ++ (lw_privs_3)), lw_okq q
  exact List.forall_mem_append.mpr ⟨lw_r1, List.forall_mem_append.mpr ⟨lw_r2, lw_r3⟩⟩
end
section
/-! ===== BEGIN words of one list among another's, by their places ===== -/
theorem goodIn_r {big : List Cond} (ws : List Cond) (ps : List Nat) (hp : ws = ps.filterMap (fun i => big[i]?)) (h : ws.all goodWord = true) : GoodIn big ws := by
  intro w hw
  have h1 := List.all_eq_true.mp h w hw
  rw [hp] at hw
  obtain ⟨i, -, hi⟩ := List.mem_filterMap.mp hw
  have hm : w ∈ big := by first | exact List.mem_of_getElem? hi | exact List.getElem?_mem hi
  exact ⟨hm, good_of_word h1⟩
theorem goodIn_app {big a b : List Cond} (ha : GoodIn big a) (hb : GoodIn big b) : GoodIn big (a ++ b) := fun w h => (List.mem_append.mp h).elim (ha w) (hb w)
theorem goodIn_ca {big a b : List Cond} {c : Cond} (ha : GoodIn big (c :: a)) (hb : GoodIn big b) : GoodIn big (c :: (a ++ b)) := fun w h => (List.mem_cons.mp h).elim (fun e => ha w (List.mem_cons.mpr (Or.inl e))) (fun h => (List.mem_append.mp h).elim (fun h => ha w (List.mem_cons.mpr (Or.inr h))) (hb w))
theorem goodIn_sub {big ws : List Cond} (hm : ∀ w ∈ ws, w ∈ big) (h : ws.all goodWord = true) : GoodIn big ws := fun w hw => ⟨hm w hw, good_of_word (List.all_eq_true.mp h w hw)⟩
/-! ===== END ===== -/

/-! ===== BEGIN printed: names, fields, word lists, decode rows ===== -/
def RX0 : String := "TypeFlow$Functions"
def TX0 : u_T := fun k => match k with
  | 0 => ("TypeFlow$Functions", "size", "I", false)
  | 1 => ("TypeFlow$Functions", "first", "[I", true)
  | 2 => ("TypeFlow$Functions", "second", "[I", true)
  | 3 => ("TypeFlow$Functions", "result", "[I", true)
  | _ => ("TypeFlow$Functions", "bounds", "[I", true)
def tyX0 : Nat → FieldType := fun k => match k with
  | 0 => .int
  | 1 => .array .int
  | 2 => .array .int
  | 3 => .array .int
  | _ => .array .int
abbrev wsX00 : List Cond := u_ws RX0 TX0 5
theorem nmX0 : ∀ a, a < 5 → ∀ b, b < 5 → a ≠ b → (TX0 a).2.1 ≠ (TX0 b).2.1 := by decide +kernel
theorem tyX0_ok : ∀ k, k < 5 → parseFieldDescriptor (TX0 k).2.2.1 = some (tyX0 k) := by decide +kernel
abbrev cX0_init : ByteArray := prog_2_method_1_code
def yX0_init : MethodName := ⟨RX0, "<init>", "()V"⟩
abbrev cX0_has : ByteArray := prog_2_method_2_code
def yX0_has : MethodName := ⟨RX0, "has", "(I)Z"⟩
abbrev cX0_hasWith : ByteArray := prog_2_method_3_code
def yX0_hasWith : MethodName := ⟨RX0, "hasWith", "(II)Z"⟩
abbrev cX0_add : ByteArray := prog_2_method_4_code
def yX0_add : MethodName := ⟨RX0, "add", "(III)I"⟩
def RX1 : String := "TypeFlow$Members"
def TX1 : u_T := fun k => match k with
  | 0 => ("TypeFlow$Members", "size", "I", false)
  | 1 => ("TypeFlow$Members", "ofClass", "[I", true)
  | _ => ("TypeFlow$Members", "type", "[I", true)
def tyX1 : Nat → FieldType := fun k => match k with
  | 0 => .int
  | 1 => .array .int
  | _ => .array .int
abbrev wsX10 : List Cond := u_ws RX1 TX1 3
theorem nmX1 : ∀ a, a < 3 → ∀ b, b < 3 → a ≠ b → (TX1 a).2.1 ≠ (TX1 b).2.1 := by decide +kernel
theorem tyX1_ok : ∀ k, k < 3 → parseFieldDescriptor (TX1 k).2.2.1 = some (tyX1 k) := by decide +kernel
abbrev cX1_init : ByteArray := prog_3_method_1_code
def yX1_init : MethodName := ⟨RX1, "<init>", "()V"⟩
abbrev cX1_has : ByteArray := prog_3_method_2_code
def yX1_has : MethodName := ⟨RX1, "has", "(I)Z"⟩
abbrev cX1_add : ByteArray := prog_3_method_3_code
def yX1_add : MethodName := ⟨RX1, "add", "(II)I"⟩
def RX2 : String := "TypeFlow$Operators"
def TX2 : u_T := fun k => match k with
  | 0 => ("TypeFlow$Operators", "size", "I", false)
  | 1 => ("TypeFlow$Operators", "kind", "[I", true)
  | 2 => ("TypeFlow$Operators", "a", "[I", true)
  | 3 => ("TypeFlow$Operators", "b", "[I", true)
  | 4 => ("TypeFlow$Operators", "f", "[I", true)
  | 5 => ("TypeFlow$Operators", "g", "[I", true)
  | 6 => ("TypeFlow$Operators", "c", "[I", true)
  | 7 => ("TypeFlow$Operators", "type", "[I", true)
  | 8 => ("TypeFlow$Operators", "fault", "[I", true)
  | 9 => ("TypeFlow$Operators", "risky", "[Z", true)
  | _ => ("TypeFlow$Operators", "bindings", "[I", true)
def tyX2 : Nat → FieldType := fun k => match k with
  | 0 => .int
  | 1 => .array .int
  | 2 => .array .int
  | 3 => .array .int
  | 4 => .array .int
  | 5 => .array .int
  | 6 => .array .int
  | 7 => .array .int
  | 8 => .array .int
  | 9 => .array .boolean
  | _ => .array .int
abbrev wsX20 : List Cond := u_ws RX2 TX2 11
theorem nmX2 : ∀ a, a < 11 → ∀ b, b < 11 → a ≠ b → (TX2 a).2.1 ≠ (TX2 b).2.1 := by decide +kernel
theorem tyX2_ok : ∀ k, k < 11 → parseFieldDescriptor (TX2 k).2.2.1 = some (tyX2 k) := by decide +kernel
abbrev cX2_init : ByteArray := prog_4_method_1_code
def yX2_init : MethodName := ⟨RX2, "<init>", "()V"⟩
abbrev cX2_has : ByteArray := prog_4_method_2_code
def yX2_has : MethodName := ⟨RX2, "has", "(I)Z"⟩
abbrev cX2_add : ByteArray := prog_4_method_3_code
def yX2_add : MethodName := ⟨RX2, "add", "(IIIIII)I"⟩
abbrev cX2_tell : ByteArray := prog_4_method_4_code
def yX2_tell : MethodName := ⟨RX2, "tell", "(IIIZ)V"⟩
abbrev cX2_bind : ByteArray := prog_4_method_5_code
def yX2_bind : MethodName := ⟨RX2, "bind", "(III)V"⟩
abbrev cX2_hasTwoInputs : ByteArray := prog_4_method_6_code
def yX2_hasTwoInputs : MethodName := ⟨RX2, "hasTwoInputs", "(I)Z"⟩
abbrev cX2_howManyRisky : ByteArray := prog_4_method_7_code
def yX2_howManyRisky : MethodName := ⟨RX2, "howManyRisky", "()I"⟩
def RX3 : String := "TypeFlow$Putting"
def TX3 : u_T := fun k => match k with
  | 0 => ("TypeFlow$Putting", "types", "LTypeFlow$Types;", true)
  | 1 => ("TypeFlow$Putting", "functions", "LTypeFlow$Functions;", true)
  | 2 => ("TypeFlow$Putting", "bound", "[I", true)
  | 3 => ("TypeFlow$Putting", "fault", "I", false)
  | 4 => ("TypeFlow$Putting", "alike", "[I", true)
  | 5 => ("TypeFlow$Putting", "wanted", "[I", true)
  | _ => ("TypeFlow$Putting", "given", "[I", true)
def tyX3 : Nat → FieldType := fun k => match k with
  | 0 => .object "TypeFlow$Types"
  | 1 => .object "TypeFlow$Functions"
  | 2 => .array .int
  | 3 => .int
  | 4 => .array .int
  | 5 => .array .int
  | _ => .array .int
abbrev wsX30 : List Cond := u_ws RX3 TX3 7
theorem nmX3 : ∀ a, a < 7 → ∀ b, b < 7 → a ≠ b → (TX3 a).2.1 ≠ (TX3 b).2.1 := by decide +kernel
theorem tyX3_ok : ∀ k, k < 7 → parseFieldDescriptor (TX3 k).2.2.1 = some (tyX3 k) := by decide +kernel
abbrev cX3_init : ByteArray := prog_5_method_1_code
def yX3_init : MethodName := ⟨RX3, "<init>", "(LTypeFlow$Types;LTypeFlow$Functions;)V"⟩
abbrev cX3_putTo : ByteArray := prog_5_method_2_code
def yX3_putTo : MethodName := ⟨RX3, "putTo", "(III)I"⟩
abbrev cX3_take : ByteArray := prog_5_method_3_code
def yX3_take : MethodName := ⟨RX3, "take", "(II)I"⟩
abbrev cX3_bindTo : ByteArray := prog_5_method_4_code
def yX3_bindTo : MethodName := ⟨RX3, "bindTo", "(II)I"⟩
abbrev cX3_match : ByteArray := prog_5_method_5_code
def yX3_match : MethodName := ⟨RX3, "match", "(II)I"⟩
abbrev cX3_await : ByteArray := prog_5_method_6_code
def yX3_await : MethodName := ⟨RX3, "await", "(III)I"⟩
abbrev cX3_lookAtBounds : ByteArray := prog_5_method_7_code
def yX3_lookAtBounds : MethodName := ⟨RX3, "lookAtBounds", "(I)I"⟩
abbrev cX3_isBoundWithin : ByteArray := prog_5_method_8_code
def yX3_isBoundWithin : MethodName := ⟨RX3, "isBoundWithin", "(I)Z"⟩
def RX4 : String := "TypeFlow$Types"
def TX4 : u_T := fun k => match k with
  | 0 => ("TypeFlow$Types", "classes", "I", false)
  | 1 => ("TypeFlow$Types", "variables", "[I", true)
  | 2 => ("TypeFlow$Types", "parent", "[I", true)
  | 3 => ("TypeFlow$Types", "size", "I", false)
  | 4 => ("TypeFlow$Types", "ofClass", "[I", true)
  | 5 => ("TypeFlow$Types", "first", "[I", true)
  | 6 => ("TypeFlow$Types", "second", "[I", true)
  | 7 => ("TypeFlow$Types", "within", "[I", true)
  | 8 => ("TypeFlow$Types", "image", "[I", true)
  | _ => ("TypeFlow$Types", "path", "[I", true)
def tyX4 : Nat → FieldType := fun k => match k with
  | 0 => .int
  | 1 => .array .int
  | 2 => .array .int
  | 3 => .int
  | 4 => .array .int
  | 5 => .array .int
  | 6 => .array .int
  | 7 => .array .int
  | 8 => .array .int
  | _ => .array .int
abbrev wsX40 : List Cond := u_ws RX4 TX4 10
theorem nmX4 : ∀ a, a < 10 → ∀ b, b < 10 → a ≠ b → (TX4 a).2.1 ≠ (TX4 b).2.1 := by decide +kernel
theorem tyX4_ok : ∀ k, k < 10 → parseFieldDescriptor (TX4 k).2.2.1 = some (tyX4 k) := by decide +kernel
abbrev cX4_init : ByteArray := prog_6_method_1_code
def yX4_init : MethodName := ⟨RX4, "<init>", "()V"⟩
abbrev cX4_isClass : ByteArray := prog_6_method_2_code
def yX4_isClass : MethodName := ⟨RX4, "isClass", "(I)Z"⟩
abbrev cX4_isType : ByteArray := prog_6_method_3_code
def yX4_isType : MethodName := ⟨RX4, "isType", "(I)Z"⟩
abbrev cX4_isClassType : ByteArray := prog_6_method_4_code
def yX4_isClassType : MethodName := ⟨RX4, "isClassType", "(I)Z"⟩
abbrev cX4_isArgument : ByteArray := prog_6_method_5_code
def yX4_isArgument : MethodName := ⟨RX4, "isArgument", "(I)Z"⟩
abbrev cX4_isClosed : ByteArray := prog_6_method_6_code
def yX4_isClosed : MethodName := ⟨RX4, "isClosed", "(I)Z"⟩
abbrev cX4_hasOnly : ByteArray := prog_6_method_7_code
def yX4_hasOnly : MethodName := ⟨RX4, "hasOnly", "(II)Z"⟩
abbrev cX4_addClass : ByteArray := prog_6_method_8_code
def yX4_addClass : MethodName := ⟨RX4, "addClass", "(II)I"⟩
abbrev cX4_make : ByteArray := prog_6_method_9_code
def yX4_make : MethodName := ⟨RX4, "make", "(III)I"⟩
abbrev cX4_putIn : ByteArray := prog_6_method_10_code
def yX4_putIn : MethodName := ⟨RX4, "putIn", "(III)I"⟩
abbrev cX4_argumentWithoutImage : ByteArray := prog_6_method_11_code
def yX4_argumentWithoutImage : MethodName := ⟨RX4, "argumentWithoutImage", "(I)I"⟩
abbrev cX4_imageOf : ByteArray := prog_6_method_12_code
def yX4_imageOf : MethodName := ⟨RX4, "imageOf", "(I)I"⟩
abbrev cX4_isFrom : ByteArray := prog_6_method_13_code
def yX4_isFrom : MethodName := ⟨RX4, "isFrom", "(II)Z"⟩
abbrev cX4_classAbove : ByteArray := prog_6_method_14_code
def yX4_classAbove : MethodName := ⟨RX4, "classAbove", "(I)I"⟩
abbrev cX4_seenAs : ByteArray := prog_6_method_15_code
def yX4_seenAs : MethodName := ⟨RX4, "seenAs", "(II)I"⟩
abbrev cX4_goesFor : ByteArray := prog_6_method_16_code
def yX4_goesFor : MethodName := ⟨RX4, "goesFor", "(II)I"⟩
abbrev cX4_commonOf : ByteArray := prog_6_method_17_code
def yX4_commonOf : MethodName := ⟨RX4, "commonOf", "(II)I"⟩
def RX5 : String := "TypeFlow$Worker"
def TX5 : u_T := fun k => match k with
  | 0 => ("TypeFlow$Worker", "types", "LTypeFlow$Types;", true)
  | 1 => ("TypeFlow$Worker", "members", "LTypeFlow$Members;", true)
  | 2 => ("TypeFlow$Worker", "operators", "LTypeFlow$Operators;", true)
  | 3 => ("TypeFlow$Worker", "putting", "LTypeFlow$Putting;", true)
  | 4 => ("TypeFlow$Worker", "fault", "I", false)
  | _ => ("TypeFlow$Worker", "risky", "Z", false)
def tyX5 : Nat → FieldType := fun k => match k with
  | 0 => .object "TypeFlow$Types"
  | 1 => .object "TypeFlow$Members"
  | 2 => .object "TypeFlow$Operators"
  | 3 => .object "TypeFlow$Putting"
  | 4 => .int
  | _ => .boolean
abbrev wsX50 : List Cond := u_ws RX5 TX5 6
theorem nmX5 : ∀ a, a < 6 → ∀ b, b < 6 → a ≠ b → (TX5 a).2.1 ≠ (TX5 b).2.1 := by decide +kernel
theorem tyX5_ok : ∀ k, k < 6 → parseFieldDescriptor (TX5 k).2.2.1 = some (tyX5 k) := by decide +kernel
abbrev cX5_init : ByteArray := prog_7_method_1_code
def yX5_init : MethodName := ⟨RX5, "<init>", "(LTypeFlow$Types;LTypeFlow$Members;LTypeFlow$Functions;LTypeFlow$Operators;)V"⟩
abbrev cX5_whatComes : ByteArray := prog_7_method_2_code
def yX5_whatComes : MethodName := ⟨RX5, "whatComes", "(I)I"⟩
abbrev cX5_keep : ByteArray := prog_7_method_3_code
def yX5_keep : MethodName := ⟨RX5, "keep", "(II)V"⟩
abbrev cX5_none : ByteArray := prog_7_method_4_code
def yX5_none : MethodName := ⟨RX5, "none", "(I)I"⟩
abbrev cX5_orFault : ByteArray := prog_7_method_5_code
def yX5_orFault : MethodName := ⟨RX5, "orFault", "(II)I"⟩
abbrev cX5_filtered : ByteArray := prog_7_method_6_code
def yX5_filtered : MethodName := ⟨RX5, "filtered", "(II)I"⟩
abbrev cX5_memberOf : ByteArray := prog_7_method_7_code
def yX5_memberOf : MethodName := ⟨RX5, "memberOf", "(II)I"⟩
abbrev cX5_joined : ByteArray := prog_7_method_8_code
def yX5_joined : MethodName := ⟨RX5, "joined", "(III)I"⟩
abbrev cX5_castTo : ByteArray := prog_7_method_9_code
def yX5_castTo : MethodName := ⟨RX5, "castTo", "(II)I"⟩
abbrev cX5_isNumber : ByteArray := prog_7_method_10_code
def yX5_isNumber : MethodName := ⟨RX5, "isNumber", "(I)Z"⟩
def RX6 : String := "TypeFlow"
def TX6 : u_T := fun k => match k with
  | 0 => ("TypeFlow", "types", "LTypeFlow$Types;", true)
  | 1 => ("TypeFlow", "members", "LTypeFlow$Members;", true)
  | 2 => ("TypeFlow", "functions", "LTypeFlow$Functions;", true)
  | 3 => ("TypeFlow", "operators", "LTypeFlow$Operators;", true)
  | _ => ("TypeFlow", "worker", "LTypeFlow$Worker;", true)
def tyX6 : Nat → FieldType := fun k => match k with
  | 0 => .object "TypeFlow$Types"
  | 1 => .object "TypeFlow$Members"
  | 2 => .object "TypeFlow$Functions"
  | 3 => .object "TypeFlow$Operators"
  | _ => .object "TypeFlow$Worker"
abbrev wsX60 : List Cond := u_ws RX6 TX6 5
theorem nmX6 : ∀ a, a < 5 → ∀ b, b < 5 → a ≠ b → (TX6 a).2.1 ≠ (TX6 b).2.1 := by decide +kernel
theorem tyX6_ok : ∀ k, k < 5 → parseFieldDescriptor (TX6 k).2.2.1 = some (tyX6 k) := by decide +kernel
abbrev cX6_init : ByteArray := prog_1_method_1_code
def yX6_init : MethodName := ⟨RX6, "<init>", "()V"⟩
abbrev cX6_classOf : ByteArray := prog_1_method_2_code
def yX6_classOf : MethodName := ⟨RX6, "classOf", "(II)I"⟩
abbrev cX6_type : ByteArray := prog_1_method_3_code
def yX6_type : MethodName := ⟨RX6, "type", "(III)I"⟩
abbrev cX6_member : ByteArray := prog_1_method_4_code
def yX6_member : MethodName := ⟨RX6, "member", "(II)I"⟩
abbrev cX6_function : ByteArray := prog_1_method_5_code
def yX6_function : MethodName := ⟨RX6, "function", "(III)I"⟩
abbrev cX6_bound : ByteArray := prog_1_method_6_code
def yX6_bound : MethodName := ⟨RX6, "bound", "(III)I"⟩
abbrev cX6_operator : ByteArray := prog_1_method_7_code
def yX6_operator : MethodName := ⟨RX6, "operator", "(IIIIII)I"⟩
abbrev cX6_clear : ByteArray := prog_1_method_8_code
def yX6_clear : MethodName := ⟨RX6, "clear", "()I"⟩
abbrev cX6_flow : ByteArray := prog_1_method_9_code
def yX6_flow : MethodName := ⟨RX6, "flow", "()I"⟩
abbrev cX6_comes : ByteArray := prog_1_method_10_code
def yX6_comes : MethodName := ⟨RX6, "comes", "(I)I"⟩
abbrev cX6_reason : ByteArray := prog_1_method_11_code
def yX6_reason : MethodName := ⟨RX6, "reason", "(I)I"⟩
abbrev cX6_mayFail : ByteArray := prog_1_method_12_code
def yX6_mayFail : MethodName := ⟨RX6, "mayFail", "(I)I"⟩
abbrev cX6_cast : ByteArray := prog_1_method_13_code
def yX6_cast : MethodName := ⟨RX6, "cast", "(I)I"⟩
abbrev cX6_boundTo : ByteArray := prog_1_method_14_code
def yX6_boundTo : MethodName := ⟨RX6, "boundTo", "(II)I"⟩
abbrev cX6_goes : ByteArray := prog_1_method_15_code
def yX6_goes : MethodName := ⟨RX6, "goes", "(II)I"⟩
abbrev cX6_common : ByteArray := prog_1_method_16_code
def yX6_common : MethodName := ⟨RX6, "common", "(II)I"⟩
abbrev cX6_seen : ByteArray := prog_1_method_17_code
def yX6_seen : MethodName := ⟨RX6, "seen", "(II)I"⟩
abbrev cX6_about : ByteArray := prog_1_method_18_code
def yX6_about : MethodName := ⟨RX6, "about", "(II)I"⟩
abbrev cX6_count : ByteArray := prog_1_method_19_code
def yX6_count : MethodName := ⟨RX6, "count", "(I)I"⟩
abbrev cX6_isAsTold : ByteArray := prog_1_method_20_code
def yX6_isAsTold : MethodName := ⟨RX6, "isAsTold", "(IIIIII)Z"⟩
abbrev cX6_isVariableNumber : ByteArray := prog_1_method_21_code
def yX6_isVariableNumber : MethodName := ⟨RX6, "isVariableNumber", "(I)Z"⟩
abbrev cX6_isPrimitive : ByteArray := prog_1_method_22_code
def yX6_isPrimitive : MethodName := ⟨RX6, "isPrimitive", "(I)Z"⟩
abbrev cX6_isVariable : ByteArray := prog_1_method_23_code
def yX6_isVariable : MethodName := ⟨RX6, "isVariable", "(I)Z"⟩
abbrev cX6_widens : ByteArray := prog_1_method_24_code
def yX6_widens : MethodName := ⟨RX6, "widens", "(II)Z"⟩
def RX7 : String := "TypeFlowModel"
def TX7 : u_T := fun k => match k with
  | 0 => ("TypeFlowModel", "classes", "I", false)
  | 1 => ("TypeFlowModel", "variables", "[I", true)
  | 2 => ("TypeFlowModel", "parent", "[I", true)
  | 3 => ("TypeFlowModel", "types", "I", false)
  | 4 => ("TypeFlowModel", "classes0", "[I", true)
  | 5 => ("TypeFlowModel", "first", "[I", true)
  | 6 => ("TypeFlowModel", "second", "[I", true)
  | 7 => ("TypeFlowModel", "free", "[I", true)
  | 8 => ("TypeFlowModel", "came", "[I", true)
  | 9 => ("TypeFlowModel", "stack", "[I", true)
  | 10 => ("TypeFlowModel", "high", "I", false)
  | 11 => ("TypeFlowModel", "members", "I", false)
  | 12 => ("TypeFlowModel", "memberClass", "[I", true)
  | 13 => ("TypeFlowModel", "memberType", "[I", true)
  | 14 => ("TypeFlowModel", "functions", "I", false)
  | 15 => ("TypeFlowModel", "one", "[I", true)
  | 16 => ("TypeFlowModel", "two", "[I", true)
  | 17 => ("TypeFlowModel", "result", "[I", true)
  | 18 => ("TypeFlowModel", "bounds", "[I", true)
  | 19 => ("TypeFlowModel", "bindings", "[I", true)
  | 20 => ("TypeFlowModel", "reason", "I", false)
  | 21 => ("TypeFlowModel", "held", "[I", true)
  | 22 => ("TypeFlowModel", "wasHeld", "[Z", true)
  | 23 => ("TypeFlowModel", "pairs", "I", false)
  | 24 => ("TypeFlowModel", "operators", "I", false)
  | 25 => ("TypeFlowModel", "kind", "[I", true)
  | 26 => ("TypeFlowModel", "in", "[I", true)
  | 27 => ("TypeFlowModel", "other", "[I", true)
  | 28 => ("TypeFlowModel", "by", "[I", true)
  | 29 => ("TypeFlowModel", "byToo", "[I", true)
  | 30 => ("TypeFlowModel", "of", "[I", true)
  | 31 => ("TypeFlowModel", "comes", "[I", true)
  | 32 => ("TypeFlowModel", "reasons", "[I", true)
  | 33 => ("TypeFlowModel", "mayFail", "[Z", true)
  | _ => ("TypeFlowModel", "bound", "[I", true)
def tyX7 : Nat → FieldType := fun k => match k with
  | 0 => .int
  | 1 => .array .int
  | 2 => .array .int
  | 3 => .int
  | 4 => .array .int
  | 5 => .array .int
  | 6 => .array .int
  | 7 => .array .int
  | 8 => .array .int
  | 9 => .array .int
  | 10 => .int
  | 11 => .int
  | 12 => .array .int
  | 13 => .array .int
  | 14 => .int
  | 15 => .array .int
  | 16 => .array .int
  | 17 => .array .int
  | 18 => .array .int
  | 19 => .array .int
  | 20 => .int
  | 21 => .array .int
  | 22 => .array .boolean
  | 23 => .int
  | 24 => .int
  | 25 => .array .int
  | 26 => .array .int
  | 27 => .array .int
  | 28 => .array .int
  | 29 => .array .int
  | 30 => .array .int
  | 31 => .array .int
  | 32 => .array .int
  | 33 => .array .boolean
  | _ => .array .int
abbrev wsX70 : List Cond := u_ws RX7 TX7 35
theorem nmX7 : ∀ a, a < 35 → ∀ b, b < 35 → a ≠ b → (TX7 a).2.1 ≠ (TX7 b).2.1 := by decide +kernel
theorem tyX7_ok : ∀ k, k < 35 → parseFieldDescriptor (TX7 k).2.2.1 = some (tyX7 k) := by decide +kernel
abbrev cX7_init : ByteArray := prog_9_method_1_code
def yX7_init : MethodName := ⟨RX7, "<init>", "()V"⟩
abbrev cX7_isIn : ByteArray := prog_9_method_2_code
def yX7_isIn : MethodName := ⟨RX7, "isIn", "(III)Z"⟩
abbrev cX7_isClass : ByteArray := prog_9_method_3_code
def yX7_isClass : MethodName := ⟨RX7, "isClass", "(I)Z"⟩
abbrev cX7_isType : ByteArray := prog_9_method_4_code
def yX7_isType : MethodName := ⟨RX7, "isType", "(I)Z"⟩
abbrev cX7_isClosed : ByteArray := prog_9_method_5_code
def yX7_isClosed : MethodName := ⟨RX7, "isClosed", "(I)Z"⟩
abbrev cX7_isClassType : ByteArray := prog_9_method_6_code
def yX7_isClassType : MethodName := ⟨RX7, "isClassType", "(I)Z"⟩
abbrev cX7_isPrimitive : ByteArray := prog_9_method_7_code
def yX7_isPrimitive : MethodName := ⟨RX7, "isPrimitive", "(I)Z"⟩
abbrev cX7_made : ByteArray := prog_9_method_8_code
def yX7_made : MethodName := ⟨RX7, "made", "(III)I"⟩
abbrev cX7_classOf : ByteArray := prog_9_method_9_code
def yX7_classOf : MethodName := ⟨RX7, "classOf", "(II)I"⟩
abbrev cX7_isArgument : ByteArray := prog_9_method_10_code
def yX7_isArgument : MethodName := ⟨RX7, "isArgument", "(I)Z"⟩
abbrev cX7_type : ByteArray := prog_9_method_11_code
def yX7_type : MethodName := ⟨RX7, "type", "(III)I"⟩
abbrev cX7_about : ByteArray := prog_9_method_12_code
def yX7_about : MethodName := ⟨RX7, "about", "(II)I"⟩
abbrev cX7_push : ByteArray := prog_9_method_13_code
def yX7_push : MethodName := ⟨RX7, "push", "(I)V"⟩
abbrev cX7_put : ByteArray := prog_9_method_14_code
def yX7_put : MethodName := ⟨RX7, "put", "(III)I"⟩
abbrev cX7_isOpen : ByteArray := prog_9_method_15_code
def yX7_isOpen : MethodName := ⟨RX7, "isOpen", "(I)Z"⟩
abbrev cX7_comesFrom : ByteArray := prog_9_method_16_code
def yX7_comesFrom : MethodName := ⟨RX7, "comesFrom", "(II)Z"⟩
abbrev cX7_seenAs : ByteArray := prog_9_method_17_code
def yX7_seenAs : MethodName := ⟨RX7, "seenAs", "(II)I"⟩
abbrev cX7_seen : ByteArray := prog_9_method_18_code
def yX7_seen : MethodName := ⟨RX7, "seen", "(II)I"⟩
abbrev cX7_goesFor : ByteArray := prog_9_method_19_code
def yX7_goesFor : MethodName := ⟨RX7, "goesFor", "(II)I"⟩
abbrev cX7_goes : ByteArray := prog_9_method_20_code
def yX7_goes : MethodName := ⟨RX7, "goes", "(II)I"⟩
abbrev cX7_commonOf : ByteArray := prog_9_method_21_code
def yX7_commonOf : MethodName := ⟨RX7, "commonOf", "(II)I"⟩
abbrev cX7_common : ByteArray := prog_9_method_22_code
def yX7_common : MethodName := ⟨RX7, "common", "(II)I"⟩
abbrev cX7_member : ByteArray := prog_9_method_23_code
def yX7_member : MethodName := ⟨RX7, "member", "(II)I"⟩
abbrev cX7_function : ByteArray := prog_9_method_24_code
def yX7_function : MethodName := ⟨RX7, "function", "(III)I"⟩
abbrev cX7_bound : ByteArray := prog_9_method_25_code
def yX7_bound : MethodName := ⟨RX7, "bound", "(III)I"⟩
abbrev cX7_fails : ByteArray := prog_9_method_26_code
def yX7_fails : MethodName := ⟨RX7, "fails", "(I)Z"⟩
abbrev cX7_binds : ByteArray := prog_9_method_27_code
def yX7_binds : MethodName := ⟨RX7, "binds", "(II)Z"⟩
abbrev cX7_holdPair : ByteArray := prog_9_method_28_code
def yX7_holdPair : MethodName := ⟨RX7, "holdPair", "(II)V"⟩
abbrev cX7_holds : ByteArray := prog_9_method_29_code
def yX7_holds : MethodName := ⟨RX7, "holds", "(II)Z"⟩
abbrev cX7_takes : ByteArray := prog_9_method_30_code
def yX7_takes : MethodName := ⟨RX7, "takes", "(II)Z"⟩
abbrev cX7_putTo : ByteArray := prog_9_method_31_code
def yX7_putTo : MethodName := ⟨RX7, "putTo", "(III)I"⟩
abbrev cX7_orRoom : ByteArray := prog_9_method_32_code
def yX7_orRoom : MethodName := ⟨RX7, "orRoom", "(I)I"⟩
abbrev cX7_memberOf : ByteArray := prog_9_method_33_code
def yX7_memberOf : MethodName := ⟨RX7, "memberOf", "(II)I"⟩
abbrev cX7_isFunction : ByteArray := prog_9_method_34_code
def yX7_isFunction : MethodName := ⟨RX7, "isFunction", "(IZ)Z"⟩
abbrev cX7_isRight : ByteArray := prog_9_method_35_code
def yX7_isRight : MethodName := ⟨RX7, "isRight", "(IIII)Z"⟩
abbrev cX7_operator : ByteArray := prog_9_method_36_code
def yX7_operator : MethodName := ⟨RX7, "operator", "(IIIIII)I"⟩
abbrev cX7_clear : ByteArray := prog_9_method_37_code
def yX7_clear : MethodName := ⟨RX7, "clear", "()I"⟩
abbrev cX7_areKeys : ByteArray := prog_9_method_38_code
def yX7_areKeys : MethodName := ⟨RX7, "areKeys", "(II)Z"⟩
abbrev cX7_joined : ByteArray := prog_9_method_39_code
def yX7_joined : MethodName := ⟨RX7, "joined", "(III)I"⟩
abbrev cX7_castOf : ByteArray := prog_9_method_40_code
def yX7_castOf : MethodName := ⟨RX7, "castOf", "(II)I"⟩
abbrev cX7_work : ByteArray := prog_9_method_41_code
def yX7_work : MethodName := ⟨RX7, "work", "(I)I"⟩
abbrev cX7_flow : ByteArray := prog_9_method_42_code
def yX7_flow : MethodName := ⟨RX7, "flow", "()I"⟩
abbrev cX7_isOperator : ByteArray := prog_9_method_43_code
def yX7_isOperator : MethodName := ⟨RX7, "isOperator", "(I)Z"⟩
abbrev cX7_comes : ByteArray := prog_9_method_44_code
def yX7_comes : MethodName := ⟨RX7, "comes", "(I)I"⟩
abbrev cX7_reason : ByteArray := prog_9_method_45_code
def yX7_reason : MethodName := ⟨RX7, "reason", "(I)I"⟩
abbrev cX7_mayFail : ByteArray := prog_9_method_46_code
def yX7_mayFail : MethodName := ⟨RX7, "mayFail", "(I)I"⟩
abbrev cX7_cast : ByteArray := prog_9_method_47_code
def yX7_cast : MethodName := ⟨RX7, "cast", "(I)I"⟩
abbrev cX7_boundTo : ByteArray := prog_9_method_48_code
def yX7_boundTo : MethodName := ⟨RX7, "boundTo", "(II)I"⟩
abbrev cX7_count : ByteArray := prog_9_method_49_code
def yX7_count : MethodName := ⟨RX7, "count", "(I)I"⟩
def RJ7 : String := "java/util/Arrays"
def TJ7 : u_T := fun k => match k with
  | _ => ("", "", "", false)
def tyJ7 : Nat → FieldType := fun k => match k with
  | _ => .int
abbrev wsJ70 : List Cond := u_ws RJ7 TJ7 0
theorem nmJ7 : ∀ a, a < 0 → ∀ b, b < 0 → a ≠ b → (TJ7 a).2.1 ≠ (TJ7 b).2.1 := by decide +kernel
theorem tyJ7_ok : ∀ k, k < 0 → parseFieldDescriptor (TJ7 k).2.2.1 = some (tyJ7 k) := by decide +kernel
abbrev cJ7_fill_53178 : ByteArray := prog_10_method_103_code
def yJ7_fill_53178 : MethodName := ⟨RJ7, "fill", "([II)V"⟩
def RL : String := "TypeFlowLaw"
abbrev cL_law : ByteArray := code
def yL_law : MethodName := ⟨RL, "law", "([I)Z"⟩
def wsX0_init : List Cond := .code yX0_init cX0_init 1 none :: ([.methodLink RX0 3 objectInit, .instanceMethod objectInit, .code objectInit ⟨#[0xb1]⟩ 1 none, .fieldLink RX0 9 "TypeFlow$Functions" "size" "I", .arrayClass .int, .fieldLink RX0 15 "TypeFlow$Functions" "first" "[I", .fieldLink RX0 19 "TypeFlow$Functions" "second" "[I", .fieldLink RX0 22 "TypeFlow$Functions" "result" "[I", .fieldLink RX0 25 "TypeFlow$Functions" "bounds" "[I"] ++ wsX00)
def wsX0_has : List Cond := .code yX0_has cX0_has 2 (some .boolean) :: ([.fieldLink RX0 9 "TypeFlow$Functions" "size" "I"] ++ wsX00)
def wsX0_hasWith : List Cond := .code yX0_hasWith cX0_hasWith 3 (some .boolean) :: ([.fieldLink RX0 19 "TypeFlow$Functions" "second" "[I", .methodLink RX0 28 yX0_has, .instanceMethod yX0_has, .selects RX0 yX0_has yX0_has, .initialized RX0, .code yX0_has cX0_has 2 (some .boolean), .fieldLink RX0 9 "TypeFlow$Functions" "size" "I"] ++ wsX00)
def wsX0_add : List Cond := .code yX0_add cX0_add 5 (some .int) :: ([.fieldLink RX0 9 "TypeFlow$Functions" "size" "I", .fieldLink RX0 15 "TypeFlow$Functions" "first" "[I", .fieldLink RX0 19 "TypeFlow$Functions" "second" "[I", .fieldLink RX0 22 "TypeFlow$Functions" "result" "[I", .fieldLink RX0 25 "TypeFlow$Functions" "bounds" "[I"] ++ wsX00)
def wsX1_init : List Cond := .code yX1_init cX1_init 1 none :: ([.methodLink RX1 3 objectInit, .instanceMethod objectInit, .code objectInit ⟨#[0xb1]⟩ 1 none, .fieldLink RX1 9 "TypeFlow$Members" "size" "I", .arrayClass .int, .fieldLink RX1 15 "TypeFlow$Members" "ofClass" "[I", .fieldLink RX1 19 "TypeFlow$Members" "type" "[I"] ++ wsX10)
def wsX1_has : List Cond := .code yX1_has cX1_has 2 (some .boolean) :: ([.fieldLink RX1 9 "TypeFlow$Members" "size" "I"] ++ wsX10)
def wsX1_add : List Cond := .code yX1_add cX1_add 3 (some .int) :: ([.fieldLink RX1 9 "TypeFlow$Members" "size" "I", .fieldLink RX1 15 "TypeFlow$Members" "ofClass" "[I", .fieldLink RX1 19 "TypeFlow$Members" "type" "[I"] ++ wsX10)
def wsX2_init : List Cond := .code yX2_init cX2_init 1 none :: ([.methodLink RX2 3 objectInit, .instanceMethod objectInit, .code objectInit ⟨#[0xb1]⟩ 1 none, .fieldLink RX2 9 "TypeFlow$Operators" "size" "I", .arrayClass .int, .fieldLink RX2 15 "TypeFlow$Operators" "kind" "[I", .fieldLink RX2 19 "TypeFlow$Operators" "a" "[I", .fieldLink RX2 22 "TypeFlow$Operators" "b" "[I", .fieldLink RX2 25 "TypeFlow$Operators" "f" "[I", .fieldLink RX2 28 "TypeFlow$Operators" "g" "[I", .fieldLink RX2 31 "TypeFlow$Operators" "c" "[I", .fieldLink RX2 34 "TypeFlow$Operators" "type" "[I", .fieldLink RX2 37 "TypeFlow$Operators" "fault" "[I", .arrayClass .boolean, .fieldLink RX2 40 "TypeFlow$Operators" "risky" "[Z", .fieldLink RX2 44 "TypeFlow$Operators" "bindings" "[I"] ++ wsX20)
def wsX2_has : List Cond := .code yX2_has cX2_has 2 (some .boolean) :: ([.fieldLink RX2 9 "TypeFlow$Operators" "size" "I"] ++ wsX20)
def wsX2_tell : List Cond := .code yX2_tell cX2_tell 5 none :: ([.fieldLink RX2 34 "TypeFlow$Operators" "type" "[I", .fieldLink RX2 37 "TypeFlow$Operators" "fault" "[I", .fieldLink RX2 40 "TypeFlow$Operators" "risky" "[Z"] ++ wsX20)
def wsX2_bind : List Cond := .code yX2_bind cX2_bind 4 none :: ([.fieldLink RX2 44 "TypeFlow$Operators" "bindings" "[I"] ++ wsX20)
def wsX2_add : List Cond := .code yX2_add cX2_add 7 (some .int) :: ([.fieldLink RX2 9 "TypeFlow$Operators" "size" "I", .fieldLink RX2 15 "TypeFlow$Operators" "kind" "[I", .fieldLink RX2 19 "TypeFlow$Operators" "a" "[I", .fieldLink RX2 22 "TypeFlow$Operators" "b" "[I", .fieldLink RX2 25 "TypeFlow$Operators" "f" "[I", .fieldLink RX2 28 "TypeFlow$Operators" "g" "[I", .fieldLink RX2 31 "TypeFlow$Operators" "c" "[I", .methodLink RX2 47 yX2_tell, .instanceMethod yX2_tell, .selects RX2 yX2_tell yX2_tell, .initialized RX2, .code yX2_tell cX2_tell 5 none, .fieldLink RX2 34 "TypeFlow$Operators" "type" "[I", .fieldLink RX2 37 "TypeFlow$Operators" "fault" "[I", .fieldLink RX2 40 "TypeFlow$Operators" "risky" "[Z", .methodLink RX2 51 yX2_bind, .instanceMethod yX2_bind, .selects RX2 yX2_bind yX2_bind, .code yX2_bind cX2_bind 4 none, .fieldLink RX2 44 "TypeFlow$Operators" "bindings" "[I"] ++ wsX20)
def wsX2_hasTwoInputs : List Cond := .code yX2_hasTwoInputs cX2_hasTwoInputs 2 (some .boolean) :: ([.fieldLink RX2 15 "TypeFlow$Operators" "kind" "[I"] ++ wsX20)
def wsX2_howManyRisky : List Cond := .code yX2_howManyRisky cX2_howManyRisky 3 (some .int) :: ([.fieldLink RX2 9 "TypeFlow$Operators" "size" "I", .fieldLink RX2 40 "TypeFlow$Operators" "risky" "[Z"] ++ wsX20)
def wsX3_init : List Cond := .code yX3_init cX3_init 3 none :: ([.methodLink RX3 3 objectInit, .instanceMethod objectInit, .code objectInit ⟨#[0xb1]⟩ 1 none, .arrayClass .int, .fieldLink RX3 9 "TypeFlow$Putting" "bound" "[I", .fieldLink RX3 15 "TypeFlow$Putting" "fault" "I", .fieldLink RX3 19 "TypeFlow$Putting" "alike" "[I", .fieldLink RX3 22 "TypeFlow$Putting" "wanted" "[I", .fieldLink RX3 25 "TypeFlow$Putting" "given" "[I", .fieldLink RX3 28 "TypeFlow$Putting" "types" "LTypeFlow$Types;", .fieldLink RX3 32 "TypeFlow$Putting" "functions" "LTypeFlow$Functions;"] ++ wsX30)
def wsJ7_fill_53178 : List Cond := .code yJ7_fill_53178 cJ7_fill_53178 4 none :: ([])
def wsX6_isPrimitive : List Cond := .code yX6_isPrimitive cX6_isPrimitive 1 (some .boolean) :: ([])
def wsX6_widens : List Cond := .code yX6_widens cX6_widens 2 (some .boolean) :: ([])
def wsX6_isVariable : List Cond := .code yX6_isVariable cX6_isVariable 1 (some .boolean) :: ([])
def wsX3_bindTo : List Cond := .code yX3_bindTo cX3_bindTo 4 (some .int) :: ([.fieldLink RX3 9 "TypeFlow$Putting" "bound" "[I"] ++ wsX30)
def wsX4_classAbove : List Cond := .code yX4_classAbove cX4_classAbove 2 (some .int) :: ([.fieldLink RX4 25 "TypeFlow$Types" "ofClass" "[I", .fieldLink RX4 19 "TypeFlow$Types" "parent" "[I"] ++ wsX40)
def wsX4_isFrom : List Cond := .code yX4_isFrom cX4_isFrom 5 (some .boolean) :: ([.methodLink RX4 68 yX4_classAbove, .instanceMethod yX4_classAbove, .selects RX4 yX4_classAbove yX4_classAbove, .initialized RX4, .code yX4_classAbove cX4_classAbove 2 (some .int), .fieldLink RX4 25 "TypeFlow$Types" "ofClass" "[I", .fieldLink RX4 19 "TypeFlow$Types" "parent" "[I"] ++ wsX40)
def wsX4_argumentWithoutImage : List Cond := .code yX4_argumentWithoutImage cX4_argumentWithoutImage 2 (some .int) :: ([.fieldLink RX4 28 "TypeFlow$Types" "first" "[I", .fieldLink RX4 37 "TypeFlow$Types" "image" "[I", .fieldLink RX4 31 "TypeFlow$Types" "second" "[I"] ++ wsX40)
def wsX4_imageOf : List Cond := .code yX4_imageOf cX4_imageOf 2 (some .int) :: ([.fieldLink RX4 37 "TypeFlow$Types" "image" "[I"] ++ wsX40)
def wsX4_make : List Cond := .code yX4_make cX4_make 5 (some .int) :: ([.fieldLink RX4 22 "TypeFlow$Types" "size" "I", .fieldLink RX4 25 "TypeFlow$Types" "ofClass" "[I", .fieldLink RX4 28 "TypeFlow$Types" "first" "[I", .fieldLink RX4 31 "TypeFlow$Types" "second" "[I", .fieldLink RX4 34 "TypeFlow$Types" "within" "[I"] ++ wsX40)
def wsX4_putIn : List Cond := .code yX4_putIn cX4_putIn 9 (some .int) :: ([.fieldLink RX4 22 "TypeFlow$Types" "size" "I", .fieldLink RX4 37 "TypeFlow$Types" "image" "[I", .fieldLink RX4 34 "TypeFlow$Types" "within" "[I", .fieldLink RX4 40 "TypeFlow$Types" "path" "[I", .fieldLink RX4 25 "TypeFlow$Types" "ofClass" "[I", .fieldLink RX4 28 "TypeFlow$Types" "first" "[I", .fieldLink RX4 31 "TypeFlow$Types" "second" "[I", .methodLink RX4 61 yX4_argumentWithoutImage, .instanceMethod yX4_argumentWithoutImage, .selects RX4 yX4_argumentWithoutImage yX4_argumentWithoutImage, .initialized RX4, .code yX4_argumentWithoutImage cX4_argumentWithoutImage 2 (some .int), .methodLink RX4 65 yX4_imageOf, .instanceMethod yX4_imageOf, .selects RX4 yX4_imageOf yX4_imageOf, .code yX4_imageOf cX4_imageOf 2 (some .int), .methodLink RX4 53 yX4_make, .instanceMethod yX4_make, .selects RX4 yX4_make yX4_make, .code yX4_make cX4_make 5 (some .int)] ++ wsX40)
def wsX4_seenAs_r1 : List Cond := [Cond.fieldLink RX4 25 "TypeFlow$Types" "ofClass" "[I", Cond.fieldLink RX4 19 "TypeFlow$Types" "parent" "[I", Cond.fieldLink RX4 28 "TypeFlow$Types" "first" "[I", Cond.fieldLink RX4 31 "TypeFlow$Types" "second" "[I", Cond.methodLink RX4 71 yX4_isFrom, Cond.instanceMethod yX4_isFrom, Cond.selects RX4 yX4_isFrom yX4_isFrom, Cond.initialized RX4, Cond.code yX4_isFrom cX4_isFrom 5 (some .boolean), Cond.methodLink RX4 68 yX4_classAbove, Cond.instanceMethod yX4_classAbove, Cond.selects RX4 yX4_classAbove yX4_classAbove, Cond.code yX4_classAbove cX4_classAbove 2 (some .int), Cond.methodLink RX4 75 yX4_putIn, Cond.instanceMethod yX4_putIn, Cond.selects RX4 yX4_putIn yX4_putIn, Cond.code yX4_putIn cX4_putIn 9 (some .int), Cond.fieldLink RX4 22 "TypeFlow$Types" "size" "I", Cond.fieldLink RX4 37 "TypeFlow$Types" "image" "[I", Cond.fieldLink RX4 34 "TypeFlow$Types" "within" "[I", Cond.fieldLink RX4 40 "TypeFlow$Types" "path" "[I", Cond.methodLink RX4 61 yX4_argumentWithoutImage, Cond.instanceMethod yX4_argumentWithoutImage, Cond.selects RX4 yX4_argumentWithoutImage yX4_argumentWithoutImage]
def wsX4_seenAs_r2 : List Cond := [Cond.code yX4_argumentWithoutImage cX4_argumentWithoutImage 2 (some .int), Cond.methodLink RX4 65 yX4_imageOf, Cond.instanceMethod yX4_imageOf, Cond.selects RX4 yX4_imageOf yX4_imageOf, Cond.code yX4_imageOf cX4_imageOf 2 (some .int), Cond.methodLink RX4 53 yX4_make, Cond.instanceMethod yX4_make, Cond.selects RX4 yX4_make yX4_make, Cond.code yX4_make cX4_make 5 (some .int)]
def wsX4_seenAs : List Cond := .code yX4_seenAs cX4_seenAs 5 (some .int) :: ((wsX4_seenAs_r1 ++ wsX4_seenAs_r2) ++ wsX40)
def wsX3_await : List Cond := .code yX3_await cX3_await 4 (some .int) :: ([.fieldLink RX3 22 "TypeFlow$Putting" "wanted" "[I", .fieldLink RX3 25 "TypeFlow$Putting" "given" "[I"] ++ wsX30)
def wsX3_match : List Cond := .code yX3_match cX3_match 8 (some .int) :: ([.fieldLink RX3 22 "TypeFlow$Putting" "wanted" "[I", .fieldLink RX3 25 "TypeFlow$Putting" "given" "[I", .fieldLink RX3 28 "TypeFlow$Putting" "types" "LTypeFlow$Types;", .fieldLink RX3 84 "TypeFlow$Types" "ofClass" "[I", .fieldLink RX3 19 "TypeFlow$Putting" "alike" "[I", .fieldLink RX3 93 "TypeFlow$Types" "second" "[I", .fieldLink RX3 97 "TypeFlow$Types" "first" "[I", .static yX6_isVariable, .initialized RX6, .code yX6_isVariable cX6_isVariable 1 (some .boolean), .methodLink RX3 81 yX3_bindTo, .instanceMethod yX3_bindTo, .selects RX3 yX3_bindTo yX3_bindTo, .initialized RX3, .code yX3_bindTo cX3_bindTo 4 (some .int), .fieldLink RX3 9 "TypeFlow$Putting" "bound" "[I", .methodLink RX3 94 yX3_await, .instanceMethod yX3_await, .selects RX3 yX3_await yX3_await, .code yX3_await cX3_await 4 (some .int)] ++ wsX30 ++ wsX40)
def wsX3_take_r1 : List Cond := [Cond.fieldLink RX3 28 "TypeFlow$Putting" "types" "LTypeFlow$Types;", Cond.fieldLink RX3 84 "TypeFlow$Types" "ofClass" "[I", Cond.static yX6_isPrimitive, Cond.initialized RX6, Cond.code yX6_isPrimitive cX6_isPrimitive 1 (some .boolean), Cond.static yX6_widens, Cond.code yX6_widens cX6_widens 2 (some .boolean), Cond.static yX6_isVariable, Cond.code yX6_isVariable cX6_isVariable 1 (some .boolean), Cond.methodLink RX3 81 yX3_bindTo, Cond.instanceMethod yX3_bindTo, Cond.selects RX3 yX3_bindTo yX3_bindTo, Cond.initialized RX3, Cond.code yX3_bindTo cX3_bindTo 4 (some .int), Cond.fieldLink RX3 9 "TypeFlow$Putting" "bound" "[I", Cond.methodLink RX3 87 yX4_seenAs, Cond.instanceMethod yX4_seenAs, Cond.selects RX4 yX4_seenAs yX4_seenAs, Cond.initialized RX4, Cond.code yX4_seenAs cX4_seenAs 5 (some .int), Cond.fieldLink RX4 25 "TypeFlow$Types" "ofClass" "[I", Cond.fieldLink RX4 19 "TypeFlow$Types" "parent" "[I", Cond.fieldLink RX4 28 "TypeFlow$Types" "first" "[I", Cond.fieldLink RX4 31 "TypeFlow$Types" "second" "[I"]
def wsX3_take_r2 : List Cond := [Cond.methodLink RX4 71 yX4_isFrom, Cond.instanceMethod yX4_isFrom, Cond.selects RX4 yX4_isFrom yX4_isFrom, Cond.code yX4_isFrom cX4_isFrom 5 (some .boolean), Cond.methodLink RX4 68 yX4_classAbove, Cond.instanceMethod yX4_classAbove, Cond.selects RX4 yX4_classAbove yX4_classAbove, Cond.code yX4_classAbove cX4_classAbove 2 (some .int), Cond.methodLink RX4 75 yX4_putIn, Cond.instanceMethod yX4_putIn, Cond.selects RX4 yX4_putIn yX4_putIn, Cond.code yX4_putIn cX4_putIn 9 (some .int), Cond.fieldLink RX4 22 "TypeFlow$Types" "size" "I", Cond.fieldLink RX4 37 "TypeFlow$Types" "image" "[I", Cond.fieldLink RX4 34 "TypeFlow$Types" "within" "[I", Cond.fieldLink RX4 40 "TypeFlow$Types" "path" "[I", Cond.methodLink RX4 61 yX4_argumentWithoutImage, Cond.instanceMethod yX4_argumentWithoutImage, Cond.selects RX4 yX4_argumentWithoutImage yX4_argumentWithoutImage, Cond.code yX4_argumentWithoutImage cX4_argumentWithoutImage 2 (some .int), Cond.methodLink RX4 65 yX4_imageOf, Cond.instanceMethod yX4_imageOf, Cond.selects RX4 yX4_imageOf yX4_imageOf, Cond.code yX4_imageOf cX4_imageOf 2 (some .int)]
def wsX3_take_r3 : List Cond := [Cond.methodLink RX4 53 yX4_make, Cond.instanceMethod yX4_make, Cond.selects RX4 yX4_make yX4_make, Cond.code yX4_make cX4_make 5 (some .int), Cond.methodLink RX3 90 yX3_match, Cond.instanceMethod yX3_match, Cond.selects RX3 yX3_match yX3_match, Cond.code yX3_match cX3_match 8 (some .int), Cond.fieldLink RX3 22 "TypeFlow$Putting" "wanted" "[I", Cond.fieldLink RX3 25 "TypeFlow$Putting" "given" "[I", Cond.fieldLink RX3 19 "TypeFlow$Putting" "alike" "[I", Cond.fieldLink RX3 93 "TypeFlow$Types" "second" "[I", Cond.fieldLink RX3 97 "TypeFlow$Types" "first" "[I", Cond.methodLink RX3 94 yX3_await, Cond.instanceMethod yX3_await, Cond.selects RX3 yX3_await yX3_await, Cond.code yX3_await cX3_await 4 (some .int)]
def wsX3_take : List Cond := .code yX3_take cX3_take 4 (some .int) :: ((wsX3_take_r1 ++ (wsX3_take_r2 ++ wsX3_take_r3)) ++ wsX30 ++ wsX40)
def wsX4_goesFor_r1 : List Cond := [Cond.fieldLink RX4 25 "TypeFlow$Types" "ofClass" "[I", Cond.static yX6_widens, Cond.initialized RX6, Cond.code yX6_widens cX6_widens 2 (some .boolean), Cond.static yX6_isPrimitive, Cond.code yX6_isPrimitive cX6_isPrimitive 1 (some .boolean), Cond.methodLink RX4 84 yX4_seenAs, Cond.instanceMethod yX4_seenAs, Cond.selects RX4 yX4_seenAs yX4_seenAs, Cond.initialized RX4, Cond.code yX4_seenAs cX4_seenAs 5 (some .int), Cond.fieldLink RX4 19 "TypeFlow$Types" "parent" "[I", Cond.fieldLink RX4 28 "TypeFlow$Types" "first" "[I", Cond.fieldLink RX4 31 "TypeFlow$Types" "second" "[I", Cond.methodLink RX4 71 yX4_isFrom, Cond.instanceMethod yX4_isFrom, Cond.selects RX4 yX4_isFrom yX4_isFrom, Cond.code yX4_isFrom cX4_isFrom 5 (some .boolean), Cond.methodLink RX4 68 yX4_classAbove, Cond.instanceMethod yX4_classAbove, Cond.selects RX4 yX4_classAbove yX4_classAbove, Cond.code yX4_classAbove cX4_classAbove 2 (some .int), Cond.methodLink RX4 75 yX4_putIn, Cond.instanceMethod yX4_putIn]
def wsX4_goesFor_r2 : List Cond := [Cond.selects RX4 yX4_putIn yX4_putIn, Cond.code yX4_putIn cX4_putIn 9 (some .int), Cond.fieldLink RX4 22 "TypeFlow$Types" "size" "I", Cond.fieldLink RX4 37 "TypeFlow$Types" "image" "[I", Cond.fieldLink RX4 34 "TypeFlow$Types" "within" "[I", Cond.fieldLink RX4 40 "TypeFlow$Types" "path" "[I", Cond.methodLink RX4 61 yX4_argumentWithoutImage, Cond.instanceMethod yX4_argumentWithoutImage, Cond.selects RX4 yX4_argumentWithoutImage yX4_argumentWithoutImage, Cond.code yX4_argumentWithoutImage cX4_argumentWithoutImage 2 (some .int), Cond.methodLink RX4 65 yX4_imageOf, Cond.instanceMethod yX4_imageOf, Cond.selects RX4 yX4_imageOf yX4_imageOf, Cond.code yX4_imageOf cX4_imageOf 2 (some .int), Cond.methodLink RX4 53 yX4_make, Cond.instanceMethod yX4_make, Cond.selects RX4 yX4_make yX4_make, Cond.code yX4_make cX4_make 5 (some .int)]
def wsX4_goesFor : List Cond := .code yX4_goesFor cX4_goesFor 4 (some .int) :: ((wsX4_goesFor_r1 ++ wsX4_goesFor_r2) ++ wsX40)
def wsX3_lookAtBounds_r1 : List Cond := [Cond.fieldLink RX3 32 "TypeFlow$Putting" "functions" "LTypeFlow$Functions;", Cond.fieldLink RX3 98 "TypeFlow$Functions" "bounds" "[I", Cond.fieldLink RX3 9 "TypeFlow$Putting" "bound" "[I", Cond.fieldLink RX3 28 "TypeFlow$Putting" "types" "LTypeFlow$Types;", Cond.methodLink RX3 101 yX4_goesFor, Cond.instanceMethod yX4_goesFor, Cond.selects RX4 yX4_goesFor yX4_goesFor, Cond.initialized RX4, Cond.code yX4_goesFor cX4_goesFor 4 (some .int), Cond.fieldLink RX4 25 "TypeFlow$Types" "ofClass" "[I", Cond.static yX6_widens, Cond.initialized RX6, Cond.code yX6_widens cX6_widens 2 (some .boolean), Cond.static yX6_isPrimitive, Cond.code yX6_isPrimitive cX6_isPrimitive 1 (some .boolean), Cond.methodLink RX4 84 yX4_seenAs, Cond.instanceMethod yX4_seenAs, Cond.selects RX4 yX4_seenAs yX4_seenAs, Cond.code yX4_seenAs cX4_seenAs 5 (some .int), Cond.fieldLink RX4 19 "TypeFlow$Types" "parent" "[I", Cond.fieldLink RX4 28 "TypeFlow$Types" "first" "[I", Cond.fieldLink RX4 31 "TypeFlow$Types" "second" "[I", Cond.methodLink RX4 71 yX4_isFrom, Cond.instanceMethod yX4_isFrom]
def wsX3_lookAtBounds_r2 : List Cond := [Cond.selects RX4 yX4_isFrom yX4_isFrom, Cond.code yX4_isFrom cX4_isFrom 5 (some .boolean), Cond.methodLink RX4 68 yX4_classAbove, Cond.instanceMethod yX4_classAbove, Cond.selects RX4 yX4_classAbove yX4_classAbove, Cond.code yX4_classAbove cX4_classAbove 2 (some .int), Cond.methodLink RX4 75 yX4_putIn, Cond.instanceMethod yX4_putIn, Cond.selects RX4 yX4_putIn yX4_putIn, Cond.code yX4_putIn cX4_putIn 9 (some .int), Cond.fieldLink RX4 22 "TypeFlow$Types" "size" "I", Cond.fieldLink RX4 37 "TypeFlow$Types" "image" "[I", Cond.fieldLink RX4 34 "TypeFlow$Types" "within" "[I", Cond.fieldLink RX4 40 "TypeFlow$Types" "path" "[I", Cond.methodLink RX4 61 yX4_argumentWithoutImage, Cond.instanceMethod yX4_argumentWithoutImage, Cond.selects RX4 yX4_argumentWithoutImage yX4_argumentWithoutImage, Cond.code yX4_argumentWithoutImage cX4_argumentWithoutImage 2 (some .int), Cond.methodLink RX4 65 yX4_imageOf, Cond.instanceMethod yX4_imageOf, Cond.selects RX4 yX4_imageOf yX4_imageOf, Cond.code yX4_imageOf cX4_imageOf 2 (some .int), Cond.methodLink RX4 53 yX4_make, Cond.instanceMethod yX4_make]
def wsX3_lookAtBounds_r3 : List Cond := [Cond.selects RX4 yX4_make yX4_make, Cond.code yX4_make cX4_make 5 (some .int)]
def wsX3_lookAtBounds : List Cond := .code yX3_lookAtBounds cX3_lookAtBounds 5 (some .int) :: ((wsX3_lookAtBounds_r1 ++ (wsX3_lookAtBounds_r2 ++ wsX3_lookAtBounds_r3)) ++ wsX30 ++ wsX00 ++ wsX40)
def wsX3_isBoundWithin : List Cond := .code yX3_isBoundWithin cX3_isBoundWithin 3 (some .boolean) :: ([.fieldLink RX3 9 "TypeFlow$Putting" "bound" "[I", .fieldLink RX3 28 "TypeFlow$Putting" "types" "LTypeFlow$Types;", .fieldLink RX3 104 "TypeFlow$Types" "within" "[I"] ++ wsX30 ++ wsX40)
def wsX3_putTo_r1 : List Cond := [Cond.fieldLink RX3 19 "TypeFlow$Putting" "alike" "[I", Cond.fieldLink RX3 9 "TypeFlow$Putting" "bound" "[I", Cond.fieldLink RX3 32 "TypeFlow$Putting" "functions" "LTypeFlow$Functions;", Cond.fieldLink RX3 42 "TypeFlow$Functions" "first" "[I", Cond.fieldLink RX3 15 "TypeFlow$Putting" "fault" "I", Cond.fieldLink RX3 51 "TypeFlow$Functions" "second" "[I", Cond.fieldLink RX3 58 "TypeFlow$Functions" "result" "[I", Cond.fieldLink RX3 28 "TypeFlow$Putting" "types" "LTypeFlow$Types;", Cond.methodLink RX3 36 yJ7_fill_53178, Cond.static yJ7_fill_53178, Cond.initialized RJ7, Cond.code yJ7_fill_53178 cJ7_fill_53178 4 none, Cond.methodLink RX3 47 yX3_take, Cond.instanceMethod yX3_take, Cond.selects RX3 yX3_take yX3_take, Cond.initialized RX3, Cond.code yX3_take cX3_take 4 (some .int), Cond.fieldLink RX3 84 "TypeFlow$Types" "ofClass" "[I", Cond.static yX6_isPrimitive, Cond.initialized RX6, Cond.code yX6_isPrimitive cX6_isPrimitive 1 (some .boolean), Cond.static yX6_widens, Cond.code yX6_widens cX6_widens 2 (some .boolean), Cond.static yX6_isVariable]
def wsX3_putTo_r2 : List Cond := [Cond.code yX6_isVariable cX6_isVariable 1 (some .boolean), Cond.methodLink RX3 81 yX3_bindTo, Cond.instanceMethod yX3_bindTo, Cond.selects RX3 yX3_bindTo yX3_bindTo, Cond.code yX3_bindTo cX3_bindTo 4 (some .int), Cond.methodLink RX3 87 yX4_seenAs, Cond.instanceMethod yX4_seenAs, Cond.selects RX4 yX4_seenAs yX4_seenAs, Cond.initialized RX4, Cond.code yX4_seenAs cX4_seenAs 5 (some .int), Cond.fieldLink RX4 25 "TypeFlow$Types" "ofClass" "[I", Cond.fieldLink RX4 19 "TypeFlow$Types" "parent" "[I", Cond.fieldLink RX4 28 "TypeFlow$Types" "first" "[I", Cond.fieldLink RX4 31 "TypeFlow$Types" "second" "[I", Cond.methodLink RX4 71 yX4_isFrom, Cond.instanceMethod yX4_isFrom, Cond.selects RX4 yX4_isFrom yX4_isFrom, Cond.code yX4_isFrom cX4_isFrom 5 (some .boolean), Cond.methodLink RX4 68 yX4_classAbove, Cond.instanceMethod yX4_classAbove, Cond.selects RX4 yX4_classAbove yX4_classAbove, Cond.code yX4_classAbove cX4_classAbove 2 (some .int), Cond.methodLink RX4 75 yX4_putIn, Cond.instanceMethod yX4_putIn]
def wsX3_putTo_r3 : List Cond := [Cond.selects RX4 yX4_putIn yX4_putIn, Cond.code yX4_putIn cX4_putIn 9 (some .int), Cond.fieldLink RX4 22 "TypeFlow$Types" "size" "I", Cond.fieldLink RX4 37 "TypeFlow$Types" "image" "[I", Cond.fieldLink RX4 34 "TypeFlow$Types" "within" "[I", Cond.fieldLink RX4 40 "TypeFlow$Types" "path" "[I", Cond.methodLink RX4 61 yX4_argumentWithoutImage, Cond.instanceMethod yX4_argumentWithoutImage, Cond.selects RX4 yX4_argumentWithoutImage yX4_argumentWithoutImage, Cond.code yX4_argumentWithoutImage cX4_argumentWithoutImage 2 (some .int), Cond.methodLink RX4 65 yX4_imageOf, Cond.instanceMethod yX4_imageOf, Cond.selects RX4 yX4_imageOf yX4_imageOf, Cond.code yX4_imageOf cX4_imageOf 2 (some .int), Cond.methodLink RX4 53 yX4_make, Cond.instanceMethod yX4_make, Cond.selects RX4 yX4_make yX4_make, Cond.code yX4_make cX4_make 5 (some .int), Cond.methodLink RX3 90 yX3_match, Cond.instanceMethod yX3_match, Cond.selects RX3 yX3_match yX3_match, Cond.code yX3_match cX3_match 8 (some .int), Cond.fieldLink RX3 22 "TypeFlow$Putting" "wanted" "[I", Cond.fieldLink RX3 25 "TypeFlow$Putting" "given" "[I"]
def wsX3_putTo_r4 : List Cond := [Cond.fieldLink RX3 93 "TypeFlow$Types" "second" "[I", Cond.fieldLink RX3 97 "TypeFlow$Types" "first" "[I", Cond.methodLink RX3 94 yX3_await, Cond.instanceMethod yX3_await, Cond.selects RX3 yX3_await yX3_await, Cond.code yX3_await cX3_await 4 (some .int), Cond.methodLink RX3 54 yX3_lookAtBounds, Cond.instanceMethod yX3_lookAtBounds, Cond.selects RX3 yX3_lookAtBounds yX3_lookAtBounds, Cond.code yX3_lookAtBounds cX3_lookAtBounds 5 (some .int), Cond.fieldLink RX3 98 "TypeFlow$Functions" "bounds" "[I", Cond.methodLink RX3 101 yX4_goesFor, Cond.instanceMethod yX4_goesFor, Cond.selects RX4 yX4_goesFor yX4_goesFor, Cond.code yX4_goesFor cX4_goesFor 4 (some .int), Cond.methodLink RX4 84 yX4_seenAs, Cond.methodLink RX3 61 yX3_isBoundWithin, Cond.instanceMethod yX3_isBoundWithin, Cond.selects RX3 yX3_isBoundWithin yX3_isBoundWithin, Cond.code yX3_isBoundWithin cX3_isBoundWithin 3 (some .boolean), Cond.fieldLink RX3 104 "TypeFlow$Types" "within" "[I", Cond.methodLink RX3 65 yX4_putIn]
def wsX3_putTo : List Cond := .code yX3_putTo cX3_putTo 6 (some .int) :: ((wsX3_putTo_r1 ++ (wsX3_putTo_r2 ++ (wsX3_putTo_r3 ++ wsX3_putTo_r4))) ++ wsX30 ++ wsX00 ++ wsX40)
def wsX4_addClass : List Cond := .code yX4_addClass cX4_addClass 3 (some .int) :: ([.fieldLink RX4 9 "TypeFlow$Types" "classes" "I", .fieldLink RX4 15 "TypeFlow$Types" "variables" "[I", .fieldLink RX4 19 "TypeFlow$Types" "parent" "[I"] ++ wsX40)
def wsX4_init_r1 : List Cond := [Cond.methodLink RX4 3 objectInit, Cond.instanceMethod objectInit, Cond.code objectInit ⟨#[0xb1]⟩ 1 none, Cond.fieldLink RX4 9 "TypeFlow$Types" "classes" "I", Cond.arrayClass .int, Cond.fieldLink RX4 15 "TypeFlow$Types" "variables" "[I", Cond.fieldLink RX4 19 "TypeFlow$Types" "parent" "[I", Cond.fieldLink RX4 22 "TypeFlow$Types" "size" "I", Cond.fieldLink RX4 25 "TypeFlow$Types" "ofClass" "[I", Cond.fieldLink RX4 28 "TypeFlow$Types" "first" "[I", Cond.fieldLink RX4 31 "TypeFlow$Types" "second" "[I", Cond.fieldLink RX4 34 "TypeFlow$Types" "within" "[I", Cond.fieldLink RX4 37 "TypeFlow$Types" "image" "[I", Cond.fieldLink RX4 40 "TypeFlow$Types" "path" "[I", Cond.methodLink RX4 43 yX4_addClass, Cond.instanceMethod yX4_addClass, Cond.selects RX4 yX4_addClass yX4_addClass, Cond.initialized RX4, Cond.code yX4_addClass cX4_addClass 3 (some .int), Cond.methodLink RX4 47 yJ7_fill_53178, Cond.static yJ7_fill_53178, Cond.initialized RJ7, Cond.code yJ7_fill_53178 cJ7_fill_53178 4 none, Cond.methodLink RX4 53 yX4_make]
def wsX4_init_r2 : List Cond := [Cond.instanceMethod yX4_make, Cond.selects RX4 yX4_make yX4_make, Cond.code yX4_make cX4_make 5 (some .int)]
def wsX4_init : List Cond := .code yX4_init cX4_init 1 none :: ((wsX4_init_r1 ++ wsX4_init_r2) ++ wsX40)
def wsX4_isClass : List Cond := .code yX4_isClass cX4_isClass 2 (some .boolean) :: ([.fieldLink RX4 9 "TypeFlow$Types" "classes" "I"] ++ wsX40)
def wsX4_isType : List Cond := .code yX4_isType cX4_isType 2 (some .boolean) :: ([.fieldLink RX4 22 "TypeFlow$Types" "size" "I"] ++ wsX40)
def wsX4_isClassType : List Cond := .code yX4_isClassType cX4_isClassType 2 (some .boolean) :: ([.fieldLink RX4 22 "TypeFlow$Types" "size" "I"] ++ wsX40)
def wsX4_isArgument : List Cond := .code yX4_isArgument cX4_isArgument 2 (some .boolean) :: ([.fieldLink RX4 22 "TypeFlow$Types" "size" "I"] ++ wsX40)
def wsX4_isClosed : List Cond := .code yX4_isClosed cX4_isClosed 2 (some .boolean) :: ([.fieldLink RX4 34 "TypeFlow$Types" "within" "[I", .methodLink RX4 57 yX4_isType, .instanceMethod yX4_isType, .selects RX4 yX4_isType yX4_isType, .initialized RX4, .code yX4_isType cX4_isType 2 (some .boolean), .fieldLink RX4 22 "TypeFlow$Types" "size" "I"] ++ wsX40)
def wsX4_hasOnly : List Cond := .code yX4_hasOnly cX4_hasOnly 3 (some .boolean) :: ([.fieldLink RX4 34 "TypeFlow$Types" "within" "[I"] ++ wsX40)
def wsX4_commonOf_r1 : List Cond := [Cond.fieldLink RX4 25 "TypeFlow$Types" "ofClass" "[I", Cond.static yX6_widens, Cond.initialized RX6, Cond.code yX6_widens cX6_widens 2 (some .boolean), Cond.static yX6_isPrimitive, Cond.code yX6_isPrimitive cX6_isPrimitive 1 (some .boolean), Cond.methodLink RX4 71 yX4_isFrom, Cond.instanceMethod yX4_isFrom, Cond.selects RX4 yX4_isFrom yX4_isFrom, Cond.initialized RX4, Cond.code yX4_isFrom cX4_isFrom 5 (some .boolean), Cond.methodLink RX4 68 yX4_classAbove, Cond.instanceMethod yX4_classAbove, Cond.selects RX4 yX4_classAbove yX4_classAbove, Cond.code yX4_classAbove cX4_classAbove 2 (some .int), Cond.fieldLink RX4 19 "TypeFlow$Types" "parent" "[I", Cond.methodLink RX4 84 yX4_seenAs, Cond.instanceMethod yX4_seenAs, Cond.selects RX4 yX4_seenAs yX4_seenAs, Cond.code yX4_seenAs cX4_seenAs 5 (some .int), Cond.fieldLink RX4 28 "TypeFlow$Types" "first" "[I", Cond.fieldLink RX4 31 "TypeFlow$Types" "second" "[I", Cond.methodLink RX4 75 yX4_putIn, Cond.instanceMethod yX4_putIn]
def wsX4_commonOf_r2 : List Cond := [Cond.selects RX4 yX4_putIn yX4_putIn, Cond.code yX4_putIn cX4_putIn 9 (some .int), Cond.fieldLink RX4 22 "TypeFlow$Types" "size" "I", Cond.fieldLink RX4 37 "TypeFlow$Types" "image" "[I", Cond.fieldLink RX4 34 "TypeFlow$Types" "within" "[I", Cond.fieldLink RX4 40 "TypeFlow$Types" "path" "[I", Cond.methodLink RX4 61 yX4_argumentWithoutImage, Cond.instanceMethod yX4_argumentWithoutImage, Cond.selects RX4 yX4_argumentWithoutImage yX4_argumentWithoutImage, Cond.code yX4_argumentWithoutImage cX4_argumentWithoutImage 2 (some .int), Cond.methodLink RX4 65 yX4_imageOf, Cond.instanceMethod yX4_imageOf, Cond.selects RX4 yX4_imageOf yX4_imageOf, Cond.code yX4_imageOf cX4_imageOf 2 (some .int), Cond.methodLink RX4 53 yX4_make, Cond.instanceMethod yX4_make, Cond.selects RX4 yX4_make yX4_make, Cond.code yX4_make cX4_make 5 (some .int)]
def wsX4_commonOf : List Cond := .code yX4_commonOf cX4_commonOf 7 (some .int) :: ((wsX4_commonOf_r1 ++ wsX4_commonOf_r2) ++ wsX40)
def wsX5_init : List Cond := .code yX5_init cX5_init 5 none :: ([.methodLink RX5 3 objectInit, .instanceMethod objectInit, .code objectInit ⟨#[0xb1]⟩ 1 none, .fieldLink RX5 9 "TypeFlow$Worker" "fault" "I", .fieldLink RX5 15 "TypeFlow$Worker" "risky" "Z", .fieldLink RX5 19 "TypeFlow$Worker" "types" "LTypeFlow$Types;", .fieldLink RX5 23 "TypeFlow$Worker" "members" "LTypeFlow$Members;", .fieldLink RX5 27 "TypeFlow$Worker" "operators" "LTypeFlow$Operators;", .classLink RX5 31 RX3, .instantiable RX3 7, .initialized RX3, .fieldLink RX5 36 "TypeFlow$Worker" "putting" "LTypeFlow$Putting;", .methodLink RX5 33 yX3_init, .instanceMethod yX3_init, .code yX3_init cX3_init 3 none, .methodLink RX3 3 objectInit, .arrayClass .int, .fieldLink RX3 9 "TypeFlow$Putting" "bound" "[I", .fieldLink RX3 15 "TypeFlow$Putting" "fault" "I", .fieldLink RX3 19 "TypeFlow$Putting" "alike" "[I", .fieldLink RX3 22 "TypeFlow$Putting" "wanted" "[I", .fieldLink RX3 25 "TypeFlow$Putting" "given" "[I", .fieldLink RX3 28 "TypeFlow$Putting" "types" "LTypeFlow$Types;", .fieldLink RX3 32 "TypeFlow$Putting" "functions" "LTypeFlow$Functions;"] ++ wsX50 ++ wsX30)
def wsX5_none : List Cond := .code yX5_none cX5_none 2 (some .int) :: ([.fieldLink RX5 9 "TypeFlow$Worker" "fault" "I"] ++ wsX50)
def wsX5_orFault : List Cond := .code yX5_orFault cX5_orFault 3 (some .int) :: ([.methodLink RX5 62 yX5_none, .instanceMethod yX5_none, .selects RX5 yX5_none yX5_none, .initialized RX5, .code yX5_none cX5_none 2 (some .int), .fieldLink RX5 9 "TypeFlow$Worker" "fault" "I"] ++ wsX50)
def wsX5_filtered : List Cond := .code yX5_filtered cX5_filtered 3 (some .int) :: ([.methodLink RX5 62 yX5_none, .instanceMethod yX5_none, .selects RX5 yX5_none yX5_none, .initialized RX5, .code yX5_none cX5_none 2 (some .int), .fieldLink RX5 9 "TypeFlow$Worker" "fault" "I"] ++ wsX50)
def wsX5_memberOf_r1 : List Cond := [Cond.fieldLink RX5 19 "TypeFlow$Worker" "types" "LTypeFlow$Types;", Cond.fieldLink RX5 23 "TypeFlow$Worker" "members" "LTypeFlow$Members;", Cond.fieldLink RX5 106 "TypeFlow$Members" "ofClass" "[I", Cond.fieldLink RX5 114 "TypeFlow$Members" "type" "[I", Cond.fieldLink RX5 115 "TypeFlow$Types" "first" "[I", Cond.fieldLink RX5 118 "TypeFlow$Types" "second" "[I", Cond.static yX6_isPrimitive, Cond.initialized RX6, Cond.code yX6_isPrimitive cX6_isPrimitive 1 (some .boolean), Cond.methodLink RX5 62 yX5_none, Cond.instanceMethod yX5_none, Cond.selects RX5 yX5_none yX5_none, Cond.initialized RX5, Cond.code yX5_none cX5_none 2 (some .int), Cond.fieldLink RX5 9 "TypeFlow$Worker" "fault" "I", Cond.methodLink RX5 111 yX4_seenAs, Cond.instanceMethod yX4_seenAs, Cond.selects RX4 yX4_seenAs yX4_seenAs, Cond.initialized RX4, Cond.code yX4_seenAs cX4_seenAs 5 (some .int), Cond.fieldLink RX4 25 "TypeFlow$Types" "ofClass" "[I", Cond.fieldLink RX4 19 "TypeFlow$Types" "parent" "[I", Cond.fieldLink RX4 28 "TypeFlow$Types" "first" "[I", Cond.fieldLink RX4 31 "TypeFlow$Types" "second" "[I"]
def wsX5_memberOf_r2 : List Cond := [Cond.methodLink RX4 71 yX4_isFrom, Cond.instanceMethod yX4_isFrom, Cond.selects RX4 yX4_isFrom yX4_isFrom, Cond.code yX4_isFrom cX4_isFrom 5 (some .boolean), Cond.methodLink RX4 68 yX4_classAbove, Cond.instanceMethod yX4_classAbove, Cond.selects RX4 yX4_classAbove yX4_classAbove, Cond.code yX4_classAbove cX4_classAbove 2 (some .int), Cond.methodLink RX4 75 yX4_putIn, Cond.instanceMethod yX4_putIn, Cond.selects RX4 yX4_putIn yX4_putIn, Cond.code yX4_putIn cX4_putIn 9 (some .int), Cond.fieldLink RX4 22 "TypeFlow$Types" "size" "I", Cond.fieldLink RX4 37 "TypeFlow$Types" "image" "[I", Cond.fieldLink RX4 34 "TypeFlow$Types" "within" "[I", Cond.fieldLink RX4 40 "TypeFlow$Types" "path" "[I", Cond.methodLink RX4 61 yX4_argumentWithoutImage, Cond.instanceMethod yX4_argumentWithoutImage, Cond.selects RX4 yX4_argumentWithoutImage yX4_argumentWithoutImage, Cond.code yX4_argumentWithoutImage cX4_argumentWithoutImage 2 (some .int), Cond.methodLink RX4 65 yX4_imageOf, Cond.instanceMethod yX4_imageOf, Cond.selects RX4 yX4_imageOf yX4_imageOf, Cond.code yX4_imageOf cX4_imageOf 2 (some .int)]
def wsX5_memberOf_r3 : List Cond := [Cond.methodLink RX4 53 yX4_make, Cond.instanceMethod yX4_make, Cond.selects RX4 yX4_make yX4_make, Cond.code yX4_make cX4_make 5 (some .int), Cond.methodLink RX5 71 yX5_orFault, Cond.instanceMethod yX5_orFault, Cond.selects RX5 yX5_orFault yX5_orFault, Cond.code yX5_orFault cX5_orFault 3 (some .int), Cond.methodLink RX5 121 yX4_putIn]
def wsX5_memberOf : List Cond := .code yX5_memberOf cX5_memberOf 5 (some .int) :: ((wsX5_memberOf_r1 ++ (wsX5_memberOf_r2 ++ wsX5_memberOf_r3)) ++ wsX50 ++ wsX10 ++ wsX40)
def wsX5_joined_r1 : List Cond := [Cond.fieldLink RX5 27 "TypeFlow$Worker" "operators" "LTypeFlow$Operators;", Cond.fieldLink RX5 40 "TypeFlow$Operators" "f" "[I", Cond.fieldLink RX5 124 "TypeFlow$Operators" "g" "[I", Cond.fieldLink RX5 19 "TypeFlow$Worker" "types" "LTypeFlow$Types;", Cond.fieldLink RX5 130 "TypeFlow$Operators" "c" "[I", Cond.methodLink RX5 78 yX5_memberOf, Cond.instanceMethod yX5_memberOf, Cond.selects RX5 yX5_memberOf yX5_memberOf, Cond.initialized RX5, Cond.code yX5_memberOf cX5_memberOf 5 (some .int), Cond.fieldLink RX5 23 "TypeFlow$Worker" "members" "LTypeFlow$Members;", Cond.fieldLink RX5 106 "TypeFlow$Members" "ofClass" "[I", Cond.fieldLink RX5 114 "TypeFlow$Members" "type" "[I", Cond.fieldLink RX5 115 "TypeFlow$Types" "first" "[I", Cond.fieldLink RX5 118 "TypeFlow$Types" "second" "[I", Cond.static yX6_isPrimitive, Cond.initialized RX6, Cond.code yX6_isPrimitive cX6_isPrimitive 1 (some .boolean), Cond.methodLink RX5 62 yX5_none, Cond.instanceMethod yX5_none, Cond.selects RX5 yX5_none yX5_none, Cond.code yX5_none cX5_none 2 (some .int), Cond.fieldLink RX5 9 "TypeFlow$Worker" "fault" "I", Cond.methodLink RX5 111 yX4_seenAs]
def wsX5_joined_r2 : List Cond := [Cond.instanceMethod yX4_seenAs, Cond.selects RX4 yX4_seenAs yX4_seenAs, Cond.initialized RX4, Cond.code yX4_seenAs cX4_seenAs 5 (some .int), Cond.fieldLink RX4 25 "TypeFlow$Types" "ofClass" "[I", Cond.fieldLink RX4 19 "TypeFlow$Types" "parent" "[I", Cond.fieldLink RX4 28 "TypeFlow$Types" "first" "[I", Cond.fieldLink RX4 31 "TypeFlow$Types" "second" "[I", Cond.methodLink RX4 71 yX4_isFrom, Cond.instanceMethod yX4_isFrom, Cond.selects RX4 yX4_isFrom yX4_isFrom, Cond.code yX4_isFrom cX4_isFrom 5 (some .boolean), Cond.methodLink RX4 68 yX4_classAbove, Cond.instanceMethod yX4_classAbove, Cond.selects RX4 yX4_classAbove yX4_classAbove, Cond.code yX4_classAbove cX4_classAbove 2 (some .int), Cond.methodLink RX4 75 yX4_putIn, Cond.instanceMethod yX4_putIn, Cond.selects RX4 yX4_putIn yX4_putIn, Cond.code yX4_putIn cX4_putIn 9 (some .int), Cond.fieldLink RX4 22 "TypeFlow$Types" "size" "I", Cond.fieldLink RX4 37 "TypeFlow$Types" "image" "[I", Cond.fieldLink RX4 34 "TypeFlow$Types" "within" "[I", Cond.fieldLink RX4 40 "TypeFlow$Types" "path" "[I"]
def wsX5_joined_r3 : List Cond := [Cond.methodLink RX4 61 yX4_argumentWithoutImage, Cond.instanceMethod yX4_argumentWithoutImage, Cond.selects RX4 yX4_argumentWithoutImage yX4_argumentWithoutImage, Cond.code yX4_argumentWithoutImage cX4_argumentWithoutImage 2 (some .int), Cond.methodLink RX4 65 yX4_imageOf, Cond.instanceMethod yX4_imageOf, Cond.selects RX4 yX4_imageOf yX4_imageOf, Cond.code yX4_imageOf cX4_imageOf 2 (some .int), Cond.methodLink RX4 53 yX4_make, Cond.instanceMethod yX4_make, Cond.selects RX4 yX4_make yX4_make, Cond.code yX4_make cX4_make 5 (some .int), Cond.methodLink RX5 71 yX5_orFault, Cond.instanceMethod yX5_orFault, Cond.selects RX5 yX5_orFault yX5_orFault, Cond.code yX5_orFault cX5_orFault 3 (some .int), Cond.methodLink RX5 121 yX4_putIn, Cond.methodLink RX5 127 yX4_goesFor, Cond.instanceMethod yX4_goesFor, Cond.selects RX4 yX4_goesFor yX4_goesFor, Cond.code yX4_goesFor cX4_goesFor 4 (some .int), Cond.static yX6_widens, Cond.code yX6_widens cX6_widens 2 (some .boolean), Cond.methodLink RX4 84 yX4_seenAs]
def wsX5_joined_r4 : List Cond := [Cond.methodLink RX5 133 yX4_make]
def wsX5_joined : List Cond := .code yX5_joined cX5_joined 7 (some .int) :: ((wsX5_joined_r1 ++ (wsX5_joined_r2 ++ (wsX5_joined_r3 ++ wsX5_joined_r4))) ++ wsX50 ++ wsX20 ++ wsX10 ++ wsX40)
def wsX5_isNumber : List Cond := .code yX5_isNumber cX5_isNumber 1 (some .boolean) :: ([.static yX6_isPrimitive, .initialized RX6, .code yX6_isPrimitive cX6_isPrimitive 1 (some .boolean)])
def wsX5_castTo_r1 : List Cond := [Cond.fieldLink RX5 19 "TypeFlow$Worker" "types" "LTypeFlow$Types;", Cond.fieldLink RX5 15 "TypeFlow$Worker" "risky" "Z", Cond.methodLink RX5 127 yX4_goesFor, Cond.instanceMethod yX4_goesFor, Cond.selects RX4 yX4_goesFor yX4_goesFor, Cond.initialized RX4, Cond.code yX4_goesFor cX4_goesFor 4 (some .int), Cond.fieldLink RX4 25 "TypeFlow$Types" "ofClass" "[I", Cond.static yX6_widens, Cond.initialized RX6, Cond.code yX6_widens cX6_widens 2 (some .boolean), Cond.static yX6_isPrimitive, Cond.code yX6_isPrimitive cX6_isPrimitive 1 (some .boolean), Cond.methodLink RX4 84 yX4_seenAs, Cond.instanceMethod yX4_seenAs, Cond.selects RX4 yX4_seenAs yX4_seenAs, Cond.code yX4_seenAs cX4_seenAs 5 (some .int), Cond.fieldLink RX4 19 "TypeFlow$Types" "parent" "[I", Cond.fieldLink RX4 28 "TypeFlow$Types" "first" "[I", Cond.fieldLink RX4 31 "TypeFlow$Types" "second" "[I", Cond.methodLink RX4 71 yX4_isFrom, Cond.instanceMethod yX4_isFrom, Cond.selects RX4 yX4_isFrom yX4_isFrom, Cond.code yX4_isFrom cX4_isFrom 5 (some .boolean)]
def wsX5_castTo_r2 : List Cond := [Cond.methodLink RX4 68 yX4_classAbove, Cond.instanceMethod yX4_classAbove, Cond.selects RX4 yX4_classAbove yX4_classAbove, Cond.code yX4_classAbove cX4_classAbove 2 (some .int), Cond.methodLink RX4 75 yX4_putIn, Cond.instanceMethod yX4_putIn, Cond.selects RX4 yX4_putIn yX4_putIn, Cond.code yX4_putIn cX4_putIn 9 (some .int), Cond.fieldLink RX4 22 "TypeFlow$Types" "size" "I", Cond.fieldLink RX4 37 "TypeFlow$Types" "image" "[I", Cond.fieldLink RX4 34 "TypeFlow$Types" "within" "[I", Cond.fieldLink RX4 40 "TypeFlow$Types" "path" "[I", Cond.methodLink RX4 61 yX4_argumentWithoutImage, Cond.instanceMethod yX4_argumentWithoutImage, Cond.selects RX4 yX4_argumentWithoutImage yX4_argumentWithoutImage, Cond.code yX4_argumentWithoutImage cX4_argumentWithoutImage 2 (some .int), Cond.methodLink RX4 65 yX4_imageOf, Cond.instanceMethod yX4_imageOf, Cond.selects RX4 yX4_imageOf yX4_imageOf, Cond.code yX4_imageOf cX4_imageOf 2 (some .int), Cond.methodLink RX4 53 yX4_make, Cond.instanceMethod yX4_make, Cond.selects RX4 yX4_make yX4_make, Cond.code yX4_make cX4_make 5 (some .int)]
def wsX5_castTo_r3 : List Cond := [Cond.methodLink RX5 136 yX5_isNumber, Cond.static yX5_isNumber, Cond.initialized RX5, Cond.code yX5_isNumber cX5_isNumber 1 (some .boolean), Cond.methodLink RX5 62 yX5_none, Cond.instanceMethod yX5_none, Cond.selects RX5 yX5_none yX5_none, Cond.code yX5_none cX5_none 2 (some .int), Cond.fieldLink RX5 9 "TypeFlow$Worker" "fault" "I"]
def wsX5_castTo : List Cond := .code yX5_castTo cX5_castTo 4 (some .int) :: ((wsX5_castTo_r1 ++ (wsX5_castTo_r2 ++ wsX5_castTo_r3)) ++ wsX50 ++ wsX40)
def wsX5_whatComes_r1 : List Cond := [Cond.fieldLink RX5 9 "TypeFlow$Worker" "fault" "I", Cond.fieldLink RX5 15 "TypeFlow$Worker" "risky" "Z", Cond.fieldLink RX5 27 "TypeFlow$Worker" "operators" "LTypeFlow$Operators;", Cond.fieldLink RX5 40 "TypeFlow$Operators" "f" "[I", Cond.fieldLink RX5 46 "TypeFlow$Operators" "kind" "[I", Cond.fieldLink RX5 49 "TypeFlow$Operators" "type" "[I", Cond.fieldLink RX5 52 "TypeFlow$Operators" "a" "[I", Cond.fieldLink RX5 59 "TypeFlow$Operators" "b" "[I", Cond.fieldLink RX5 36 "TypeFlow$Worker" "putting" "LTypeFlow$Putting;", Cond.fieldLink RX5 70 "TypeFlow$Putting" "fault" "I", Cond.fieldLink RX5 19 "TypeFlow$Worker" "types" "LTypeFlow$Types;", Cond.methodLink RX5 55 yX2_hasTwoInputs, Cond.instanceMethod yX2_hasTwoInputs, Cond.selects RX2 yX2_hasTwoInputs yX2_hasTwoInputs, Cond.initialized RX2, Cond.code yX2_hasTwoInputs cX2_hasTwoInputs 2 (some .boolean), Cond.fieldLink RX2 15 "TypeFlow$Operators" "kind" "[I", Cond.methodLink RX5 62 yX5_none, Cond.instanceMethod yX5_none, Cond.selects RX5 yX5_none yX5_none, Cond.initialized RX5, Cond.code yX5_none cX5_none 2 (some .int), Cond.methodLink RX5 66 yX3_putTo, Cond.instanceMethod yX3_putTo]
def wsX5_whatComes_r2 : List Cond := [Cond.selects RX3 yX3_putTo yX3_putTo, Cond.initialized RX3, Cond.code yX3_putTo cX3_putTo 6 (some .int), Cond.fieldLink RX3 19 "TypeFlow$Putting" "alike" "[I", Cond.fieldLink RX3 9 "TypeFlow$Putting" "bound" "[I", Cond.fieldLink RX3 32 "TypeFlow$Putting" "functions" "LTypeFlow$Functions;", Cond.fieldLink RX3 42 "TypeFlow$Functions" "first" "[I", Cond.fieldLink RX3 15 "TypeFlow$Putting" "fault" "I", Cond.fieldLink RX3 51 "TypeFlow$Functions" "second" "[I", Cond.fieldLink RX3 58 "TypeFlow$Functions" "result" "[I", Cond.fieldLink RX3 28 "TypeFlow$Putting" "types" "LTypeFlow$Types;", Cond.methodLink RX3 36 yJ7_fill_53178, Cond.static yJ7_fill_53178, Cond.initialized RJ7, Cond.code yJ7_fill_53178 cJ7_fill_53178 4 none, Cond.methodLink RX3 47 yX3_take, Cond.instanceMethod yX3_take, Cond.selects RX3 yX3_take yX3_take, Cond.code yX3_take cX3_take 4 (some .int), Cond.fieldLink RX3 84 "TypeFlow$Types" "ofClass" "[I", Cond.static yX6_isPrimitive, Cond.initialized RX6, Cond.code yX6_isPrimitive cX6_isPrimitive 1 (some .boolean), Cond.static yX6_widens]
def wsX5_whatComes_r3 : List Cond := [Cond.code yX6_widens cX6_widens 2 (some .boolean), Cond.static yX6_isVariable, Cond.code yX6_isVariable cX6_isVariable 1 (some .boolean), Cond.methodLink RX3 81 yX3_bindTo, Cond.instanceMethod yX3_bindTo, Cond.selects RX3 yX3_bindTo yX3_bindTo, Cond.code yX3_bindTo cX3_bindTo 4 (some .int), Cond.methodLink RX3 87 yX4_seenAs, Cond.instanceMethod yX4_seenAs, Cond.selects RX4 yX4_seenAs yX4_seenAs, Cond.initialized RX4, Cond.code yX4_seenAs cX4_seenAs 5 (some .int), Cond.fieldLink RX4 25 "TypeFlow$Types" "ofClass" "[I", Cond.fieldLink RX4 19 "TypeFlow$Types" "parent" "[I", Cond.fieldLink RX4 28 "TypeFlow$Types" "first" "[I", Cond.fieldLink RX4 31 "TypeFlow$Types" "second" "[I", Cond.methodLink RX4 71 yX4_isFrom, Cond.instanceMethod yX4_isFrom, Cond.selects RX4 yX4_isFrom yX4_isFrom, Cond.code yX4_isFrom cX4_isFrom 5 (some .boolean), Cond.methodLink RX4 68 yX4_classAbove, Cond.instanceMethod yX4_classAbove, Cond.selects RX4 yX4_classAbove yX4_classAbove, Cond.code yX4_classAbove cX4_classAbove 2 (some .int)]
def wsX5_whatComes_r4 : List Cond := [Cond.methodLink RX4 75 yX4_putIn, Cond.instanceMethod yX4_putIn, Cond.selects RX4 yX4_putIn yX4_putIn, Cond.code yX4_putIn cX4_putIn 9 (some .int), Cond.fieldLink RX4 22 "TypeFlow$Types" "size" "I", Cond.fieldLink RX4 37 "TypeFlow$Types" "image" "[I", Cond.fieldLink RX4 34 "TypeFlow$Types" "within" "[I", Cond.fieldLink RX4 40 "TypeFlow$Types" "path" "[I", Cond.methodLink RX4 61 yX4_argumentWithoutImage, Cond.instanceMethod yX4_argumentWithoutImage, Cond.selects RX4 yX4_argumentWithoutImage yX4_argumentWithoutImage, Cond.code yX4_argumentWithoutImage cX4_argumentWithoutImage 2 (some .int), Cond.methodLink RX4 65 yX4_imageOf, Cond.instanceMethod yX4_imageOf, Cond.selects RX4 yX4_imageOf yX4_imageOf, Cond.code yX4_imageOf cX4_imageOf 2 (some .int), Cond.methodLink RX4 53 yX4_make, Cond.instanceMethod yX4_make, Cond.selects RX4 yX4_make yX4_make, Cond.code yX4_make cX4_make 5 (some .int), Cond.methodLink RX3 90 yX3_match, Cond.instanceMethod yX3_match, Cond.selects RX3 yX3_match yX3_match, Cond.code yX3_match cX3_match 8 (some .int)]
def wsX5_whatComes_r5 : List Cond := [Cond.fieldLink RX3 22 "TypeFlow$Putting" "wanted" "[I", Cond.fieldLink RX3 25 "TypeFlow$Putting" "given" "[I", Cond.fieldLink RX3 93 "TypeFlow$Types" "second" "[I", Cond.fieldLink RX3 97 "TypeFlow$Types" "first" "[I", Cond.methodLink RX3 94 yX3_await, Cond.instanceMethod yX3_await, Cond.selects RX3 yX3_await yX3_await, Cond.code yX3_await cX3_await 4 (some .int), Cond.methodLink RX3 54 yX3_lookAtBounds, Cond.instanceMethod yX3_lookAtBounds, Cond.selects RX3 yX3_lookAtBounds yX3_lookAtBounds, Cond.code yX3_lookAtBounds cX3_lookAtBounds 5 (some .int), Cond.fieldLink RX3 98 "TypeFlow$Functions" "bounds" "[I", Cond.methodLink RX3 101 yX4_goesFor, Cond.instanceMethod yX4_goesFor, Cond.selects RX4 yX4_goesFor yX4_goesFor, Cond.code yX4_goesFor cX4_goesFor 4 (some .int), Cond.methodLink RX4 84 yX4_seenAs, Cond.methodLink RX3 61 yX3_isBoundWithin, Cond.instanceMethod yX3_isBoundWithin, Cond.selects RX3 yX3_isBoundWithin yX3_isBoundWithin, Cond.code yX3_isBoundWithin cX3_isBoundWithin 3 (some .boolean), Cond.fieldLink RX3 104 "TypeFlow$Types" "within" "[I", Cond.methodLink RX3 65 yX4_putIn]
def wsX5_whatComes_r6 : List Cond := [Cond.methodLink RX5 71 yX5_orFault, Cond.instanceMethod yX5_orFault, Cond.selects RX5 yX5_orFault yX5_orFault, Cond.code yX5_orFault cX5_orFault 3 (some .int), Cond.methodLink RX5 75 yX5_filtered, Cond.instanceMethod yX5_filtered, Cond.selects RX5 yX5_filtered yX5_filtered, Cond.code yX5_filtered cX5_filtered 3 (some .int), Cond.methodLink RX5 78 yX5_memberOf, Cond.instanceMethod yX5_memberOf, Cond.selects RX5 yX5_memberOf yX5_memberOf, Cond.code yX5_memberOf cX5_memberOf 5 (some .int), Cond.fieldLink RX5 23 "TypeFlow$Worker" "members" "LTypeFlow$Members;", Cond.fieldLink RX5 106 "TypeFlow$Members" "ofClass" "[I", Cond.fieldLink RX5 114 "TypeFlow$Members" "type" "[I", Cond.fieldLink RX5 115 "TypeFlow$Types" "first" "[I", Cond.fieldLink RX5 118 "TypeFlow$Types" "second" "[I", Cond.methodLink RX5 111 yX4_seenAs, Cond.methodLink RX5 121 yX4_putIn, Cond.methodLink RX5 81 yX4_commonOf, Cond.instanceMethod yX4_commonOf, Cond.selects RX4 yX4_commonOf yX4_commonOf, Cond.code yX4_commonOf cX4_commonOf 7 (some .int), Cond.methodLink RX5 86 yX5_joined]
def wsX5_whatComes_r7 : List Cond := [Cond.instanceMethod yX5_joined, Cond.selects RX5 yX5_joined yX5_joined, Cond.code yX5_joined cX5_joined 7 (some .int), Cond.fieldLink RX5 124 "TypeFlow$Operators" "g" "[I", Cond.fieldLink RX5 130 "TypeFlow$Operators" "c" "[I", Cond.methodLink RX5 127 yX4_goesFor, Cond.methodLink RX5 133 yX4_make, Cond.methodLink RX5 89 yX5_castTo, Cond.instanceMethod yX5_castTo, Cond.selects RX5 yX5_castTo yX5_castTo, Cond.code yX5_castTo cX5_castTo 4 (some .int), Cond.methodLink RX5 136 yX5_isNumber, Cond.static yX5_isNumber, Cond.code yX5_isNumber cX5_isNumber 1 (some .boolean)]
def wsX5_whatComes : List Cond := .code yX5_whatComes cX5_whatComes 6 (some .int) :: ((wsX5_whatComes_r1 ++ (wsX5_whatComes_r2 ++ (wsX5_whatComes_r3 ++ (wsX5_whatComes_r4 ++ (wsX5_whatComes_r5 ++ (wsX5_whatComes_r6 ++ wsX5_whatComes_r7)))))) ++ wsX50 ++ wsX20 ++ wsX30 ++ wsX00 ++ wsX40 ++ wsX10)
def wsX5_keep : List Cond := .code yX5_keep cX5_keep 4 none :: ([.fieldLink RX5 27 "TypeFlow$Worker" "operators" "LTypeFlow$Operators;", .fieldLink RX5 9 "TypeFlow$Worker" "fault" "I", .fieldLink RX5 15 "TypeFlow$Worker" "risky" "Z", .fieldLink RX5 46 "TypeFlow$Operators" "kind" "[I", .fieldLink RX5 36 "TypeFlow$Worker" "putting" "LTypeFlow$Putting;", .fieldLink RX5 96 "TypeFlow$Putting" "bound" "[I", .methodLink RX5 92 yX2_tell, .instanceMethod yX2_tell, .selects RX2 yX2_tell yX2_tell, .initialized RX2, .code yX2_tell cX2_tell 5 none, .fieldLink RX2 34 "TypeFlow$Operators" "type" "[I", .fieldLink RX2 37 "TypeFlow$Operators" "fault" "[I", .fieldLink RX2 40 "TypeFlow$Operators" "risky" "[Z", .methodLink RX5 99 yX2_bind, .instanceMethod yX2_bind, .selects RX2 yX2_bind yX2_bind, .code yX2_bind cX2_bind 4 none, .fieldLink RX2 44 "TypeFlow$Operators" "bindings" "[I"] ++ wsX50 ++ wsX20 ++ wsX30)
def wsX6_init_r1 : List Cond := [Cond.methodLink RX6 1 objectInit, Cond.instanceMethod objectInit, Cond.code objectInit ⟨#[0xb1]⟩ 1 none, Cond.classLink RX6 7 RX4, Cond.instantiable RX4 10, Cond.initialized RX4, Cond.fieldLink RX6 10 "TypeFlow" "types" "LTypeFlow$Types;", Cond.classLink RX6 16 RX1, Cond.instantiable RX1 3, Cond.initialized RX1, Cond.fieldLink RX6 19 "TypeFlow" "members" "LTypeFlow$Members;", Cond.classLink RX6 23 RX0, Cond.instantiable RX0 5, Cond.initialized RX0, Cond.fieldLink RX6 26 "TypeFlow" "functions" "LTypeFlow$Functions;", Cond.classLink RX6 30 RX2, Cond.instantiable RX2 11, Cond.initialized RX2, Cond.fieldLink RX6 33 "TypeFlow" "operators" "LTypeFlow$Operators;", Cond.classLink RX6 37 RX5, Cond.instantiable RX5 6, Cond.initialized RX5, Cond.fieldLink RX6 42 "TypeFlow" "worker" "LTypeFlow$Worker;", Cond.methodLink RX6 9 yX4_init]
def wsX6_init_r2 : List Cond := [Cond.instanceMethod yX4_init, Cond.code yX4_init cX4_init 1 none, Cond.methodLink RX4 3 objectInit, Cond.fieldLink RX4 9 "TypeFlow$Types" "classes" "I", Cond.arrayClass .int, Cond.fieldLink RX4 15 "TypeFlow$Types" "variables" "[I", Cond.fieldLink RX4 19 "TypeFlow$Types" "parent" "[I", Cond.fieldLink RX4 22 "TypeFlow$Types" "size" "I", Cond.fieldLink RX4 25 "TypeFlow$Types" "ofClass" "[I", Cond.fieldLink RX4 28 "TypeFlow$Types" "first" "[I", Cond.fieldLink RX4 31 "TypeFlow$Types" "second" "[I", Cond.fieldLink RX4 34 "TypeFlow$Types" "within" "[I", Cond.fieldLink RX4 37 "TypeFlow$Types" "image" "[I", Cond.fieldLink RX4 40 "TypeFlow$Types" "path" "[I", Cond.methodLink RX4 43 yX4_addClass, Cond.instanceMethod yX4_addClass, Cond.selects RX4 yX4_addClass yX4_addClass, Cond.code yX4_addClass cX4_addClass 3 (some .int), Cond.methodLink RX4 47 yJ7_fill_53178, Cond.static yJ7_fill_53178, Cond.initialized RJ7, Cond.code yJ7_fill_53178 cJ7_fill_53178 4 none, Cond.methodLink RX4 53 yX4_make, Cond.instanceMethod yX4_make]
def wsX6_init_r3 : List Cond := [Cond.selects RX4 yX4_make yX4_make, Cond.code yX4_make cX4_make 5 (some .int), Cond.instanceMethod yX1_init, Cond.code yX1_init cX1_init 1 none, Cond.methodLink RX1 3 objectInit, Cond.fieldLink RX1 9 "TypeFlow$Members" "size" "I", Cond.fieldLink RX1 15 "TypeFlow$Members" "ofClass" "[I", Cond.fieldLink RX1 19 "TypeFlow$Members" "type" "[I", Cond.instanceMethod yX0_init, Cond.code yX0_init cX0_init 1 none, Cond.methodLink RX0 3 objectInit, Cond.fieldLink RX0 9 "TypeFlow$Functions" "size" "I", Cond.fieldLink RX0 15 "TypeFlow$Functions" "first" "[I", Cond.fieldLink RX0 19 "TypeFlow$Functions" "second" "[I", Cond.fieldLink RX0 22 "TypeFlow$Functions" "result" "[I", Cond.fieldLink RX0 25 "TypeFlow$Functions" "bounds" "[I", Cond.instanceMethod yX2_init, Cond.code yX2_init cX2_init 1 none, Cond.methodLink RX2 3 objectInit, Cond.fieldLink RX2 9 "TypeFlow$Operators" "size" "I", Cond.fieldLink RX2 15 "TypeFlow$Operators" "kind" "[I", Cond.fieldLink RX2 19 "TypeFlow$Operators" "a" "[I", Cond.fieldLink RX2 22 "TypeFlow$Operators" "b" "[I", Cond.fieldLink RX2 25 "TypeFlow$Operators" "f" "[I"]
def wsX6_init_r4 : List Cond := [Cond.fieldLink RX2 28 "TypeFlow$Operators" "g" "[I", Cond.fieldLink RX2 31 "TypeFlow$Operators" "c" "[I", Cond.fieldLink RX2 34 "TypeFlow$Operators" "type" "[I", Cond.fieldLink RX2 37 "TypeFlow$Operators" "fault" "[I", Cond.arrayClass .boolean, Cond.fieldLink RX2 40 "TypeFlow$Operators" "risky" "[Z", Cond.fieldLink RX2 44 "TypeFlow$Operators" "bindings" "[I", Cond.methodLink RX6 39 yX5_init, Cond.instanceMethod yX5_init, Cond.code yX5_init cX5_init 5 none, Cond.methodLink RX5 3 objectInit, Cond.fieldLink RX5 9 "TypeFlow$Worker" "fault" "I", Cond.fieldLink RX5 15 "TypeFlow$Worker" "risky" "Z", Cond.fieldLink RX5 19 "TypeFlow$Worker" "types" "LTypeFlow$Types;", Cond.fieldLink RX5 23 "TypeFlow$Worker" "members" "LTypeFlow$Members;", Cond.fieldLink RX5 27 "TypeFlow$Worker" "operators" "LTypeFlow$Operators;", Cond.classLink RX5 31 RX3, Cond.instantiable RX3 7, Cond.initialized RX3, Cond.fieldLink RX5 36 "TypeFlow$Worker" "putting" "LTypeFlow$Putting;", Cond.methodLink RX5 33 yX3_init, Cond.instanceMethod yX3_init, Cond.code yX3_init cX3_init 3 none, Cond.methodLink RX3 3 objectInit]
def wsX6_init_r5 : List Cond := [Cond.fieldLink RX3 9 "TypeFlow$Putting" "bound" "[I", Cond.fieldLink RX3 15 "TypeFlow$Putting" "fault" "I", Cond.fieldLink RX3 19 "TypeFlow$Putting" "alike" "[I", Cond.fieldLink RX3 22 "TypeFlow$Putting" "wanted" "[I", Cond.fieldLink RX3 25 "TypeFlow$Putting" "given" "[I", Cond.fieldLink RX3 28 "TypeFlow$Putting" "types" "LTypeFlow$Types;", Cond.fieldLink RX3 32 "TypeFlow$Putting" "functions" "LTypeFlow$Functions;"]
def wsX6_init : List Cond := .code yX6_init cX6_init 1 none :: ((wsX6_init_r1 ++ (wsX6_init_r2 ++ (wsX6_init_r3 ++ (wsX6_init_r4 ++ wsX6_init_r5)))) ++ wsX40 ++ wsX60 ++ wsX10 ++ wsX00 ++ wsX20 ++ wsX50 ++ wsX30)
def wsX6_classOf : List Cond := .code yX6_classOf cX6_classOf 3 (some .int) :: ([.fieldLink RX6 10 "TypeFlow" "types" "LTypeFlow$Types;", .methodLink RX6 46 yX4_isClassType, .instanceMethod yX4_isClassType, .selects RX4 yX4_isClassType yX4_isClassType, .initialized RX4, .code yX4_isClassType cX4_isClassType 2 (some .boolean), .fieldLink RX4 22 "TypeFlow$Types" "size" "I", .methodLink RX6 50 yX4_hasOnly, .instanceMethod yX4_hasOnly, .selects RX4 yX4_hasOnly yX4_hasOnly, .code yX4_hasOnly cX4_hasOnly 3 (some .boolean), .fieldLink RX4 34 "TypeFlow$Types" "within" "[I", .methodLink RX6 54 yX4_addClass, .instanceMethod yX4_addClass, .selects RX4 yX4_addClass yX4_addClass, .code yX4_addClass cX4_addClass 3 (some .int), .fieldLink RX4 9 "TypeFlow$Types" "classes" "I", .fieldLink RX4 15 "TypeFlow$Types" "variables" "[I", .fieldLink RX4 19 "TypeFlow$Types" "parent" "[I"] ++ wsX60 ++ wsX40)
def wsX6_type : List Cond := .code yX6_type cX6_type 5 (some .int) :: ([.fieldLink RX6 10 "TypeFlow" "types" "LTypeFlow$Types;", .fieldLink RX6 61 "TypeFlow$Types" "variables" "[I", .methodLink RX6 58 yX4_isClass, .instanceMethod yX4_isClass, .selects RX4 yX4_isClass yX4_isClass, .initialized RX4, .code yX4_isClass cX4_isClass 2 (some .boolean), .fieldLink RX4 9 "TypeFlow$Types" "classes" "I", .methodLink RX6 65 yX4_isArgument, .instanceMethod yX4_isArgument, .selects RX4 yX4_isArgument yX4_isArgument, .code yX4_isArgument cX4_isArgument 2 (some .boolean), .fieldLink RX4 22 "TypeFlow$Types" "size" "I", .methodLink RX6 68 yX4_make, .instanceMethod yX4_make, .selects RX4 yX4_make yX4_make, .code yX4_make cX4_make 5 (some .int), .fieldLink RX4 25 "TypeFlow$Types" "ofClass" "[I", .fieldLink RX4 28 "TypeFlow$Types" "first" "[I", .fieldLink RX4 31 "TypeFlow$Types" "second" "[I", .fieldLink RX4 34 "TypeFlow$Types" "within" "[I"] ++ wsX60 ++ wsX40)
def wsX6_member_r1 : List Cond := [Cond.fieldLink RX6 10 "TypeFlow" "types" "LTypeFlow$Types;", Cond.fieldLink RX6 61 "TypeFlow$Types" "variables" "[I", Cond.fieldLink RX6 19 "TypeFlow" "members" "LTypeFlow$Members;", Cond.methodLink RX6 58 yX4_isClass, Cond.instanceMethod yX4_isClass, Cond.selects RX4 yX4_isClass yX4_isClass, Cond.initialized RX4, Cond.code yX4_isClass cX4_isClass 2 (some .boolean), Cond.fieldLink RX4 9 "TypeFlow$Types" "classes" "I", Cond.methodLink RX6 72 yX4_isType, Cond.instanceMethod yX4_isType, Cond.selects RX4 yX4_isType yX4_isType, Cond.code yX4_isType cX4_isType 2 (some .boolean), Cond.fieldLink RX4 22 "TypeFlow$Types" "size" "I", Cond.methodLink RX6 50 yX4_hasOnly, Cond.instanceMethod yX4_hasOnly, Cond.selects RX4 yX4_hasOnly yX4_hasOnly, Cond.code yX4_hasOnly cX4_hasOnly 3 (some .boolean), Cond.fieldLink RX4 34 "TypeFlow$Types" "within" "[I", Cond.methodLink RX6 75 yX1_add, Cond.instanceMethod yX1_add, Cond.selects RX1 yX1_add yX1_add, Cond.initialized RX1, Cond.code yX1_add cX1_add 3 (some .int)]
def wsX6_member_r2 : List Cond := [Cond.fieldLink RX1 9 "TypeFlow$Members" "size" "I", Cond.fieldLink RX1 15 "TypeFlow$Members" "ofClass" "[I", Cond.fieldLink RX1 19 "TypeFlow$Members" "type" "[I"]
def wsX6_member : List Cond := .code yX6_member cX6_member 3 (some .int) :: ((wsX6_member_r1 ++ wsX6_member_r2) ++ wsX60 ++ wsX40 ++ wsX10)
def wsX6_function : List Cond := .code yX6_function cX6_function 4 (some .int) :: ([.fieldLink RX6 10 "TypeFlow" "types" "LTypeFlow$Types;", .fieldLink RX6 26 "TypeFlow" "functions" "LTypeFlow$Functions;", .methodLink RX6 72 yX4_isType, .instanceMethod yX4_isType, .selects RX4 yX4_isType yX4_isType, .initialized RX4, .code yX4_isType cX4_isType 2 (some .boolean), .fieldLink RX4 22 "TypeFlow$Types" "size" "I", .methodLink RX6 78 yX0_add, .instanceMethod yX0_add, .selects RX0 yX0_add yX0_add, .initialized RX0, .code yX0_add cX0_add 5 (some .int), .fieldLink RX0 9 "TypeFlow$Functions" "size" "I", .fieldLink RX0 15 "TypeFlow$Functions" "first" "[I", .fieldLink RX0 19 "TypeFlow$Functions" "second" "[I", .fieldLink RX0 22 "TypeFlow$Functions" "result" "[I", .fieldLink RX0 25 "TypeFlow$Functions" "bounds" "[I"] ++ wsX60 ++ wsX40 ++ wsX00)
def wsX6_isVariableNumber : List Cond := .code yX6_isVariableNumber cX6_isVariableNumber 1 (some .boolean) :: ([])
def wsX6_bound_r1 : List Cond := [Cond.fieldLink RX6 26 "TypeFlow" "functions" "LTypeFlow$Functions;", Cond.fieldLink RX6 10 "TypeFlow" "types" "LTypeFlow$Types;", Cond.fieldLink RX6 89 "TypeFlow$Functions" "bounds" "[I", Cond.methodLink RX6 80 yX0_has, Cond.instanceMethod yX0_has, Cond.selects RX0 yX0_has yX0_has, Cond.initialized RX0, Cond.code yX0_has cX0_has 2 (some .boolean), Cond.fieldLink RX0 9 "TypeFlow$Functions" "size" "I", Cond.methodLink RX6 83 yX6_isVariableNumber, Cond.static yX6_isVariableNumber, Cond.initialized RX6, Cond.code yX6_isVariableNumber cX6_isVariableNumber 1 (some .boolean), Cond.methodLink RX6 46 yX4_isClassType, Cond.instanceMethod yX4_isClassType, Cond.selects RX4 yX4_isClassType yX4_isClassType, Cond.initialized RX4, Cond.code yX4_isClassType cX4_isClassType 2 (some .boolean), Cond.fieldLink RX4 22 "TypeFlow$Types" "size" "I", Cond.methodLink RX6 86 yX4_isClosed, Cond.instanceMethod yX4_isClosed, Cond.selects RX4 yX4_isClosed yX4_isClosed, Cond.code yX4_isClosed cX4_isClosed 2 (some .boolean), Cond.fieldLink RX4 34 "TypeFlow$Types" "within" "[I"]
def wsX6_bound_r2 : List Cond := [Cond.methodLink RX4 57 yX4_isType, Cond.instanceMethod yX4_isType, Cond.selects RX4 yX4_isType yX4_isType, Cond.code yX4_isType cX4_isType 2 (some .boolean)]
def wsX6_bound : List Cond := .code yX6_bound cX6_bound 4 (some .int) :: ((wsX6_bound_r1 ++ wsX6_bound_r2) ++ wsX60 ++ wsX00 ++ wsX40)
def wsX6_isAsTold_r1 : List Cond := [Cond.fieldLink RX6 10 "TypeFlow" "types" "LTypeFlow$Types;", Cond.fieldLink RX6 33 "TypeFlow" "operators" "LTypeFlow$Operators;", Cond.fieldLink RX6 26 "TypeFlow" "functions" "LTypeFlow$Functions;", Cond.fieldLink RX6 19 "TypeFlow" "members" "LTypeFlow$Members;", Cond.fieldLink RX6 61 "TypeFlow$Types" "variables" "[I", Cond.methodLink RX6 86 yX4_isClosed, Cond.instanceMethod yX4_isClosed, Cond.selects RX4 yX4_isClosed yX4_isClosed, Cond.initialized RX4, Cond.code yX4_isClosed cX4_isClosed 2 (some .boolean), Cond.fieldLink RX4 34 "TypeFlow$Types" "within" "[I", Cond.methodLink RX4 57 yX4_isType, Cond.instanceMethod yX4_isType, Cond.selects RX4 yX4_isType yX4_isType, Cond.code yX4_isType cX4_isType 2 (some .boolean), Cond.fieldLink RX4 22 "TypeFlow$Types" "size" "I", Cond.methodLink RX6 111 yX2_has, Cond.instanceMethod yX2_has, Cond.selects RX2 yX2_has yX2_has, Cond.initialized RX2, Cond.code yX2_has cX2_has 2 (some .boolean), Cond.fieldLink RX2 9 "TypeFlow$Operators" "size" "I", Cond.methodLink RX6 153 yX0_hasWith, Cond.instanceMethod yX0_hasWith]
def wsX6_isAsTold_r2 : List Cond := [Cond.selects RX0 yX0_hasWith yX0_hasWith, Cond.initialized RX0, Cond.code yX0_hasWith cX0_hasWith 3 (some .boolean), Cond.fieldLink RX0 19 "TypeFlow$Functions" "second" "[I", Cond.methodLink RX0 28 yX0_has, Cond.instanceMethod yX0_has, Cond.selects RX0 yX0_has yX0_has, Cond.code yX0_has cX0_has 2 (some .boolean), Cond.fieldLink RX0 9 "TypeFlow$Functions" "size" "I", Cond.methodLink RX6 156 yX1_has, Cond.instanceMethod yX1_has, Cond.selects RX1 yX1_has yX1_has, Cond.initialized RX1, Cond.code yX1_has cX1_has 2 (some .boolean), Cond.fieldLink RX1 9 "TypeFlow$Members" "size" "I", Cond.methodLink RX6 58 yX4_isClass, Cond.instanceMethod yX4_isClass, Cond.selects RX4 yX4_isClass yX4_isClass, Cond.code yX4_isClass cX4_isClass 2 (some .boolean), Cond.fieldLink RX4 9 "TypeFlow$Types" "classes" "I"]
def wsX6_isAsTold : List Cond := .code yX6_isAsTold cX6_isAsTold 7 (some .boolean) :: ((wsX6_isAsTold_r1 ++ wsX6_isAsTold_r2) ++ wsX60 ++ wsX40 ++ wsX20 ++ wsX00 ++ wsX10)
def wsX6_operator_r1 : List Cond := [Cond.fieldLink RX6 33 "TypeFlow" "operators" "LTypeFlow$Operators;", Cond.methodLink RX6 92 yX6_isAsTold, Cond.instanceMethod yX6_isAsTold, Cond.selects RX6 yX6_isAsTold yX6_isAsTold, Cond.initialized RX6, Cond.code yX6_isAsTold cX6_isAsTold 7 (some .boolean), Cond.fieldLink RX6 10 "TypeFlow" "types" "LTypeFlow$Types;", Cond.fieldLink RX6 26 "TypeFlow" "functions" "LTypeFlow$Functions;", Cond.fieldLink RX6 19 "TypeFlow" "members" "LTypeFlow$Members;", Cond.fieldLink RX6 61 "TypeFlow$Types" "variables" "[I", Cond.methodLink RX6 86 yX4_isClosed, Cond.instanceMethod yX4_isClosed, Cond.selects RX4 yX4_isClosed yX4_isClosed, Cond.initialized RX4, Cond.code yX4_isClosed cX4_isClosed 2 (some .boolean), Cond.fieldLink RX4 34 "TypeFlow$Types" "within" "[I", Cond.methodLink RX4 57 yX4_isType, Cond.instanceMethod yX4_isType, Cond.selects RX4 yX4_isType yX4_isType, Cond.code yX4_isType cX4_isType 2 (some .boolean), Cond.fieldLink RX4 22 "TypeFlow$Types" "size" "I", Cond.methodLink RX6 111 yX2_has, Cond.instanceMethod yX2_has, Cond.selects RX2 yX2_has yX2_has]
def wsX6_operator_r2 : List Cond := [Cond.initialized RX2, Cond.code yX2_has cX2_has 2 (some .boolean), Cond.fieldLink RX2 9 "TypeFlow$Operators" "size" "I", Cond.methodLink RX6 153 yX0_hasWith, Cond.instanceMethod yX0_hasWith, Cond.selects RX0 yX0_hasWith yX0_hasWith, Cond.initialized RX0, Cond.code yX0_hasWith cX0_hasWith 3 (some .boolean), Cond.fieldLink RX0 19 "TypeFlow$Functions" "second" "[I", Cond.methodLink RX0 28 yX0_has, Cond.instanceMethod yX0_has, Cond.selects RX0 yX0_has yX0_has, Cond.code yX0_has cX0_has 2 (some .boolean), Cond.fieldLink RX0 9 "TypeFlow$Functions" "size" "I", Cond.methodLink RX6 156 yX1_has, Cond.instanceMethod yX1_has, Cond.selects RX1 yX1_has yX1_has, Cond.initialized RX1, Cond.code yX1_has cX1_has 2 (some .boolean), Cond.fieldLink RX1 9 "TypeFlow$Members" "size" "I", Cond.methodLink RX6 58 yX4_isClass, Cond.instanceMethod yX4_isClass, Cond.selects RX4 yX4_isClass yX4_isClass, Cond.code yX4_isClass cX4_isClass 2 (some .boolean)]
def wsX6_operator_r3 : List Cond := [Cond.fieldLink RX4 9 "TypeFlow$Types" "classes" "I", Cond.methodLink RX6 96 yX2_add, Cond.instanceMethod yX2_add, Cond.selects RX2 yX2_add yX2_add, Cond.code yX2_add cX2_add 7 (some .int), Cond.fieldLink RX2 15 "TypeFlow$Operators" "kind" "[I", Cond.fieldLink RX2 19 "TypeFlow$Operators" "a" "[I", Cond.fieldLink RX2 22 "TypeFlow$Operators" "b" "[I", Cond.fieldLink RX2 25 "TypeFlow$Operators" "f" "[I", Cond.fieldLink RX2 28 "TypeFlow$Operators" "g" "[I", Cond.fieldLink RX2 31 "TypeFlow$Operators" "c" "[I", Cond.methodLink RX2 47 yX2_tell, Cond.instanceMethod yX2_tell, Cond.selects RX2 yX2_tell yX2_tell, Cond.code yX2_tell cX2_tell 5 none, Cond.fieldLink RX2 34 "TypeFlow$Operators" "type" "[I", Cond.fieldLink RX2 37 "TypeFlow$Operators" "fault" "[I", Cond.fieldLink RX2 40 "TypeFlow$Operators" "risky" "[Z", Cond.methodLink RX2 51 yX2_bind, Cond.instanceMethod yX2_bind, Cond.selects RX2 yX2_bind yX2_bind, Cond.code yX2_bind cX2_bind 4 none, Cond.fieldLink RX2 44 "TypeFlow$Operators" "bindings" "[I"]
def wsX6_operator : List Cond := .code yX6_operator cX6_operator 7 (some .int) :: ((wsX6_operator_r1 ++ (wsX6_operator_r2 ++ wsX6_operator_r3)) ++ wsX60 ++ wsX40 ++ wsX20 ++ wsX00 ++ wsX10)
def wsX6_clear : List Cond := .code yX6_clear cX6_clear 2 (some .int) :: ([.fieldLink RX6 33 "TypeFlow" "operators" "LTypeFlow$Operators;", .fieldLink RX6 99 "TypeFlow$Operators" "size" "I"] ++ wsX60 ++ wsX20)
def wsX6_flow_r1 : List Cond := [Cond.fieldLink RX6 33 "TypeFlow" "operators" "LTypeFlow$Operators;", Cond.fieldLink RX6 99 "TypeFlow$Operators" "size" "I", Cond.fieldLink RX6 42 "TypeFlow" "worker" "LTypeFlow$Worker;", Cond.methodLink RX6 103 yX5_whatComes, Cond.instanceMethod yX5_whatComes, Cond.selects RX5 yX5_whatComes yX5_whatComes, Cond.initialized RX5, Cond.code yX5_whatComes cX5_whatComes 6 (some .int), Cond.fieldLink RX5 9 "TypeFlow$Worker" "fault" "I", Cond.fieldLink RX5 15 "TypeFlow$Worker" "risky" "Z", Cond.fieldLink RX5 27 "TypeFlow$Worker" "operators" "LTypeFlow$Operators;", Cond.fieldLink RX5 40 "TypeFlow$Operators" "f" "[I", Cond.fieldLink RX5 46 "TypeFlow$Operators" "kind" "[I", Cond.fieldLink RX5 49 "TypeFlow$Operators" "type" "[I", Cond.fieldLink RX5 52 "TypeFlow$Operators" "a" "[I", Cond.fieldLink RX5 59 "TypeFlow$Operators" "b" "[I", Cond.fieldLink RX5 36 "TypeFlow$Worker" "putting" "LTypeFlow$Putting;", Cond.fieldLink RX5 70 "TypeFlow$Putting" "fault" "I", Cond.fieldLink RX5 19 "TypeFlow$Worker" "types" "LTypeFlow$Types;", Cond.methodLink RX5 55 yX2_hasTwoInputs, Cond.instanceMethod yX2_hasTwoInputs, Cond.selects RX2 yX2_hasTwoInputs yX2_hasTwoInputs, Cond.initialized RX2, Cond.code yX2_hasTwoInputs cX2_hasTwoInputs 2 (some .boolean)]
def wsX6_flow_r2 : List Cond := [Cond.fieldLink RX2 15 "TypeFlow$Operators" "kind" "[I", Cond.methodLink RX5 62 yX5_none, Cond.instanceMethod yX5_none, Cond.selects RX5 yX5_none yX5_none, Cond.code yX5_none cX5_none 2 (some .int), Cond.methodLink RX5 66 yX3_putTo, Cond.instanceMethod yX3_putTo, Cond.selects RX3 yX3_putTo yX3_putTo, Cond.initialized RX3, Cond.code yX3_putTo cX3_putTo 6 (some .int), Cond.fieldLink RX3 19 "TypeFlow$Putting" "alike" "[I", Cond.fieldLink RX3 9 "TypeFlow$Putting" "bound" "[I", Cond.fieldLink RX3 32 "TypeFlow$Putting" "functions" "LTypeFlow$Functions;", Cond.fieldLink RX3 42 "TypeFlow$Functions" "first" "[I", Cond.fieldLink RX3 15 "TypeFlow$Putting" "fault" "I", Cond.fieldLink RX3 51 "TypeFlow$Functions" "second" "[I", Cond.fieldLink RX3 58 "TypeFlow$Functions" "result" "[I", Cond.fieldLink RX3 28 "TypeFlow$Putting" "types" "LTypeFlow$Types;", Cond.methodLink RX3 36 yJ7_fill_53178, Cond.static yJ7_fill_53178, Cond.initialized RJ7, Cond.code yJ7_fill_53178 cJ7_fill_53178 4 none, Cond.methodLink RX3 47 yX3_take, Cond.instanceMethod yX3_take]
def wsX6_flow_r3 : List Cond := [Cond.selects RX3 yX3_take yX3_take, Cond.code yX3_take cX3_take 4 (some .int), Cond.fieldLink RX3 84 "TypeFlow$Types" "ofClass" "[I", Cond.static yX6_isPrimitive, Cond.initialized RX6, Cond.code yX6_isPrimitive cX6_isPrimitive 1 (some .boolean), Cond.static yX6_widens, Cond.code yX6_widens cX6_widens 2 (some .boolean), Cond.static yX6_isVariable, Cond.code yX6_isVariable cX6_isVariable 1 (some .boolean), Cond.methodLink RX3 81 yX3_bindTo, Cond.instanceMethod yX3_bindTo, Cond.selects RX3 yX3_bindTo yX3_bindTo, Cond.code yX3_bindTo cX3_bindTo 4 (some .int), Cond.methodLink RX3 87 yX4_seenAs, Cond.instanceMethod yX4_seenAs, Cond.selects RX4 yX4_seenAs yX4_seenAs, Cond.initialized RX4, Cond.code yX4_seenAs cX4_seenAs 5 (some .int), Cond.fieldLink RX4 25 "TypeFlow$Types" "ofClass" "[I", Cond.fieldLink RX4 19 "TypeFlow$Types" "parent" "[I", Cond.fieldLink RX4 28 "TypeFlow$Types" "first" "[I", Cond.fieldLink RX4 31 "TypeFlow$Types" "second" "[I", Cond.methodLink RX4 71 yX4_isFrom]
def wsX6_flow_r4 : List Cond := [Cond.instanceMethod yX4_isFrom, Cond.selects RX4 yX4_isFrom yX4_isFrom, Cond.code yX4_isFrom cX4_isFrom 5 (some .boolean), Cond.methodLink RX4 68 yX4_classAbove, Cond.instanceMethod yX4_classAbove, Cond.selects RX4 yX4_classAbove yX4_classAbove, Cond.code yX4_classAbove cX4_classAbove 2 (some .int), Cond.methodLink RX4 75 yX4_putIn, Cond.instanceMethod yX4_putIn, Cond.selects RX4 yX4_putIn yX4_putIn, Cond.code yX4_putIn cX4_putIn 9 (some .int), Cond.fieldLink RX4 22 "TypeFlow$Types" "size" "I", Cond.fieldLink RX4 37 "TypeFlow$Types" "image" "[I", Cond.fieldLink RX4 34 "TypeFlow$Types" "within" "[I", Cond.fieldLink RX4 40 "TypeFlow$Types" "path" "[I", Cond.methodLink RX4 61 yX4_argumentWithoutImage, Cond.instanceMethod yX4_argumentWithoutImage, Cond.selects RX4 yX4_argumentWithoutImage yX4_argumentWithoutImage, Cond.code yX4_argumentWithoutImage cX4_argumentWithoutImage 2 (some .int), Cond.methodLink RX4 65 yX4_imageOf, Cond.instanceMethod yX4_imageOf, Cond.selects RX4 yX4_imageOf yX4_imageOf, Cond.code yX4_imageOf cX4_imageOf 2 (some .int), Cond.methodLink RX4 53 yX4_make]
def wsX6_flow_r5 : List Cond := [Cond.instanceMethod yX4_make, Cond.selects RX4 yX4_make yX4_make, Cond.code yX4_make cX4_make 5 (some .int), Cond.methodLink RX3 90 yX3_match, Cond.instanceMethod yX3_match, Cond.selects RX3 yX3_match yX3_match, Cond.code yX3_match cX3_match 8 (some .int), Cond.fieldLink RX3 22 "TypeFlow$Putting" "wanted" "[I", Cond.fieldLink RX3 25 "TypeFlow$Putting" "given" "[I", Cond.fieldLink RX3 93 "TypeFlow$Types" "second" "[I", Cond.fieldLink RX3 97 "TypeFlow$Types" "first" "[I", Cond.methodLink RX3 94 yX3_await, Cond.instanceMethod yX3_await, Cond.selects RX3 yX3_await yX3_await, Cond.code yX3_await cX3_await 4 (some .int), Cond.methodLink RX3 54 yX3_lookAtBounds, Cond.instanceMethod yX3_lookAtBounds, Cond.selects RX3 yX3_lookAtBounds yX3_lookAtBounds, Cond.code yX3_lookAtBounds cX3_lookAtBounds 5 (some .int), Cond.fieldLink RX3 98 "TypeFlow$Functions" "bounds" "[I", Cond.methodLink RX3 101 yX4_goesFor, Cond.instanceMethod yX4_goesFor, Cond.selects RX4 yX4_goesFor yX4_goesFor, Cond.code yX4_goesFor cX4_goesFor 4 (some .int)]
def wsX6_flow_r6 : List Cond := [Cond.methodLink RX4 84 yX4_seenAs, Cond.methodLink RX3 61 yX3_isBoundWithin, Cond.instanceMethod yX3_isBoundWithin, Cond.selects RX3 yX3_isBoundWithin yX3_isBoundWithin, Cond.code yX3_isBoundWithin cX3_isBoundWithin 3 (some .boolean), Cond.fieldLink RX3 104 "TypeFlow$Types" "within" "[I", Cond.methodLink RX3 65 yX4_putIn, Cond.methodLink RX5 71 yX5_orFault, Cond.instanceMethod yX5_orFault, Cond.selects RX5 yX5_orFault yX5_orFault, Cond.code yX5_orFault cX5_orFault 3 (some .int), Cond.methodLink RX5 75 yX5_filtered, Cond.instanceMethod yX5_filtered, Cond.selects RX5 yX5_filtered yX5_filtered, Cond.code yX5_filtered cX5_filtered 3 (some .int), Cond.methodLink RX5 78 yX5_memberOf, Cond.instanceMethod yX5_memberOf, Cond.selects RX5 yX5_memberOf yX5_memberOf, Cond.code yX5_memberOf cX5_memberOf 5 (some .int), Cond.fieldLink RX5 23 "TypeFlow$Worker" "members" "LTypeFlow$Members;", Cond.fieldLink RX5 106 "TypeFlow$Members" "ofClass" "[I", Cond.fieldLink RX5 114 "TypeFlow$Members" "type" "[I", Cond.fieldLink RX5 115 "TypeFlow$Types" "first" "[I", Cond.fieldLink RX5 118 "TypeFlow$Types" "second" "[I"]
def wsX6_flow_r7 : List Cond := [Cond.methodLink RX5 111 yX4_seenAs, Cond.methodLink RX5 121 yX4_putIn, Cond.methodLink RX5 81 yX4_commonOf, Cond.instanceMethod yX4_commonOf, Cond.selects RX4 yX4_commonOf yX4_commonOf, Cond.code yX4_commonOf cX4_commonOf 7 (some .int), Cond.methodLink RX5 86 yX5_joined, Cond.instanceMethod yX5_joined, Cond.selects RX5 yX5_joined yX5_joined, Cond.code yX5_joined cX5_joined 7 (some .int), Cond.fieldLink RX5 124 "TypeFlow$Operators" "g" "[I", Cond.fieldLink RX5 130 "TypeFlow$Operators" "c" "[I", Cond.methodLink RX5 127 yX4_goesFor, Cond.methodLink RX5 133 yX4_make, Cond.methodLink RX5 89 yX5_castTo, Cond.instanceMethod yX5_castTo, Cond.selects RX5 yX5_castTo yX5_castTo, Cond.code yX5_castTo cX5_castTo 4 (some .int), Cond.methodLink RX5 136 yX5_isNumber, Cond.static yX5_isNumber, Cond.code yX5_isNumber cX5_isNumber 1 (some .boolean), Cond.methodLink RX6 107 yX5_keep, Cond.instanceMethod yX5_keep, Cond.selects RX5 yX5_keep yX5_keep]
def wsX6_flow_r8 : List Cond := [Cond.code yX5_keep cX5_keep 4 none, Cond.fieldLink RX5 96 "TypeFlow$Putting" "bound" "[I", Cond.methodLink RX5 92 yX2_tell, Cond.instanceMethod yX2_tell, Cond.selects RX2 yX2_tell yX2_tell, Cond.code yX2_tell cX2_tell 5 none, Cond.fieldLink RX2 34 "TypeFlow$Operators" "type" "[I", Cond.fieldLink RX2 37 "TypeFlow$Operators" "fault" "[I", Cond.fieldLink RX2 40 "TypeFlow$Operators" "risky" "[Z", Cond.methodLink RX5 99 yX2_bind, Cond.instanceMethod yX2_bind, Cond.selects RX2 yX2_bind yX2_bind, Cond.code yX2_bind cX2_bind 4 none, Cond.fieldLink RX2 44 "TypeFlow$Operators" "bindings" "[I"]
def wsX6_flow : List Cond := .code yX6_flow cX6_flow 4 (some .int) :: ((wsX6_flow_r1 ++ (wsX6_flow_r2 ++ (wsX6_flow_r3 ++ (wsX6_flow_r4 ++ (wsX6_flow_r5 ++ (wsX6_flow_r6 ++ (wsX6_flow_r7 ++ wsX6_flow_r8))))))) ++ wsX60 ++ wsX20 ++ wsX50 ++ wsX30 ++ wsX00 ++ wsX40 ++ wsX10)
def wsX6_comes : List Cond := .code yX6_comes cX6_comes 2 (some .int) :: ([.fieldLink RX6 33 "TypeFlow" "operators" "LTypeFlow$Operators;", .fieldLink RX6 112 "TypeFlow$Operators" "type" "[I", .methodLink RX6 111 yX2_has, .instanceMethod yX2_has, .selects RX2 yX2_has yX2_has, .initialized RX2, .code yX2_has cX2_has 2 (some .boolean), .fieldLink RX2 9 "TypeFlow$Operators" "size" "I"] ++ wsX60 ++ wsX20)
def wsX6_reason : List Cond := .code yX6_reason cX6_reason 2 (some .int) :: ([.fieldLink RX6 33 "TypeFlow" "operators" "LTypeFlow$Operators;", .fieldLink RX6 115 "TypeFlow$Operators" "fault" "[I", .methodLink RX6 111 yX2_has, .instanceMethod yX2_has, .selects RX2 yX2_has yX2_has, .initialized RX2, .code yX2_has cX2_has 2 (some .boolean), .fieldLink RX2 9 "TypeFlow$Operators" "size" "I"] ++ wsX60 ++ wsX20)
def wsX6_mayFail : List Cond := .code yX6_mayFail cX6_mayFail 2 (some .int) :: ([.fieldLink RX6 33 "TypeFlow" "operators" "LTypeFlow$Operators;", .fieldLink RX6 118 "TypeFlow$Operators" "risky" "[Z", .methodLink RX6 111 yX2_has, .instanceMethod yX2_has, .selects RX2 yX2_has yX2_has, .initialized RX2, .code yX2_has cX2_has 2 (some .boolean), .fieldLink RX2 9 "TypeFlow$Operators" "size" "I"] ++ wsX60 ++ wsX20)
def wsX6_cast : List Cond := .code yX6_cast cX6_cast 4 (some .int) :: ([.fieldLink RX6 33 "TypeFlow" "operators" "LTypeFlow$Operators;", .fieldLink RX6 99 "TypeFlow$Operators" "size" "I", .fieldLink RX6 118 "TypeFlow$Operators" "risky" "[Z"] ++ wsX60 ++ wsX20)
def wsX6_boundTo : List Cond := .code yX6_boundTo cX6_boundTo 3 (some .int) :: ([.fieldLink RX6 33 "TypeFlow" "operators" "LTypeFlow$Operators;", .fieldLink RX6 122 "TypeFlow$Operators" "bindings" "[I", .methodLink RX6 111 yX2_has, .instanceMethod yX2_has, .selects RX2 yX2_has yX2_has, .initialized RX2, .code yX2_has cX2_has 2 (some .boolean), .fieldLink RX2 9 "TypeFlow$Operators" "size" "I", .methodLink RX6 83 yX6_isVariableNumber, .static yX6_isVariableNumber, .initialized RX6, .code yX6_isVariableNumber cX6_isVariableNumber 1 (some .boolean)] ++ wsX60 ++ wsX20)
def wsX6_goes_r1 : List Cond := [Cond.fieldLink RX6 10 "TypeFlow" "types" "LTypeFlow$Types;", Cond.methodLink RX6 86 yX4_isClosed, Cond.instanceMethod yX4_isClosed, Cond.selects RX4 yX4_isClosed yX4_isClosed, Cond.initialized RX4, Cond.code yX4_isClosed cX4_isClosed 2 (some .boolean), Cond.fieldLink RX4 34 "TypeFlow$Types" "within" "[I", Cond.methodLink RX4 57 yX4_isType, Cond.instanceMethod yX4_isType, Cond.selects RX4 yX4_isType yX4_isType, Cond.code yX4_isType cX4_isType 2 (some .boolean), Cond.fieldLink RX4 22 "TypeFlow$Types" "size" "I", Cond.methodLink RX6 125 yX4_goesFor, Cond.instanceMethod yX4_goesFor, Cond.selects RX4 yX4_goesFor yX4_goesFor, Cond.code yX4_goesFor cX4_goesFor 4 (some .int), Cond.fieldLink RX4 25 "TypeFlow$Types" "ofClass" "[I", Cond.static yX6_widens, Cond.initialized RX6, Cond.code yX6_widens cX6_widens 2 (some .boolean), Cond.static yX6_isPrimitive, Cond.code yX6_isPrimitive cX6_isPrimitive 1 (some .boolean), Cond.methodLink RX4 84 yX4_seenAs, Cond.instanceMethod yX4_seenAs]
def wsX6_goes_r2 : List Cond := [Cond.selects RX4 yX4_seenAs yX4_seenAs, Cond.code yX4_seenAs cX4_seenAs 5 (some .int), Cond.fieldLink RX4 19 "TypeFlow$Types" "parent" "[I", Cond.fieldLink RX4 28 "TypeFlow$Types" "first" "[I", Cond.fieldLink RX4 31 "TypeFlow$Types" "second" "[I", Cond.methodLink RX4 71 yX4_isFrom, Cond.instanceMethod yX4_isFrom, Cond.selects RX4 yX4_isFrom yX4_isFrom, Cond.code yX4_isFrom cX4_isFrom 5 (some .boolean), Cond.methodLink RX4 68 yX4_classAbove, Cond.instanceMethod yX4_classAbove, Cond.selects RX4 yX4_classAbove yX4_classAbove, Cond.code yX4_classAbove cX4_classAbove 2 (some .int), Cond.methodLink RX4 75 yX4_putIn, Cond.instanceMethod yX4_putIn, Cond.selects RX4 yX4_putIn yX4_putIn, Cond.code yX4_putIn cX4_putIn 9 (some .int), Cond.fieldLink RX4 37 "TypeFlow$Types" "image" "[I", Cond.fieldLink RX4 40 "TypeFlow$Types" "path" "[I", Cond.methodLink RX4 61 yX4_argumentWithoutImage, Cond.instanceMethod yX4_argumentWithoutImage, Cond.selects RX4 yX4_argumentWithoutImage yX4_argumentWithoutImage, Cond.code yX4_argumentWithoutImage cX4_argumentWithoutImage 2 (some .int), Cond.methodLink RX4 65 yX4_imageOf]
def wsX6_goes_r3 : List Cond := [Cond.instanceMethod yX4_imageOf, Cond.selects RX4 yX4_imageOf yX4_imageOf, Cond.code yX4_imageOf cX4_imageOf 2 (some .int), Cond.methodLink RX4 53 yX4_make, Cond.instanceMethod yX4_make, Cond.selects RX4 yX4_make yX4_make, Cond.code yX4_make cX4_make 5 (some .int)]
def wsX6_goes : List Cond := .code yX6_goes cX6_goes 3 (some .int) :: ((wsX6_goes_r1 ++ (wsX6_goes_r2 ++ wsX6_goes_r3)) ++ wsX60 ++ wsX40)
def wsX6_common_r1 : List Cond := [Cond.fieldLink RX6 10 "TypeFlow" "types" "LTypeFlow$Types;", Cond.methodLink RX6 86 yX4_isClosed, Cond.instanceMethod yX4_isClosed, Cond.selects RX4 yX4_isClosed yX4_isClosed, Cond.initialized RX4, Cond.code yX4_isClosed cX4_isClosed 2 (some .boolean), Cond.fieldLink RX4 34 "TypeFlow$Types" "within" "[I", Cond.methodLink RX4 57 yX4_isType, Cond.instanceMethod yX4_isType, Cond.selects RX4 yX4_isType yX4_isType, Cond.code yX4_isType cX4_isType 2 (some .boolean), Cond.fieldLink RX4 22 "TypeFlow$Types" "size" "I", Cond.methodLink RX6 128 yX4_commonOf, Cond.instanceMethod yX4_commonOf, Cond.selects RX4 yX4_commonOf yX4_commonOf, Cond.code yX4_commonOf cX4_commonOf 7 (some .int), Cond.fieldLink RX4 25 "TypeFlow$Types" "ofClass" "[I", Cond.static yX6_widens, Cond.initialized RX6, Cond.code yX6_widens cX6_widens 2 (some .boolean), Cond.static yX6_isPrimitive, Cond.code yX6_isPrimitive cX6_isPrimitive 1 (some .boolean), Cond.methodLink RX4 71 yX4_isFrom, Cond.instanceMethod yX4_isFrom]
def wsX6_common_r2 : List Cond := [Cond.selects RX4 yX4_isFrom yX4_isFrom, Cond.code yX4_isFrom cX4_isFrom 5 (some .boolean), Cond.methodLink RX4 68 yX4_classAbove, Cond.instanceMethod yX4_classAbove, Cond.selects RX4 yX4_classAbove yX4_classAbove, Cond.code yX4_classAbove cX4_classAbove 2 (some .int), Cond.fieldLink RX4 19 "TypeFlow$Types" "parent" "[I", Cond.methodLink RX4 84 yX4_seenAs, Cond.instanceMethod yX4_seenAs, Cond.selects RX4 yX4_seenAs yX4_seenAs, Cond.code yX4_seenAs cX4_seenAs 5 (some .int), Cond.fieldLink RX4 28 "TypeFlow$Types" "first" "[I", Cond.fieldLink RX4 31 "TypeFlow$Types" "second" "[I", Cond.methodLink RX4 75 yX4_putIn, Cond.instanceMethod yX4_putIn, Cond.selects RX4 yX4_putIn yX4_putIn, Cond.code yX4_putIn cX4_putIn 9 (some .int), Cond.fieldLink RX4 37 "TypeFlow$Types" "image" "[I", Cond.fieldLink RX4 40 "TypeFlow$Types" "path" "[I", Cond.methodLink RX4 61 yX4_argumentWithoutImage, Cond.instanceMethod yX4_argumentWithoutImage, Cond.selects RX4 yX4_argumentWithoutImage yX4_argumentWithoutImage, Cond.code yX4_argumentWithoutImage cX4_argumentWithoutImage 2 (some .int), Cond.methodLink RX4 65 yX4_imageOf]
def wsX6_common_r3 : List Cond := [Cond.instanceMethod yX4_imageOf, Cond.selects RX4 yX4_imageOf yX4_imageOf, Cond.code yX4_imageOf cX4_imageOf 2 (some .int), Cond.methodLink RX4 53 yX4_make, Cond.instanceMethod yX4_make, Cond.selects RX4 yX4_make yX4_make, Cond.code yX4_make cX4_make 5 (some .int)]
def wsX6_common : List Cond := .code yX6_common cX6_common 3 (some .int) :: ((wsX6_common_r1 ++ (wsX6_common_r2 ++ wsX6_common_r3)) ++ wsX60 ++ wsX40)
def wsX6_seen_r1 : List Cond := [Cond.fieldLink RX6 10 "TypeFlow" "types" "LTypeFlow$Types;", Cond.methodLink RX6 46 yX4_isClassType, Cond.instanceMethod yX4_isClassType, Cond.selects RX4 yX4_isClassType yX4_isClassType, Cond.initialized RX4, Cond.code yX4_isClassType cX4_isClassType 2 (some .boolean), Cond.fieldLink RX4 22 "TypeFlow$Types" "size" "I", Cond.methodLink RX6 58 yX4_isClass, Cond.instanceMethod yX4_isClass, Cond.selects RX4 yX4_isClass yX4_isClass, Cond.code yX4_isClass cX4_isClass 2 (some .boolean), Cond.fieldLink RX4 9 "TypeFlow$Types" "classes" "I", Cond.methodLink RX6 131 yX4_seenAs, Cond.instanceMethod yX4_seenAs, Cond.selects RX4 yX4_seenAs yX4_seenAs, Cond.code yX4_seenAs cX4_seenAs 5 (some .int), Cond.fieldLink RX4 25 "TypeFlow$Types" "ofClass" "[I", Cond.fieldLink RX4 19 "TypeFlow$Types" "parent" "[I", Cond.fieldLink RX4 28 "TypeFlow$Types" "first" "[I", Cond.fieldLink RX4 31 "TypeFlow$Types" "second" "[I", Cond.methodLink RX4 71 yX4_isFrom, Cond.instanceMethod yX4_isFrom, Cond.selects RX4 yX4_isFrom yX4_isFrom, Cond.code yX4_isFrom cX4_isFrom 5 (some .boolean)]
def wsX6_seen_r2 : List Cond := [Cond.methodLink RX4 68 yX4_classAbove, Cond.instanceMethod yX4_classAbove, Cond.selects RX4 yX4_classAbove yX4_classAbove, Cond.code yX4_classAbove cX4_classAbove 2 (some .int), Cond.methodLink RX4 75 yX4_putIn, Cond.instanceMethod yX4_putIn, Cond.selects RX4 yX4_putIn yX4_putIn, Cond.code yX4_putIn cX4_putIn 9 (some .int), Cond.fieldLink RX4 37 "TypeFlow$Types" "image" "[I", Cond.fieldLink RX4 34 "TypeFlow$Types" "within" "[I", Cond.fieldLink RX4 40 "TypeFlow$Types" "path" "[I", Cond.methodLink RX4 61 yX4_argumentWithoutImage, Cond.instanceMethod yX4_argumentWithoutImage, Cond.selects RX4 yX4_argumentWithoutImage yX4_argumentWithoutImage, Cond.code yX4_argumentWithoutImage cX4_argumentWithoutImage 2 (some .int), Cond.methodLink RX4 65 yX4_imageOf, Cond.instanceMethod yX4_imageOf, Cond.selects RX4 yX4_imageOf yX4_imageOf, Cond.code yX4_imageOf cX4_imageOf 2 (some .int), Cond.methodLink RX4 53 yX4_make, Cond.instanceMethod yX4_make, Cond.selects RX4 yX4_make yX4_make, Cond.code yX4_make cX4_make 5 (some .int)]
def wsX6_seen : List Cond := .code yX6_seen cX6_seen 3 (some .int) :: ((wsX6_seen_r1 ++ wsX6_seen_r2) ++ wsX60 ++ wsX40)
def wsX6_about : List Cond := .code yX6_about cX6_about 3 (some .int) :: ([.fieldLink RX6 10 "TypeFlow" "types" "LTypeFlow$Types;", .fieldLink RX6 134 "TypeFlow$Types" "ofClass" "[I", .fieldLink RX6 137 "TypeFlow$Types" "first" "[I", .fieldLink RX6 140 "TypeFlow$Types" "second" "[I", .methodLink RX6 72 yX4_isType, .instanceMethod yX4_isType, .selects RX4 yX4_isType yX4_isType, .initialized RX4, .code yX4_isType cX4_isType 2 (some .boolean), .fieldLink RX4 22 "TypeFlow$Types" "size" "I", .methodLink RX6 86 yX4_isClosed, .instanceMethod yX4_isClosed, .selects RX4 yX4_isClosed yX4_isClosed, .code yX4_isClosed cX4_isClosed 2 (some .boolean), .fieldLink RX4 34 "TypeFlow$Types" "within" "[I", .methodLink RX4 57 yX4_isType] ++ wsX60 ++ wsX40)
def wsX6_count : List Cond := .code yX6_count cX6_count 2 (some .int) :: ([.fieldLink RX6 10 "TypeFlow" "types" "LTypeFlow$Types;", .fieldLink RX6 143 "TypeFlow$Types" "classes" "I", .fieldLink RX6 146 "TypeFlow$Types" "size" "I", .fieldLink RX6 19 "TypeFlow" "members" "LTypeFlow$Members;", .fieldLink RX6 147 "TypeFlow$Members" "size" "I", .fieldLink RX6 26 "TypeFlow" "functions" "LTypeFlow$Functions;", .fieldLink RX6 148 "TypeFlow$Functions" "size" "I", .fieldLink RX6 33 "TypeFlow" "operators" "LTypeFlow$Operators;", .fieldLink RX6 99 "TypeFlow$Operators" "size" "I", .methodLink RX6 149 yX2_howManyRisky, .instanceMethod yX2_howManyRisky, .selects RX2 yX2_howManyRisky yX2_howManyRisky, .initialized RX2, .code yX2_howManyRisky cX2_howManyRisky 3 (some .int), .fieldLink RX2 9 "TypeFlow$Operators" "size" "I", .fieldLink RX2 40 "TypeFlow$Operators" "risky" "[Z"] ++ wsX60 ++ wsX40 ++ wsX10 ++ wsX00 ++ wsX20)
def wsX7_init_r1 : List Cond := [Cond.methodLink RX7 1 objectInit, Cond.instanceMethod objectInit, Cond.code objectInit ⟨#[0xb1]⟩ 1 none, Cond.fieldLink RX7 7 "TypeFlowModel" "classes" "I", Cond.arrayClass .int, Cond.fieldLink RX7 13 "TypeFlowModel" "variables" "[I", Cond.fieldLink RX7 17 "TypeFlowModel" "parent" "[I", Cond.fieldLink RX7 20 "TypeFlowModel" "types" "I", Cond.fieldLink RX7 23 "TypeFlowModel" "classes0" "[I", Cond.fieldLink RX7 26 "TypeFlowModel" "first" "[I", Cond.fieldLink RX7 29 "TypeFlowModel" "second" "[I", Cond.fieldLink RX7 32 "TypeFlowModel" "free" "[I", Cond.fieldLink RX7 35 "TypeFlowModel" "came" "[I", Cond.fieldLink RX7 38 "TypeFlowModel" "stack" "[I", Cond.fieldLink RX7 41 "TypeFlowModel" "memberClass" "[I", Cond.fieldLink RX7 44 "TypeFlowModel" "memberType" "[I", Cond.fieldLink RX7 47 "TypeFlowModel" "one" "[I", Cond.fieldLink RX7 50 "TypeFlowModel" "two" "[I", Cond.fieldLink RX7 53 "TypeFlowModel" "result" "[I", Cond.fieldLink RX7 56 "TypeFlowModel" "bounds" "[I", Cond.fieldLink RX7 59 "TypeFlowModel" "bindings" "[I", Cond.fieldLink RX7 62 "TypeFlowModel" "held" "[I", Cond.arrayClass .boolean, Cond.fieldLink RX7 65 "TypeFlowModel" "wasHeld" "[Z"]
def wsX7_init_r2 : List Cond := [Cond.fieldLink RX7 69 "TypeFlowModel" "kind" "[I", Cond.fieldLink RX7 72 "TypeFlowModel" "in" "[I", Cond.fieldLink RX7 75 "TypeFlowModel" "other" "[I", Cond.fieldLink RX7 78 "TypeFlowModel" "by" "[I", Cond.fieldLink RX7 81 "TypeFlowModel" "byToo" "[I", Cond.fieldLink RX7 84 "TypeFlowModel" "of" "[I", Cond.fieldLink RX7 87 "TypeFlowModel" "comes" "[I", Cond.fieldLink RX7 90 "TypeFlowModel" "reasons" "[I", Cond.fieldLink RX7 93 "TypeFlowModel" "mayFail" "[Z", Cond.fieldLink RX7 96 "TypeFlowModel" "bound" "[I"]
def wsX7_init : List Cond := .code yX7_init cX7_init 2 none :: ((wsX7_init_r1 ++ wsX7_init_r2) ++ wsX70)
def wsX7_isIn : List Cond := .code yX7_isIn cX7_isIn 3 (some .boolean) :: ([])
def wsX7_isClass : List Cond := .code yX7_isClass cX7_isClass 2 (some .boolean) :: ([.fieldLink RX7 7 "TypeFlowModel" "classes" "I", .methodLink RX7 99 yX7_isIn, .static yX7_isIn, .initialized RX7, .code yX7_isIn cX7_isIn 3 (some .boolean)] ++ wsX70)
def wsX7_isType : List Cond := .code yX7_isType cX7_isType 2 (some .boolean) :: ([.fieldLink RX7 20 "TypeFlowModel" "types" "I", .methodLink RX7 99 yX7_isIn, .static yX7_isIn, .initialized RX7, .code yX7_isIn cX7_isIn 3 (some .boolean)] ++ wsX70)
def wsX7_isClosed : List Cond := .code yX7_isClosed cX7_isClosed 2 (some .boolean) :: ([.fieldLink RX7 32 "TypeFlowModel" "free" "[I", .methodLink RX7 103 yX7_isType, .instanceMethod yX7_isType, .selects RX7 yX7_isType yX7_isType, .initialized RX7, .code yX7_isType cX7_isType 2 (some .boolean), .fieldLink RX7 20 "TypeFlowModel" "types" "I", .methodLink RX7 99 yX7_isIn, .static yX7_isIn, .code yX7_isIn cX7_isIn 3 (some .boolean)] ++ wsX70)
def wsX7_isClassType : List Cond := .code yX7_isClassType cX7_isClassType 2 (some .boolean) :: ([.fieldLink RX7 20 "TypeFlowModel" "types" "I", .methodLink RX7 99 yX7_isIn, .static yX7_isIn, .initialized RX7, .code yX7_isIn cX7_isIn 3 (some .boolean)] ++ wsX70)
def wsX7_isPrimitive : List Cond := .code yX7_isPrimitive cX7_isPrimitive 1 (some .boolean) :: ([])
def wsX7_made : List Cond := .code yX7_made cX7_made 5 (some .int) :: ([.fieldLink RX7 20 "TypeFlowModel" "types" "I", .fieldLink RX7 23 "TypeFlowModel" "classes0" "[I", .fieldLink RX7 26 "TypeFlowModel" "first" "[I", .fieldLink RX7 29 "TypeFlowModel" "second" "[I", .fieldLink RX7 32 "TypeFlowModel" "free" "[I"] ++ wsX70)
def wsX7_classOf : List Cond := .code yX7_classOf cX7_classOf 3 (some .int) :: ([.fieldLink RX7 32 "TypeFlowModel" "free" "[I", .fieldLink RX7 7 "TypeFlowModel" "classes" "I", .fieldLink RX7 13 "TypeFlowModel" "variables" "[I", .fieldLink RX7 17 "TypeFlowModel" "parent" "[I", .methodLink RX7 99 yX7_isIn, .static yX7_isIn, .initialized RX7, .code yX7_isIn cX7_isIn 3 (some .boolean), .methodLink RX7 107 yX7_isClassType, .instanceMethod yX7_isClassType, .selects RX7 yX7_isClassType yX7_isClassType, .code yX7_isClassType cX7_isClassType 2 (some .boolean), .fieldLink RX7 20 "TypeFlowModel" "types" "I"] ++ wsX70)
def wsX7_isArgument : List Cond := .code yX7_isArgument cX7_isArgument 2 (some .boolean) :: ([.methodLink RX7 103 yX7_isType, .instanceMethod yX7_isType, .selects RX7 yX7_isType yX7_isType, .initialized RX7, .code yX7_isType cX7_isType 2 (some .boolean), .fieldLink RX7 20 "TypeFlowModel" "types" "I", .methodLink RX7 99 yX7_isIn, .static yX7_isIn, .code yX7_isIn cX7_isIn 3 (some .boolean), .methodLink RX7 110 yX7_isPrimitive, .static yX7_isPrimitive, .code yX7_isPrimitive cX7_isPrimitive 1 (some .boolean)] ++ wsX70)
def wsX7_type_r1 : List Cond := [Cond.fieldLink RX7 13 "TypeFlowModel" "variables" "[I", Cond.methodLink RX7 113 yX7_isClass, Cond.instanceMethod yX7_isClass, Cond.selects RX7 yX7_isClass yX7_isClass, Cond.initialized RX7, Cond.code yX7_isClass cX7_isClass 2 (some .boolean), Cond.fieldLink RX7 7 "TypeFlowModel" "classes" "I", Cond.methodLink RX7 99 yX7_isIn, Cond.static yX7_isIn, Cond.code yX7_isIn cX7_isIn 3 (some .boolean), Cond.methodLink RX7 116 yX7_isArgument, Cond.instanceMethod yX7_isArgument, Cond.selects RX7 yX7_isArgument yX7_isArgument, Cond.code yX7_isArgument cX7_isArgument 2 (some .boolean), Cond.methodLink RX7 103 yX7_isType, Cond.instanceMethod yX7_isType, Cond.selects RX7 yX7_isType yX7_isType, Cond.code yX7_isType cX7_isType 2 (some .boolean), Cond.fieldLink RX7 20 "TypeFlowModel" "types" "I", Cond.methodLink RX7 110 yX7_isPrimitive, Cond.static yX7_isPrimitive, Cond.code yX7_isPrimitive cX7_isPrimitive 1 (some .boolean), Cond.methodLink RX7 119 yX7_made, Cond.instanceMethod yX7_made]
def wsX7_type_r2 : List Cond := [Cond.selects RX7 yX7_made yX7_made, Cond.code yX7_made cX7_made 5 (some .int), Cond.fieldLink RX7 23 "TypeFlowModel" "classes0" "[I", Cond.fieldLink RX7 26 "TypeFlowModel" "first" "[I", Cond.fieldLink RX7 29 "TypeFlowModel" "second" "[I", Cond.fieldLink RX7 32 "TypeFlowModel" "free" "[I"]
def wsX7_type : List Cond := .code yX7_type cX7_type 4 (some .int) :: ((wsX7_type_r1 ++ wsX7_type_r2) ++ wsX70)
def wsX7_about : List Cond := .code yX7_about cX7_about 3 (some .int) :: ([.fieldLink RX7 23 "TypeFlowModel" "classes0" "[I", .fieldLink RX7 26 "TypeFlowModel" "first" "[I", .fieldLink RX7 29 "TypeFlowModel" "second" "[I", .fieldLink RX7 32 "TypeFlowModel" "free" "[I", .methodLink RX7 103 yX7_isType, .instanceMethod yX7_isType, .selects RX7 yX7_isType yX7_isType, .initialized RX7, .code yX7_isType cX7_isType 2 (some .boolean), .fieldLink RX7 20 "TypeFlowModel" "types" "I", .methodLink RX7 99 yX7_isIn, .static yX7_isIn, .code yX7_isIn cX7_isIn 3 (some .boolean)] ++ wsX70)
def wsX7_push : List Cond := .code yX7_push cX7_push 2 none :: ([.fieldLink RX7 38 "TypeFlowModel" "stack" "[I", .fieldLink RX7 123 "TypeFlowModel" "high" "I"] ++ wsX70)
def wsX7_isOpen : List Cond := .code yX7_isOpen cX7_isOpen 2 (some .boolean) :: ([.fieldLink RX7 35 "TypeFlowModel" "came" "[I"] ++ wsX70)
def wsX7_put : List Cond := .code yX7_put cX7_put 6 (some .int) :: ([.fieldLink RX7 35 "TypeFlowModel" "came" "[I", .fieldLink RX7 123 "TypeFlowModel" "high" "I", .fieldLink RX7 38 "TypeFlowModel" "stack" "[I", .fieldLink RX7 32 "TypeFlowModel" "free" "[I", .fieldLink RX7 26 "TypeFlowModel" "first" "[I", .fieldLink RX7 29 "TypeFlowModel" "second" "[I", .fieldLink RX7 23 "TypeFlowModel" "classes0" "[I", .methodLink RX7 126 yX7_push, .instanceMethod yX7_push, .selects RX7 yX7_push yX7_push, .initialized RX7, .code yX7_push cX7_push 2 none, .methodLink RX7 130 yX7_isOpen, .instanceMethod yX7_isOpen, .selects RX7 yX7_isOpen yX7_isOpen, .code yX7_isOpen cX7_isOpen 2 (some .boolean), .methodLink RX7 119 yX7_made, .instanceMethod yX7_made, .selects RX7 yX7_made yX7_made, .code yX7_made cX7_made 5 (some .int), .fieldLink RX7 20 "TypeFlowModel" "types" "I"] ++ wsX70)
def wsX7_comesFrom : List Cond := .code yX7_comesFrom cX7_comesFrom 4 (some .boolean) :: ([.fieldLink RX7 23 "TypeFlowModel" "classes0" "[I", .fieldLink RX7 17 "TypeFlowModel" "parent" "[I"] ++ wsX70)
def wsX7_seenAs_r1 : List Cond := [Cond.fieldLink RX7 23 "TypeFlowModel" "classes0" "[I", Cond.fieldLink RX7 17 "TypeFlowModel" "parent" "[I", Cond.fieldLink RX7 26 "TypeFlowModel" "first" "[I", Cond.fieldLink RX7 29 "TypeFlowModel" "second" "[I", Cond.methodLink RX7 133 yX7_comesFrom, Cond.instanceMethod yX7_comesFrom, Cond.selects RX7 yX7_comesFrom yX7_comesFrom, Cond.initialized RX7, Cond.code yX7_comesFrom cX7_comesFrom 4 (some .boolean), Cond.methodLink RX7 137 yX7_put, Cond.instanceMethod yX7_put, Cond.selects RX7 yX7_put yX7_put, Cond.code yX7_put cX7_put 6 (some .int), Cond.fieldLink RX7 35 "TypeFlowModel" "came" "[I", Cond.fieldLink RX7 123 "TypeFlowModel" "high" "I", Cond.fieldLink RX7 38 "TypeFlowModel" "stack" "[I", Cond.fieldLink RX7 32 "TypeFlowModel" "free" "[I", Cond.methodLink RX7 126 yX7_push, Cond.instanceMethod yX7_push, Cond.selects RX7 yX7_push yX7_push, Cond.code yX7_push cX7_push 2 none, Cond.methodLink RX7 130 yX7_isOpen, Cond.instanceMethod yX7_isOpen, Cond.selects RX7 yX7_isOpen yX7_isOpen]
def wsX7_seenAs_r2 : List Cond := [Cond.code yX7_isOpen cX7_isOpen 2 (some .boolean), Cond.methodLink RX7 119 yX7_made, Cond.instanceMethod yX7_made, Cond.selects RX7 yX7_made yX7_made, Cond.code yX7_made cX7_made 5 (some .int), Cond.fieldLink RX7 20 "TypeFlowModel" "types" "I"]
def wsX7_seenAs : List Cond := .code yX7_seenAs cX7_seenAs 4 (some .int) :: ((wsX7_seenAs_r1 ++ wsX7_seenAs_r2) ++ wsX70)
def wsX7_seen_r1 : List Cond := [Cond.methodLink RX7 107 yX7_isClassType, Cond.instanceMethod yX7_isClassType, Cond.selects RX7 yX7_isClassType yX7_isClassType, Cond.initialized RX7, Cond.code yX7_isClassType cX7_isClassType 2 (some .boolean), Cond.fieldLink RX7 20 "TypeFlowModel" "types" "I", Cond.methodLink RX7 99 yX7_isIn, Cond.static yX7_isIn, Cond.code yX7_isIn cX7_isIn 3 (some .boolean), Cond.methodLink RX7 113 yX7_isClass, Cond.instanceMethod yX7_isClass, Cond.selects RX7 yX7_isClass yX7_isClass, Cond.code yX7_isClass cX7_isClass 2 (some .boolean), Cond.fieldLink RX7 7 "TypeFlowModel" "classes" "I", Cond.methodLink RX7 140 yX7_seenAs, Cond.instanceMethod yX7_seenAs, Cond.selects RX7 yX7_seenAs yX7_seenAs, Cond.code yX7_seenAs cX7_seenAs 4 (some .int), Cond.fieldLink RX7 23 "TypeFlowModel" "classes0" "[I", Cond.fieldLink RX7 17 "TypeFlowModel" "parent" "[I", Cond.fieldLink RX7 26 "TypeFlowModel" "first" "[I", Cond.fieldLink RX7 29 "TypeFlowModel" "second" "[I", Cond.methodLink RX7 133 yX7_comesFrom, Cond.instanceMethod yX7_comesFrom]
def wsX7_seen_r2 : List Cond := [Cond.selects RX7 yX7_comesFrom yX7_comesFrom, Cond.code yX7_comesFrom cX7_comesFrom 4 (some .boolean), Cond.methodLink RX7 137 yX7_put, Cond.instanceMethod yX7_put, Cond.selects RX7 yX7_put yX7_put, Cond.code yX7_put cX7_put 6 (some .int), Cond.fieldLink RX7 35 "TypeFlowModel" "came" "[I", Cond.fieldLink RX7 123 "TypeFlowModel" "high" "I", Cond.fieldLink RX7 38 "TypeFlowModel" "stack" "[I", Cond.fieldLink RX7 32 "TypeFlowModel" "free" "[I", Cond.methodLink RX7 126 yX7_push, Cond.instanceMethod yX7_push, Cond.selects RX7 yX7_push yX7_push, Cond.code yX7_push cX7_push 2 none, Cond.methodLink RX7 130 yX7_isOpen, Cond.instanceMethod yX7_isOpen, Cond.selects RX7 yX7_isOpen yX7_isOpen, Cond.code yX7_isOpen cX7_isOpen 2 (some .boolean), Cond.methodLink RX7 119 yX7_made, Cond.instanceMethod yX7_made, Cond.selects RX7 yX7_made yX7_made, Cond.code yX7_made cX7_made 5 (some .int)]
def wsX7_seen : List Cond := .code yX7_seen cX7_seen 3 (some .int) :: ((wsX7_seen_r1 ++ wsX7_seen_r2) ++ wsX70)
def wsX7_goesFor_r1 : List Cond := [Cond.fieldLink RX7 23 "TypeFlowModel" "classes0" "[I", Cond.methodLink RX7 110 yX7_isPrimitive, Cond.static yX7_isPrimitive, Cond.initialized RX7, Cond.code yX7_isPrimitive cX7_isPrimitive 1 (some .boolean), Cond.methodLink RX7 140 yX7_seenAs, Cond.instanceMethod yX7_seenAs, Cond.selects RX7 yX7_seenAs yX7_seenAs, Cond.code yX7_seenAs cX7_seenAs 4 (some .int), Cond.fieldLink RX7 17 "TypeFlowModel" "parent" "[I", Cond.fieldLink RX7 26 "TypeFlowModel" "first" "[I", Cond.fieldLink RX7 29 "TypeFlowModel" "second" "[I", Cond.methodLink RX7 133 yX7_comesFrom, Cond.instanceMethod yX7_comesFrom, Cond.selects RX7 yX7_comesFrom yX7_comesFrom, Cond.code yX7_comesFrom cX7_comesFrom 4 (some .boolean), Cond.methodLink RX7 137 yX7_put, Cond.instanceMethod yX7_put, Cond.selects RX7 yX7_put yX7_put, Cond.code yX7_put cX7_put 6 (some .int), Cond.fieldLink RX7 35 "TypeFlowModel" "came" "[I", Cond.fieldLink RX7 123 "TypeFlowModel" "high" "I", Cond.fieldLink RX7 38 "TypeFlowModel" "stack" "[I", Cond.fieldLink RX7 32 "TypeFlowModel" "free" "[I"]
def wsX7_goesFor_r2 : List Cond := [Cond.methodLink RX7 126 yX7_push, Cond.instanceMethod yX7_push, Cond.selects RX7 yX7_push yX7_push, Cond.code yX7_push cX7_push 2 none, Cond.methodLink RX7 130 yX7_isOpen, Cond.instanceMethod yX7_isOpen, Cond.selects RX7 yX7_isOpen yX7_isOpen, Cond.code yX7_isOpen cX7_isOpen 2 (some .boolean), Cond.methodLink RX7 119 yX7_made, Cond.instanceMethod yX7_made, Cond.selects RX7 yX7_made yX7_made, Cond.code yX7_made cX7_made 5 (some .int), Cond.fieldLink RX7 20 "TypeFlowModel" "types" "I"]
def wsX7_goesFor : List Cond := .code yX7_goesFor cX7_goesFor 4 (some .int) :: ((wsX7_goesFor_r1 ++ wsX7_goesFor_r2) ++ wsX70)
def wsX7_goes_r1 : List Cond := [Cond.methodLink RX7 144 yX7_isClosed, Cond.instanceMethod yX7_isClosed, Cond.selects RX7 yX7_isClosed yX7_isClosed, Cond.initialized RX7, Cond.code yX7_isClosed cX7_isClosed 2 (some .boolean), Cond.fieldLink RX7 32 "TypeFlowModel" "free" "[I", Cond.methodLink RX7 103 yX7_isType, Cond.instanceMethod yX7_isType, Cond.selects RX7 yX7_isType yX7_isType, Cond.code yX7_isType cX7_isType 2 (some .boolean), Cond.fieldLink RX7 20 "TypeFlowModel" "types" "I", Cond.methodLink RX7 99 yX7_isIn, Cond.static yX7_isIn, Cond.code yX7_isIn cX7_isIn 3 (some .boolean), Cond.methodLink RX7 147 yX7_goesFor, Cond.instanceMethod yX7_goesFor, Cond.selects RX7 yX7_goesFor yX7_goesFor, Cond.code yX7_goesFor cX7_goesFor 4 (some .int), Cond.fieldLink RX7 23 "TypeFlowModel" "classes0" "[I", Cond.methodLink RX7 110 yX7_isPrimitive, Cond.static yX7_isPrimitive, Cond.code yX7_isPrimitive cX7_isPrimitive 1 (some .boolean), Cond.methodLink RX7 140 yX7_seenAs, Cond.instanceMethod yX7_seenAs]
def wsX7_goes_r2 : List Cond := [Cond.selects RX7 yX7_seenAs yX7_seenAs, Cond.code yX7_seenAs cX7_seenAs 4 (some .int), Cond.fieldLink RX7 17 "TypeFlowModel" "parent" "[I", Cond.fieldLink RX7 26 "TypeFlowModel" "first" "[I", Cond.fieldLink RX7 29 "TypeFlowModel" "second" "[I", Cond.methodLink RX7 133 yX7_comesFrom, Cond.instanceMethod yX7_comesFrom, Cond.selects RX7 yX7_comesFrom yX7_comesFrom, Cond.code yX7_comesFrom cX7_comesFrom 4 (some .boolean), Cond.methodLink RX7 137 yX7_put, Cond.instanceMethod yX7_put, Cond.selects RX7 yX7_put yX7_put, Cond.code yX7_put cX7_put 6 (some .int), Cond.fieldLink RX7 35 "TypeFlowModel" "came" "[I", Cond.fieldLink RX7 123 "TypeFlowModel" "high" "I", Cond.fieldLink RX7 38 "TypeFlowModel" "stack" "[I", Cond.methodLink RX7 126 yX7_push, Cond.instanceMethod yX7_push, Cond.selects RX7 yX7_push yX7_push, Cond.code yX7_push cX7_push 2 none, Cond.methodLink RX7 130 yX7_isOpen, Cond.instanceMethod yX7_isOpen, Cond.selects RX7 yX7_isOpen yX7_isOpen, Cond.code yX7_isOpen cX7_isOpen 2 (some .boolean)]
def wsX7_goes_r3 : List Cond := [Cond.methodLink RX7 119 yX7_made, Cond.instanceMethod yX7_made, Cond.selects RX7 yX7_made yX7_made, Cond.code yX7_made cX7_made 5 (some .int)]
def wsX7_goes : List Cond := .code yX7_goes cX7_goes 3 (some .int) :: ((wsX7_goes_r1 ++ (wsX7_goes_r2 ++ wsX7_goes_r3)) ++ wsX70)
def wsX7_commonOf_r1 : List Cond := [Cond.fieldLink RX7 23 "TypeFlowModel" "classes0" "[I", Cond.fieldLink RX7 17 "TypeFlowModel" "parent" "[I", Cond.methodLink RX7 110 yX7_isPrimitive, Cond.static yX7_isPrimitive, Cond.initialized RX7, Cond.code yX7_isPrimitive cX7_isPrimitive 1 (some .boolean), Cond.methodLink RX7 133 yX7_comesFrom, Cond.instanceMethod yX7_comesFrom, Cond.selects RX7 yX7_comesFrom yX7_comesFrom, Cond.code yX7_comesFrom cX7_comesFrom 4 (some .boolean), Cond.methodLink RX7 140 yX7_seenAs, Cond.instanceMethod yX7_seenAs, Cond.selects RX7 yX7_seenAs yX7_seenAs, Cond.code yX7_seenAs cX7_seenAs 4 (some .int), Cond.fieldLink RX7 26 "TypeFlowModel" "first" "[I", Cond.fieldLink RX7 29 "TypeFlowModel" "second" "[I", Cond.methodLink RX7 137 yX7_put, Cond.instanceMethod yX7_put, Cond.selects RX7 yX7_put yX7_put, Cond.code yX7_put cX7_put 6 (some .int), Cond.fieldLink RX7 35 "TypeFlowModel" "came" "[I", Cond.fieldLink RX7 123 "TypeFlowModel" "high" "I", Cond.fieldLink RX7 38 "TypeFlowModel" "stack" "[I", Cond.fieldLink RX7 32 "TypeFlowModel" "free" "[I"]
def wsX7_commonOf_r2 : List Cond := [Cond.methodLink RX7 126 yX7_push, Cond.instanceMethod yX7_push, Cond.selects RX7 yX7_push yX7_push, Cond.code yX7_push cX7_push 2 none, Cond.methodLink RX7 130 yX7_isOpen, Cond.instanceMethod yX7_isOpen, Cond.selects RX7 yX7_isOpen yX7_isOpen, Cond.code yX7_isOpen cX7_isOpen 2 (some .boolean), Cond.methodLink RX7 119 yX7_made, Cond.instanceMethod yX7_made, Cond.selects RX7 yX7_made yX7_made, Cond.code yX7_made cX7_made 5 (some .int), Cond.fieldLink RX7 20 "TypeFlowModel" "types" "I"]
def wsX7_commonOf : List Cond := .code yX7_commonOf cX7_commonOf 6 (some .int) :: ((wsX7_commonOf_r1 ++ wsX7_commonOf_r2) ++ wsX70)
def wsX7_common_r1 : List Cond := [Cond.methodLink RX7 144 yX7_isClosed, Cond.instanceMethod yX7_isClosed, Cond.selects RX7 yX7_isClosed yX7_isClosed, Cond.initialized RX7, Cond.code yX7_isClosed cX7_isClosed 2 (some .boolean), Cond.fieldLink RX7 32 "TypeFlowModel" "free" "[I", Cond.methodLink RX7 103 yX7_isType, Cond.instanceMethod yX7_isType, Cond.selects RX7 yX7_isType yX7_isType, Cond.code yX7_isType cX7_isType 2 (some .boolean), Cond.fieldLink RX7 20 "TypeFlowModel" "types" "I", Cond.methodLink RX7 99 yX7_isIn, Cond.static yX7_isIn, Cond.code yX7_isIn cX7_isIn 3 (some .boolean), Cond.methodLink RX7 150 yX7_commonOf, Cond.instanceMethod yX7_commonOf, Cond.selects RX7 yX7_commonOf yX7_commonOf, Cond.code yX7_commonOf cX7_commonOf 6 (some .int), Cond.fieldLink RX7 23 "TypeFlowModel" "classes0" "[I", Cond.fieldLink RX7 17 "TypeFlowModel" "parent" "[I", Cond.methodLink RX7 110 yX7_isPrimitive, Cond.static yX7_isPrimitive, Cond.code yX7_isPrimitive cX7_isPrimitive 1 (some .boolean), Cond.methodLink RX7 133 yX7_comesFrom]
def wsX7_common_r2 : List Cond := [Cond.instanceMethod yX7_comesFrom, Cond.selects RX7 yX7_comesFrom yX7_comesFrom, Cond.code yX7_comesFrom cX7_comesFrom 4 (some .boolean), Cond.methodLink RX7 140 yX7_seenAs, Cond.instanceMethod yX7_seenAs, Cond.selects RX7 yX7_seenAs yX7_seenAs, Cond.code yX7_seenAs cX7_seenAs 4 (some .int), Cond.fieldLink RX7 26 "TypeFlowModel" "first" "[I", Cond.fieldLink RX7 29 "TypeFlowModel" "second" "[I", Cond.methodLink RX7 137 yX7_put, Cond.instanceMethod yX7_put, Cond.selects RX7 yX7_put yX7_put, Cond.code yX7_put cX7_put 6 (some .int), Cond.fieldLink RX7 35 "TypeFlowModel" "came" "[I", Cond.fieldLink RX7 123 "TypeFlowModel" "high" "I", Cond.fieldLink RX7 38 "TypeFlowModel" "stack" "[I", Cond.methodLink RX7 126 yX7_push, Cond.instanceMethod yX7_push, Cond.selects RX7 yX7_push yX7_push, Cond.code yX7_push cX7_push 2 none, Cond.methodLink RX7 130 yX7_isOpen, Cond.instanceMethod yX7_isOpen, Cond.selects RX7 yX7_isOpen yX7_isOpen, Cond.code yX7_isOpen cX7_isOpen 2 (some .boolean)]
def wsX7_common_r3 : List Cond := [Cond.methodLink RX7 119 yX7_made, Cond.instanceMethod yX7_made, Cond.selects RX7 yX7_made yX7_made, Cond.code yX7_made cX7_made 5 (some .int)]
def wsX7_common : List Cond := .code yX7_common cX7_common 3 (some .int) :: ((wsX7_common_r1 ++ (wsX7_common_r2 ++ wsX7_common_r3)) ++ wsX70)
def wsX7_member : List Cond := .code yX7_member cX7_member 3 (some .int) :: ([.fieldLink RX7 32 "TypeFlowModel" "free" "[I", .fieldLink RX7 13 "TypeFlowModel" "variables" "[I", .fieldLink RX7 153 "TypeFlowModel" "members" "I", .fieldLink RX7 41 "TypeFlowModel" "memberClass" "[I", .fieldLink RX7 44 "TypeFlowModel" "memberType" "[I", .methodLink RX7 113 yX7_isClass, .instanceMethod yX7_isClass, .selects RX7 yX7_isClass yX7_isClass, .initialized RX7, .code yX7_isClass cX7_isClass 2 (some .boolean), .fieldLink RX7 7 "TypeFlowModel" "classes" "I", .methodLink RX7 99 yX7_isIn, .static yX7_isIn, .code yX7_isIn cX7_isIn 3 (some .boolean), .methodLink RX7 103 yX7_isType, .instanceMethod yX7_isType, .selects RX7 yX7_isType yX7_isType, .code yX7_isType cX7_isType 2 (some .boolean), .fieldLink RX7 20 "TypeFlowModel" "types" "I"] ++ wsX70)
def wsX7_function : List Cond := .code yX7_function cX7_function 4 (some .int) :: ([.fieldLink RX7 156 "TypeFlowModel" "functions" "I", .fieldLink RX7 47 "TypeFlowModel" "one" "[I", .fieldLink RX7 50 "TypeFlowModel" "two" "[I", .fieldLink RX7 53 "TypeFlowModel" "result" "[I", .fieldLink RX7 56 "TypeFlowModel" "bounds" "[I", .methodLink RX7 103 yX7_isType, .instanceMethod yX7_isType, .selects RX7 yX7_isType yX7_isType, .initialized RX7, .code yX7_isType cX7_isType 2 (some .boolean), .fieldLink RX7 20 "TypeFlowModel" "types" "I", .methodLink RX7 99 yX7_isIn, .static yX7_isIn, .code yX7_isIn cX7_isIn 3 (some .boolean)] ++ wsX70)
def wsX7_bound : List Cond := .code yX7_bound cX7_bound 4 (some .int) :: ([.fieldLink RX7 156 "TypeFlowModel" "functions" "I", .fieldLink RX7 56 "TypeFlowModel" "bounds" "[I", .methodLink RX7 99 yX7_isIn, .static yX7_isIn, .initialized RX7, .code yX7_isIn cX7_isIn 3 (some .boolean), .methodLink RX7 107 yX7_isClassType, .instanceMethod yX7_isClassType, .selects RX7 yX7_isClassType yX7_isClassType, .code yX7_isClassType cX7_isClassType 2 (some .boolean), .fieldLink RX7 20 "TypeFlowModel" "types" "I", .methodLink RX7 144 yX7_isClosed, .instanceMethod yX7_isClosed, .selects RX7 yX7_isClosed yX7_isClosed, .code yX7_isClosed cX7_isClosed 2 (some .boolean), .fieldLink RX7 32 "TypeFlowModel" "free" "[I", .methodLink RX7 103 yX7_isType, .instanceMethod yX7_isType, .selects RX7 yX7_isType yX7_isType, .code yX7_isType cX7_isType 2 (some .boolean)] ++ wsX70)
def wsX7_fails : List Cond := .code yX7_fails cX7_fails 2 (some .boolean) :: ([.fieldLink RX7 159 "TypeFlowModel" "reason" "I"] ++ wsX70)
def wsX7_binds : List Cond := .code yX7_binds cX7_binds 3 (some .boolean) :: ([.fieldLink RX7 59 "TypeFlowModel" "bindings" "[I", .methodLink RX7 162 yX7_fails, .instanceMethod yX7_fails, .selects RX7 yX7_fails yX7_fails, .initialized RX7, .code yX7_fails cX7_fails 2 (some .boolean), .fieldLink RX7 159 "TypeFlowModel" "reason" "I"] ++ wsX70)
def wsX7_holdPair : List Cond := .code yX7_holdPair cX7_holdPair 3 none :: ([.fieldLink RX7 62 "TypeFlowModel" "held" "[I", .fieldLink RX7 165 "TypeFlowModel" "pairs" "I"] ++ wsX70)
def wsX7_holds : List Cond := .code yX7_holds cX7_holds 5 (some .boolean) :: ([.fieldLink RX7 65 "TypeFlowModel" "wasHeld" "[Z", .fieldLink RX7 165 "TypeFlowModel" "pairs" "I", .fieldLink RX7 62 "TypeFlowModel" "held" "[I", .fieldLink RX7 23 "TypeFlowModel" "classes0" "[I", .fieldLink RX7 29 "TypeFlowModel" "second" "[I", .fieldLink RX7 26 "TypeFlowModel" "first" "[I", .methodLink RX7 168 yX7_holdPair, .instanceMethod yX7_holdPair, .selects RX7 yX7_holdPair yX7_holdPair, .initialized RX7, .code yX7_holdPair cX7_holdPair 3 none, .methodLink RX7 172 yX7_binds, .instanceMethod yX7_binds, .selects RX7 yX7_binds yX7_binds, .code yX7_binds cX7_binds 3 (some .boolean), .fieldLink RX7 59 "TypeFlowModel" "bindings" "[I", .methodLink RX7 162 yX7_fails, .instanceMethod yX7_fails, .selects RX7 yX7_fails yX7_fails, .code yX7_fails cX7_fails 2 (some .boolean), .fieldLink RX7 159 "TypeFlowModel" "reason" "I"] ++ wsX70)
def wsX7_takes_r1 : List Cond := [Cond.fieldLink RX7 23 "TypeFlowModel" "classes0" "[I", Cond.methodLink RX7 110 yX7_isPrimitive, Cond.static yX7_isPrimitive, Cond.initialized RX7, Cond.code yX7_isPrimitive cX7_isPrimitive 1 (some .boolean), Cond.methodLink RX7 147 yX7_goesFor, Cond.instanceMethod yX7_goesFor, Cond.selects RX7 yX7_goesFor yX7_goesFor, Cond.code yX7_goesFor cX7_goesFor 4 (some .int), Cond.methodLink RX7 140 yX7_seenAs, Cond.instanceMethod yX7_seenAs, Cond.selects RX7 yX7_seenAs yX7_seenAs, Cond.code yX7_seenAs cX7_seenAs 4 (some .int), Cond.fieldLink RX7 17 "TypeFlowModel" "parent" "[I", Cond.fieldLink RX7 26 "TypeFlowModel" "first" "[I", Cond.fieldLink RX7 29 "TypeFlowModel" "second" "[I", Cond.methodLink RX7 133 yX7_comesFrom, Cond.instanceMethod yX7_comesFrom, Cond.selects RX7 yX7_comesFrom yX7_comesFrom, Cond.code yX7_comesFrom cX7_comesFrom 4 (some .boolean), Cond.methodLink RX7 137 yX7_put, Cond.instanceMethod yX7_put, Cond.selects RX7 yX7_put yX7_put, Cond.code yX7_put cX7_put 6 (some .int)]
def wsX7_takes_r2 : List Cond := [Cond.fieldLink RX7 35 "TypeFlowModel" "came" "[I", Cond.fieldLink RX7 123 "TypeFlowModel" "high" "I", Cond.fieldLink RX7 38 "TypeFlowModel" "stack" "[I", Cond.fieldLink RX7 32 "TypeFlowModel" "free" "[I", Cond.methodLink RX7 126 yX7_push, Cond.instanceMethod yX7_push, Cond.selects RX7 yX7_push yX7_push, Cond.code yX7_push cX7_push 2 none, Cond.methodLink RX7 130 yX7_isOpen, Cond.instanceMethod yX7_isOpen, Cond.selects RX7 yX7_isOpen yX7_isOpen, Cond.code yX7_isOpen cX7_isOpen 2 (some .boolean), Cond.methodLink RX7 119 yX7_made, Cond.instanceMethod yX7_made, Cond.selects RX7 yX7_made yX7_made, Cond.code yX7_made cX7_made 5 (some .int), Cond.fieldLink RX7 20 "TypeFlowModel" "types" "I", Cond.methodLink RX7 162 yX7_fails, Cond.instanceMethod yX7_fails, Cond.selects RX7 yX7_fails yX7_fails, Cond.code yX7_fails cX7_fails 2 (some .boolean), Cond.fieldLink RX7 159 "TypeFlowModel" "reason" "I", Cond.methodLink RX7 172 yX7_binds, Cond.instanceMethod yX7_binds]
def wsX7_takes_r3 : List Cond := [Cond.selects RX7 yX7_binds yX7_binds, Cond.code yX7_binds cX7_binds 3 (some .boolean), Cond.fieldLink RX7 59 "TypeFlowModel" "bindings" "[I", Cond.methodLink RX7 175 yX7_holds, Cond.instanceMethod yX7_holds, Cond.selects RX7 yX7_holds yX7_holds, Cond.code yX7_holds cX7_holds 5 (some .boolean), Cond.fieldLink RX7 65 "TypeFlowModel" "wasHeld" "[Z", Cond.fieldLink RX7 165 "TypeFlowModel" "pairs" "I", Cond.fieldLink RX7 62 "TypeFlowModel" "held" "[I", Cond.methodLink RX7 168 yX7_holdPair, Cond.instanceMethod yX7_holdPair, Cond.selects RX7 yX7_holdPair yX7_holdPair, Cond.code yX7_holdPair cX7_holdPair 3 none]
def wsX7_takes : List Cond := .code yX7_takes cX7_takes 4 (some .boolean) :: ((wsX7_takes_r1 ++ (wsX7_takes_r2 ++ wsX7_takes_r3)) ++ wsX70)
def wsX7_orRoom : List Cond := .code yX7_orRoom cX7_orRoom 2 (some .int) :: ([.fieldLink RX7 159 "TypeFlowModel" "reason" "I"] ++ wsX70)
def wsX7_putTo_r1 : List Cond := [Cond.fieldLink RX7 59 "TypeFlowModel" "bindings" "[I", Cond.fieldLink RX7 47 "TypeFlowModel" "one" "[I", Cond.fieldLink RX7 50 "TypeFlowModel" "two" "[I", Cond.fieldLink RX7 56 "TypeFlowModel" "bounds" "[I", Cond.fieldLink RX7 159 "TypeFlowModel" "reason" "I", Cond.fieldLink RX7 32 "TypeFlowModel" "free" "[I", Cond.fieldLink RX7 53 "TypeFlowModel" "result" "[I", Cond.methodLink RX7 178 yX7_takes, Cond.instanceMethod yX7_takes, Cond.selects RX7 yX7_takes yX7_takes, Cond.initialized RX7, Cond.code yX7_takes cX7_takes 4 (some .boolean), Cond.fieldLink RX7 23 "TypeFlowModel" "classes0" "[I", Cond.methodLink RX7 110 yX7_isPrimitive, Cond.static yX7_isPrimitive, Cond.code yX7_isPrimitive cX7_isPrimitive 1 (some .boolean), Cond.methodLink RX7 147 yX7_goesFor, Cond.instanceMethod yX7_goesFor, Cond.selects RX7 yX7_goesFor yX7_goesFor, Cond.code yX7_goesFor cX7_goesFor 4 (some .int), Cond.methodLink RX7 140 yX7_seenAs, Cond.instanceMethod yX7_seenAs, Cond.selects RX7 yX7_seenAs yX7_seenAs, Cond.code yX7_seenAs cX7_seenAs 4 (some .int)]
def wsX7_putTo_r2 : List Cond := [Cond.fieldLink RX7 17 "TypeFlowModel" "parent" "[I", Cond.fieldLink RX7 26 "TypeFlowModel" "first" "[I", Cond.fieldLink RX7 29 "TypeFlowModel" "second" "[I", Cond.methodLink RX7 133 yX7_comesFrom, Cond.instanceMethod yX7_comesFrom, Cond.selects RX7 yX7_comesFrom yX7_comesFrom, Cond.code yX7_comesFrom cX7_comesFrom 4 (some .boolean), Cond.methodLink RX7 137 yX7_put, Cond.instanceMethod yX7_put, Cond.selects RX7 yX7_put yX7_put, Cond.code yX7_put cX7_put 6 (some .int), Cond.fieldLink RX7 35 "TypeFlowModel" "came" "[I", Cond.fieldLink RX7 123 "TypeFlowModel" "high" "I", Cond.fieldLink RX7 38 "TypeFlowModel" "stack" "[I", Cond.methodLink RX7 126 yX7_push, Cond.instanceMethod yX7_push, Cond.selects RX7 yX7_push yX7_push, Cond.code yX7_push cX7_push 2 none, Cond.methodLink RX7 130 yX7_isOpen, Cond.instanceMethod yX7_isOpen, Cond.selects RX7 yX7_isOpen yX7_isOpen, Cond.code yX7_isOpen cX7_isOpen 2 (some .boolean), Cond.methodLink RX7 119 yX7_made, Cond.instanceMethod yX7_made]
def wsX7_putTo_r3 : List Cond := [Cond.selects RX7 yX7_made yX7_made, Cond.code yX7_made cX7_made 5 (some .int), Cond.fieldLink RX7 20 "TypeFlowModel" "types" "I", Cond.methodLink RX7 162 yX7_fails, Cond.instanceMethod yX7_fails, Cond.selects RX7 yX7_fails yX7_fails, Cond.code yX7_fails cX7_fails 2 (some .boolean), Cond.methodLink RX7 172 yX7_binds, Cond.instanceMethod yX7_binds, Cond.selects RX7 yX7_binds yX7_binds, Cond.code yX7_binds cX7_binds 3 (some .boolean), Cond.methodLink RX7 175 yX7_holds, Cond.instanceMethod yX7_holds, Cond.selects RX7 yX7_holds yX7_holds, Cond.code yX7_holds cX7_holds 5 (some .boolean), Cond.fieldLink RX7 65 "TypeFlowModel" "wasHeld" "[Z", Cond.fieldLink RX7 165 "TypeFlowModel" "pairs" "I", Cond.fieldLink RX7 62 "TypeFlowModel" "held" "[I", Cond.methodLink RX7 168 yX7_holdPair, Cond.instanceMethod yX7_holdPair, Cond.selects RX7 yX7_holdPair yX7_holdPair, Cond.code yX7_holdPair cX7_holdPair 3 none, Cond.methodLink RX7 181 yX7_orRoom, Cond.instanceMethod yX7_orRoom]
def wsX7_putTo_r4 : List Cond := [Cond.selects RX7 yX7_orRoom yX7_orRoom, Cond.code yX7_orRoom cX7_orRoom 2 (some .int)]
def wsX7_putTo : List Cond := .code yX7_putTo cX7_putTo 6 (some .int) :: ((wsX7_putTo_r1 ++ (wsX7_putTo_r2 ++ (wsX7_putTo_r3 ++ wsX7_putTo_r4))) ++ wsX70)
def wsX7_memberOf_r1 : List Cond := [Cond.fieldLink RX7 41 "TypeFlowModel" "memberClass" "[I", Cond.fieldLink RX7 159 "TypeFlowModel" "reason" "I", Cond.fieldLink RX7 44 "TypeFlowModel" "memberType" "[I", Cond.fieldLink RX7 26 "TypeFlowModel" "first" "[I", Cond.fieldLink RX7 29 "TypeFlowModel" "second" "[I", Cond.methodLink RX7 110 yX7_isPrimitive, Cond.static yX7_isPrimitive, Cond.initialized RX7, Cond.code yX7_isPrimitive cX7_isPrimitive 1 (some .boolean), Cond.methodLink RX7 140 yX7_seenAs, Cond.instanceMethod yX7_seenAs, Cond.selects RX7 yX7_seenAs yX7_seenAs, Cond.code yX7_seenAs cX7_seenAs 4 (some .int), Cond.fieldLink RX7 23 "TypeFlowModel" "classes0" "[I", Cond.fieldLink RX7 17 "TypeFlowModel" "parent" "[I", Cond.methodLink RX7 133 yX7_comesFrom, Cond.instanceMethod yX7_comesFrom, Cond.selects RX7 yX7_comesFrom yX7_comesFrom, Cond.code yX7_comesFrom cX7_comesFrom 4 (some .boolean), Cond.methodLink RX7 137 yX7_put, Cond.instanceMethod yX7_put, Cond.selects RX7 yX7_put yX7_put, Cond.code yX7_put cX7_put 6 (some .int), Cond.fieldLink RX7 35 "TypeFlowModel" "came" "[I"]
def wsX7_memberOf_r2 : List Cond := [Cond.fieldLink RX7 123 "TypeFlowModel" "high" "I", Cond.fieldLink RX7 38 "TypeFlowModel" "stack" "[I", Cond.fieldLink RX7 32 "TypeFlowModel" "free" "[I", Cond.methodLink RX7 126 yX7_push, Cond.instanceMethod yX7_push, Cond.selects RX7 yX7_push yX7_push, Cond.code yX7_push cX7_push 2 none, Cond.methodLink RX7 130 yX7_isOpen, Cond.instanceMethod yX7_isOpen, Cond.selects RX7 yX7_isOpen yX7_isOpen, Cond.code yX7_isOpen cX7_isOpen 2 (some .boolean), Cond.methodLink RX7 119 yX7_made, Cond.instanceMethod yX7_made, Cond.selects RX7 yX7_made yX7_made, Cond.code yX7_made cX7_made 5 (some .int), Cond.fieldLink RX7 20 "TypeFlowModel" "types" "I", Cond.methodLink RX7 181 yX7_orRoom, Cond.instanceMethod yX7_orRoom, Cond.selects RX7 yX7_orRoom yX7_orRoom, Cond.code yX7_orRoom cX7_orRoom 2 (some .int)]
def wsX7_memberOf : List Cond := .code yX7_memberOf cX7_memberOf 4 (some .int) :: ((wsX7_memberOf_r1 ++ wsX7_memberOf_r2) ++ wsX70)
def wsX7_isFunction : List Cond := .code yX7_isFunction cX7_isFunction 3 (some .boolean) :: ([.fieldLink RX7 156 "TypeFlowModel" "functions" "I", .fieldLink RX7 50 "TypeFlowModel" "two" "[I", .methodLink RX7 99 yX7_isIn, .static yX7_isIn, .initialized RX7, .code yX7_isIn cX7_isIn 3 (some .boolean)] ++ wsX70)
def wsX7_isRight_r1 : List Cond := [Cond.fieldLink RX7 153 "TypeFlowModel" "members" "I", Cond.fieldLink RX7 13 "TypeFlowModel" "variables" "[I", Cond.methodLink RX7 144 yX7_isClosed, Cond.instanceMethod yX7_isClosed, Cond.selects RX7 yX7_isClosed yX7_isClosed, Cond.initialized RX7, Cond.code yX7_isClosed cX7_isClosed 2 (some .boolean), Cond.fieldLink RX7 32 "TypeFlowModel" "free" "[I", Cond.methodLink RX7 103 yX7_isType, Cond.instanceMethod yX7_isType, Cond.selects RX7 yX7_isType yX7_isType, Cond.code yX7_isType cX7_isType 2 (some .boolean), Cond.fieldLink RX7 20 "TypeFlowModel" "types" "I", Cond.methodLink RX7 99 yX7_isIn, Cond.static yX7_isIn, Cond.code yX7_isIn cX7_isIn 3 (some .boolean), Cond.methodLink RX7 185 yX7_isFunction, Cond.instanceMethod yX7_isFunction, Cond.selects RX7 yX7_isFunction yX7_isFunction, Cond.code yX7_isFunction cX7_isFunction 3 (some .boolean), Cond.fieldLink RX7 156 "TypeFlowModel" "functions" "I", Cond.fieldLink RX7 50 "TypeFlowModel" "two" "[I", Cond.methodLink RX7 113 yX7_isClass, Cond.instanceMethod yX7_isClass]
def wsX7_isRight_r2 : List Cond := [Cond.selects RX7 yX7_isClass yX7_isClass, Cond.code yX7_isClass cX7_isClass 2 (some .boolean), Cond.fieldLink RX7 7 "TypeFlowModel" "classes" "I"]
def wsX7_isRight : List Cond := .code yX7_isRight cX7_isRight 5 (some .boolean) :: ((wsX7_isRight_r1 ++ wsX7_isRight_r2) ++ wsX70)
def wsX7_operator_r1 : List Cond := [Cond.fieldLink RX7 189 "TypeFlowModel" "operators" "I", Cond.fieldLink RX7 69 "TypeFlowModel" "kind" "[I", Cond.fieldLink RX7 72 "TypeFlowModel" "in" "[I", Cond.fieldLink RX7 75 "TypeFlowModel" "other" "[I", Cond.fieldLink RX7 78 "TypeFlowModel" "by" "[I", Cond.fieldLink RX7 81 "TypeFlowModel" "byToo" "[I", Cond.fieldLink RX7 84 "TypeFlowModel" "of" "[I", Cond.fieldLink RX7 87 "TypeFlowModel" "comes" "[I", Cond.fieldLink RX7 90 "TypeFlowModel" "reasons" "[I", Cond.fieldLink RX7 93 "TypeFlowModel" "mayFail" "[Z", Cond.fieldLink RX7 96 "TypeFlowModel" "bound" "[I", Cond.methodLink RX7 99 yX7_isIn, Cond.static yX7_isIn, Cond.initialized RX7, Cond.code yX7_isIn cX7_isIn 3 (some .boolean), Cond.methodLink RX7 192 yX7_isRight, Cond.instanceMethod yX7_isRight, Cond.selects RX7 yX7_isRight yX7_isRight, Cond.code yX7_isRight cX7_isRight 5 (some .boolean), Cond.fieldLink RX7 153 "TypeFlowModel" "members" "I", Cond.fieldLink RX7 13 "TypeFlowModel" "variables" "[I", Cond.methodLink RX7 144 yX7_isClosed, Cond.instanceMethod yX7_isClosed, Cond.selects RX7 yX7_isClosed yX7_isClosed]
def wsX7_operator_r2 : List Cond := [Cond.code yX7_isClosed cX7_isClosed 2 (some .boolean), Cond.fieldLink RX7 32 "TypeFlowModel" "free" "[I", Cond.methodLink RX7 103 yX7_isType, Cond.instanceMethod yX7_isType, Cond.selects RX7 yX7_isType yX7_isType, Cond.code yX7_isType cX7_isType 2 (some .boolean), Cond.fieldLink RX7 20 "TypeFlowModel" "types" "I", Cond.methodLink RX7 185 yX7_isFunction, Cond.instanceMethod yX7_isFunction, Cond.selects RX7 yX7_isFunction yX7_isFunction, Cond.code yX7_isFunction cX7_isFunction 3 (some .boolean), Cond.fieldLink RX7 156 "TypeFlowModel" "functions" "I", Cond.fieldLink RX7 50 "TypeFlowModel" "two" "[I", Cond.methodLink RX7 113 yX7_isClass, Cond.instanceMethod yX7_isClass, Cond.selects RX7 yX7_isClass yX7_isClass, Cond.code yX7_isClass cX7_isClass 2 (some .boolean), Cond.fieldLink RX7 7 "TypeFlowModel" "classes" "I"]
def wsX7_operator : List Cond := .code yX7_operator cX7_operator 9 (some .int) :: ((wsX7_operator_r1 ++ wsX7_operator_r2) ++ wsX70)
def wsX7_clear : List Cond := .code yX7_clear cX7_clear 2 (some .int) :: ([.fieldLink RX7 189 "TypeFlowModel" "operators" "I"] ++ wsX70)
def wsX7_areKeys_r1 : List Cond := [Cond.methodLink RX7 147 yX7_goesFor, Cond.instanceMethod yX7_goesFor, Cond.selects RX7 yX7_goesFor yX7_goesFor, Cond.initialized RX7, Cond.code yX7_goesFor cX7_goesFor 4 (some .int), Cond.fieldLink RX7 23 "TypeFlowModel" "classes0" "[I", Cond.methodLink RX7 110 yX7_isPrimitive, Cond.static yX7_isPrimitive, Cond.code yX7_isPrimitive cX7_isPrimitive 1 (some .boolean), Cond.methodLink RX7 140 yX7_seenAs, Cond.instanceMethod yX7_seenAs, Cond.selects RX7 yX7_seenAs yX7_seenAs, Cond.code yX7_seenAs cX7_seenAs 4 (some .int), Cond.fieldLink RX7 17 "TypeFlowModel" "parent" "[I", Cond.fieldLink RX7 26 "TypeFlowModel" "first" "[I", Cond.fieldLink RX7 29 "TypeFlowModel" "second" "[I", Cond.methodLink RX7 133 yX7_comesFrom, Cond.instanceMethod yX7_comesFrom, Cond.selects RX7 yX7_comesFrom yX7_comesFrom, Cond.code yX7_comesFrom cX7_comesFrom 4 (some .boolean), Cond.methodLink RX7 137 yX7_put, Cond.instanceMethod yX7_put, Cond.selects RX7 yX7_put yX7_put, Cond.code yX7_put cX7_put 6 (some .int)]
def wsX7_areKeys_r2 : List Cond := [Cond.fieldLink RX7 35 "TypeFlowModel" "came" "[I", Cond.fieldLink RX7 123 "TypeFlowModel" "high" "I", Cond.fieldLink RX7 38 "TypeFlowModel" "stack" "[I", Cond.fieldLink RX7 32 "TypeFlowModel" "free" "[I", Cond.methodLink RX7 126 yX7_push, Cond.instanceMethod yX7_push, Cond.selects RX7 yX7_push yX7_push, Cond.code yX7_push cX7_push 2 none, Cond.methodLink RX7 130 yX7_isOpen, Cond.instanceMethod yX7_isOpen, Cond.selects RX7 yX7_isOpen yX7_isOpen, Cond.code yX7_isOpen cX7_isOpen 2 (some .boolean), Cond.methodLink RX7 119 yX7_made, Cond.instanceMethod yX7_made, Cond.selects RX7 yX7_made yX7_made, Cond.code yX7_made cX7_made 5 (some .int), Cond.fieldLink RX7 20 "TypeFlowModel" "types" "I", Cond.methodLink RX7 162 yX7_fails, Cond.instanceMethod yX7_fails, Cond.selects RX7 yX7_fails yX7_fails, Cond.code yX7_fails cX7_fails 2 (some .boolean), Cond.fieldLink RX7 159 "TypeFlowModel" "reason" "I"]
def wsX7_areKeys : List Cond := .code yX7_areKeys cX7_areKeys 4 (some .boolean) :: ((wsX7_areKeys_r1 ++ wsX7_areKeys_r2) ++ wsX70)
def wsX7_joined_r1 : List Cond := [Cond.fieldLink RX7 78 "TypeFlowModel" "by" "[I", Cond.fieldLink RX7 81 "TypeFlowModel" "byToo" "[I", Cond.fieldLink RX7 84 "TypeFlowModel" "of" "[I", Cond.methodLink RX7 196 yX7_memberOf, Cond.instanceMethod yX7_memberOf, Cond.selects RX7 yX7_memberOf yX7_memberOf, Cond.initialized RX7, Cond.code yX7_memberOf cX7_memberOf 4 (some .int), Cond.fieldLink RX7 41 "TypeFlowModel" "memberClass" "[I", Cond.fieldLink RX7 159 "TypeFlowModel" "reason" "I", Cond.fieldLink RX7 44 "TypeFlowModel" "memberType" "[I", Cond.fieldLink RX7 26 "TypeFlowModel" "first" "[I", Cond.fieldLink RX7 29 "TypeFlowModel" "second" "[I", Cond.methodLink RX7 110 yX7_isPrimitive, Cond.static yX7_isPrimitive, Cond.code yX7_isPrimitive cX7_isPrimitive 1 (some .boolean), Cond.methodLink RX7 140 yX7_seenAs, Cond.instanceMethod yX7_seenAs, Cond.selects RX7 yX7_seenAs yX7_seenAs, Cond.code yX7_seenAs cX7_seenAs 4 (some .int), Cond.fieldLink RX7 23 "TypeFlowModel" "classes0" "[I", Cond.fieldLink RX7 17 "TypeFlowModel" "parent" "[I", Cond.methodLink RX7 133 yX7_comesFrom, Cond.instanceMethod yX7_comesFrom]
def wsX7_joined_r2 : List Cond := [Cond.selects RX7 yX7_comesFrom yX7_comesFrom, Cond.code yX7_comesFrom cX7_comesFrom 4 (some .boolean), Cond.methodLink RX7 137 yX7_put, Cond.instanceMethod yX7_put, Cond.selects RX7 yX7_put yX7_put, Cond.code yX7_put cX7_put 6 (some .int), Cond.fieldLink RX7 35 "TypeFlowModel" "came" "[I", Cond.fieldLink RX7 123 "TypeFlowModel" "high" "I", Cond.fieldLink RX7 38 "TypeFlowModel" "stack" "[I", Cond.fieldLink RX7 32 "TypeFlowModel" "free" "[I", Cond.methodLink RX7 126 yX7_push, Cond.instanceMethod yX7_push, Cond.selects RX7 yX7_push yX7_push, Cond.code yX7_push cX7_push 2 none, Cond.methodLink RX7 130 yX7_isOpen, Cond.instanceMethod yX7_isOpen, Cond.selects RX7 yX7_isOpen yX7_isOpen, Cond.code yX7_isOpen cX7_isOpen 2 (some .boolean), Cond.methodLink RX7 119 yX7_made, Cond.instanceMethod yX7_made, Cond.selects RX7 yX7_made yX7_made, Cond.code yX7_made cX7_made 5 (some .int), Cond.fieldLink RX7 20 "TypeFlowModel" "types" "I", Cond.methodLink RX7 181 yX7_orRoom]
def wsX7_joined_r3 : List Cond := [Cond.instanceMethod yX7_orRoom, Cond.selects RX7 yX7_orRoom yX7_orRoom, Cond.code yX7_orRoom cX7_orRoom 2 (some .int), Cond.methodLink RX7 199 yX7_areKeys, Cond.instanceMethod yX7_areKeys, Cond.selects RX7 yX7_areKeys yX7_areKeys, Cond.code yX7_areKeys cX7_areKeys 4 (some .boolean), Cond.methodLink RX7 147 yX7_goesFor, Cond.instanceMethod yX7_goesFor, Cond.selects RX7 yX7_goesFor yX7_goesFor, Cond.code yX7_goesFor cX7_goesFor 4 (some .int), Cond.methodLink RX7 162 yX7_fails, Cond.instanceMethod yX7_fails, Cond.selects RX7 yX7_fails yX7_fails, Cond.code yX7_fails cX7_fails 2 (some .boolean)]
def wsX7_joined : List Cond := .code yX7_joined cX7_joined 6 (some .int) :: ((wsX7_joined_r1 ++ (wsX7_joined_r2 ++ wsX7_joined_r3)) ++ wsX70)
def wsX7_castOf_r1 : List Cond := [Cond.fieldLink RX7 78 "TypeFlowModel" "by" "[I", Cond.fieldLink RX7 93 "TypeFlowModel" "mayFail" "[Z", Cond.fieldLink RX7 159 "TypeFlowModel" "reason" "I", Cond.methodLink RX7 147 yX7_goesFor, Cond.instanceMethod yX7_goesFor, Cond.selects RX7 yX7_goesFor yX7_goesFor, Cond.initialized RX7, Cond.code yX7_goesFor cX7_goesFor 4 (some .int), Cond.fieldLink RX7 23 "TypeFlowModel" "classes0" "[I", Cond.methodLink RX7 110 yX7_isPrimitive, Cond.static yX7_isPrimitive, Cond.code yX7_isPrimitive cX7_isPrimitive 1 (some .boolean), Cond.methodLink RX7 140 yX7_seenAs, Cond.instanceMethod yX7_seenAs, Cond.selects RX7 yX7_seenAs yX7_seenAs, Cond.code yX7_seenAs cX7_seenAs 4 (some .int), Cond.fieldLink RX7 17 "TypeFlowModel" "parent" "[I", Cond.fieldLink RX7 26 "TypeFlowModel" "first" "[I", Cond.fieldLink RX7 29 "TypeFlowModel" "second" "[I", Cond.methodLink RX7 133 yX7_comesFrom, Cond.instanceMethod yX7_comesFrom, Cond.selects RX7 yX7_comesFrom yX7_comesFrom, Cond.code yX7_comesFrom cX7_comesFrom 4 (some .boolean), Cond.methodLink RX7 137 yX7_put]
def wsX7_castOf_r2 : List Cond := [Cond.instanceMethod yX7_put, Cond.selects RX7 yX7_put yX7_put, Cond.code yX7_put cX7_put 6 (some .int), Cond.fieldLink RX7 35 "TypeFlowModel" "came" "[I", Cond.fieldLink RX7 123 "TypeFlowModel" "high" "I", Cond.fieldLink RX7 38 "TypeFlowModel" "stack" "[I", Cond.fieldLink RX7 32 "TypeFlowModel" "free" "[I", Cond.methodLink RX7 126 yX7_push, Cond.instanceMethod yX7_push, Cond.selects RX7 yX7_push yX7_push, Cond.code yX7_push cX7_push 2 none, Cond.methodLink RX7 130 yX7_isOpen, Cond.instanceMethod yX7_isOpen, Cond.selects RX7 yX7_isOpen yX7_isOpen, Cond.code yX7_isOpen cX7_isOpen 2 (some .boolean), Cond.methodLink RX7 119 yX7_made, Cond.instanceMethod yX7_made, Cond.selects RX7 yX7_made yX7_made, Cond.code yX7_made cX7_made 5 (some .int), Cond.fieldLink RX7 20 "TypeFlowModel" "types" "I", Cond.methodLink RX7 99 yX7_isIn, Cond.static yX7_isIn, Cond.code yX7_isIn cX7_isIn 3 (some .boolean)]
def wsX7_castOf : List Cond := .code yX7_castOf cX7_castOf 5 (some .int) :: ((wsX7_castOf_r1 ++ wsX7_castOf_r2) ++ wsX70)
def wsX7_work_r1 : List Cond := [Cond.fieldLink RX7 69 "TypeFlowModel" "kind" "[I", Cond.fieldLink RX7 87 "TypeFlowModel" "comes" "[I", Cond.fieldLink RX7 72 "TypeFlowModel" "in" "[I", Cond.fieldLink RX7 75 "TypeFlowModel" "other" "[I", Cond.fieldLink RX7 159 "TypeFlowModel" "reason" "I", Cond.fieldLink RX7 78 "TypeFlowModel" "by" "[I", Cond.methodLink RX7 99 yX7_isIn, Cond.static yX7_isIn, Cond.initialized RX7, Cond.code yX7_isIn cX7_isIn 3 (some .boolean), Cond.methodLink RX7 202 yX7_putTo, Cond.instanceMethod yX7_putTo, Cond.selects RX7 yX7_putTo yX7_putTo, Cond.code yX7_putTo cX7_putTo 6 (some .int), Cond.fieldLink RX7 59 "TypeFlowModel" "bindings" "[I", Cond.fieldLink RX7 47 "TypeFlowModel" "one" "[I", Cond.fieldLink RX7 50 "TypeFlowModel" "two" "[I", Cond.fieldLink RX7 56 "TypeFlowModel" "bounds" "[I", Cond.fieldLink RX7 32 "TypeFlowModel" "free" "[I", Cond.fieldLink RX7 53 "TypeFlowModel" "result" "[I", Cond.methodLink RX7 178 yX7_takes, Cond.instanceMethod yX7_takes, Cond.selects RX7 yX7_takes yX7_takes, Cond.code yX7_takes cX7_takes 4 (some .boolean)]
def wsX7_work_r2 : List Cond := [Cond.fieldLink RX7 23 "TypeFlowModel" "classes0" "[I", Cond.methodLink RX7 110 yX7_isPrimitive, Cond.static yX7_isPrimitive, Cond.code yX7_isPrimitive cX7_isPrimitive 1 (some .boolean), Cond.methodLink RX7 147 yX7_goesFor, Cond.instanceMethod yX7_goesFor, Cond.selects RX7 yX7_goesFor yX7_goesFor, Cond.code yX7_goesFor cX7_goesFor 4 (some .int), Cond.methodLink RX7 140 yX7_seenAs, Cond.instanceMethod yX7_seenAs, Cond.selects RX7 yX7_seenAs yX7_seenAs, Cond.code yX7_seenAs cX7_seenAs 4 (some .int), Cond.fieldLink RX7 17 "TypeFlowModel" "parent" "[I", Cond.fieldLink RX7 26 "TypeFlowModel" "first" "[I", Cond.fieldLink RX7 29 "TypeFlowModel" "second" "[I", Cond.methodLink RX7 133 yX7_comesFrom, Cond.instanceMethod yX7_comesFrom, Cond.selects RX7 yX7_comesFrom yX7_comesFrom, Cond.code yX7_comesFrom cX7_comesFrom 4 (some .boolean), Cond.methodLink RX7 137 yX7_put, Cond.instanceMethod yX7_put, Cond.selects RX7 yX7_put yX7_put, Cond.code yX7_put cX7_put 6 (some .int), Cond.fieldLink RX7 35 "TypeFlowModel" "came" "[I"]
def wsX7_work_r3 : List Cond := [Cond.fieldLink RX7 123 "TypeFlowModel" "high" "I", Cond.fieldLink RX7 38 "TypeFlowModel" "stack" "[I", Cond.methodLink RX7 126 yX7_push, Cond.instanceMethod yX7_push, Cond.selects RX7 yX7_push yX7_push, Cond.code yX7_push cX7_push 2 none, Cond.methodLink RX7 130 yX7_isOpen, Cond.instanceMethod yX7_isOpen, Cond.selects RX7 yX7_isOpen yX7_isOpen, Cond.code yX7_isOpen cX7_isOpen 2 (some .boolean), Cond.methodLink RX7 119 yX7_made, Cond.instanceMethod yX7_made, Cond.selects RX7 yX7_made yX7_made, Cond.code yX7_made cX7_made 5 (some .int), Cond.fieldLink RX7 20 "TypeFlowModel" "types" "I", Cond.methodLink RX7 162 yX7_fails, Cond.instanceMethod yX7_fails, Cond.selects RX7 yX7_fails yX7_fails, Cond.code yX7_fails cX7_fails 2 (some .boolean), Cond.methodLink RX7 172 yX7_binds, Cond.instanceMethod yX7_binds, Cond.selects RX7 yX7_binds yX7_binds, Cond.code yX7_binds cX7_binds 3 (some .boolean), Cond.methodLink RX7 175 yX7_holds]
def wsX7_work_r4 : List Cond := [Cond.instanceMethod yX7_holds, Cond.selects RX7 yX7_holds yX7_holds, Cond.code yX7_holds cX7_holds 5 (some .boolean), Cond.fieldLink RX7 65 "TypeFlowModel" "wasHeld" "[Z", Cond.fieldLink RX7 165 "TypeFlowModel" "pairs" "I", Cond.fieldLink RX7 62 "TypeFlowModel" "held" "[I", Cond.methodLink RX7 168 yX7_holdPair, Cond.instanceMethod yX7_holdPair, Cond.selects RX7 yX7_holdPair yX7_holdPair, Cond.code yX7_holdPair cX7_holdPair 3 none, Cond.methodLink RX7 181 yX7_orRoom, Cond.instanceMethod yX7_orRoom, Cond.selects RX7 yX7_orRoom yX7_orRoom, Cond.code yX7_orRoom cX7_orRoom 2 (some .int), Cond.methodLink RX7 196 yX7_memberOf, Cond.instanceMethod yX7_memberOf, Cond.selects RX7 yX7_memberOf yX7_memberOf, Cond.code yX7_memberOf cX7_memberOf 4 (some .int), Cond.fieldLink RX7 41 "TypeFlowModel" "memberClass" "[I", Cond.fieldLink RX7 44 "TypeFlowModel" "memberType" "[I", Cond.methodLink RX7 150 yX7_commonOf, Cond.instanceMethod yX7_commonOf, Cond.selects RX7 yX7_commonOf yX7_commonOf, Cond.code yX7_commonOf cX7_commonOf 6 (some .int)]
def wsX7_work_r5 : List Cond := [Cond.methodLink RX7 205 yX7_joined, Cond.instanceMethod yX7_joined, Cond.selects RX7 yX7_joined yX7_joined, Cond.code yX7_joined cX7_joined 6 (some .int), Cond.fieldLink RX7 81 "TypeFlowModel" "byToo" "[I", Cond.fieldLink RX7 84 "TypeFlowModel" "of" "[I", Cond.methodLink RX7 199 yX7_areKeys, Cond.instanceMethod yX7_areKeys, Cond.selects RX7 yX7_areKeys yX7_areKeys, Cond.code yX7_areKeys cX7_areKeys 4 (some .boolean), Cond.methodLink RX7 208 yX7_castOf, Cond.instanceMethod yX7_castOf, Cond.selects RX7 yX7_castOf yX7_castOf, Cond.code yX7_castOf cX7_castOf 5 (some .int), Cond.fieldLink RX7 93 "TypeFlowModel" "mayFail" "[Z"]
def wsX7_work : List Cond := .code yX7_work cX7_work 6 (some .int) :: ((wsX7_work_r1 ++ (wsX7_work_r2 ++ (wsX7_work_r3 ++ (wsX7_work_r4 ++ wsX7_work_r5)))) ++ wsX70)
def wsX7_flow_r1 : List Cond := [Cond.fieldLink RX7 189 "TypeFlowModel" "operators" "I", Cond.fieldLink RX7 93 "TypeFlowModel" "mayFail" "[Z", Cond.fieldLink RX7 159 "TypeFlowModel" "reason" "I", Cond.fieldLink RX7 87 "TypeFlowModel" "comes" "[I", Cond.fieldLink RX7 90 "TypeFlowModel" "reasons" "[I", Cond.fieldLink RX7 69 "TypeFlowModel" "kind" "[I", Cond.fieldLink RX7 96 "TypeFlowModel" "bound" "[I", Cond.fieldLink RX7 59 "TypeFlowModel" "bindings" "[I", Cond.methodLink RX7 211 yX7_work, Cond.instanceMethod yX7_work, Cond.selects RX7 yX7_work yX7_work, Cond.initialized RX7, Cond.code yX7_work cX7_work 6 (some .int), Cond.fieldLink RX7 72 "TypeFlowModel" "in" "[I", Cond.fieldLink RX7 75 "TypeFlowModel" "other" "[I", Cond.fieldLink RX7 78 "TypeFlowModel" "by" "[I", Cond.methodLink RX7 99 yX7_isIn, Cond.static yX7_isIn, Cond.code yX7_isIn cX7_isIn 3 (some .boolean), Cond.methodLink RX7 202 yX7_putTo, Cond.instanceMethod yX7_putTo, Cond.selects RX7 yX7_putTo yX7_putTo, Cond.code yX7_putTo cX7_putTo 6 (some .int), Cond.fieldLink RX7 47 "TypeFlowModel" "one" "[I"]
def wsX7_flow_r2 : List Cond := [Cond.fieldLink RX7 50 "TypeFlowModel" "two" "[I", Cond.fieldLink RX7 56 "TypeFlowModel" "bounds" "[I", Cond.fieldLink RX7 32 "TypeFlowModel" "free" "[I", Cond.fieldLink RX7 53 "TypeFlowModel" "result" "[I", Cond.methodLink RX7 178 yX7_takes, Cond.instanceMethod yX7_takes, Cond.selects RX7 yX7_takes yX7_takes, Cond.code yX7_takes cX7_takes 4 (some .boolean), Cond.fieldLink RX7 23 "TypeFlowModel" "classes0" "[I", Cond.methodLink RX7 110 yX7_isPrimitive, Cond.static yX7_isPrimitive, Cond.code yX7_isPrimitive cX7_isPrimitive 1 (some .boolean), Cond.methodLink RX7 147 yX7_goesFor, Cond.instanceMethod yX7_goesFor, Cond.selects RX7 yX7_goesFor yX7_goesFor, Cond.code yX7_goesFor cX7_goesFor 4 (some .int), Cond.methodLink RX7 140 yX7_seenAs, Cond.instanceMethod yX7_seenAs, Cond.selects RX7 yX7_seenAs yX7_seenAs, Cond.code yX7_seenAs cX7_seenAs 4 (some .int), Cond.fieldLink RX7 17 "TypeFlowModel" "parent" "[I", Cond.fieldLink RX7 26 "TypeFlowModel" "first" "[I", Cond.fieldLink RX7 29 "TypeFlowModel" "second" "[I", Cond.methodLink RX7 133 yX7_comesFrom]
def wsX7_flow_r3 : List Cond := [Cond.instanceMethod yX7_comesFrom, Cond.selects RX7 yX7_comesFrom yX7_comesFrom, Cond.code yX7_comesFrom cX7_comesFrom 4 (some .boolean), Cond.methodLink RX7 137 yX7_put, Cond.instanceMethod yX7_put, Cond.selects RX7 yX7_put yX7_put, Cond.code yX7_put cX7_put 6 (some .int), Cond.fieldLink RX7 35 "TypeFlowModel" "came" "[I", Cond.fieldLink RX7 123 "TypeFlowModel" "high" "I", Cond.fieldLink RX7 38 "TypeFlowModel" "stack" "[I", Cond.methodLink RX7 126 yX7_push, Cond.instanceMethod yX7_push, Cond.selects RX7 yX7_push yX7_push, Cond.code yX7_push cX7_push 2 none, Cond.methodLink RX7 130 yX7_isOpen, Cond.instanceMethod yX7_isOpen, Cond.selects RX7 yX7_isOpen yX7_isOpen, Cond.code yX7_isOpen cX7_isOpen 2 (some .boolean), Cond.methodLink RX7 119 yX7_made, Cond.instanceMethod yX7_made, Cond.selects RX7 yX7_made yX7_made, Cond.code yX7_made cX7_made 5 (some .int), Cond.fieldLink RX7 20 "TypeFlowModel" "types" "I", Cond.methodLink RX7 162 yX7_fails]
def wsX7_flow_r4 : List Cond := [Cond.instanceMethod yX7_fails, Cond.selects RX7 yX7_fails yX7_fails, Cond.code yX7_fails cX7_fails 2 (some .boolean), Cond.methodLink RX7 172 yX7_binds, Cond.instanceMethod yX7_binds, Cond.selects RX7 yX7_binds yX7_binds, Cond.code yX7_binds cX7_binds 3 (some .boolean), Cond.methodLink RX7 175 yX7_holds, Cond.instanceMethod yX7_holds, Cond.selects RX7 yX7_holds yX7_holds, Cond.code yX7_holds cX7_holds 5 (some .boolean), Cond.fieldLink RX7 65 "TypeFlowModel" "wasHeld" "[Z", Cond.fieldLink RX7 165 "TypeFlowModel" "pairs" "I", Cond.fieldLink RX7 62 "TypeFlowModel" "held" "[I", Cond.methodLink RX7 168 yX7_holdPair, Cond.instanceMethod yX7_holdPair, Cond.selects RX7 yX7_holdPair yX7_holdPair, Cond.code yX7_holdPair cX7_holdPair 3 none, Cond.methodLink RX7 181 yX7_orRoom, Cond.instanceMethod yX7_orRoom, Cond.selects RX7 yX7_orRoom yX7_orRoom, Cond.code yX7_orRoom cX7_orRoom 2 (some .int), Cond.methodLink RX7 196 yX7_memberOf, Cond.instanceMethod yX7_memberOf]
def wsX7_flow_r5 : List Cond := [Cond.selects RX7 yX7_memberOf yX7_memberOf, Cond.code yX7_memberOf cX7_memberOf 4 (some .int), Cond.fieldLink RX7 41 "TypeFlowModel" "memberClass" "[I", Cond.fieldLink RX7 44 "TypeFlowModel" "memberType" "[I", Cond.methodLink RX7 150 yX7_commonOf, Cond.instanceMethod yX7_commonOf, Cond.selects RX7 yX7_commonOf yX7_commonOf, Cond.code yX7_commonOf cX7_commonOf 6 (some .int), Cond.methodLink RX7 205 yX7_joined, Cond.instanceMethod yX7_joined, Cond.selects RX7 yX7_joined yX7_joined, Cond.code yX7_joined cX7_joined 6 (some .int), Cond.fieldLink RX7 81 "TypeFlowModel" "byToo" "[I", Cond.fieldLink RX7 84 "TypeFlowModel" "of" "[I", Cond.methodLink RX7 199 yX7_areKeys, Cond.instanceMethod yX7_areKeys, Cond.selects RX7 yX7_areKeys yX7_areKeys, Cond.code yX7_areKeys cX7_areKeys 4 (some .boolean), Cond.methodLink RX7 208 yX7_castOf, Cond.instanceMethod yX7_castOf, Cond.selects RX7 yX7_castOf yX7_castOf, Cond.code yX7_castOf cX7_castOf 5 (some .int)]
def wsX7_flow : List Cond := .code yX7_flow cX7_flow 6 (some .int) :: ((wsX7_flow_r1 ++ (wsX7_flow_r2 ++ (wsX7_flow_r3 ++ (wsX7_flow_r4 ++ wsX7_flow_r5)))) ++ wsX70)
def wsX7_isOperator : List Cond := .code yX7_isOperator cX7_isOperator 2 (some .boolean) :: ([.fieldLink RX7 189 "TypeFlowModel" "operators" "I", .methodLink RX7 99 yX7_isIn, .static yX7_isIn, .initialized RX7, .code yX7_isIn cX7_isIn 3 (some .boolean)] ++ wsX70)
def wsX7_comes : List Cond := .code yX7_comes cX7_comes 2 (some .int) :: ([.fieldLink RX7 87 "TypeFlowModel" "comes" "[I", .methodLink RX7 214 yX7_isOperator, .instanceMethod yX7_isOperator, .selects RX7 yX7_isOperator yX7_isOperator, .initialized RX7, .code yX7_isOperator cX7_isOperator 2 (some .boolean), .fieldLink RX7 189 "TypeFlowModel" "operators" "I", .methodLink RX7 99 yX7_isIn, .static yX7_isIn, .code yX7_isIn cX7_isIn 3 (some .boolean)] ++ wsX70)
def wsX7_reason : List Cond := .code yX7_reason cX7_reason 2 (some .int) :: ([.fieldLink RX7 90 "TypeFlowModel" "reasons" "[I", .methodLink RX7 214 yX7_isOperator, .instanceMethod yX7_isOperator, .selects RX7 yX7_isOperator yX7_isOperator, .initialized RX7, .code yX7_isOperator cX7_isOperator 2 (some .boolean), .fieldLink RX7 189 "TypeFlowModel" "operators" "I", .methodLink RX7 99 yX7_isIn, .static yX7_isIn, .code yX7_isIn cX7_isIn 3 (some .boolean)] ++ wsX70)
def wsX7_mayFail : List Cond := .code yX7_mayFail cX7_mayFail 2 (some .int) :: ([.fieldLink RX7 93 "TypeFlowModel" "mayFail" "[Z", .methodLink RX7 214 yX7_isOperator, .instanceMethod yX7_isOperator, .selects RX7 yX7_isOperator yX7_isOperator, .initialized RX7, .code yX7_isOperator cX7_isOperator 2 (some .boolean), .fieldLink RX7 189 "TypeFlowModel" "operators" "I", .methodLink RX7 99 yX7_isIn, .static yX7_isIn, .code yX7_isIn cX7_isIn 3 (some .boolean)] ++ wsX70)
def wsX7_cast : List Cond := .code yX7_cast cX7_cast 4 (some .int) :: ([.fieldLink RX7 189 "TypeFlowModel" "operators" "I", .fieldLink RX7 93 "TypeFlowModel" "mayFail" "[Z"] ++ wsX70)
def wsX7_boundTo : List Cond := .code yX7_boundTo cX7_boundTo 3 (some .int) :: ([.fieldLink RX7 96 "TypeFlowModel" "bound" "[I", .methodLink RX7 214 yX7_isOperator, .instanceMethod yX7_isOperator, .selects RX7 yX7_isOperator yX7_isOperator, .initialized RX7, .code yX7_isOperator cX7_isOperator 2 (some .boolean), .fieldLink RX7 189 "TypeFlowModel" "operators" "I", .methodLink RX7 99 yX7_isIn, .static yX7_isIn, .code yX7_isIn cX7_isIn 3 (some .boolean)] ++ wsX70)
def wsX7_count : List Cond := .code yX7_count cX7_count 4 (some .int) :: ([.fieldLink RX7 189 "TypeFlowModel" "operators" "I", .fieldLink RX7 93 "TypeFlowModel" "mayFail" "[Z", .fieldLink RX7 7 "TypeFlowModel" "classes" "I", .fieldLink RX7 20 "TypeFlowModel" "types" "I", .fieldLink RX7 153 "TypeFlowModel" "members" "I", .fieldLink RX7 156 "TypeFlowModel" "functions" "I"] ++ wsX70)
abbrev vwCl : List vw_C := [(RX0, TX0, 5), (RX1, TX1, 3), (RX2, TX2, 11), (RX3, TX3, 7), (RX4, TX4, 10), (RX5, TX5, 6), (RX6, TX6, 5), (RX7, TX7, 35)]
end
section
theorem dX0_init_0 : decode cX0_init 0 = .ok (.aload_n 0, 1) := by decide +kernel
theorem dX0_init_1 : decode cX0_init 1 = .ok (.invokespecial 3, 3) := by decide +kernel
theorem dX0_init_4 : decode cX0_init 4 = .ok (.aload_n 0, 1) := by decide +kernel
theorem dX0_init_5 : decode cX0_init 5 = .ok (.iconst 0, 1) := by decide +kernel
theorem dX0_init_6 : decode cX0_init 6 = .ok (.putfield 9, 3) := by decide +kernel
theorem dX0_init_9 : decode cX0_init 9 = .ok (.aload_n 0, 1) := by decide +kernel
theorem dX0_init_10 : decode cX0_init 10 = .ok (.bipush 16, 2) := by decide +kernel
theorem dX0_init_12 : decode cX0_init 12 = .ok (.newarray .int, 2) := by decide +kernel
theorem dX0_init_14 : decode cX0_init 14 = .ok (.putfield 15, 3) := by decide +kernel
theorem dX0_init_17 : decode cX0_init 17 = .ok (.aload_n 0, 1) := by decide +kernel
theorem dX0_init_18 : decode cX0_init 18 = .ok (.bipush 16, 2) := by decide +kernel
theorem dX0_init_20 : decode cX0_init 20 = .ok (.newarray .int, 2) := by decide +kernel
theorem dX0_init_22 : decode cX0_init 22 = .ok (.putfield 19, 3) := by decide +kernel
theorem dX0_init_25 : decode cX0_init 25 = .ok (.aload_n 0, 1) := by decide +kernel
theorem dX0_init_26 : decode cX0_init 26 = .ok (.bipush 16, 2) := by decide +kernel
theorem dX0_init_28 : decode cX0_init 28 = .ok (.newarray .int, 2) := by decide +kernel
theorem dX0_init_30 : decode cX0_init 30 = .ok (.putfield 22, 3) := by decide +kernel
theorem dX0_init_33 : decode cX0_init 33 = .ok (.aload_n 0, 1) := by decide +kernel
theorem dX0_init_34 : decode cX0_init 34 = .ok (.bipush 32, 2) := by decide +kernel
theorem dX0_init_36 : decode cX0_init 36 = .ok (.newarray .int, 2) := by decide +kernel
theorem dX0_init_38 : decode cX0_init 38 = .ok (.putfield 25, 3) := by decide +kernel
theorem dX0_init_41 : decode cX0_init 41 = .ok (.return_, 1) := by decide +kernel
theorem dX0_has_0 : decode cX0_has 0 = .ok (.iload_n 1, 1) := by decide +kernel
theorem dX0_has_1 : decode cX0_has 1 = .ok (.ifCond .lt 15, 3) := by decide +kernel
theorem dX0_has_4 : decode cX0_has 4 = .ok (.iload_n 1, 1) := by decide +kernel
theorem dX0_has_5 : decode cX0_has 5 = .ok (.aload_n 0, 1) := by decide +kernel
theorem dX0_has_6 : decode cX0_has 6 = .ok (.getfield 9, 3) := by decide +kernel
theorem dX0_has_9 : decode cX0_has 9 = .ok (.if_icmp .ge 7, 3) := by decide +kernel
theorem dX0_has_12 : decode cX0_has 12 = .ok (.iconst 1, 1) := by decide +kernel
theorem dX0_has_13 : decode cX0_has 13 = .ok (.goto 4, 3) := by decide +kernel
theorem dX0_has_16 : decode cX0_has 16 = .ok (.iconst 0, 1) := by decide +kernel
theorem dX0_has_17 : decode cX0_has 17 = .ok (.ireturn, 1) := by decide +kernel
set_option maxRecDepth 20000 in
theorem ggX0_hasWith_X0_has : GoodIn wsX0_hasWith wsX0_has := goodIn_r _ [6, 7, 8, 9, 10, 11, 12] (by decide +kernel) (by decide +kernel)
set_option maxRecDepth 20000 in
theorem gX0_hasWith_X0_has : GoodIn wsX0_hasWith (wsV RX0 28 RX0 yX0_has wsX0_has) := goodIn_app (goodIn_of _ (by decide +kernel)) ggX0_hasWith_X0_has
theorem dX0_hasWith_0 : decode cX0_hasWith 0 = .ok (.aload_n 0, 1) := by decide +kernel
theorem dX0_hasWith_1 : decode cX0_hasWith 1 = .ok (.iload_n 1, 1) := by decide +kernel
theorem dX0_hasWith_2 : decode cX0_hasWith 2 = .ok (.invokevirtual 28, 3) := by decide +kernel
theorem dX0_hasWith_5 : decode cX0_hasWith 5 = .ok (.ifCond .eq 26, 3) := by decide +kernel
theorem dX0_hasWith_8 : decode cX0_hasWith 8 = .ok (.aload_n 0, 1) := by decide +kernel
theorem dX0_hasWith_9 : decode cX0_hasWith 9 = .ok (.getfield 19, 3) := by decide +kernel
theorem dX0_hasWith_12 : decode cX0_hasWith 12 = .ok (.iload_n 1, 1) := by decide +kernel
theorem dX0_hasWith_13 : decode cX0_hasWith 13 = .ok (.iaload, 1) := by decide +kernel
theorem dX0_hasWith_14 : decode cX0_hasWith 14 = .ok (.iconst (-1), 1) := by decide +kernel
theorem dX0_hasWith_15 : decode cX0_hasWith 15 = .ok (.if_icmp .ne 7, 3) := by decide +kernel
theorem dX0_hasWith_18 : decode cX0_hasWith 18 = .ok (.iconst 1, 1) := by decide +kernel
theorem dX0_hasWith_19 : decode cX0_hasWith 19 = .ok (.goto 4, 3) := by decide +kernel
theorem dX0_hasWith_22 : decode cX0_hasWith 22 = .ok (.iconst 2, 1) := by decide +kernel
theorem dX0_hasWith_23 : decode cX0_hasWith 23 = .ok (.iload_n 2, 1) := by decide +kernel
theorem dX0_hasWith_24 : decode cX0_hasWith 24 = .ok (.if_icmp .ne 7, 3) := by decide +kernel
theorem dX0_hasWith_27 : decode cX0_hasWith 27 = .ok (.iconst 1, 1) := by decide +kernel
theorem dX0_hasWith_28 : decode cX0_hasWith 28 = .ok (.goto 4, 3) := by decide +kernel
theorem dX0_hasWith_31 : decode cX0_hasWith 31 = .ok (.iconst 0, 1) := by decide +kernel
theorem dX0_hasWith_32 : decode cX0_hasWith 32 = .ok (.ireturn, 1) := by decide +kernel
theorem dX0_add_0 : decode cX0_add 0 = .ok (.aload_n 0, 1) := by decide +kernel
theorem dX0_add_1 : decode cX0_add 1 = .ok (.getfield 9, 3) := by decide +kernel
theorem dX0_add_4 : decode cX0_add 4 = .ok (.bipush 16, 2) := by decide +kernel
theorem dX0_add_6 : decode cX0_add 6 = .ok (.if_icmp .lt 6, 3) := by decide +kernel
theorem dX0_add_9 : decode cX0_add 9 = .ok (.bipush (-3), 2) := by decide +kernel
theorem dX0_add_11 : decode cX0_add 11 = .ok (.ireturn, 1) := by decide +kernel
theorem dX0_add_12 : decode cX0_add 12 = .ok (.aload_n 0, 1) := by decide +kernel
theorem dX0_add_13 : decode cX0_add 13 = .ok (.getfield 15, 3) := by decide +kernel
theorem dX0_add_16 : decode cX0_add 16 = .ok (.aload_n 0, 1) := by decide +kernel
theorem dX0_add_17 : decode cX0_add 17 = .ok (.getfield 9, 3) := by decide +kernel
theorem dX0_add_20 : decode cX0_add 20 = .ok (.iload_n 1, 1) := by decide +kernel
theorem dX0_add_21 : decode cX0_add 21 = .ok (.iastore, 1) := by decide +kernel
theorem dX0_add_22 : decode cX0_add 22 = .ok (.aload_n 0, 1) := by decide +kernel
theorem dX0_add_23 : decode cX0_add 23 = .ok (.getfield 19, 3) := by decide +kernel
theorem dX0_add_26 : decode cX0_add 26 = .ok (.aload_n 0, 1) := by decide +kernel
theorem dX0_add_27 : decode cX0_add 27 = .ok (.getfield 9, 3) := by decide +kernel
theorem dX0_add_30 : decode cX0_add 30 = .ok (.iload_n 2, 1) := by decide +kernel
theorem dX0_add_31 : decode cX0_add 31 = .ok (.iastore, 1) := by decide +kernel
theorem dX0_add_32 : decode cX0_add 32 = .ok (.aload_n 0, 1) := by decide +kernel
theorem dX0_add_33 : decode cX0_add 33 = .ok (.getfield 22, 3) := by decide +kernel
theorem dX0_add_36 : decode cX0_add 36 = .ok (.aload_n 0, 1) := by decide +kernel
theorem dX0_add_37 : decode cX0_add 37 = .ok (.getfield 9, 3) := by decide +kernel
theorem dX0_add_40 : decode cX0_add 40 = .ok (.iload_n 3, 1) := by decide +kernel
theorem dX0_add_41 : decode cX0_add 41 = .ok (.iastore, 1) := by decide +kernel
theorem dX0_add_42 : decode cX0_add 42 = .ok (.iconst 0, 1) := by decide +kernel
theorem dX0_add_43 : decode cX0_add 43 = .ok (.istore 4, 2) := by decide +kernel
theorem dX0_add_45 : decode cX0_add 45 = .ok (.iload 4, 2) := by decide +kernel
theorem dX0_add_47 : decode cX0_add 47 = .ok (.iconst 2, 1) := by decide +kernel
theorem dX0_add_48 : decode cX0_add 48 = .ok (.if_icmp .ge 24, 3) := by decide +kernel
theorem dX0_add_51 : decode cX0_add 51 = .ok (.aload_n 0, 1) := by decide +kernel
theorem dX0_add_52 : decode cX0_add 52 = .ok (.getfield 25, 3) := by decide +kernel
theorem dX0_add_55 : decode cX0_add 55 = .ok (.aload_n 0, 1) := by decide +kernel
theorem dX0_add_56 : decode cX0_add 56 = .ok (.getfield 9, 3) := by decide +kernel
theorem dX0_add_59 : decode cX0_add 59 = .ok (.iconst 2, 1) := by decide +kernel
theorem dX0_add_60 : decode cX0_add 60 = .ok (.imul, 1) := by decide +kernel
theorem dX0_add_61 : decode cX0_add 61 = .ok (.iload 4, 2) := by decide +kernel
theorem dX0_add_63 : decode cX0_add 63 = .ok (.iadd, 1) := by decide +kernel
theorem dX0_add_64 : decode cX0_add 64 = .ok (.iconst (-1), 1) := by decide +kernel
theorem dX0_add_65 : decode cX0_add 65 = .ok (.iastore, 1) := by decide +kernel
theorem dX0_add_66 : decode cX0_add 66 = .ok (.iinc 4 1, 3) := by decide +kernel
theorem dX0_add_69 : decode cX0_add 69 = .ok (.goto (-24), 3) := by decide +kernel
theorem dX0_add_72 : decode cX0_add 72 = .ok (.aload_n 0, 1) := by decide +kernel
theorem dX0_add_73 : decode cX0_add 73 = .ok (.dup, 1) := by decide +kernel
theorem dX0_add_74 : decode cX0_add 74 = .ok (.getfield 9, 3) := by decide +kernel
theorem dX0_add_77 : decode cX0_add 77 = .ok (.dup_x1, 1) := by decide +kernel
theorem dX0_add_78 : decode cX0_add 78 = .ok (.iconst 1, 1) := by decide +kernel
theorem dX0_add_79 : decode cX0_add 79 = .ok (.iadd, 1) := by decide +kernel
theorem dX0_add_80 : decode cX0_add 80 = .ok (.putfield 9, 3) := by decide +kernel
theorem dX0_add_83 : decode cX0_add 83 = .ok (.ireturn, 1) := by decide +kernel
theorem dX1_init_0 : decode cX1_init 0 = .ok (.aload_n 0, 1) := by decide +kernel
theorem dX1_init_1 : decode cX1_init 1 = .ok (.invokespecial 3, 3) := by decide +kernel
theorem dX1_init_4 : decode cX1_init 4 = .ok (.aload_n 0, 1) := by decide +kernel
theorem dX1_init_5 : decode cX1_init 5 = .ok (.iconst 0, 1) := by decide +kernel
theorem dX1_init_6 : decode cX1_init 6 = .ok (.putfield 9, 3) := by decide +kernel
theorem dX1_init_9 : decode cX1_init 9 = .ok (.aload_n 0, 1) := by decide +kernel
theorem dX1_init_10 : decode cX1_init 10 = .ok (.bipush 24, 2) := by decide +kernel
theorem dX1_init_12 : decode cX1_init 12 = .ok (.newarray .int, 2) := by decide +kernel
theorem dX1_init_14 : decode cX1_init 14 = .ok (.putfield 15, 3) := by decide +kernel
theorem dX1_init_17 : decode cX1_init 17 = .ok (.aload_n 0, 1) := by decide +kernel
theorem dX1_init_18 : decode cX1_init 18 = .ok (.bipush 24, 2) := by decide +kernel
theorem dX1_init_20 : decode cX1_init 20 = .ok (.newarray .int, 2) := by decide +kernel
theorem dX1_init_22 : decode cX1_init 22 = .ok (.putfield 19, 3) := by decide +kernel
theorem dX1_init_25 : decode cX1_init 25 = .ok (.return_, 1) := by decide +kernel
theorem dX1_has_0 : decode cX1_has 0 = .ok (.iload_n 1, 1) := by decide +kernel
theorem dX1_has_1 : decode cX1_has 1 = .ok (.ifCond .lt 15, 3) := by decide +kernel
theorem dX1_has_4 : decode cX1_has 4 = .ok (.iload_n 1, 1) := by decide +kernel
theorem dX1_has_5 : decode cX1_has 5 = .ok (.aload_n 0, 1) := by decide +kernel
theorem dX1_has_6 : decode cX1_has 6 = .ok (.getfield 9, 3) := by decide +kernel
theorem dX1_has_9 : decode cX1_has 9 = .ok (.if_icmp .ge 7, 3) := by decide +kernel
theorem dX1_has_12 : decode cX1_has 12 = .ok (.iconst 1, 1) := by decide +kernel
theorem dX1_has_13 : decode cX1_has 13 = .ok (.goto 4, 3) := by decide +kernel
theorem dX1_has_16 : decode cX1_has 16 = .ok (.iconst 0, 1) := by decide +kernel
theorem dX1_has_17 : decode cX1_has 17 = .ok (.ireturn, 1) := by decide +kernel
theorem dX1_add_0 : decode cX1_add 0 = .ok (.aload_n 0, 1) := by decide +kernel
theorem dX1_add_1 : decode cX1_add 1 = .ok (.getfield 9, 3) := by decide +kernel
theorem dX1_add_4 : decode cX1_add 4 = .ok (.bipush 24, 2) := by decide +kernel
theorem dX1_add_6 : decode cX1_add 6 = .ok (.if_icmp .lt 6, 3) := by decide +kernel
theorem dX1_add_9 : decode cX1_add 9 = .ok (.bipush (-3), 2) := by decide +kernel
theorem dX1_add_11 : decode cX1_add 11 = .ok (.ireturn, 1) := by decide +kernel
theorem dX1_add_12 : decode cX1_add 12 = .ok (.aload_n 0, 1) := by decide +kernel
theorem dX1_add_13 : decode cX1_add 13 = .ok (.getfield 15, 3) := by decide +kernel
theorem dX1_add_16 : decode cX1_add 16 = .ok (.aload_n 0, 1) := by decide +kernel
theorem dX1_add_17 : decode cX1_add 17 = .ok (.getfield 9, 3) := by decide +kernel
theorem dX1_add_20 : decode cX1_add 20 = .ok (.iload_n 1, 1) := by decide +kernel
theorem dX1_add_21 : decode cX1_add 21 = .ok (.iastore, 1) := by decide +kernel
theorem dX1_add_22 : decode cX1_add 22 = .ok (.aload_n 0, 1) := by decide +kernel
theorem dX1_add_23 : decode cX1_add 23 = .ok (.getfield 19, 3) := by decide +kernel
theorem dX1_add_26 : decode cX1_add 26 = .ok (.aload_n 0, 1) := by decide +kernel
theorem dX1_add_27 : decode cX1_add 27 = .ok (.getfield 9, 3) := by decide +kernel
theorem dX1_add_30 : decode cX1_add 30 = .ok (.iload_n 2, 1) := by decide +kernel
theorem dX1_add_31 : decode cX1_add 31 = .ok (.iastore, 1) := by decide +kernel
theorem dX1_add_32 : decode cX1_add 32 = .ok (.aload_n 0, 1) := by decide +kernel
theorem dX1_add_33 : decode cX1_add 33 = .ok (.dup, 1) := by decide +kernel
theorem dX1_add_34 : decode cX1_add 34 = .ok (.getfield 9, 3) := by decide +kernel
theorem dX1_add_37 : decode cX1_add 37 = .ok (.dup_x1, 1) := by decide +kernel
theorem dX1_add_38 : decode cX1_add 38 = .ok (.iconst 1, 1) := by decide +kernel
theorem dX1_add_39 : decode cX1_add 39 = .ok (.iadd, 1) := by decide +kernel
theorem dX1_add_40 : decode cX1_add 40 = .ok (.putfield 9, 3) := by decide +kernel
theorem dX1_add_43 : decode cX1_add 43 = .ok (.ireturn, 1) := by decide +kernel
theorem dX2_init_0 : decode cX2_init 0 = .ok (.aload_n 0, 1) := by decide +kernel
theorem dX2_init_1 : decode cX2_init 1 = .ok (.invokespecial 3, 3) := by decide +kernel
theorem dX2_init_4 : decode cX2_init 4 = .ok (.aload_n 0, 1) := by decide +kernel
theorem dX2_init_5 : decode cX2_init 5 = .ok (.iconst 0, 1) := by decide +kernel
theorem dX2_init_6 : decode cX2_init 6 = .ok (.putfield 9, 3) := by decide +kernel
theorem dX2_init_9 : decode cX2_init 9 = .ok (.aload_n 0, 1) := by decide +kernel
theorem dX2_init_10 : decode cX2_init 10 = .ok (.bipush 24, 2) := by decide +kernel
theorem dX2_init_12 : decode cX2_init 12 = .ok (.newarray .int, 2) := by decide +kernel
theorem dX2_init_14 : decode cX2_init 14 = .ok (.putfield 15, 3) := by decide +kernel
theorem dX2_init_17 : decode cX2_init 17 = .ok (.aload_n 0, 1) := by decide +kernel
theorem dX2_init_18 : decode cX2_init 18 = .ok (.bipush 24, 2) := by decide +kernel
theorem dX2_init_20 : decode cX2_init 20 = .ok (.newarray .int, 2) := by decide +kernel
theorem dX2_init_22 : decode cX2_init 22 = .ok (.putfield 19, 3) := by decide +kernel
theorem dX2_init_25 : decode cX2_init 25 = .ok (.aload_n 0, 1) := by decide +kernel
theorem dX2_init_26 : decode cX2_init 26 = .ok (.bipush 24, 2) := by decide +kernel
theorem dX2_init_28 : decode cX2_init 28 = .ok (.newarray .int, 2) := by decide +kernel
theorem dX2_init_30 : decode cX2_init 30 = .ok (.putfield 22, 3) := by decide +kernel
theorem dX2_init_33 : decode cX2_init 33 = .ok (.aload_n 0, 1) := by decide +kernel
theorem dX2_init_34 : decode cX2_init 34 = .ok (.bipush 24, 2) := by decide +kernel
theorem dX2_init_36 : decode cX2_init 36 = .ok (.newarray .int, 2) := by decide +kernel
theorem dX2_init_38 : decode cX2_init 38 = .ok (.putfield 25, 3) := by decide +kernel
theorem dX2_init_41 : decode cX2_init 41 = .ok (.aload_n 0, 1) := by decide +kernel
theorem dX2_init_42 : decode cX2_init 42 = .ok (.bipush 24, 2) := by decide +kernel
theorem dX2_init_44 : decode cX2_init 44 = .ok (.newarray .int, 2) := by decide +kernel
theorem dX2_init_46 : decode cX2_init 46 = .ok (.putfield 28, 3) := by decide +kernel
theorem dX2_init_49 : decode cX2_init 49 = .ok (.aload_n 0, 1) := by decide +kernel
theorem dX2_init_50 : decode cX2_init 50 = .ok (.bipush 24, 2) := by decide +kernel
theorem dX2_init_52 : decode cX2_init 52 = .ok (.newarray .int, 2) := by decide +kernel
theorem dX2_init_54 : decode cX2_init 54 = .ok (.putfield 31, 3) := by decide +kernel
theorem dX2_init_57 : decode cX2_init 57 = .ok (.aload_n 0, 1) := by decide +kernel
theorem dX2_init_58 : decode cX2_init 58 = .ok (.bipush 24, 2) := by decide +kernel
theorem dX2_init_60 : decode cX2_init 60 = .ok (.newarray .int, 2) := by decide +kernel
theorem dX2_init_62 : decode cX2_init 62 = .ok (.putfield 34, 3) := by decide +kernel
theorem dX2_init_65 : decode cX2_init 65 = .ok (.aload_n 0, 1) := by decide +kernel
theorem dX2_init_66 : decode cX2_init 66 = .ok (.bipush 24, 2) := by decide +kernel
theorem dX2_init_68 : decode cX2_init 68 = .ok (.newarray .int, 2) := by decide +kernel
theorem dX2_init_70 : decode cX2_init 70 = .ok (.putfield 37, 3) := by decide +kernel
theorem dX2_init_73 : decode cX2_init 73 = .ok (.aload_n 0, 1) := by decide +kernel
theorem dX2_init_74 : decode cX2_init 74 = .ok (.bipush 24, 2) := by decide +kernel
theorem dX2_init_76 : decode cX2_init 76 = .ok (.newarray .boolean, 2) := by decide +kernel
theorem dX2_init_78 : decode cX2_init 78 = .ok (.putfield 40, 3) := by decide +kernel
theorem dX2_init_81 : decode cX2_init 81 = .ok (.aload_n 0, 1) := by decide +kernel
theorem dX2_init_82 : decode cX2_init 82 = .ok (.bipush 48, 2) := by decide +kernel
theorem dX2_init_84 : decode cX2_init 84 = .ok (.newarray .int, 2) := by decide +kernel
theorem dX2_init_86 : decode cX2_init 86 = .ok (.putfield 44, 3) := by decide +kernel
theorem dX2_init_89 : decode cX2_init 89 = .ok (.return_, 1) := by decide +kernel
theorem dX2_has_0 : decode cX2_has 0 = .ok (.iload_n 1, 1) := by decide +kernel
theorem dX2_has_1 : decode cX2_has 1 = .ok (.ifCond .lt 15, 3) := by decide +kernel
theorem dX2_has_4 : decode cX2_has 4 = .ok (.iload_n 1, 1) := by decide +kernel
theorem dX2_has_5 : decode cX2_has 5 = .ok (.aload_n 0, 1) := by decide +kernel
theorem dX2_has_6 : decode cX2_has 6 = .ok (.getfield 9, 3) := by decide +kernel
theorem dX2_has_9 : decode cX2_has 9 = .ok (.if_icmp .ge 7, 3) := by decide +kernel
theorem dX2_has_12 : decode cX2_has 12 = .ok (.iconst 1, 1) := by decide +kernel
theorem dX2_has_13 : decode cX2_has 13 = .ok (.goto 4, 3) := by decide +kernel
theorem dX2_has_16 : decode cX2_has 16 = .ok (.iconst 0, 1) := by decide +kernel
theorem dX2_has_17 : decode cX2_has 17 = .ok (.ireturn, 1) := by decide +kernel
set_option maxRecDepth 20000 in
theorem ggX2_add_X2_tell : GoodIn wsX2_add wsX2_tell := goodIn_r _ [12, 13, 14, 15, 21, 22, 23, 24, 25, 26, 27, 28, 29, 30, 31] (by decide +kernel) (by decide +kernel)
set_option maxRecDepth 20000 in
theorem gX2_add_X2_tell : GoodIn wsX2_add (wsV RX2 47 RX2 yX2_tell wsX2_tell) := goodIn_app (goodIn_of _ (by decide +kernel)) ggX2_add_X2_tell
set_option maxRecDepth 20000 in
theorem ggX2_add_X2_bind : GoodIn wsX2_add wsX2_bind := goodIn_r _ [19, 20, 21, 22, 23, 24, 25, 26, 27, 28, 29, 30, 31] (by decide +kernel) (by decide +kernel)
set_option maxRecDepth 20000 in
theorem gX2_add_X2_bind : GoodIn wsX2_add (wsV RX2 51 RX2 yX2_bind wsX2_bind) := goodIn_app (goodIn_of _ (by decide +kernel)) ggX2_add_X2_bind
theorem dX2_add_0 : decode cX2_add 0 = .ok (.aload_n 0, 1) := by decide +kernel
theorem dX2_add_1 : decode cX2_add 1 = .ok (.getfield 9, 3) := by decide +kernel
theorem dX2_add_4 : decode cX2_add 4 = .ok (.bipush 24, 2) := by decide +kernel
theorem dX2_add_6 : decode cX2_add 6 = .ok (.if_icmp .lt 6, 3) := by decide +kernel
theorem dX2_add_9 : decode cX2_add 9 = .ok (.bipush (-3), 2) := by decide +kernel
theorem dX2_add_11 : decode cX2_add 11 = .ok (.ireturn, 1) := by decide +kernel
theorem dX2_add_12 : decode cX2_add 12 = .ok (.aload_n 0, 1) := by decide +kernel
theorem dX2_add_13 : decode cX2_add 13 = .ok (.getfield 15, 3) := by decide +kernel
theorem dX2_add_16 : decode cX2_add 16 = .ok (.aload_n 0, 1) := by decide +kernel
theorem dX2_add_17 : decode cX2_add 17 = .ok (.getfield 9, 3) := by decide +kernel
theorem dX2_add_20 : decode cX2_add 20 = .ok (.iload_n 1, 1) := by decide +kernel
theorem dX2_add_21 : decode cX2_add 21 = .ok (.iastore, 1) := by decide +kernel
theorem dX2_add_22 : decode cX2_add 22 = .ok (.aload_n 0, 1) := by decide +kernel
theorem dX2_add_23 : decode cX2_add 23 = .ok (.getfield 19, 3) := by decide +kernel
theorem dX2_add_26 : decode cX2_add 26 = .ok (.aload_n 0, 1) := by decide +kernel
theorem dX2_add_27 : decode cX2_add 27 = .ok (.getfield 9, 3) := by decide +kernel
theorem dX2_add_30 : decode cX2_add 30 = .ok (.iload_n 2, 1) := by decide +kernel
theorem dX2_add_31 : decode cX2_add 31 = .ok (.iastore, 1) := by decide +kernel
theorem dX2_add_32 : decode cX2_add 32 = .ok (.aload_n 0, 1) := by decide +kernel
theorem dX2_add_33 : decode cX2_add 33 = .ok (.getfield 22, 3) := by decide +kernel
theorem dX2_add_36 : decode cX2_add 36 = .ok (.aload_n 0, 1) := by decide +kernel
theorem dX2_add_37 : decode cX2_add 37 = .ok (.getfield 9, 3) := by decide +kernel
theorem dX2_add_40 : decode cX2_add 40 = .ok (.iload_n 3, 1) := by decide +kernel
theorem dX2_add_41 : decode cX2_add 41 = .ok (.iastore, 1) := by decide +kernel
theorem dX2_add_42 : decode cX2_add 42 = .ok (.aload_n 0, 1) := by decide +kernel
theorem dX2_add_43 : decode cX2_add 43 = .ok (.getfield 25, 3) := by decide +kernel
theorem dX2_add_46 : decode cX2_add 46 = .ok (.aload_n 0, 1) := by decide +kernel
theorem dX2_add_47 : decode cX2_add 47 = .ok (.getfield 9, 3) := by decide +kernel
theorem dX2_add_50 : decode cX2_add 50 = .ok (.iload 4, 2) := by decide +kernel
theorem dX2_add_52 : decode cX2_add 52 = .ok (.iastore, 1) := by decide +kernel
theorem dX2_add_53 : decode cX2_add 53 = .ok (.aload_n 0, 1) := by decide +kernel
theorem dX2_add_54 : decode cX2_add 54 = .ok (.getfield 28, 3) := by decide +kernel
theorem dX2_add_57 : decode cX2_add 57 = .ok (.aload_n 0, 1) := by decide +kernel
theorem dX2_add_58 : decode cX2_add 58 = .ok (.getfield 9, 3) := by decide +kernel
theorem dX2_add_61 : decode cX2_add 61 = .ok (.iload 5, 2) := by decide +kernel
theorem dX2_add_63 : decode cX2_add 63 = .ok (.iastore, 1) := by decide +kernel
theorem dX2_add_64 : decode cX2_add 64 = .ok (.aload_n 0, 1) := by decide +kernel
theorem dX2_add_65 : decode cX2_add 65 = .ok (.getfield 31, 3) := by decide +kernel
theorem dX2_add_68 : decode cX2_add 68 = .ok (.aload_n 0, 1) := by decide +kernel
theorem dX2_add_69 : decode cX2_add 69 = .ok (.getfield 9, 3) := by decide +kernel
theorem dX2_add_72 : decode cX2_add 72 = .ok (.iload 6, 2) := by decide +kernel
theorem dX2_add_74 : decode cX2_add 74 = .ok (.iastore, 1) := by decide +kernel
theorem dX2_add_75 : decode cX2_add 75 = .ok (.aload_n 0, 1) := by decide +kernel
theorem dX2_add_76 : decode cX2_add 76 = .ok (.aload_n 0, 1) := by decide +kernel
theorem dX2_add_77 : decode cX2_add 77 = .ok (.getfield 9, 3) := by decide +kernel
theorem dX2_add_80 : decode cX2_add 80 = .ok (.iconst (-1), 1) := by decide +kernel
theorem dX2_add_81 : decode cX2_add 81 = .ok (.iconst 0, 1) := by decide +kernel
theorem dX2_add_82 : decode cX2_add 82 = .ok (.iconst 0, 1) := by decide +kernel
theorem dX2_add_83 : decode cX2_add 83 = .ok (.invokevirtual 47, 3) := by decide +kernel
theorem dX2_add_86 : decode cX2_add 86 = .ok (.aload_n 0, 1) := by decide +kernel
theorem dX2_add_87 : decode cX2_add 87 = .ok (.aload_n 0, 1) := by decide +kernel
theorem dX2_add_88 : decode cX2_add 88 = .ok (.getfield 9, 3) := by decide +kernel
theorem dX2_add_91 : decode cX2_add 91 = .ok (.iconst (-1), 1) := by decide +kernel
theorem dX2_add_92 : decode cX2_add 92 = .ok (.iconst (-1), 1) := by decide +kernel
theorem dX2_add_93 : decode cX2_add 93 = .ok (.invokevirtual 51, 3) := by decide +kernel
theorem dX2_add_96 : decode cX2_add 96 = .ok (.aload_n 0, 1) := by decide +kernel
theorem dX2_add_97 : decode cX2_add 97 = .ok (.dup, 1) := by decide +kernel
theorem dX2_add_98 : decode cX2_add 98 = .ok (.getfield 9, 3) := by decide +kernel
theorem dX2_add_101 : decode cX2_add 101 = .ok (.dup_x1, 1) := by decide +kernel
theorem dX2_add_102 : decode cX2_add 102 = .ok (.iconst 1, 1) := by decide +kernel
theorem dX2_add_103 : decode cX2_add 103 = .ok (.iadd, 1) := by decide +kernel
theorem dX2_add_104 : decode cX2_add 104 = .ok (.putfield 9, 3) := by decide +kernel
theorem dX2_add_107 : decode cX2_add 107 = .ok (.ireturn, 1) := by decide +kernel
theorem dX2_tell_0 : decode cX2_tell 0 = .ok (.aload_n 0, 1) := by decide +kernel
theorem dX2_tell_1 : decode cX2_tell 1 = .ok (.getfield 34, 3) := by decide +kernel
theorem dX2_tell_4 : decode cX2_tell 4 = .ok (.iload_n 1, 1) := by decide +kernel
theorem dX2_tell_5 : decode cX2_tell 5 = .ok (.iload_n 2, 1) := by decide +kernel
theorem dX2_tell_6 : decode cX2_tell 6 = .ok (.iastore, 1) := by decide +kernel
theorem dX2_tell_7 : decode cX2_tell 7 = .ok (.aload_n 0, 1) := by decide +kernel
theorem dX2_tell_8 : decode cX2_tell 8 = .ok (.getfield 37, 3) := by decide +kernel
theorem dX2_tell_11 : decode cX2_tell 11 = .ok (.iload_n 1, 1) := by decide +kernel
theorem dX2_tell_12 : decode cX2_tell 12 = .ok (.iload_n 3, 1) := by decide +kernel
theorem dX2_tell_13 : decode cX2_tell 13 = .ok (.iastore, 1) := by decide +kernel
theorem dX2_tell_14 : decode cX2_tell 14 = .ok (.aload_n 0, 1) := by decide +kernel
theorem dX2_tell_15 : decode cX2_tell 15 = .ok (.getfield 40, 3) := by decide +kernel
theorem dX2_tell_18 : decode cX2_tell 18 = .ok (.iload_n 1, 1) := by decide +kernel
theorem dX2_tell_19 : decode cX2_tell 19 = .ok (.iload 4, 2) := by decide +kernel
theorem dX2_tell_21 : decode cX2_tell 21 = .ok (.bastore, 1) := by decide +kernel
theorem dX2_tell_22 : decode cX2_tell 22 = .ok (.return_, 1) := by decide +kernel
theorem dX2_bind_0 : decode cX2_bind 0 = .ok (.aload_n 0, 1) := by decide +kernel
theorem dX2_bind_1 : decode cX2_bind 1 = .ok (.getfield 44, 3) := by decide +kernel
theorem dX2_bind_4 : decode cX2_bind 4 = .ok (.iload_n 1, 1) := by decide +kernel
theorem dX2_bind_5 : decode cX2_bind 5 = .ok (.iconst 2, 1) := by decide +kernel
theorem dX2_bind_6 : decode cX2_bind 6 = .ok (.imul, 1) := by decide +kernel
theorem dX2_bind_7 : decode cX2_bind 7 = .ok (.iload_n 2, 1) := by decide +kernel
theorem dX2_bind_8 : decode cX2_bind 8 = .ok (.iastore, 1) := by decide +kernel
theorem dX2_bind_9 : decode cX2_bind 9 = .ok (.aload_n 0, 1) := by decide +kernel
theorem dX2_bind_10 : decode cX2_bind 10 = .ok (.getfield 44, 3) := by decide +kernel
theorem dX2_bind_13 : decode cX2_bind 13 = .ok (.iload_n 1, 1) := by decide +kernel
theorem dX2_bind_14 : decode cX2_bind 14 = .ok (.iconst 2, 1) := by decide +kernel
theorem dX2_bind_15 : decode cX2_bind 15 = .ok (.imul, 1) := by decide +kernel
theorem dX2_bind_16 : decode cX2_bind 16 = .ok (.iconst 1, 1) := by decide +kernel
theorem dX2_bind_17 : decode cX2_bind 17 = .ok (.iadd, 1) := by decide +kernel
theorem dX2_bind_18 : decode cX2_bind 18 = .ok (.iload_n 3, 1) := by decide +kernel
theorem dX2_bind_19 : decode cX2_bind 19 = .ok (.iastore, 1) := by decide +kernel
theorem dX2_bind_20 : decode cX2_bind 20 = .ok (.return_, 1) := by decide +kernel
theorem dX2_hasTwoInputs_0 : decode cX2_hasTwoInputs 0 = .ok (.aload_n 0, 1) := by decide +kernel
theorem dX2_hasTwoInputs_1 : decode cX2_hasTwoInputs 1 = .ok (.getfield 15, 3) := by decide +kernel
theorem dX2_hasTwoInputs_4 : decode cX2_hasTwoInputs 4 = .ok (.iload_n 1, 1) := by decide +kernel
theorem dX2_hasTwoInputs_5 : decode cX2_hasTwoInputs 5 = .ok (.iaload, 1) := by decide +kernel
theorem dX2_hasTwoInputs_6 : decode cX2_hasTwoInputs 6 = .ok (.iconst 4, 1) := by decide +kernel
theorem dX2_hasTwoInputs_7 : decode cX2_hasTwoInputs 7 = .ok (.if_icmp .eq 24, 3) := by decide +kernel
theorem dX2_hasTwoInputs_10 : decode cX2_hasTwoInputs 10 = .ok (.aload_n 0, 1) := by decide +kernel
theorem dX2_hasTwoInputs_11 : decode cX2_hasTwoInputs 11 = .ok (.getfield 15, 3) := by decide +kernel
theorem dX2_hasTwoInputs_14 : decode cX2_hasTwoInputs 14 = .ok (.iload_n 1, 1) := by decide +kernel
theorem dX2_hasTwoInputs_15 : decode cX2_hasTwoInputs 15 = .ok (.iaload, 1) := by decide +kernel
theorem dX2_hasTwoInputs_16 : decode cX2_hasTwoInputs 16 = .ok (.iconst 5, 1) := by decide +kernel
theorem dX2_hasTwoInputs_17 : decode cX2_hasTwoInputs 17 = .ok (.if_icmp .eq 14, 3) := by decide +kernel
theorem dX2_hasTwoInputs_20 : decode cX2_hasTwoInputs 20 = .ok (.aload_n 0, 1) := by decide +kernel
theorem dX2_hasTwoInputs_21 : decode cX2_hasTwoInputs 21 = .ok (.getfield 15, 3) := by decide +kernel
theorem dX2_hasTwoInputs_24 : decode cX2_hasTwoInputs 24 = .ok (.iload_n 1, 1) := by decide +kernel
theorem dX2_hasTwoInputs_25 : decode cX2_hasTwoInputs 25 = .ok (.iaload, 1) := by decide +kernel
theorem dX2_hasTwoInputs_26 : decode cX2_hasTwoInputs 26 = .ok (.bipush 6, 2) := by decide +kernel
theorem dX2_hasTwoInputs_28 : decode cX2_hasTwoInputs 28 = .ok (.if_icmp .ne 7, 3) := by decide +kernel
theorem dX2_hasTwoInputs_31 : decode cX2_hasTwoInputs 31 = .ok (.iconst 1, 1) := by decide +kernel
theorem dX2_hasTwoInputs_32 : decode cX2_hasTwoInputs 32 = .ok (.goto 4, 3) := by decide +kernel
theorem dX2_hasTwoInputs_35 : decode cX2_hasTwoInputs 35 = .ok (.iconst 0, 1) := by decide +kernel
theorem dX2_hasTwoInputs_36 : decode cX2_hasTwoInputs 36 = .ok (.ireturn, 1) := by decide +kernel
theorem dX2_howManyRisky_0 : decode cX2_howManyRisky 0 = .ok (.iconst 0, 1) := by decide +kernel
theorem dX2_howManyRisky_1 : decode cX2_howManyRisky 1 = .ok (.istore_n 1, 1) := by decide +kernel
theorem dX2_howManyRisky_2 : decode cX2_howManyRisky 2 = .ok (.iconst 0, 1) := by decide +kernel
theorem dX2_howManyRisky_3 : decode cX2_howManyRisky 3 = .ok (.istore_n 2, 1) := by decide +kernel
theorem dX2_howManyRisky_4 : decode cX2_howManyRisky 4 = .ok (.iload_n 2, 1) := by decide +kernel
theorem dX2_howManyRisky_5 : decode cX2_howManyRisky 5 = .ok (.aload_n 0, 1) := by decide +kernel
theorem dX2_howManyRisky_6 : decode cX2_howManyRisky 6 = .ok (.getfield 9, 3) := by decide +kernel
theorem dX2_howManyRisky_9 : decode cX2_howManyRisky 9 = .ok (.if_icmp .ge 21, 3) := by decide +kernel
theorem dX2_howManyRisky_12 : decode cX2_howManyRisky 12 = .ok (.aload_n 0, 1) := by decide +kernel
theorem dX2_howManyRisky_13 : decode cX2_howManyRisky 13 = .ok (.getfield 40, 3) := by decide +kernel
theorem dX2_howManyRisky_16 : decode cX2_howManyRisky 16 = .ok (.iload_n 2, 1) := by decide +kernel
theorem dX2_howManyRisky_17 : decode cX2_howManyRisky 17 = .ok (.baload, 1) := by decide +kernel
theorem dX2_howManyRisky_18 : decode cX2_howManyRisky 18 = .ok (.ifCond .eq 6, 3) := by decide +kernel
theorem dX2_howManyRisky_21 : decode cX2_howManyRisky 21 = .ok (.iinc 1 1, 3) := by decide +kernel
theorem dX2_howManyRisky_24 : decode cX2_howManyRisky 24 = .ok (.iinc 2 1, 3) := by decide +kernel
theorem dX2_howManyRisky_27 : decode cX2_howManyRisky 27 = .ok (.goto (-23), 3) := by decide +kernel
theorem dX2_howManyRisky_30 : decode cX2_howManyRisky 30 = .ok (.iload_n 1, 1) := by decide +kernel
theorem dX2_howManyRisky_31 : decode cX2_howManyRisky 31 = .ok (.ireturn, 1) := by decide +kernel
theorem dX3_init_0 : decode cX3_init 0 = .ok (.aload_n 0, 1) := by decide +kernel
theorem dX3_init_1 : decode cX3_init 1 = .ok (.invokespecial 3, 3) := by decide +kernel
theorem dX3_init_4 : decode cX3_init 4 = .ok (.aload_n 0, 1) := by decide +kernel
theorem dX3_init_5 : decode cX3_init 5 = .ok (.iconst 2, 1) := by decide +kernel
theorem dX3_init_6 : decode cX3_init 6 = .ok (.newarray .int, 2) := by decide +kernel
theorem dX3_init_8 : decode cX3_init 8 = .ok (.putfield 9, 3) := by decide +kernel
theorem dX3_init_11 : decode cX3_init 11 = .ok (.aload_n 0, 1) := by decide +kernel
theorem dX3_init_12 : decode cX3_init 12 = .ok (.iconst 0, 1) := by decide +kernel
theorem dX3_init_13 : decode cX3_init 13 = .ok (.putfield 15, 3) := by decide +kernel
theorem dX3_init_16 : decode cX3_init 16 = .ok (.aload_n 0, 1) := by decide +kernel
theorem dX3_init_17 : decode cX3_init 17 = .ok (.bipush 80, 2) := by decide +kernel
theorem dX3_init_19 : decode cX3_init 19 = .ok (.newarray .int, 2) := by decide +kernel
theorem dX3_init_21 : decode cX3_init 21 = .ok (.putfield 19, 3) := by decide +kernel
theorem dX3_init_24 : decode cX3_init 24 = .ok (.aload_n 0, 1) := by decide +kernel
theorem dX3_init_25 : decode cX3_init 25 = .ok (.bipush 82, 2) := by decide +kernel
theorem dX3_init_27 : decode cX3_init 27 = .ok (.newarray .int, 2) := by decide +kernel
theorem dX3_init_29 : decode cX3_init 29 = .ok (.putfield 22, 3) := by decide +kernel
theorem dX3_init_32 : decode cX3_init 32 = .ok (.aload_n 0, 1) := by decide +kernel
theorem dX3_init_33 : decode cX3_init 33 = .ok (.bipush 82, 2) := by decide +kernel
theorem dX3_init_35 : decode cX3_init 35 = .ok (.newarray .int, 2) := by decide +kernel
theorem dX3_init_37 : decode cX3_init 37 = .ok (.putfield 25, 3) := by decide +kernel
theorem dX3_init_40 : decode cX3_init 40 = .ok (.aload_n 0, 1) := by decide +kernel
theorem dX3_init_41 : decode cX3_init 41 = .ok (.aload_n 1, 1) := by decide +kernel
theorem dX3_init_42 : decode cX3_init 42 = .ok (.putfield 28, 3) := by decide +kernel
theorem dX3_init_45 : decode cX3_init 45 = .ok (.aload_n 0, 1) := by decide +kernel
theorem dX3_init_46 : decode cX3_init 46 = .ok (.aload_n 2, 1) := by decide +kernel
theorem dX3_init_47 : decode cX3_init 47 = .ok (.putfield 32, 3) := by decide +kernel
theorem dX3_init_50 : decode cX3_init 50 = .ok (.return_, 1) := by decide +kernel
set_option maxRecDepth 20000 in
theorem ggX3_putTo_J7_fill_53178 : GoodIn wsX3_putTo wsJ7_fill_53178 := goodIn_r _ [12] (by decide +kernel) (by decide +kernel)
set_option maxRecDepth 20000 in
theorem gX3_putTo_J7_fill_53178 : GoodIn wsX3_putTo (va_wsS RX3 36 yJ7_fill_53178 wsJ7_fill_53178) := goodIn_app (goodIn_of _ (by decide +kernel)) ggX3_putTo_J7_fill_53178
set_option maxRecDepth 20000 in
theorem ggX3_putTo_X3_take : GoodIn wsX3_putTo wsX3_take := goodIn_r _ [17, 8, 18, 19, 20, 21, 22, 23, 24, 25, 26, 27, 28, 16, 29, 2, 30, 31, 32, 33, 34, 35, 36, 37, 38, 39, 40, 41, 42, 43, 44, 45, 46, 47, 48, 49, 50, 51, 52, 53, 54, 55, 56, 57, 58, 59, 60, 61, 62, 63, 64, 65, 66, 67, 68, 69, 70, 71, 72, 1, 73, 74, 75, 76, 77, 78, 95, 96, 97, 98, 99, 100, 101, 107, 108, 109, 110, 111, 112, 113, 114, 115, 116] (by decide +kernel) (by decide +kernel)
set_option maxRecDepth 20000 in
theorem gX3_putTo_X3_take : GoodIn wsX3_putTo (wsV RX3 47 RX3 yX3_take wsX3_take) := goodIn_app (goodIn_of _ (by decide +kernel)) ggX3_putTo_X3_take
set_option maxRecDepth 20000 in
theorem ggX3_putTo_X3_lookAtBounds : GoodIn wsX3_putTo wsX3_lookAtBounds := goodIn_r _ [82, 3, 83, 2, 8, 84, 85, 86, 33, 87, 35, 22, 20, 23, 19, 21, 88, 31, 32, 34, 36, 37, 38, 39, 40, 41, 42, 43, 44, 45, 46, 47, 48, 49, 50, 51, 52, 53, 54, 55, 56, 57, 58, 59, 60, 61, 62, 63, 64, 65, 66, 95, 96, 97, 98, 99, 100, 101, 102, 103, 104, 105, 106, 107, 108, 109, 110, 111, 112, 113, 114, 115, 116] (by decide +kernel) (by decide +kernel)
set_option maxRecDepth 20000 in
theorem gX3_putTo_X3_lookAtBounds : GoodIn wsX3_putTo (wsV RX3 54 RX3 yX3_lookAtBounds wsX3_lookAtBounds) := goodIn_app (goodIn_of _ (by decide +kernel)) ggX3_putTo_X3_lookAtBounds
set_option maxRecDepth 20000 in
theorem ggX3_putTo_X3_isBoundWithin : GoodIn wsX3_putTo wsX3_isBoundWithin := goodIn_r _ [92, 2, 8, 93, 95, 96, 97, 98, 99, 100, 101, 107, 108, 109, 110, 111, 112, 113, 114, 115, 116] (by decide +kernel) (by decide +kernel)
set_option maxRecDepth 20000 in
theorem gX3_putTo_X3_isBoundWithin : GoodIn wsX3_putTo (wsV RX3 61 RX3 yX3_isBoundWithin wsX3_isBoundWithin) := goodIn_app (goodIn_of _ (by decide +kernel)) ggX3_putTo_X3_isBoundWithin
set_option maxRecDepth 20000 in
theorem ggX3_putTo_X4_putIn : GoodIn wsX3_putTo wsX4_putIn := goodIn_r _ [50, 51, 52, 53, 54, 35, 37, 38, 55, 56, 57, 33, 58, 59, 60, 61, 62, 63, 64, 65, 66, 107, 108, 109, 110, 111, 112, 113, 114, 115, 116] (by decide +kernel) (by decide +kernel)
set_option maxRecDepth 20000 in
theorem gX3_putTo_X4_putIn : GoodIn wsX3_putTo (wsV RX3 65 RX4 yX4_putIn wsX4_putIn) := goodIn_app (goodIn_of _ (by decide +kernel)) ggX3_putTo_X4_putIn
theorem dX3_putTo_0 : decode cX3_putTo 0 = .ok (.aload_n 0, 1) := by decide +kernel
theorem dX3_putTo_1 : decode cX3_putTo 1 = .ok (.getfield 19, 3) := by decide +kernel
theorem dX3_putTo_4 : decode cX3_putTo 4 = .ok (.iconst (-1), 1) := by decide +kernel
theorem dX3_putTo_5 : decode cX3_putTo 5 = .ok (.invokestatic 36, 3) := by decide +kernel
theorem dX3_putTo_8 : decode cX3_putTo 8 = .ok (.aload_n 0, 1) := by decide +kernel
theorem dX3_putTo_9 : decode cX3_putTo 9 = .ok (.getfield 9, 3) := by decide +kernel
theorem dX3_putTo_12 : decode cX3_putTo 12 = .ok (.iconst (-1), 1) := by decide +kernel
theorem dX3_putTo_13 : decode cX3_putTo 13 = .ok (.invokestatic 36, 3) := by decide +kernel
theorem dX3_putTo_16 : decode cX3_putTo 16 = .ok (.aload_n 0, 1) := by decide +kernel
theorem dX3_putTo_17 : decode cX3_putTo 17 = .ok (.aload_n 0, 1) := by decide +kernel
theorem dX3_putTo_18 : decode cX3_putTo 18 = .ok (.aload_n 0, 1) := by decide +kernel
theorem dX3_putTo_19 : decode cX3_putTo 19 = .ok (.getfield 32, 3) := by decide +kernel
theorem dX3_putTo_22 : decode cX3_putTo 22 = .ok (.getfield 42, 3) := by decide +kernel
theorem dX3_putTo_25 : decode cX3_putTo 25 = .ok (.iload_n 1, 1) := by decide +kernel
theorem dX3_putTo_26 : decode cX3_putTo 26 = .ok (.iaload, 1) := by decide +kernel
theorem dX3_putTo_27 : decode cX3_putTo 27 = .ok (.iload_n 2, 1) := by decide +kernel
theorem dX3_putTo_28 : decode cX3_putTo 28 = .ok (.invokevirtual 47, 3) := by decide +kernel
theorem dX3_putTo_31 : decode cX3_putTo 31 = .ok (.putfield 15, 3) := by decide +kernel
theorem dX3_putTo_34 : decode cX3_putTo 34 = .ok (.aload_n 0, 1) := by decide +kernel
theorem dX3_putTo_35 : decode cX3_putTo 35 = .ok (.getfield 15, 3) := by decide +kernel
theorem dX3_putTo_38 : decode cX3_putTo 38 = .ok (.ifCond .ne 26, 3) := by decide +kernel
theorem dX3_putTo_41 : decode cX3_putTo 41 = .ok (.iload_n 3, 1) := by decide +kernel
theorem dX3_putTo_42 : decode cX3_putTo 42 = .ok (.iconst (-1), 1) := by decide +kernel
theorem dX3_putTo_43 : decode cX3_putTo 43 = .ok (.if_icmp .eq 21, 3) := by decide +kernel
theorem dX3_putTo_46 : decode cX3_putTo 46 = .ok (.aload_n 0, 1) := by decide +kernel
theorem dX3_putTo_47 : decode cX3_putTo 47 = .ok (.aload_n 0, 1) := by decide +kernel
theorem dX3_putTo_48 : decode cX3_putTo 48 = .ok (.aload_n 0, 1) := by decide +kernel
theorem dX3_putTo_49 : decode cX3_putTo 49 = .ok (.getfield 32, 3) := by decide +kernel
theorem dX3_putTo_52 : decode cX3_putTo 52 = .ok (.getfield 51, 3) := by decide +kernel
theorem dX3_putTo_55 : decode cX3_putTo 55 = .ok (.iload_n 1, 1) := by decide +kernel
theorem dX3_putTo_56 : decode cX3_putTo 56 = .ok (.iaload, 1) := by decide +kernel
theorem dX3_putTo_57 : decode cX3_putTo 57 = .ok (.iload_n 3, 1) := by decide +kernel
theorem dX3_putTo_58 : decode cX3_putTo 58 = .ok (.invokevirtual 47, 3) := by decide +kernel
theorem dX3_putTo_61 : decode cX3_putTo 61 = .ok (.putfield 15, 3) := by decide +kernel
theorem dX3_putTo_64 : decode cX3_putTo 64 = .ok (.aload_n 0, 1) := by decide +kernel
theorem dX3_putTo_65 : decode cX3_putTo 65 = .ok (.getfield 15, 3) := by decide +kernel
theorem dX3_putTo_68 : decode cX3_putTo 68 = .ok (.ifCond .ne 12, 3) := by decide +kernel
theorem dX3_putTo_71 : decode cX3_putTo 71 = .ok (.aload_n 0, 1) := by decide +kernel
theorem dX3_putTo_72 : decode cX3_putTo 72 = .ok (.aload_n 0, 1) := by decide +kernel
theorem dX3_putTo_73 : decode cX3_putTo 73 = .ok (.iload_n 1, 1) := by decide +kernel
theorem dX3_putTo_74 : decode cX3_putTo 74 = .ok (.invokevirtual 54, 3) := by decide +kernel
theorem dX3_putTo_77 : decode cX3_putTo 77 = .ok (.putfield 15, 3) := by decide +kernel
theorem dX3_putTo_80 : decode cX3_putTo 80 = .ok (.aload_n 0, 1) := by decide +kernel
theorem dX3_putTo_81 : decode cX3_putTo 81 = .ok (.getfield 32, 3) := by decide +kernel
theorem dX3_putTo_84 : decode cX3_putTo 84 = .ok (.getfield 58, 3) := by decide +kernel
theorem dX3_putTo_87 : decode cX3_putTo 87 = .ok (.iload_n 1, 1) := by decide +kernel
theorem dX3_putTo_88 : decode cX3_putTo 88 = .ok (.iaload, 1) := by decide +kernel
theorem dX3_putTo_89 : decode cX3_putTo 89 = .ok (.istore 4, 2) := by decide +kernel
theorem dX3_putTo_91 : decode cX3_putTo 91 = .ok (.aload_n 0, 1) := by decide +kernel
theorem dX3_putTo_92 : decode cX3_putTo 92 = .ok (.getfield 15, 3) := by decide +kernel
theorem dX3_putTo_95 : decode cX3_putTo 95 = .ok (.ifCond .ne 17, 3) := by decide +kernel
theorem dX3_putTo_98 : decode cX3_putTo 98 = .ok (.aload_n 0, 1) := by decide +kernel
theorem dX3_putTo_99 : decode cX3_putTo 99 = .ok (.iload 4, 2) := by decide +kernel
theorem dX3_putTo_101 : decode cX3_putTo 101 = .ok (.invokevirtual 61, 3) := by decide +kernel
theorem dX3_putTo_104 : decode cX3_putTo 104 = .ok (.ifCond .ne 8, 3) := by decide +kernel
theorem dX3_putTo_107 : decode cX3_putTo 107 = .ok (.aload_n 0, 1) := by decide +kernel
theorem dX3_putTo_108 : decode cX3_putTo 108 = .ok (.iconst 4, 1) := by decide +kernel
theorem dX3_putTo_109 : decode cX3_putTo 109 = .ok (.putfield 15, 3) := by decide +kernel
theorem dX3_putTo_112 : decode cX3_putTo 112 = .ok (.aload_n 0, 1) := by decide +kernel
theorem dX3_putTo_113 : decode cX3_putTo 113 = .ok (.getfield 15, 3) := by decide +kernel
theorem dX3_putTo_116 : decode cX3_putTo 116 = .ok (.ifCond .eq 5, 3) := by decide +kernel
theorem dX3_putTo_119 : decode cX3_putTo 119 = .ok (.iconst (-1), 1) := by decide +kernel
theorem dX3_putTo_120 : decode cX3_putTo 120 = .ok (.ireturn, 1) := by decide +kernel
theorem dX3_putTo_121 : decode cX3_putTo 121 = .ok (.aload_n 0, 1) := by decide +kernel
theorem dX3_putTo_122 : decode cX3_putTo 122 = .ok (.getfield 28, 3) := by decide +kernel
theorem dX3_putTo_125 : decode cX3_putTo 125 = .ok (.iload 4, 2) := by decide +kernel
theorem dX3_putTo_127 : decode cX3_putTo 127 = .ok (.aload_n 0, 1) := by decide +kernel
theorem dX3_putTo_128 : decode cX3_putTo 128 = .ok (.getfield 9, 3) := by decide +kernel
theorem dX3_putTo_131 : decode cX3_putTo 131 = .ok (.iconst 0, 1) := by decide +kernel
theorem dX3_putTo_132 : decode cX3_putTo 132 = .ok (.iaload, 1) := by decide +kernel
theorem dX3_putTo_133 : decode cX3_putTo 133 = .ok (.aload_n 0, 1) := by decide +kernel
theorem dX3_putTo_134 : decode cX3_putTo 134 = .ok (.getfield 9, 3) := by decide +kernel
theorem dX3_putTo_137 : decode cX3_putTo 137 = .ok (.iconst 1, 1) := by decide +kernel
theorem dX3_putTo_138 : decode cX3_putTo 138 = .ok (.iaload, 1) := by decide +kernel
theorem dX3_putTo_139 : decode cX3_putTo 139 = .ok (.invokevirtual 65, 3) := by decide +kernel
theorem dX3_putTo_142 : decode cX3_putTo 142 = .ok (.istore 5, 2) := by decide +kernel
theorem dX3_putTo_144 : decode cX3_putTo 144 = .ok (.aload_n 0, 1) := by decide +kernel
theorem dX3_putTo_145 : decode cX3_putTo 145 = .ok (.iload 5, 2) := by decide +kernel
theorem dX3_putTo_147 : decode cX3_putTo 147 = .ok (.bipush (-3), 2) := by decide +kernel
theorem dX3_putTo_149 : decode cX3_putTo 149 = .ok (.if_icmp .ne 8, 3) := by decide +kernel
theorem dX3_putTo_152 : decode cX3_putTo 152 = .ok (.bipush 8, 2) := by decide +kernel
theorem dX3_putTo_154 : decode cX3_putTo 154 = .ok (.goto 4, 3) := by decide +kernel
theorem dX3_putTo_157 : decode cX3_putTo 157 = .ok (.iconst 0, 1) := by decide +kernel
theorem dX3_putTo_158 : decode cX3_putTo 158 = .ok (.putfield 15, 3) := by decide +kernel
theorem dX3_putTo_161 : decode cX3_putTo 161 = .ok (.iload 5, 2) := by decide +kernel
theorem dX3_putTo_163 : decode cX3_putTo 163 = .ok (.bipush (-3), 2) := by decide +kernel
theorem dX3_putTo_165 : decode cX3_putTo 165 = .ok (.if_icmp .ne 7, 3) := by decide +kernel
theorem dX3_putTo_168 : decode cX3_putTo 168 = .ok (.iconst (-1), 1) := by decide +kernel
theorem dX3_putTo_169 : decode cX3_putTo 169 = .ok (.goto 5, 3) := by decide +kernel
theorem dX3_putTo_172 : decode cX3_putTo 172 = .ok (.iload 5, 2) := by decide +kernel
theorem dX3_putTo_174 : decode cX3_putTo 174 = .ok (.ireturn, 1) := by decide +kernel
set_option maxRecDepth 20000 in
theorem ggX3_take_X6_isPrimitive : GoodIn wsX3_take wsX6_isPrimitive := goodIn_r _ [5] (by decide +kernel) (by decide +kernel)
set_option maxRecDepth 20000 in
theorem gX3_take_X6_isPrimitive_n71 : GoodIn wsX3_take (wsX6_isPrimitive) := ggX3_take_X6_isPrimitive
set_option maxRecDepth 20000 in
theorem ggX3_take_X6_widens : GoodIn wsX3_take wsX6_widens := goodIn_r _ [7] (by decide +kernel) (by decide +kernel)
set_option maxRecDepth 20000 in
theorem gX3_take_X6_widens_n74 : GoodIn wsX3_take (wsX6_widens) := ggX3_take_X6_widens
set_option maxRecDepth 20000 in
theorem ggX3_take_X6_isVariable : GoodIn wsX3_take wsX6_isVariable := goodIn_r _ [9] (by decide +kernel) (by decide +kernel)
set_option maxRecDepth 20000 in
theorem gX3_take_X6_isVariable_n78 : GoodIn wsX3_take (wsX6_isVariable) := ggX3_take_X6_isVariable
set_option maxRecDepth 20000 in
theorem ggX3_take_X3_bindTo : GoodIn wsX3_take wsX3_bindTo := goodIn_r _ [14, 15, 66, 67, 68, 69, 70, 71, 72] (by decide +kernel) (by decide +kernel)
set_option maxRecDepth 20000 in
theorem gX3_take_X3_bindTo : GoodIn wsX3_take (wsV RX3 81 RX3 yX3_bindTo wsX3_bindTo) := goodIn_app (goodIn_of _ (by decide +kernel)) ggX3_take_X3_bindTo
set_option maxRecDepth 20000 in
theorem ggX3_take_X4_seenAs : GoodIn wsX3_take wsX4_seenAs := goodIn_r _ [20, 21, 22, 23, 24, 25, 26, 27, 19, 28, 29, 30, 31, 32, 33, 34, 35, 36, 37, 38, 39, 40, 41, 42, 43, 44, 45, 46, 47, 48, 49, 50, 51, 52, 73, 74, 75, 76, 77, 78, 79, 80, 81, 82] (by decide +kernel) (by decide +kernel)
set_option maxRecDepth 20000 in
theorem gX3_take_X4_seenAs : GoodIn wsX3_take (wsV RX3 87 RX4 yX4_seenAs wsX4_seenAs) := goodIn_app (goodIn_of _ (by decide +kernel)) ggX3_take_X4_seenAs
set_option maxRecDepth 20000 in
theorem ggX3_take_X3_match : GoodIn wsX3_take wsX3_match := goodIn_r _ [56, 57, 58, 1, 2, 59, 60, 61, 8, 4, 9, 10, 11, 12, 13, 14, 15, 62, 63, 64, 65, 66, 67, 68, 69, 70, 71, 72, 73, 74, 75, 76, 77, 78, 79, 80, 81, 82] (by decide +kernel) (by decide +kernel)
set_option maxRecDepth 20000 in
theorem gX3_take_X3_match : GoodIn wsX3_take (wsV RX3 90 RX3 yX3_match wsX3_match) := goodIn_app (goodIn_of _ (by decide +kernel)) ggX3_take_X3_match
theorem dX3_take_0 : decode cX3_take 0 = .ok (.iload_n 1, 1) := by decide +kernel
theorem dX3_take_1 : decode cX3_take 1 = .ok (.invokestatic 71, 3) := by decide +kernel
theorem dX3_take_4 : decode cX3_take 4 = .ok (.ifCond .eq 22, 3) := by decide +kernel
theorem dX3_take_7 : decode cX3_take 7 = .ok (.iload_n 2, 1) := by decide +kernel
theorem dX3_take_8 : decode cX3_take 8 = .ok (.iload_n 1, 1) := by decide +kernel
theorem dX3_take_9 : decode cX3_take 9 = .ok (.if_icmp .eq 11, 3) := by decide +kernel
theorem dX3_take_12 : decode cX3_take 12 = .ok (.iload_n 2, 1) := by decide +kernel
theorem dX3_take_13 : decode cX3_take 13 = .ok (.iload_n 1, 1) := by decide +kernel
theorem dX3_take_14 : decode cX3_take 14 = .ok (.invokestatic 74, 3) := by decide +kernel
theorem dX3_take_17 : decode cX3_take 17 = .ok (.ifCond .eq 7, 3) := by decide +kernel
theorem dX3_take_20 : decode cX3_take 20 = .ok (.iconst 0, 1) := by decide +kernel
theorem dX3_take_21 : decode cX3_take 21 = .ok (.goto 4, 3) := by decide +kernel
theorem dX3_take_24 : decode cX3_take 24 = .ok (.iconst 1, 1) := by decide +kernel
theorem dX3_take_25 : decode cX3_take 25 = .ok (.ireturn, 1) := by decide +kernel
theorem dX3_take_26 : decode cX3_take 26 = .ok (.iload_n 2, 1) := by decide +kernel
theorem dX3_take_27 : decode cX3_take 27 = .ok (.invokestatic 71, 3) := by decide +kernel
theorem dX3_take_30 : decode cX3_take 30 = .ok (.ifCond .eq 5, 3) := by decide +kernel
theorem dX3_take_33 : decode cX3_take 33 = .ok (.iconst 1, 1) := by decide +kernel
theorem dX3_take_34 : decode cX3_take 34 = .ok (.ireturn, 1) := by decide +kernel
theorem dX3_take_35 : decode cX3_take 35 = .ok (.iload_n 1, 1) := by decide +kernel
theorem dX3_take_36 : decode cX3_take 36 = .ok (.invokestatic 78, 3) := by decide +kernel
theorem dX3_take_39 : decode cX3_take 39 = .ok (.ifCond .eq 10, 3) := by decide +kernel
theorem dX3_take_42 : decode cX3_take 42 = .ok (.aload_n 0, 1) := by decide +kernel
theorem dX3_take_43 : decode cX3_take 43 = .ok (.iload_n 1, 1) := by decide +kernel
theorem dX3_take_44 : decode cX3_take 44 = .ok (.iload_n 2, 1) := by decide +kernel
theorem dX3_take_45 : decode cX3_take 45 = .ok (.invokevirtual 81, 3) := by decide +kernel
theorem dX3_take_48 : decode cX3_take 48 = .ok (.ireturn, 1) := by decide +kernel
theorem dX3_take_49 : decode cX3_take 49 = .ok (.aload_n 0, 1) := by decide +kernel
theorem dX3_take_50 : decode cX3_take 50 = .ok (.getfield 28, 3) := by decide +kernel
theorem dX3_take_53 : decode cX3_take 53 = .ok (.iload_n 2, 1) := by decide +kernel
theorem dX3_take_54 : decode cX3_take 54 = .ok (.aload_n 0, 1) := by decide +kernel
theorem dX3_take_55 : decode cX3_take 55 = .ok (.getfield 28, 3) := by decide +kernel
theorem dX3_take_58 : decode cX3_take 58 = .ok (.getfield 84, 3) := by decide +kernel
theorem dX3_take_61 : decode cX3_take 61 = .ok (.iload_n 1, 1) := by decide +kernel
theorem dX3_take_62 : decode cX3_take 62 = .ok (.iaload, 1) := by decide +kernel
theorem dX3_take_63 : decode cX3_take 63 = .ok (.invokevirtual 87, 3) := by decide +kernel
theorem dX3_take_66 : decode cX3_take 66 = .ok (.istore_n 3, 1) := by decide +kernel
theorem dX3_take_67 : decode cX3_take 67 = .ok (.iload_n 3, 1) := by decide +kernel
theorem dX3_take_68 : decode cX3_take 68 = .ok (.bipush (-3), 2) := by decide +kernel
theorem dX3_take_70 : decode cX3_take 70 = .ok (.if_icmp .ne 6, 3) := by decide +kernel
theorem dX3_take_73 : decode cX3_take 73 = .ok (.bipush 8, 2) := by decide +kernel
theorem dX3_take_75 : decode cX3_take 75 = .ok (.ireturn, 1) := by decide +kernel
theorem dX3_take_76 : decode cX3_take 76 = .ok (.iload_n 3, 1) := by decide +kernel
theorem dX3_take_77 : decode cX3_take 77 = .ok (.iconst (-1), 1) := by decide +kernel
theorem dX3_take_78 : decode cX3_take 78 = .ok (.if_icmp .ne 7, 3) := by decide +kernel
theorem dX3_take_81 : decode cX3_take 81 = .ok (.iconst 1, 1) := by decide +kernel
theorem dX3_take_82 : decode cX3_take 82 = .ok (.goto 9, 3) := by decide +kernel
theorem dX3_take_85 : decode cX3_take 85 = .ok (.aload_n 0, 1) := by decide +kernel
theorem dX3_take_86 : decode cX3_take 86 = .ok (.iload_n 1, 1) := by decide +kernel
theorem dX3_take_87 : decode cX3_take 87 = .ok (.iload_n 3, 1) := by decide +kernel
theorem dX3_take_88 : decode cX3_take 88 = .ok (.invokevirtual 90, 3) := by decide +kernel
theorem dX3_take_91 : decode cX3_take 91 = .ok (.ireturn, 1) := by decide +kernel
theorem dX3_bindTo_0 : decode cX3_bindTo 0 = .ok (.iload_n 1, 1) := by decide +kernel
theorem dX3_bindTo_1 : decode cX3_bindTo 1 = .ok (.iconst 4, 1) := by decide +kernel
theorem dX3_bindTo_2 : decode cX3_bindTo 2 = .ok (.isub, 1) := by decide +kernel
theorem dX3_bindTo_3 : decode cX3_bindTo 3 = .ok (.istore_n 3, 1) := by decide +kernel
theorem dX3_bindTo_4 : decode cX3_bindTo 4 = .ok (.aload_n 0, 1) := by decide +kernel
theorem dX3_bindTo_5 : decode cX3_bindTo 5 = .ok (.getfield 9, 3) := by decide +kernel
theorem dX3_bindTo_8 : decode cX3_bindTo 8 = .ok (.iload_n 3, 1) := by decide +kernel
theorem dX3_bindTo_9 : decode cX3_bindTo 9 = .ok (.iaload, 1) := by decide +kernel
theorem dX3_bindTo_10 : decode cX3_bindTo 10 = .ok (.iconst (-1), 1) := by decide +kernel
theorem dX3_bindTo_11 : decode cX3_bindTo 11 = .ok (.if_icmp .ne 10, 3) := by decide +kernel
theorem dX3_bindTo_14 : decode cX3_bindTo 14 = .ok (.aload_n 0, 1) := by decide +kernel
theorem dX3_bindTo_15 : decode cX3_bindTo 15 = .ok (.getfield 9, 3) := by decide +kernel
theorem dX3_bindTo_18 : decode cX3_bindTo 18 = .ok (.iload_n 3, 1) := by decide +kernel
theorem dX3_bindTo_19 : decode cX3_bindTo 19 = .ok (.iload_n 2, 1) := by decide +kernel
theorem dX3_bindTo_20 : decode cX3_bindTo 20 = .ok (.iastore, 1) := by decide +kernel
theorem dX3_bindTo_21 : decode cX3_bindTo 21 = .ok (.aload_n 0, 1) := by decide +kernel
theorem dX3_bindTo_22 : decode cX3_bindTo 22 = .ok (.getfield 9, 3) := by decide +kernel
theorem dX3_bindTo_25 : decode cX3_bindTo 25 = .ok (.iload_n 3, 1) := by decide +kernel
theorem dX3_bindTo_26 : decode cX3_bindTo 26 = .ok (.iaload, 1) := by decide +kernel
theorem dX3_bindTo_27 : decode cX3_bindTo 27 = .ok (.iload_n 2, 1) := by decide +kernel
theorem dX3_bindTo_28 : decode cX3_bindTo 28 = .ok (.if_icmp .ne 7, 3) := by decide +kernel
theorem dX3_bindTo_31 : decode cX3_bindTo 31 = .ok (.iconst 0, 1) := by decide +kernel
theorem dX3_bindTo_32 : decode cX3_bindTo 32 = .ok (.goto 4, 3) := by decide +kernel
theorem dX3_bindTo_35 : decode cX3_bindTo 35 = .ok (.iconst 2, 1) := by decide +kernel
theorem dX3_bindTo_36 : decode cX3_bindTo 36 = .ok (.ireturn, 1) := by decide +kernel
set_option maxRecDepth 20000 in
theorem ggX3_match_X6_isVariable : GoodIn wsX3_match wsX6_isVariable := goodIn_r _ [10] (by decide +kernel) (by decide +kernel)
set_option maxRecDepth 20000 in
theorem gX3_match_X6_isVariable_n78 : GoodIn wsX3_match (wsX6_isVariable) := ggX3_match_X6_isVariable
set_option maxRecDepth 20000 in
theorem ggX3_match_X3_bindTo : GoodIn wsX3_match wsX3_bindTo := goodIn_r _ [15, 16, 21, 22, 23, 24, 25, 26, 27] (by decide +kernel) (by decide +kernel)
set_option maxRecDepth 20000 in
theorem gX3_match_X3_bindTo : GoodIn wsX3_match (wsV RX3 81 RX3 yX3_bindTo wsX3_bindTo) := goodIn_app (goodIn_of _ (by decide +kernel)) ggX3_match_X3_bindTo
set_option maxRecDepth 20000 in
theorem ggX3_match_X3_await : GoodIn wsX3_match wsX3_await := goodIn_r _ [20, 1, 2, 21, 22, 23, 24, 25, 26, 27] (by decide +kernel) (by decide +kernel)
set_option maxRecDepth 20000 in
theorem gX3_match_X3_await : GoodIn wsX3_match (wsV RX3 94 RX3 yX3_await wsX3_await) := goodIn_app (goodIn_of _ (by decide +kernel)) ggX3_match_X3_await
theorem dX3_match_0 : decode cX3_match 0 = .ok (.aload_n 0, 1) := by decide +kernel
theorem dX3_match_1 : decode cX3_match 1 = .ok (.getfield 22, 3) := by decide +kernel
theorem dX3_match_4 : decode cX3_match 4 = .ok (.iconst 0, 1) := by decide +kernel
theorem dX3_match_5 : decode cX3_match 5 = .ok (.iload_n 1, 1) := by decide +kernel
theorem dX3_match_6 : decode cX3_match 6 = .ok (.iastore, 1) := by decide +kernel
theorem dX3_match_7 : decode cX3_match 7 = .ok (.aload_n 0, 1) := by decide +kernel
theorem dX3_match_8 : decode cX3_match 8 = .ok (.getfield 25, 3) := by decide +kernel
theorem dX3_match_11 : decode cX3_match 11 = .ok (.iconst 0, 1) := by decide +kernel
theorem dX3_match_12 : decode cX3_match 12 = .ok (.iload_n 2, 1) := by decide +kernel
theorem dX3_match_13 : decode cX3_match 13 = .ok (.iastore, 1) := by decide +kernel
theorem dX3_match_14 : decode cX3_match 14 = .ok (.iconst 1, 1) := by decide +kernel
theorem dX3_match_15 : decode cX3_match 15 = .ok (.istore_n 3, 1) := by decide +kernel
theorem dX3_match_16 : decode cX3_match 16 = .ok (.iconst 0, 1) := by decide +kernel
theorem dX3_match_17 : decode cX3_match 17 = .ok (.istore 4, 2) := by decide +kernel
theorem dX3_match_19 : decode cX3_match 19 = .ok (.iconst 0, 1) := by decide +kernel
theorem dX3_match_20 : decode cX3_match 20 = .ok (.istore 5, 2) := by decide +kernel
theorem dX3_match_22 : decode cX3_match 22 = .ok (.iload_n 3, 1) := by decide +kernel
theorem dX3_match_23 : decode cX3_match 23 = .ok (.ifCond .le 167, 3) := by decide +kernel
theorem dX3_match_26 : decode cX3_match 26 = .ok (.iload 5, 2) := by decide +kernel
theorem dX3_match_28 : decode cX3_match 28 = .ok (.sipush 6400, 3) := by decide +kernel
theorem dX3_match_31 : decode cX3_match 31 = .ok (.if_icmp .ge 159, 3) := by decide +kernel
theorem dX3_match_34 : decode cX3_match 34 = .ok (.iinc 3 (-1), 3) := by decide +kernel
theorem dX3_match_37 : decode cX3_match 37 = .ok (.aload_n 0, 1) := by decide +kernel
theorem dX3_match_38 : decode cX3_match 38 = .ok (.getfield 22, 3) := by decide +kernel
theorem dX3_match_41 : decode cX3_match 41 = .ok (.iload_n 3, 1) := by decide +kernel
theorem dX3_match_42 : decode cX3_match 42 = .ok (.iaload, 1) := by decide +kernel
theorem dX3_match_43 : decode cX3_match 43 = .ok (.istore 6, 2) := by decide +kernel
theorem dX3_match_45 : decode cX3_match 45 = .ok (.aload_n 0, 1) := by decide +kernel
theorem dX3_match_46 : decode cX3_match 46 = .ok (.getfield 25, 3) := by decide +kernel
theorem dX3_match_49 : decode cX3_match 49 = .ok (.iload_n 3, 1) := by decide +kernel
theorem dX3_match_50 : decode cX3_match 50 = .ok (.iaload, 1) := by decide +kernel
theorem dX3_match_51 : decode cX3_match 51 = .ok (.istore 7, 2) := by decide +kernel
theorem dX3_match_53 : decode cX3_match 53 = .ok (.iload 6, 2) := by decide +kernel
theorem dX3_match_55 : decode cX3_match 55 = .ok (.invokestatic 78, 3) := by decide +kernel
theorem dX3_match_58 : decode cX3_match 58 = .ok (.ifCond .eq 16, 3) := by decide +kernel
theorem dX3_match_61 : decode cX3_match 61 = .ok (.aload_n 0, 1) := by decide +kernel
theorem dX3_match_62 : decode cX3_match 62 = .ok (.iload 6, 2) := by decide +kernel
theorem dX3_match_64 : decode cX3_match 64 = .ok (.iload 7, 2) := by decide +kernel
theorem dX3_match_66 : decode cX3_match 66 = .ok (.invokevirtual 81, 3) := by decide +kernel
theorem dX3_match_69 : decode cX3_match 69 = .ok (.istore 4, 2) := by decide +kernel
theorem dX3_match_71 : decode cX3_match 71 = .ok (.goto 105, 3) := by decide +kernel
theorem dX3_match_74 : decode cX3_match 74 = .ok (.aload_n 0, 1) := by decide +kernel
theorem dX3_match_75 : decode cX3_match 75 = .ok (.getfield 28, 3) := by decide +kernel
theorem dX3_match_78 : decode cX3_match 78 = .ok (.getfield 84, 3) := by decide +kernel
theorem dX3_match_81 : decode cX3_match 81 = .ok (.iload 6, 2) := by decide +kernel
theorem dX3_match_83 : decode cX3_match 83 = .ok (.iaload, 1) := by decide +kernel
theorem dX3_match_84 : decode cX3_match 84 = .ok (.aload_n 0, 1) := by decide +kernel
theorem dX3_match_85 : decode cX3_match 85 = .ok (.getfield 28, 3) := by decide +kernel
theorem dX3_match_88 : decode cX3_match 88 = .ok (.getfield 84, 3) := by decide +kernel
theorem dX3_match_91 : decode cX3_match 91 = .ok (.iload 7, 2) := by decide +kernel
theorem dX3_match_93 : decode cX3_match 93 = .ok (.iaload, 1) := by decide +kernel
theorem dX3_match_94 : decode cX3_match 94 = .ok (.if_icmp .eq 9, 3) := by decide +kernel
theorem dX3_match_97 : decode cX3_match 97 = .ok (.iconst 1, 1) := by decide +kernel
theorem dX3_match_98 : decode cX3_match 98 = .ok (.istore 4, 2) := by decide +kernel
theorem dX3_match_100 : decode cX3_match 100 = .ok (.goto 76, 3) := by decide +kernel
theorem dX3_match_103 : decode cX3_match 103 = .ok (.aload_n 0, 1) := by decide +kernel
theorem dX3_match_104 : decode cX3_match 104 = .ok (.getfield 19, 3) := by decide +kernel
theorem dX3_match_107 : decode cX3_match 107 = .ok (.iload 6, 2) := by decide +kernel
theorem dX3_match_109 : decode cX3_match 109 = .ok (.iaload, 1) := by decide +kernel
theorem dX3_match_110 : decode cX3_match 110 = .ok (.iload 7, 2) := by decide +kernel
theorem dX3_match_112 : decode cX3_match 112 = .ok (.if_icmp .eq 64, 3) := by decide +kernel
theorem dX3_match_115 : decode cX3_match 115 = .ok (.aload_n 0, 1) := by decide +kernel
theorem dX3_match_116 : decode cX3_match 116 = .ok (.getfield 19, 3) := by decide +kernel
theorem dX3_match_119 : decode cX3_match 119 = .ok (.iload 6, 2) := by decide +kernel
theorem dX3_match_121 : decode cX3_match 121 = .ok (.iload 7, 2) := by decide +kernel
theorem dX3_match_123 : decode cX3_match 123 = .ok (.iastore, 1) := by decide +kernel
theorem dX3_match_124 : decode cX3_match 124 = .ok (.aload_n 0, 1) := by decide +kernel
theorem dX3_match_125 : decode cX3_match 125 = .ok (.aload_n 0, 1) := by decide +kernel
theorem dX3_match_126 : decode cX3_match 126 = .ok (.getfield 28, 3) := by decide +kernel
theorem dX3_match_129 : decode cX3_match 129 = .ok (.getfield 93, 3) := by decide +kernel
theorem dX3_match_132 : decode cX3_match 132 = .ok (.iload 6, 2) := by decide +kernel
theorem dX3_match_134 : decode cX3_match 134 = .ok (.iaload, 1) := by decide +kernel
theorem dX3_match_135 : decode cX3_match 135 = .ok (.aload_n 0, 1) := by decide +kernel
theorem dX3_match_136 : decode cX3_match 136 = .ok (.getfield 28, 3) := by decide +kernel
theorem dX3_match_139 : decode cX3_match 139 = .ok (.getfield 93, 3) := by decide +kernel
theorem dX3_match_142 : decode cX3_match 142 = .ok (.iload 7, 2) := by decide +kernel
theorem dX3_match_144 : decode cX3_match 144 = .ok (.iaload, 1) := by decide +kernel
theorem dX3_match_145 : decode cX3_match 145 = .ok (.iload_n 3, 1) := by decide +kernel
theorem dX3_match_146 : decode cX3_match 146 = .ok (.invokevirtual 94, 3) := by decide +kernel
theorem dX3_match_149 : decode cX3_match 149 = .ok (.istore_n 3, 1) := by decide +kernel
theorem dX3_match_150 : decode cX3_match 150 = .ok (.aload_n 0, 1) := by decide +kernel
theorem dX3_match_151 : decode cX3_match 151 = .ok (.aload_n 0, 1) := by decide +kernel
theorem dX3_match_152 : decode cX3_match 152 = .ok (.getfield 28, 3) := by decide +kernel
theorem dX3_match_155 : decode cX3_match 155 = .ok (.getfield 97, 3) := by decide +kernel
theorem dX3_match_158 : decode cX3_match 158 = .ok (.iload 6, 2) := by decide +kernel
theorem dX3_match_160 : decode cX3_match 160 = .ok (.iaload, 1) := by decide +kernel
theorem dX3_match_161 : decode cX3_match 161 = .ok (.aload_n 0, 1) := by decide +kernel
theorem dX3_match_162 : decode cX3_match 162 = .ok (.getfield 28, 3) := by decide +kernel
theorem dX3_match_165 : decode cX3_match 165 = .ok (.getfield 97, 3) := by decide +kernel
theorem dX3_match_168 : decode cX3_match 168 = .ok (.iload 7, 2) := by decide +kernel
theorem dX3_match_170 : decode cX3_match 170 = .ok (.iaload, 1) := by decide +kernel
theorem dX3_match_171 : decode cX3_match 171 = .ok (.iload_n 3, 1) := by decide +kernel
theorem dX3_match_172 : decode cX3_match 172 = .ok (.invokevirtual 94, 3) := by decide +kernel
theorem dX3_match_175 : decode cX3_match 175 = .ok (.istore_n 3, 1) := by decide +kernel
theorem dX3_match_176 : decode cX3_match 176 = .ok (.iload 4, 2) := by decide +kernel
theorem dX3_match_178 : decode cX3_match 178 = .ok (.ifCond .eq 6, 3) := by decide +kernel
theorem dX3_match_181 : decode cX3_match 181 = .ok (.iload 4, 2) := by decide +kernel
theorem dX3_match_183 : decode cX3_match 183 = .ok (.ireturn, 1) := by decide +kernel
theorem dX3_match_184 : decode cX3_match 184 = .ok (.iinc 5 1, 3) := by decide +kernel
theorem dX3_match_187 : decode cX3_match 187 = .ok (.goto (-165), 3) := by decide +kernel
theorem dX3_match_190 : decode cX3_match 190 = .ok (.iconst 0, 1) := by decide +kernel
theorem dX3_match_191 : decode cX3_match 191 = .ok (.ireturn, 1) := by decide +kernel
theorem dX3_await_0 : decode cX3_await 0 = .ok (.iload_n 1, 1) := by decide +kernel
theorem dX3_await_1 : decode cX3_await 1 = .ok (.iconst (-1), 1) := by decide +kernel
theorem dX3_await_2 : decode cX3_await 2 = .ok (.if_icmp .eq 14, 3) := by decide +kernel
theorem dX3_await_5 : decode cX3_await 5 = .ok (.iload_n 2, 1) := by decide +kernel
theorem dX3_await_6 : decode cX3_await 6 = .ok (.iconst (-1), 1) := by decide +kernel
theorem dX3_await_7 : decode cX3_await 7 = .ok (.if_icmp .eq 9, 3) := by decide +kernel
theorem dX3_await_10 : decode cX3_await 10 = .ok (.iload_n 3, 1) := by decide +kernel
theorem dX3_await_11 : decode cX3_await 11 = .ok (.bipush 82, 2) := by decide +kernel
theorem dX3_await_13 : decode cX3_await 13 = .ok (.if_icmp .lt 5, 3) := by decide +kernel
theorem dX3_await_16 : decode cX3_await 16 = .ok (.iload_n 3, 1) := by decide +kernel
theorem dX3_await_17 : decode cX3_await 17 = .ok (.ireturn, 1) := by decide +kernel
theorem dX3_await_18 : decode cX3_await 18 = .ok (.aload_n 0, 1) := by decide +kernel
theorem dX3_await_19 : decode cX3_await 19 = .ok (.getfield 22, 3) := by decide +kernel
theorem dX3_await_22 : decode cX3_await 22 = .ok (.iload_n 3, 1) := by decide +kernel
theorem dX3_await_23 : decode cX3_await 23 = .ok (.iload_n 1, 1) := by decide +kernel
theorem dX3_await_24 : decode cX3_await 24 = .ok (.iastore, 1) := by decide +kernel
theorem dX3_await_25 : decode cX3_await 25 = .ok (.aload_n 0, 1) := by decide +kernel
theorem dX3_await_26 : decode cX3_await 26 = .ok (.getfield 25, 3) := by decide +kernel
theorem dX3_await_29 : decode cX3_await 29 = .ok (.iload_n 3, 1) := by decide +kernel
theorem dX3_await_30 : decode cX3_await 30 = .ok (.iload_n 2, 1) := by decide +kernel
theorem dX3_await_31 : decode cX3_await 31 = .ok (.iastore, 1) := by decide +kernel
theorem dX3_await_32 : decode cX3_await 32 = .ok (.iload_n 3, 1) := by decide +kernel
theorem dX3_await_33 : decode cX3_await 33 = .ok (.iconst 1, 1) := by decide +kernel
theorem dX3_await_34 : decode cX3_await 34 = .ok (.iadd, 1) := by decide +kernel
theorem dX3_await_35 : decode cX3_await 35 = .ok (.ireturn, 1) := by decide +kernel
set_option maxRecDepth 20000 in
theorem ggX3_lookAtBounds_X4_goesFor : GoodIn wsX3_lookAtBounds wsX4_goesFor := goodIn_r _ [9, 10, 11, 12, 13, 14, 15, 16, 17, 18, 8, 19, 20, 21, 22, 23, 24, 25, 26, 27, 28, 29, 30, 31, 32, 33, 34, 35, 36, 37, 38, 39, 40, 41, 42, 43, 44, 45, 46, 47, 48, 49, 50, 63, 64, 65, 66, 67, 68, 69, 70, 71, 72] (by decide +kernel) (by decide +kernel)
set_option maxRecDepth 20000 in
theorem gX3_lookAtBounds_X4_goesFor : GoodIn wsX3_lookAtBounds (wsV RX3 101 RX4 yX4_goesFor wsX4_goesFor) := goodIn_app (goodIn_of _ (by decide +kernel)) ggX3_lookAtBounds_X4_goesFor
theorem dX3_lookAtBounds_0 : decode cX3_lookAtBounds 0 = .ok (.iconst 0, 1) := by decide +kernel
theorem dX3_lookAtBounds_1 : decode cX3_lookAtBounds 1 = .ok (.istore_n 2, 1) := by decide +kernel
theorem dX3_lookAtBounds_2 : decode cX3_lookAtBounds 2 = .ok (.iload_n 2, 1) := by decide +kernel
theorem dX3_lookAtBounds_3 : decode cX3_lookAtBounds 3 = .ok (.iconst 2, 1) := by decide +kernel
theorem dX3_lookAtBounds_4 : decode cX3_lookAtBounds 4 = .ok (.if_icmp .ge 74, 3) := by decide +kernel
theorem dX3_lookAtBounds_7 : decode cX3_lookAtBounds 7 = .ok (.aload_n 0, 1) := by decide +kernel
theorem dX3_lookAtBounds_8 : decode cX3_lookAtBounds 8 = .ok (.getfield 32, 3) := by decide +kernel
theorem dX3_lookAtBounds_11 : decode cX3_lookAtBounds 11 = .ok (.getfield 98, 3) := by decide +kernel
theorem dX3_lookAtBounds_14 : decode cX3_lookAtBounds 14 = .ok (.iload_n 1, 1) := by decide +kernel
theorem dX3_lookAtBounds_15 : decode cX3_lookAtBounds 15 = .ok (.iconst 2, 1) := by decide +kernel
theorem dX3_lookAtBounds_16 : decode cX3_lookAtBounds 16 = .ok (.imul, 1) := by decide +kernel
theorem dX3_lookAtBounds_17 : decode cX3_lookAtBounds 17 = .ok (.iload_n 2, 1) := by decide +kernel
theorem dX3_lookAtBounds_18 : decode cX3_lookAtBounds 18 = .ok (.iadd, 1) := by decide +kernel
theorem dX3_lookAtBounds_19 : decode cX3_lookAtBounds 19 = .ok (.iaload, 1) := by decide +kernel
theorem dX3_lookAtBounds_20 : decode cX3_lookAtBounds 20 = .ok (.istore_n 3, 1) := by decide +kernel
theorem dX3_lookAtBounds_21 : decode cX3_lookAtBounds 21 = .ok (.aload_n 0, 1) := by decide +kernel
theorem dX3_lookAtBounds_22 : decode cX3_lookAtBounds 22 = .ok (.getfield 9, 3) := by decide +kernel
theorem dX3_lookAtBounds_25 : decode cX3_lookAtBounds 25 = .ok (.iload_n 2, 1) := by decide +kernel
theorem dX3_lookAtBounds_26 : decode cX3_lookAtBounds 26 = .ok (.iaload, 1) := by decide +kernel
theorem dX3_lookAtBounds_27 : decode cX3_lookAtBounds 27 = .ok (.iconst (-1), 1) := by decide +kernel
theorem dX3_lookAtBounds_28 : decode cX3_lookAtBounds 28 = .ok (.if_icmp .eq 44, 3) := by decide +kernel
theorem dX3_lookAtBounds_31 : decode cX3_lookAtBounds 31 = .ok (.iload_n 3, 1) := by decide +kernel
theorem dX3_lookAtBounds_32 : decode cX3_lookAtBounds 32 = .ok (.iconst (-1), 1) := by decide +kernel
theorem dX3_lookAtBounds_33 : decode cX3_lookAtBounds 33 = .ok (.if_icmp .eq 39, 3) := by decide +kernel
theorem dX3_lookAtBounds_36 : decode cX3_lookAtBounds 36 = .ok (.aload_n 0, 1) := by decide +kernel
theorem dX3_lookAtBounds_37 : decode cX3_lookAtBounds 37 = .ok (.getfield 28, 3) := by decide +kernel
theorem dX3_lookAtBounds_40 : decode cX3_lookAtBounds 40 = .ok (.aload_n 0, 1) := by decide +kernel
theorem dX3_lookAtBounds_41 : decode cX3_lookAtBounds 41 = .ok (.getfield 9, 3) := by decide +kernel
theorem dX3_lookAtBounds_44 : decode cX3_lookAtBounds 44 = .ok (.iload_n 2, 1) := by decide +kernel
theorem dX3_lookAtBounds_45 : decode cX3_lookAtBounds 45 = .ok (.iaload, 1) := by decide +kernel
theorem dX3_lookAtBounds_46 : decode cX3_lookAtBounds 46 = .ok (.iload_n 3, 1) := by decide +kernel
theorem dX3_lookAtBounds_47 : decode cX3_lookAtBounds 47 = .ok (.invokevirtual 101, 3) := by decide +kernel
theorem dX3_lookAtBounds_50 : decode cX3_lookAtBounds 50 = .ok (.istore 4, 2) := by decide +kernel
theorem dX3_lookAtBounds_52 : decode cX3_lookAtBounds 52 = .ok (.iload 4, 2) := by decide +kernel
theorem dX3_lookAtBounds_54 : decode cX3_lookAtBounds 54 = .ok (.iconst 1, 1) := by decide +kernel
theorem dX3_lookAtBounds_55 : decode cX3_lookAtBounds 55 = .ok (.if_icmp .eq 17, 3) := by decide +kernel
theorem dX3_lookAtBounds_58 : decode cX3_lookAtBounds 58 = .ok (.iload 4, 2) := by decide +kernel
theorem dX3_lookAtBounds_60 : decode cX3_lookAtBounds 60 = .ok (.bipush (-3), 2) := by decide +kernel
theorem dX3_lookAtBounds_62 : decode cX3_lookAtBounds 62 = .ok (.if_icmp .ne 8, 3) := by decide +kernel
theorem dX3_lookAtBounds_65 : decode cX3_lookAtBounds 65 = .ok (.bipush 8, 2) := by decide +kernel
theorem dX3_lookAtBounds_67 : decode cX3_lookAtBounds 67 = .ok (.goto 4, 3) := by decide +kernel
theorem dX3_lookAtBounds_70 : decode cX3_lookAtBounds 70 = .ok (.iconst 3, 1) := by decide +kernel
theorem dX3_lookAtBounds_71 : decode cX3_lookAtBounds 71 = .ok (.ireturn, 1) := by decide +kernel
theorem dX3_lookAtBounds_72 : decode cX3_lookAtBounds 72 = .ok (.iinc 2 1, 3) := by decide +kernel
theorem dX3_lookAtBounds_75 : decode cX3_lookAtBounds 75 = .ok (.goto (-73), 3) := by decide +kernel
theorem dX3_lookAtBounds_78 : decode cX3_lookAtBounds 78 = .ok (.iconst 0, 1) := by decide +kernel
theorem dX3_lookAtBounds_79 : decode cX3_lookAtBounds 79 = .ok (.ireturn, 1) := by decide +kernel
theorem dX3_isBoundWithin_0 : decode cX3_isBoundWithin 0 = .ok (.aload_n 0, 1) := by decide +kernel
theorem dX3_isBoundWithin_1 : decode cX3_isBoundWithin 1 = .ok (.getfield 9, 3) := by decide +kernel
theorem dX3_isBoundWithin_4 : decode cX3_isBoundWithin 4 = .ok (.iconst 0, 1) := by decide +kernel
theorem dX3_isBoundWithin_5 : decode cX3_isBoundWithin 5 = .ok (.iaload, 1) := by decide +kernel
theorem dX3_isBoundWithin_6 : decode cX3_isBoundWithin 6 = .ok (.iconst (-1), 1) := by decide +kernel
theorem dX3_isBoundWithin_7 : decode cX3_isBoundWithin 7 = .ok (.if_icmp .ne 7, 3) := by decide +kernel
theorem dX3_isBoundWithin_10 : decode cX3_isBoundWithin 10 = .ok (.iconst 0, 1) := by decide +kernel
theorem dX3_isBoundWithin_11 : decode cX3_isBoundWithin 11 = .ok (.goto 4, 3) := by decide +kernel
theorem dX3_isBoundWithin_14 : decode cX3_isBoundWithin 14 = .ok (.iconst 1, 1) := by decide +kernel
theorem dX3_isBoundWithin_15 : decode cX3_isBoundWithin 15 = .ok (.aload_n 0, 1) := by decide +kernel
theorem dX3_isBoundWithin_16 : decode cX3_isBoundWithin 16 = .ok (.getfield 9, 3) := by decide +kernel
theorem dX3_isBoundWithin_19 : decode cX3_isBoundWithin 19 = .ok (.iconst 1, 1) := by decide +kernel
theorem dX3_isBoundWithin_20 : decode cX3_isBoundWithin 20 = .ok (.iaload, 1) := by decide +kernel
theorem dX3_isBoundWithin_21 : decode cX3_isBoundWithin 21 = .ok (.iconst (-1), 1) := by decide +kernel
theorem dX3_isBoundWithin_22 : decode cX3_isBoundWithin 22 = .ok (.if_icmp .ne 7, 3) := by decide +kernel
theorem dX3_isBoundWithin_25 : decode cX3_isBoundWithin 25 = .ok (.iconst 0, 1) := by decide +kernel
theorem dX3_isBoundWithin_26 : decode cX3_isBoundWithin 26 = .ok (.goto 4, 3) := by decide +kernel
theorem dX3_isBoundWithin_29 : decode cX3_isBoundWithin 29 = .ok (.iconst 2, 1) := by decide +kernel
theorem dX3_isBoundWithin_30 : decode cX3_isBoundWithin 30 = .ok (.ior, 1) := by decide +kernel
theorem dX3_isBoundWithin_31 : decode cX3_isBoundWithin 31 = .ok (.istore_n 2, 1) := by decide +kernel
theorem dX3_isBoundWithin_32 : decode cX3_isBoundWithin 32 = .ok (.aload_n 0, 1) := by decide +kernel
theorem dX3_isBoundWithin_33 : decode cX3_isBoundWithin 33 = .ok (.getfield 28, 3) := by decide +kernel
theorem dX3_isBoundWithin_36 : decode cX3_isBoundWithin 36 = .ok (.getfield 104, 3) := by decide +kernel
theorem dX3_isBoundWithin_39 : decode cX3_isBoundWithin 39 = .ok (.iload_n 1, 1) := by decide +kernel
theorem dX3_isBoundWithin_40 : decode cX3_isBoundWithin 40 = .ok (.iaload, 1) := by decide +kernel
theorem dX3_isBoundWithin_41 : decode cX3_isBoundWithin 41 = .ok (.iload_n 2, 1) := by decide +kernel
theorem dX3_isBoundWithin_42 : decode cX3_isBoundWithin 42 = .ok (.iconst (-1), 1) := by decide +kernel
theorem dX3_isBoundWithin_43 : decode cX3_isBoundWithin 43 = .ok (.ixor, 1) := by decide +kernel
theorem dX3_isBoundWithin_44 : decode cX3_isBoundWithin 44 = .ok (.iand, 1) := by decide +kernel
theorem dX3_isBoundWithin_45 : decode cX3_isBoundWithin 45 = .ok (.ifCond .ne 7, 3) := by decide +kernel
theorem dX3_isBoundWithin_48 : decode cX3_isBoundWithin 48 = .ok (.iconst 1, 1) := by decide +kernel
theorem dX3_isBoundWithin_49 : decode cX3_isBoundWithin 49 = .ok (.goto 4, 3) := by decide +kernel
theorem dX3_isBoundWithin_52 : decode cX3_isBoundWithin 52 = .ok (.iconst 0, 1) := by decide +kernel
theorem dX3_isBoundWithin_53 : decode cX3_isBoundWithin 53 = .ok (.ireturn, 1) := by decide +kernel
set_option maxRecDepth 20000 in
theorem ggX4_init_X4_addClass : GoodIn wsX4_init wsX4_addClass := goodIn_r _ [19, 4, 6, 7, 28, 29, 30, 31, 32, 33, 34, 35, 36, 37] (by decide +kernel) (by decide +kernel)
set_option maxRecDepth 20000 in
theorem gX4_init_X4_addClass : GoodIn wsX4_init (wsV RX4 43 RX4 yX4_addClass wsX4_addClass) := goodIn_app (goodIn_of _ (by decide +kernel)) ggX4_init_X4_addClass
set_option maxRecDepth 20000 in
theorem ggX4_init_J7_fill_53178 : GoodIn wsX4_init wsJ7_fill_53178 := goodIn_r _ [23] (by decide +kernel) (by decide +kernel)
set_option maxRecDepth 20000 in
theorem gX4_init_J7_fill_53178 : GoodIn wsX4_init (va_wsS RX4 47 yJ7_fill_53178 wsJ7_fill_53178) := goodIn_app (goodIn_of _ (by decide +kernel)) ggX4_init_J7_fill_53178
set_option maxRecDepth 20000 in
theorem ggX4_init_X4_make : GoodIn wsX4_init wsX4_make := goodIn_r _ [27, 8, 9, 10, 11, 12, 28, 29, 30, 31, 32, 33, 34, 35, 36, 37] (by decide +kernel) (by decide +kernel)
set_option maxRecDepth 20000 in
theorem gX4_init_X4_make : GoodIn wsX4_init (wsV RX4 53 RX4 yX4_make wsX4_make) := goodIn_app (goodIn_of _ (by decide +kernel)) ggX4_init_X4_make
theorem dX4_init_0 : decode cX4_init 0 = .ok (.aload_n 0, 1) := by decide +kernel
theorem dX4_init_1 : decode cX4_init 1 = .ok (.invokespecial 3, 3) := by decide +kernel
theorem dX4_init_4 : decode cX4_init 4 = .ok (.aload_n 0, 1) := by decide +kernel
theorem dX4_init_5 : decode cX4_init 5 = .ok (.iconst 0, 1) := by decide +kernel
theorem dX4_init_6 : decode cX4_init 6 = .ok (.putfield 9, 3) := by decide +kernel
theorem dX4_init_9 : decode cX4_init 9 = .ok (.aload_n 0, 1) := by decide +kernel
theorem dX4_init_10 : decode cX4_init 10 = .ok (.bipush 12, 2) := by decide +kernel
theorem dX4_init_12 : decode cX4_init 12 = .ok (.newarray .int, 2) := by decide +kernel
theorem dX4_init_14 : decode cX4_init 14 = .ok (.putfield 15, 3) := by decide +kernel
theorem dX4_init_17 : decode cX4_init 17 = .ok (.aload_n 0, 1) := by decide +kernel
theorem dX4_init_18 : decode cX4_init 18 = .ok (.bipush 12, 2) := by decide +kernel
theorem dX4_init_20 : decode cX4_init 20 = .ok (.newarray .int, 2) := by decide +kernel
theorem dX4_init_22 : decode cX4_init 22 = .ok (.putfield 19, 3) := by decide +kernel
theorem dX4_init_25 : decode cX4_init 25 = .ok (.aload_n 0, 1) := by decide +kernel
theorem dX4_init_26 : decode cX4_init 26 = .ok (.iconst 0, 1) := by decide +kernel
theorem dX4_init_27 : decode cX4_init 27 = .ok (.putfield 22, 3) := by decide +kernel
theorem dX4_init_30 : decode cX4_init 30 = .ok (.aload_n 0, 1) := by decide +kernel
theorem dX4_init_31 : decode cX4_init 31 = .ok (.bipush 80, 2) := by decide +kernel
theorem dX4_init_33 : decode cX4_init 33 = .ok (.newarray .int, 2) := by decide +kernel
theorem dX4_init_35 : decode cX4_init 35 = .ok (.putfield 25, 3) := by decide +kernel
theorem dX4_init_38 : decode cX4_init 38 = .ok (.aload_n 0, 1) := by decide +kernel
theorem dX4_init_39 : decode cX4_init 39 = .ok (.bipush 80, 2) := by decide +kernel
theorem dX4_init_41 : decode cX4_init 41 = .ok (.newarray .int, 2) := by decide +kernel
theorem dX4_init_43 : decode cX4_init 43 = .ok (.putfield 28, 3) := by decide +kernel
theorem dX4_init_46 : decode cX4_init 46 = .ok (.aload_n 0, 1) := by decide +kernel
theorem dX4_init_47 : decode cX4_init 47 = .ok (.bipush 80, 2) := by decide +kernel
theorem dX4_init_49 : decode cX4_init 49 = .ok (.newarray .int, 2) := by decide +kernel
theorem dX4_init_51 : decode cX4_init 51 = .ok (.putfield 31, 3) := by decide +kernel
theorem dX4_init_54 : decode cX4_init 54 = .ok (.aload_n 0, 1) := by decide +kernel
theorem dX4_init_55 : decode cX4_init 55 = .ok (.bipush 80, 2) := by decide +kernel
theorem dX4_init_57 : decode cX4_init 57 = .ok (.newarray .int, 2) := by decide +kernel
theorem dX4_init_59 : decode cX4_init 59 = .ok (.putfield 34, 3) := by decide +kernel
theorem dX4_init_62 : decode cX4_init 62 = .ok (.aload_n 0, 1) := by decide +kernel
theorem dX4_init_63 : decode cX4_init 63 = .ok (.bipush 80, 2) := by decide +kernel
theorem dX4_init_65 : decode cX4_init 65 = .ok (.newarray .int, 2) := by decide +kernel
theorem dX4_init_67 : decode cX4_init 67 = .ok (.putfield 37, 3) := by decide +kernel
theorem dX4_init_70 : decode cX4_init 70 = .ok (.aload_n 0, 1) := by decide +kernel
theorem dX4_init_71 : decode cX4_init 71 = .ok (.bipush 80, 2) := by decide +kernel
theorem dX4_init_73 : decode cX4_init 73 = .ok (.newarray .int, 2) := by decide +kernel
theorem dX4_init_75 : decode cX4_init 75 = .ok (.putfield 40, 3) := by decide +kernel
theorem dX4_init_78 : decode cX4_init 78 = .ok (.aload_n 0, 1) := by decide +kernel
theorem dX4_init_79 : decode cX4_init 79 = .ok (.iconst 0, 1) := by decide +kernel
theorem dX4_init_80 : decode cX4_init 80 = .ok (.iconst (-1), 1) := by decide +kernel
theorem dX4_init_81 : decode cX4_init 81 = .ok (.invokevirtual 43, 3) := by decide +kernel
theorem dX4_init_84 : decode cX4_init 84 = .ok (.pop, 1) := by decide +kernel
theorem dX4_init_85 : decode cX4_init 85 = .ok (.aload_n 0, 1) := by decide +kernel
theorem dX4_init_86 : decode cX4_init 86 = .ok (.getfield 25, 3) := by decide +kernel
theorem dX4_init_89 : decode cX4_init 89 = .ok (.iconst (-1), 1) := by decide +kernel
theorem dX4_init_90 : decode cX4_init 90 = .ok (.invokestatic 47, 3) := by decide +kernel
theorem dX4_init_93 : decode cX4_init 93 = .ok (.aload_n 0, 1) := by decide +kernel
theorem dX4_init_94 : decode cX4_init 94 = .ok (.getfield 28, 3) := by decide +kernel
theorem dX4_init_97 : decode cX4_init 97 = .ok (.iconst (-1), 1) := by decide +kernel
theorem dX4_init_98 : decode cX4_init 98 = .ok (.invokestatic 47, 3) := by decide +kernel
theorem dX4_init_101 : decode cX4_init 101 = .ok (.aload_n 0, 1) := by decide +kernel
theorem dX4_init_102 : decode cX4_init 102 = .ok (.getfield 31, 3) := by decide +kernel
theorem dX4_init_105 : decode cX4_init 105 = .ok (.iconst (-1), 1) := by decide +kernel
theorem dX4_init_106 : decode cX4_init 106 = .ok (.invokestatic 47, 3) := by decide +kernel
theorem dX4_init_109 : decode cX4_init 109 = .ok (.aload_n 0, 1) := by decide +kernel
theorem dX4_init_110 : decode cX4_init 110 = .ok (.getfield 34, 3) := by decide +kernel
theorem dX4_init_113 : decode cX4_init 113 = .ok (.iconst 4, 1) := by decide +kernel
theorem dX4_init_114 : decode cX4_init 114 = .ok (.iconst 1, 1) := by decide +kernel
theorem dX4_init_115 : decode cX4_init 115 = .ok (.iastore, 1) := by decide +kernel
theorem dX4_init_116 : decode cX4_init 116 = .ok (.aload_n 0, 1) := by decide +kernel
theorem dX4_init_117 : decode cX4_init 117 = .ok (.getfield 34, 3) := by decide +kernel
theorem dX4_init_120 : decode cX4_init 120 = .ok (.iconst 5, 1) := by decide +kernel
theorem dX4_init_121 : decode cX4_init 121 = .ok (.iconst 2, 1) := by decide +kernel
theorem dX4_init_122 : decode cX4_init 122 = .ok (.iastore, 1) := by decide +kernel
theorem dX4_init_123 : decode cX4_init 123 = .ok (.aload_n 0, 1) := by decide +kernel
theorem dX4_init_124 : decode cX4_init 124 = .ok (.bipush 6, 2) := by decide +kernel
theorem dX4_init_126 : decode cX4_init 126 = .ok (.putfield 22, 3) := by decide +kernel
theorem dX4_init_129 : decode cX4_init 129 = .ok (.aload_n 0, 1) := by decide +kernel
theorem dX4_init_130 : decode cX4_init 130 = .ok (.iconst 0, 1) := by decide +kernel
theorem dX4_init_131 : decode cX4_init 131 = .ok (.iconst (-1), 1) := by decide +kernel
theorem dX4_init_132 : decode cX4_init 132 = .ok (.iconst (-1), 1) := by decide +kernel
theorem dX4_init_133 : decode cX4_init 133 = .ok (.invokevirtual 53, 3) := by decide +kernel
theorem dX4_init_136 : decode cX4_init 136 = .ok (.pop, 1) := by decide +kernel
theorem dX4_init_137 : decode cX4_init 137 = .ok (.return_, 1) := by decide +kernel
theorem dX4_isClass_0 : decode cX4_isClass 0 = .ok (.iload_n 1, 1) := by decide +kernel
theorem dX4_isClass_1 : decode cX4_isClass 1 = .ok (.ifCond .lt 15, 3) := by decide +kernel
theorem dX4_isClass_4 : decode cX4_isClass 4 = .ok (.iload_n 1, 1) := by decide +kernel
theorem dX4_isClass_5 : decode cX4_isClass 5 = .ok (.aload_n 0, 1) := by decide +kernel
theorem dX4_isClass_6 : decode cX4_isClass 6 = .ok (.getfield 9, 3) := by decide +kernel
theorem dX4_isClass_9 : decode cX4_isClass 9 = .ok (.if_icmp .ge 7, 3) := by decide +kernel
theorem dX4_isClass_12 : decode cX4_isClass 12 = .ok (.iconst 1, 1) := by decide +kernel
theorem dX4_isClass_13 : decode cX4_isClass 13 = .ok (.goto 4, 3) := by decide +kernel
theorem dX4_isClass_16 : decode cX4_isClass 16 = .ok (.iconst 0, 1) := by decide +kernel
theorem dX4_isClass_17 : decode cX4_isClass 17 = .ok (.ireturn, 1) := by decide +kernel
theorem dX4_isType_0 : decode cX4_isType 0 = .ok (.iload_n 1, 1) := by decide +kernel
theorem dX4_isType_1 : decode cX4_isType 1 = .ok (.ifCond .lt 15, 3) := by decide +kernel
theorem dX4_isType_4 : decode cX4_isType 4 = .ok (.iload_n 1, 1) := by decide +kernel
theorem dX4_isType_5 : decode cX4_isType 5 = .ok (.aload_n 0, 1) := by decide +kernel
theorem dX4_isType_6 : decode cX4_isType 6 = .ok (.getfield 22, 3) := by decide +kernel
theorem dX4_isType_9 : decode cX4_isType 9 = .ok (.if_icmp .ge 7, 3) := by decide +kernel
theorem dX4_isType_12 : decode cX4_isType 12 = .ok (.iconst 1, 1) := by decide +kernel
theorem dX4_isType_13 : decode cX4_isType 13 = .ok (.goto 4, 3) := by decide +kernel
theorem dX4_isType_16 : decode cX4_isType 16 = .ok (.iconst 0, 1) := by decide +kernel
theorem dX4_isType_17 : decode cX4_isType 17 = .ok (.ireturn, 1) := by decide +kernel
theorem dX4_isClassType_0 : decode cX4_isClassType 0 = .ok (.iload_n 1, 1) := by decide +kernel
theorem dX4_isClassType_1 : decode cX4_isClassType 1 = .ok (.bipush 6, 2) := by decide +kernel
theorem dX4_isClassType_3 : decode cX4_isClassType 3 = .ok (.if_icmp .lt 15, 3) := by decide +kernel
theorem dX4_isClassType_6 : decode cX4_isClassType 6 = .ok (.iload_n 1, 1) := by decide +kernel
theorem dX4_isClassType_7 : decode cX4_isClassType 7 = .ok (.aload_n 0, 1) := by decide +kernel
theorem dX4_isClassType_8 : decode cX4_isClassType 8 = .ok (.getfield 22, 3) := by decide +kernel
theorem dX4_isClassType_11 : decode cX4_isClassType 11 = .ok (.if_icmp .ge 7, 3) := by decide +kernel
theorem dX4_isClassType_14 : decode cX4_isClassType 14 = .ok (.iconst 1, 1) := by decide +kernel
theorem dX4_isClassType_15 : decode cX4_isClassType 15 = .ok (.goto 4, 3) := by decide +kernel
theorem dX4_isClassType_18 : decode cX4_isClassType 18 = .ok (.iconst 0, 1) := by decide +kernel
theorem dX4_isClassType_19 : decode cX4_isClassType 19 = .ok (.ireturn, 1) := by decide +kernel
theorem dX4_isArgument_0 : decode cX4_isArgument 0 = .ok (.iload_n 1, 1) := by decide +kernel
theorem dX4_isArgument_1 : decode cX4_isArgument 1 = .ok (.iconst 4, 1) := by decide +kernel
theorem dX4_isArgument_2 : decode cX4_isArgument 2 = .ok (.if_icmp .lt 15, 3) := by decide +kernel
theorem dX4_isArgument_5 : decode cX4_isArgument 5 = .ok (.iload_n 1, 1) := by decide +kernel
theorem dX4_isArgument_6 : decode cX4_isArgument 6 = .ok (.aload_n 0, 1) := by decide +kernel
theorem dX4_isArgument_7 : decode cX4_isArgument 7 = .ok (.getfield 22, 3) := by decide +kernel
theorem dX4_isArgument_10 : decode cX4_isArgument 10 = .ok (.if_icmp .ge 7, 3) := by decide +kernel
theorem dX4_isArgument_13 : decode cX4_isArgument 13 = .ok (.iconst 1, 1) := by decide +kernel
theorem dX4_isArgument_14 : decode cX4_isArgument 14 = .ok (.goto 4, 3) := by decide +kernel
theorem dX4_isArgument_17 : decode cX4_isArgument 17 = .ok (.iconst 0, 1) := by decide +kernel
theorem dX4_isArgument_18 : decode cX4_isArgument 18 = .ok (.ireturn, 1) := by decide +kernel
set_option maxRecDepth 20000 in
theorem ggX4_isClosed_X4_isType : GoodIn wsX4_isClosed wsX4_isType := goodIn_r _ [6, 7, 8, 9, 10, 11, 12, 13, 14, 15, 16, 17] (by decide +kernel) (by decide +kernel)
set_option maxRecDepth 20000 in
theorem gX4_isClosed_X4_isType : GoodIn wsX4_isClosed (wsV RX4 57 RX4 yX4_isType wsX4_isType) := goodIn_app (goodIn_of _ (by decide +kernel)) ggX4_isClosed_X4_isType
theorem dX4_isClosed_0 : decode cX4_isClosed 0 = .ok (.aload_n 0, 1) := by decide +kernel
theorem dX4_isClosed_1 : decode cX4_isClosed 1 = .ok (.iload_n 1, 1) := by decide +kernel
theorem dX4_isClosed_2 : decode cX4_isClosed 2 = .ok (.invokevirtual 57, 3) := by decide +kernel
theorem dX4_isClosed_5 : decode cX4_isClosed 5 = .ok (.ifCond .eq 16, 3) := by decide +kernel
theorem dX4_isClosed_8 : decode cX4_isClosed 8 = .ok (.aload_n 0, 1) := by decide +kernel
theorem dX4_isClosed_9 : decode cX4_isClosed 9 = .ok (.getfield 34, 3) := by decide +kernel
theorem dX4_isClosed_12 : decode cX4_isClosed 12 = .ok (.iload_n 1, 1) := by decide +kernel
theorem dX4_isClosed_13 : decode cX4_isClosed 13 = .ok (.iaload, 1) := by decide +kernel
theorem dX4_isClosed_14 : decode cX4_isClosed 14 = .ok (.ifCond .ne 7, 3) := by decide +kernel
theorem dX4_isClosed_17 : decode cX4_isClosed 17 = .ok (.iconst 1, 1) := by decide +kernel
theorem dX4_isClosed_18 : decode cX4_isClosed 18 = .ok (.goto 4, 3) := by decide +kernel
theorem dX4_isClosed_21 : decode cX4_isClosed 21 = .ok (.iconst 0, 1) := by decide +kernel
theorem dX4_isClosed_22 : decode cX4_isClosed 22 = .ok (.ireturn, 1) := by decide +kernel
theorem dX4_hasOnly_0 : decode cX4_hasOnly 0 = .ok (.aload_n 0, 1) := by decide +kernel
theorem dX4_hasOnly_1 : decode cX4_hasOnly 1 = .ok (.getfield 34, 3) := by decide +kernel
theorem dX4_hasOnly_4 : decode cX4_hasOnly 4 = .ok (.iload_n 1, 1) := by decide +kernel
theorem dX4_hasOnly_5 : decode cX4_hasOnly 5 = .ok (.iaload, 1) := by decide +kernel
theorem dX4_hasOnly_6 : decode cX4_hasOnly 6 = .ok (.iload_n 2, 1) := by decide +kernel
theorem dX4_hasOnly_7 : decode cX4_hasOnly 7 = .ok (.ishr, 1) := by decide +kernel
theorem dX4_hasOnly_8 : decode cX4_hasOnly 8 = .ok (.ifCond .ne 7, 3) := by decide +kernel
theorem dX4_hasOnly_11 : decode cX4_hasOnly 11 = .ok (.iconst 1, 1) := by decide +kernel
theorem dX4_hasOnly_12 : decode cX4_hasOnly 12 = .ok (.goto 4, 3) := by decide +kernel
theorem dX4_hasOnly_15 : decode cX4_hasOnly 15 = .ok (.iconst 0, 1) := by decide +kernel
theorem dX4_hasOnly_16 : decode cX4_hasOnly 16 = .ok (.ireturn, 1) := by decide +kernel
theorem dX4_addClass_0 : decode cX4_addClass 0 = .ok (.aload_n 0, 1) := by decide +kernel
theorem dX4_addClass_1 : decode cX4_addClass 1 = .ok (.getfield 9, 3) := by decide +kernel
theorem dX4_addClass_4 : decode cX4_addClass 4 = .ok (.bipush 12, 2) := by decide +kernel
theorem dX4_addClass_6 : decode cX4_addClass 6 = .ok (.if_icmp .lt 6, 3) := by decide +kernel
theorem dX4_addClass_9 : decode cX4_addClass 9 = .ok (.bipush (-3), 2) := by decide +kernel
theorem dX4_addClass_11 : decode cX4_addClass 11 = .ok (.ireturn, 1) := by decide +kernel
theorem dX4_addClass_12 : decode cX4_addClass 12 = .ok (.aload_n 0, 1) := by decide +kernel
theorem dX4_addClass_13 : decode cX4_addClass 13 = .ok (.getfield 15, 3) := by decide +kernel
theorem dX4_addClass_16 : decode cX4_addClass 16 = .ok (.aload_n 0, 1) := by decide +kernel
theorem dX4_addClass_17 : decode cX4_addClass 17 = .ok (.getfield 9, 3) := by decide +kernel
theorem dX4_addClass_20 : decode cX4_addClass 20 = .ok (.iload_n 1, 1) := by decide +kernel
theorem dX4_addClass_21 : decode cX4_addClass 21 = .ok (.iastore, 1) := by decide +kernel
theorem dX4_addClass_22 : decode cX4_addClass 22 = .ok (.aload_n 0, 1) := by decide +kernel
theorem dX4_addClass_23 : decode cX4_addClass 23 = .ok (.getfield 19, 3) := by decide +kernel
theorem dX4_addClass_26 : decode cX4_addClass 26 = .ok (.aload_n 0, 1) := by decide +kernel
theorem dX4_addClass_27 : decode cX4_addClass 27 = .ok (.getfield 9, 3) := by decide +kernel
theorem dX4_addClass_30 : decode cX4_addClass 30 = .ok (.iload_n 2, 1) := by decide +kernel
theorem dX4_addClass_31 : decode cX4_addClass 31 = .ok (.iastore, 1) := by decide +kernel
theorem dX4_addClass_32 : decode cX4_addClass 32 = .ok (.aload_n 0, 1) := by decide +kernel
theorem dX4_addClass_33 : decode cX4_addClass 33 = .ok (.dup, 1) := by decide +kernel
theorem dX4_addClass_34 : decode cX4_addClass 34 = .ok (.getfield 9, 3) := by decide +kernel
theorem dX4_addClass_37 : decode cX4_addClass 37 = .ok (.dup_x1, 1) := by decide +kernel
theorem dX4_addClass_38 : decode cX4_addClass 38 = .ok (.iconst 1, 1) := by decide +kernel
theorem dX4_addClass_39 : decode cX4_addClass 39 = .ok (.iadd, 1) := by decide +kernel
theorem dX4_addClass_40 : decode cX4_addClass 40 = .ok (.putfield 9, 3) := by decide +kernel
theorem dX4_addClass_43 : decode cX4_addClass 43 = .ok (.ireturn, 1) := by decide +kernel
theorem dX4_make_0 : decode cX4_make 0 = .ok (.bipush 6, 2) := by decide +kernel
theorem dX4_make_2 : decode cX4_make 2 = .ok (.istore 4, 2) := by decide +kernel
theorem dX4_make_4 : decode cX4_make 4 = .ok (.iload 4, 2) := by decide +kernel
theorem dX4_make_6 : decode cX4_make 6 = .ok (.aload_n 0, 1) := by decide +kernel
theorem dX4_make_7 : decode cX4_make 7 = .ok (.getfield 22, 3) := by decide +kernel
theorem dX4_make_10 : decode cX4_make 10 = .ok (.if_icmp .ge 45, 3) := by decide +kernel
theorem dX4_make_13 : decode cX4_make 13 = .ok (.aload_n 0, 1) := by decide +kernel
theorem dX4_make_14 : decode cX4_make 14 = .ok (.getfield 25, 3) := by decide +kernel
theorem dX4_make_17 : decode cX4_make 17 = .ok (.iload 4, 2) := by decide +kernel
theorem dX4_make_19 : decode cX4_make 19 = .ok (.iaload, 1) := by decide +kernel
theorem dX4_make_20 : decode cX4_make 20 = .ok (.iload_n 1, 1) := by decide +kernel
theorem dX4_make_21 : decode cX4_make 21 = .ok (.if_icmp .ne 28, 3) := by decide +kernel
theorem dX4_make_24 : decode cX4_make 24 = .ok (.aload_n 0, 1) := by decide +kernel
theorem dX4_make_25 : decode cX4_make 25 = .ok (.getfield 28, 3) := by decide +kernel
theorem dX4_make_28 : decode cX4_make 28 = .ok (.iload 4, 2) := by decide +kernel
theorem dX4_make_30 : decode cX4_make 30 = .ok (.iaload, 1) := by decide +kernel
theorem dX4_make_31 : decode cX4_make 31 = .ok (.iload_n 2, 1) := by decide +kernel
theorem dX4_make_32 : decode cX4_make 32 = .ok (.if_icmp .ne 17, 3) := by decide +kernel
theorem dX4_make_35 : decode cX4_make 35 = .ok (.aload_n 0, 1) := by decide +kernel
theorem dX4_make_36 : decode cX4_make 36 = .ok (.getfield 31, 3) := by decide +kernel
theorem dX4_make_39 : decode cX4_make 39 = .ok (.iload 4, 2) := by decide +kernel
theorem dX4_make_41 : decode cX4_make 41 = .ok (.iaload, 1) := by decide +kernel
theorem dX4_make_42 : decode cX4_make 42 = .ok (.iload_n 3, 1) := by decide +kernel
theorem dX4_make_43 : decode cX4_make 43 = .ok (.if_icmp .ne 6, 3) := by decide +kernel
theorem dX4_make_46 : decode cX4_make 46 = .ok (.iload 4, 2) := by decide +kernel
theorem dX4_make_48 : decode cX4_make 48 = .ok (.ireturn, 1) := by decide +kernel
theorem dX4_make_49 : decode cX4_make 49 = .ok (.iinc 4 1, 3) := by decide +kernel
theorem dX4_make_52 : decode cX4_make 52 = .ok (.goto (-48), 3) := by decide +kernel
theorem dX4_make_55 : decode cX4_make 55 = .ok (.aload_n 0, 1) := by decide +kernel
theorem dX4_make_56 : decode cX4_make 56 = .ok (.getfield 22, 3) := by decide +kernel
theorem dX4_make_59 : decode cX4_make 59 = .ok (.bipush 80, 2) := by decide +kernel
theorem dX4_make_61 : decode cX4_make 61 = .ok (.if_icmp .lt 6, 3) := by decide +kernel
theorem dX4_make_64 : decode cX4_make 64 = .ok (.bipush (-3), 2) := by decide +kernel
theorem dX4_make_66 : decode cX4_make 66 = .ok (.ireturn, 1) := by decide +kernel
theorem dX4_make_67 : decode cX4_make 67 = .ok (.aload_n 0, 1) := by decide +kernel
theorem dX4_make_68 : decode cX4_make 68 = .ok (.getfield 25, 3) := by decide +kernel
theorem dX4_make_71 : decode cX4_make 71 = .ok (.aload_n 0, 1) := by decide +kernel
theorem dX4_make_72 : decode cX4_make 72 = .ok (.getfield 22, 3) := by decide +kernel
theorem dX4_make_75 : decode cX4_make 75 = .ok (.iload_n 1, 1) := by decide +kernel
theorem dX4_make_76 : decode cX4_make 76 = .ok (.iastore, 1) := by decide +kernel
theorem dX4_make_77 : decode cX4_make 77 = .ok (.aload_n 0, 1) := by decide +kernel
theorem dX4_make_78 : decode cX4_make 78 = .ok (.getfield 28, 3) := by decide +kernel
theorem dX4_make_81 : decode cX4_make 81 = .ok (.aload_n 0, 1) := by decide +kernel
theorem dX4_make_82 : decode cX4_make 82 = .ok (.getfield 22, 3) := by decide +kernel
theorem dX4_make_85 : decode cX4_make 85 = .ok (.iload_n 2, 1) := by decide +kernel
theorem dX4_make_86 : decode cX4_make 86 = .ok (.iastore, 1) := by decide +kernel
theorem dX4_make_87 : decode cX4_make 87 = .ok (.aload_n 0, 1) := by decide +kernel
theorem dX4_make_88 : decode cX4_make 88 = .ok (.getfield 31, 3) := by decide +kernel
theorem dX4_make_91 : decode cX4_make 91 = .ok (.aload_n 0, 1) := by decide +kernel
theorem dX4_make_92 : decode cX4_make 92 = .ok (.getfield 22, 3) := by decide +kernel
theorem dX4_make_95 : decode cX4_make 95 = .ok (.iload_n 3, 1) := by decide +kernel
theorem dX4_make_96 : decode cX4_make 96 = .ok (.iastore, 1) := by decide +kernel
theorem dX4_make_97 : decode cX4_make 97 = .ok (.aload_n 0, 1) := by decide +kernel
theorem dX4_make_98 : decode cX4_make 98 = .ok (.getfield 34, 3) := by decide +kernel
theorem dX4_make_101 : decode cX4_make 101 = .ok (.aload_n 0, 1) := by decide +kernel
theorem dX4_make_102 : decode cX4_make 102 = .ok (.getfield 22, 3) := by decide +kernel
theorem dX4_make_105 : decode cX4_make 105 = .ok (.iload_n 2, 1) := by decide +kernel
theorem dX4_make_106 : decode cX4_make 106 = .ok (.ifCond .ge 7, 3) := by decide +kernel
theorem dX4_make_109 : decode cX4_make 109 = .ok (.iconst 0, 1) := by decide +kernel
theorem dX4_make_110 : decode cX4_make 110 = .ok (.goto 9, 3) := by decide +kernel
theorem dX4_make_113 : decode cX4_make 113 = .ok (.aload_n 0, 1) := by decide +kernel
theorem dX4_make_114 : decode cX4_make 114 = .ok (.getfield 34, 3) := by decide +kernel
theorem dX4_make_117 : decode cX4_make 117 = .ok (.iload_n 2, 1) := by decide +kernel
theorem dX4_make_118 : decode cX4_make 118 = .ok (.iaload, 1) := by decide +kernel
theorem dX4_make_119 : decode cX4_make 119 = .ok (.iload_n 3, 1) := by decide +kernel
theorem dX4_make_120 : decode cX4_make 120 = .ok (.ifCond .ge 7, 3) := by decide +kernel
theorem dX4_make_123 : decode cX4_make 123 = .ok (.iconst 0, 1) := by decide +kernel
theorem dX4_make_124 : decode cX4_make 124 = .ok (.goto 9, 3) := by decide +kernel
theorem dX4_make_127 : decode cX4_make 127 = .ok (.aload_n 0, 1) := by decide +kernel
theorem dX4_make_128 : decode cX4_make 128 = .ok (.getfield 34, 3) := by decide +kernel
theorem dX4_make_131 : decode cX4_make 131 = .ok (.iload_n 3, 1) := by decide +kernel
theorem dX4_make_132 : decode cX4_make 132 = .ok (.iaload, 1) := by decide +kernel
theorem dX4_make_133 : decode cX4_make 133 = .ok (.ior, 1) := by decide +kernel
theorem dX4_make_134 : decode cX4_make 134 = .ok (.iastore, 1) := by decide +kernel
theorem dX4_make_135 : decode cX4_make 135 = .ok (.aload_n 0, 1) := by decide +kernel
theorem dX4_make_136 : decode cX4_make 136 = .ok (.dup, 1) := by decide +kernel
theorem dX4_make_137 : decode cX4_make 137 = .ok (.getfield 22, 3) := by decide +kernel
theorem dX4_make_140 : decode cX4_make 140 = .ok (.dup_x1, 1) := by decide +kernel
theorem dX4_make_141 : decode cX4_make 141 = .ok (.iconst 1, 1) := by decide +kernel
theorem dX4_make_142 : decode cX4_make 142 = .ok (.iadd, 1) := by decide +kernel
theorem dX4_make_143 : decode cX4_make 143 = .ok (.putfield 22, 3) := by decide +kernel
theorem dX4_make_146 : decode cX4_make 146 = .ok (.ireturn, 1) := by decide +kernel
set_option maxRecDepth 20000 in
theorem ggX4_putIn_X4_argumentWithoutImage : GoodIn wsX4_putIn wsX4_argumentWithoutImage := goodIn_r _ [12, 6, 2, 7, 21, 22, 23, 24, 25, 26, 27, 28, 29, 30] (by decide +kernel) (by decide +kernel)
set_option maxRecDepth 20000 in
theorem gX4_putIn_X4_argumentWithoutImage : GoodIn wsX4_putIn (wsV RX4 61 RX4 yX4_argumentWithoutImage wsX4_argumentWithoutImage) := goodIn_app (goodIn_of _ (by decide +kernel)) ggX4_putIn_X4_argumentWithoutImage
set_option maxRecDepth 20000 in
theorem ggX4_putIn_X4_imageOf : GoodIn wsX4_putIn wsX4_imageOf := goodIn_r _ [16, 2, 21, 22, 23, 24, 25, 26, 27, 28, 29, 30] (by decide +kernel) (by decide +kernel)
set_option maxRecDepth 20000 in
theorem gX4_putIn_X4_imageOf : GoodIn wsX4_putIn (wsV RX4 65 RX4 yX4_imageOf wsX4_imageOf) := goodIn_app (goodIn_of _ (by decide +kernel)) ggX4_putIn_X4_imageOf
set_option maxRecDepth 20000 in
theorem ggX4_putIn_X4_make : GoodIn wsX4_putIn wsX4_make := goodIn_r _ [20, 1, 5, 6, 7, 3, 21, 22, 23, 24, 25, 26, 27, 28, 29, 30] (by decide +kernel) (by decide +kernel)
set_option maxRecDepth 20000 in
theorem gX4_putIn_X4_make : GoodIn wsX4_putIn (wsV RX4 53 RX4 yX4_make wsX4_make) := goodIn_app (goodIn_of _ (by decide +kernel)) ggX4_putIn_X4_make
theorem dX4_putIn_0 : decode cX4_putIn 0 = .ok (.iconst 0, 1) := by decide +kernel
theorem dX4_putIn_1 : decode cX4_putIn 1 = .ok (.istore 4, 2) := by decide +kernel
theorem dX4_putIn_3 : decode cX4_putIn 3 = .ok (.iload 4, 2) := by decide +kernel
theorem dX4_putIn_5 : decode cX4_putIn 5 = .ok (.aload_n 0, 1) := by decide +kernel
theorem dX4_putIn_6 : decode cX4_putIn 6 = .ok (.getfield 22, 3) := by decide +kernel
theorem dX4_putIn_9 : decode cX4_putIn 9 = .ok (.if_icmp .ge 32, 3) := by decide +kernel
theorem dX4_putIn_12 : decode cX4_putIn 12 = .ok (.aload_n 0, 1) := by decide +kernel
theorem dX4_putIn_13 : decode cX4_putIn 13 = .ok (.getfield 37, 3) := by decide +kernel
theorem dX4_putIn_16 : decode cX4_putIn 16 = .ok (.iload 4, 2) := by decide +kernel
theorem dX4_putIn_18 : decode cX4_putIn 18 = .ok (.aload_n 0, 1) := by decide +kernel
theorem dX4_putIn_19 : decode cX4_putIn 19 = .ok (.getfield 34, 3) := by decide +kernel
theorem dX4_putIn_22 : decode cX4_putIn 22 = .ok (.iload 4, 2) := by decide +kernel
theorem dX4_putIn_24 : decode cX4_putIn 24 = .ok (.iaload, 1) := by decide +kernel
theorem dX4_putIn_25 : decode cX4_putIn 25 = .ok (.ifCond .ne 8, 3) := by decide +kernel
theorem dX4_putIn_28 : decode cX4_putIn 28 = .ok (.iload 4, 2) := by decide +kernel
theorem dX4_putIn_30 : decode cX4_putIn 30 = .ok (.goto 4, 3) := by decide +kernel
theorem dX4_putIn_33 : decode cX4_putIn 33 = .ok (.iconst (-1), 1) := by decide +kernel
theorem dX4_putIn_34 : decode cX4_putIn 34 = .ok (.iastore, 1) := by decide +kernel
theorem dX4_putIn_35 : decode cX4_putIn 35 = .ok (.iinc 4 1, 3) := by decide +kernel
theorem dX4_putIn_38 : decode cX4_putIn 38 = .ok (.goto (-35), 3) := by decide +kernel
theorem dX4_putIn_41 : decode cX4_putIn 41 = .ok (.aload_n 0, 1) := by decide +kernel
theorem dX4_putIn_42 : decode cX4_putIn 42 = .ok (.getfield 37, 3) := by decide +kernel
theorem dX4_putIn_45 : decode cX4_putIn 45 = .ok (.iconst 4, 1) := by decide +kernel
theorem dX4_putIn_46 : decode cX4_putIn 46 = .ok (.iload_n 2, 1) := by decide +kernel
theorem dX4_putIn_47 : decode cX4_putIn 47 = .ok (.iastore, 1) := by decide +kernel
theorem dX4_putIn_48 : decode cX4_putIn 48 = .ok (.aload_n 0, 1) := by decide +kernel
theorem dX4_putIn_49 : decode cX4_putIn 49 = .ok (.getfield 37, 3) := by decide +kernel
theorem dX4_putIn_52 : decode cX4_putIn 52 = .ok (.iconst 5, 1) := by decide +kernel
theorem dX4_putIn_53 : decode cX4_putIn 53 = .ok (.iload_n 3, 1) := by decide +kernel
theorem dX4_putIn_54 : decode cX4_putIn 54 = .ok (.iastore, 1) := by decide +kernel
theorem dX4_putIn_55 : decode cX4_putIn 55 = .ok (.aload_n 0, 1) := by decide +kernel
theorem dX4_putIn_56 : decode cX4_putIn 56 = .ok (.getfield 40, 3) := by decide +kernel
theorem dX4_putIn_59 : decode cX4_putIn 59 = .ok (.iconst 0, 1) := by decide +kernel
theorem dX4_putIn_60 : decode cX4_putIn 60 = .ok (.iload_n 1, 1) := by decide +kernel
theorem dX4_putIn_61 : decode cX4_putIn 61 = .ok (.iastore, 1) := by decide +kernel
theorem dX4_putIn_62 : decode cX4_putIn 62 = .ok (.aload_n 0, 1) := by decide +kernel
theorem dX4_putIn_63 : decode cX4_putIn 63 = .ok (.getfield 37, 3) := by decide +kernel
theorem dX4_putIn_66 : decode cX4_putIn 66 = .ok (.iload_n 1, 1) := by decide +kernel
theorem dX4_putIn_67 : decode cX4_putIn 67 = .ok (.iaload, 1) := by decide +kernel
theorem dX4_putIn_68 : decode cX4_putIn 68 = .ok (.iconst (-1), 1) := by decide +kernel
theorem dX4_putIn_69 : decode cX4_putIn 69 = .ok (.if_icmp .ne 7, 3) := by decide +kernel
theorem dX4_putIn_72 : decode cX4_putIn 72 = .ok (.iconst 1, 1) := by decide +kernel
theorem dX4_putIn_73 : decode cX4_putIn 73 = .ok (.goto 4, 3) := by decide +kernel
theorem dX4_putIn_76 : decode cX4_putIn 76 = .ok (.iconst 0, 1) := by decide +kernel
theorem dX4_putIn_77 : decode cX4_putIn 77 = .ok (.istore 4, 2) := by decide +kernel
theorem dX4_putIn_79 : decode cX4_putIn 79 = .ok (.iconst 0, 1) := by decide +kernel
theorem dX4_putIn_80 : decode cX4_putIn 80 = .ok (.istore 5, 2) := by decide +kernel
theorem dX4_putIn_82 : decode cX4_putIn 82 = .ok (.iload 4, 2) := by decide +kernel
theorem dX4_putIn_84 : decode cX4_putIn 84 = .ok (.ifCond .le 121, 3) := by decide +kernel
theorem dX4_putIn_87 : decode cX4_putIn 87 = .ok (.iload 5, 2) := by decide +kernel
theorem dX4_putIn_89 : decode cX4_putIn 89 = .ok (.sipush 160, 3) := by decide +kernel
theorem dX4_putIn_92 : decode cX4_putIn 92 = .ok (.if_icmp .ge 113, 3) := by decide +kernel
theorem dX4_putIn_95 : decode cX4_putIn 95 = .ok (.aload_n 0, 1) := by decide +kernel
theorem dX4_putIn_96 : decode cX4_putIn 96 = .ok (.getfield 40, 3) := by decide +kernel
theorem dX4_putIn_99 : decode cX4_putIn 99 = .ok (.iload 4, 2) := by decide +kernel
theorem dX4_putIn_101 : decode cX4_putIn 101 = .ok (.iconst 1, 1) := by decide +kernel
theorem dX4_putIn_102 : decode cX4_putIn 102 = .ok (.isub, 1) := by decide +kernel
theorem dX4_putIn_103 : decode cX4_putIn 103 = .ok (.iaload, 1) := by decide +kernel
theorem dX4_putIn_104 : decode cX4_putIn 104 = .ok (.istore 6, 2) := by decide +kernel
theorem dX4_putIn_106 : decode cX4_putIn 106 = .ok (.aload_n 0, 1) := by decide +kernel
theorem dX4_putIn_107 : decode cX4_putIn 107 = .ok (.iload 6, 2) := by decide +kernel
theorem dX4_putIn_109 : decode cX4_putIn 109 = .ok (.invokevirtual 61, 3) := by decide +kernel
theorem dX4_putIn_112 : decode cX4_putIn 112 = .ok (.istore 7, 2) := by decide +kernel
theorem dX4_putIn_114 : decode cX4_putIn 114 = .ok (.iload 7, 2) := by decide +kernel
theorem dX4_putIn_116 : decode cX4_putIn 116 = .ok (.iconst (-1), 1) := by decide +kernel
theorem dX4_putIn_117 : decode cX4_putIn 117 = .ok (.if_icmp .eq 25, 3) := by decide +kernel
theorem dX4_putIn_120 : decode cX4_putIn 120 = .ok (.iload 4, 2) := by decide +kernel
theorem dX4_putIn_122 : decode cX4_putIn 122 = .ok (.bipush 80, 2) := by decide +kernel
theorem dX4_putIn_124 : decode cX4_putIn 124 = .ok (.if_icmp .ge 18, 3) := by decide +kernel
theorem dX4_putIn_127 : decode cX4_putIn 127 = .ok (.aload_n 0, 1) := by decide +kernel
theorem dX4_putIn_128 : decode cX4_putIn 128 = .ok (.getfield 40, 3) := by decide +kernel
theorem dX4_putIn_131 : decode cX4_putIn 131 = .ok (.iload 4, 2) := by decide +kernel
theorem dX4_putIn_133 : decode cX4_putIn 133 = .ok (.iinc 4 1, 3) := by decide +kernel
theorem dX4_putIn_136 : decode cX4_putIn 136 = .ok (.iload 7, 2) := by decide +kernel
theorem dX4_putIn_138 : decode cX4_putIn 138 = .ok (.iastore, 1) := by decide +kernel
theorem dX4_putIn_139 : decode cX4_putIn 139 = .ok (.goto 60, 3) := by decide +kernel
theorem dX4_putIn_142 : decode cX4_putIn 142 = .ok (.aload_n 0, 1) := by decide +kernel
theorem dX4_putIn_143 : decode cX4_putIn 143 = .ok (.aload_n 0, 1) := by decide +kernel
theorem dX4_putIn_144 : decode cX4_putIn 144 = .ok (.getfield 25, 3) := by decide +kernel
theorem dX4_putIn_147 : decode cX4_putIn 147 = .ok (.iload 6, 2) := by decide +kernel
theorem dX4_putIn_149 : decode cX4_putIn 149 = .ok (.iaload, 1) := by decide +kernel
theorem dX4_putIn_150 : decode cX4_putIn 150 = .ok (.aload_n 0, 1) := by decide +kernel
theorem dX4_putIn_151 : decode cX4_putIn 151 = .ok (.aload_n 0, 1) := by decide +kernel
theorem dX4_putIn_152 : decode cX4_putIn 152 = .ok (.getfield 28, 3) := by decide +kernel
theorem dX4_putIn_155 : decode cX4_putIn 155 = .ok (.iload 6, 2) := by decide +kernel
theorem dX4_putIn_157 : decode cX4_putIn 157 = .ok (.iaload, 1) := by decide +kernel
theorem dX4_putIn_158 : decode cX4_putIn 158 = .ok (.invokevirtual 65, 3) := by decide +kernel
theorem dX4_putIn_161 : decode cX4_putIn 161 = .ok (.aload_n 0, 1) := by decide +kernel
theorem dX4_putIn_162 : decode cX4_putIn 162 = .ok (.aload_n 0, 1) := by decide +kernel
theorem dX4_putIn_163 : decode cX4_putIn 163 = .ok (.getfield 31, 3) := by decide +kernel
theorem dX4_putIn_166 : decode cX4_putIn 166 = .ok (.iload 6, 2) := by decide +kernel
theorem dX4_putIn_168 : decode cX4_putIn 168 = .ok (.iaload, 1) := by decide +kernel
theorem dX4_putIn_169 : decode cX4_putIn 169 = .ok (.invokevirtual 65, 3) := by decide +kernel
theorem dX4_putIn_172 : decode cX4_putIn 172 = .ok (.invokevirtual 53, 3) := by decide +kernel
theorem dX4_putIn_175 : decode cX4_putIn 175 = .ok (.istore 8, 2) := by decide +kernel
theorem dX4_putIn_177 : decode cX4_putIn 177 = .ok (.iload 8, 2) := by decide +kernel
theorem dX4_putIn_179 : decode cX4_putIn 179 = .ok (.bipush (-3), 2) := by decide +kernel
theorem dX4_putIn_181 : decode cX4_putIn 181 = .ok (.if_icmp .ne 6, 3) := by decide +kernel
theorem dX4_putIn_184 : decode cX4_putIn 184 = .ok (.bipush (-3), 2) := by decide +kernel
theorem dX4_putIn_186 : decode cX4_putIn 186 = .ok (.ireturn, 1) := by decide +kernel
theorem dX4_putIn_187 : decode cX4_putIn 187 = .ok (.aload_n 0, 1) := by decide +kernel
theorem dX4_putIn_188 : decode cX4_putIn 188 = .ok (.getfield 37, 3) := by decide +kernel
theorem dX4_putIn_191 : decode cX4_putIn 191 = .ok (.iload 6, 2) := by decide +kernel
theorem dX4_putIn_193 : decode cX4_putIn 193 = .ok (.iload 8, 2) := by decide +kernel
theorem dX4_putIn_195 : decode cX4_putIn 195 = .ok (.iastore, 1) := by decide +kernel
theorem dX4_putIn_196 : decode cX4_putIn 196 = .ok (.iinc 4 (-1), 3) := by decide +kernel
theorem dX4_putIn_199 : decode cX4_putIn 199 = .ok (.iinc 5 1, 3) := by decide +kernel
theorem dX4_putIn_202 : decode cX4_putIn 202 = .ok (.goto (-120), 3) := by decide +kernel
theorem dX4_putIn_205 : decode cX4_putIn 205 = .ok (.aload_n 0, 1) := by decide +kernel
theorem dX4_putIn_206 : decode cX4_putIn 206 = .ok (.getfield 37, 3) := by decide +kernel
theorem dX4_putIn_209 : decode cX4_putIn 209 = .ok (.iload_n 1, 1) := by decide +kernel
theorem dX4_putIn_210 : decode cX4_putIn 210 = .ok (.iaload, 1) := by decide +kernel
theorem dX4_putIn_211 : decode cX4_putIn 211 = .ok (.ireturn, 1) := by decide +kernel
theorem dX4_argumentWithoutImage_0 : decode cX4_argumentWithoutImage 0 = .ok (.aload_n 0, 1) := by decide +kernel
theorem dX4_argumentWithoutImage_1 : decode cX4_argumentWithoutImage 1 = .ok (.getfield 28, 3) := by decide +kernel
theorem dX4_argumentWithoutImage_4 : decode cX4_argumentWithoutImage 4 = .ok (.iload_n 1, 1) := by decide +kernel
theorem dX4_argumentWithoutImage_5 : decode cX4_argumentWithoutImage 5 = .ok (.iaload, 1) := by decide +kernel
theorem dX4_argumentWithoutImage_6 : decode cX4_argumentWithoutImage 6 = .ok (.bipush 6, 2) := by decide +kernel
theorem dX4_argumentWithoutImage_8 : decode cX4_argumentWithoutImage 8 = .ok (.if_icmp .lt 25, 3) := by decide +kernel
theorem dX4_argumentWithoutImage_11 : decode cX4_argumentWithoutImage 11 = .ok (.aload_n 0, 1) := by decide +kernel
theorem dX4_argumentWithoutImage_12 : decode cX4_argumentWithoutImage 12 = .ok (.getfield 37, 3) := by decide +kernel
theorem dX4_argumentWithoutImage_15 : decode cX4_argumentWithoutImage 15 = .ok (.aload_n 0, 1) := by decide +kernel
theorem dX4_argumentWithoutImage_16 : decode cX4_argumentWithoutImage 16 = .ok (.getfield 28, 3) := by decide +kernel
theorem dX4_argumentWithoutImage_19 : decode cX4_argumentWithoutImage 19 = .ok (.iload_n 1, 1) := by decide +kernel
theorem dX4_argumentWithoutImage_20 : decode cX4_argumentWithoutImage 20 = .ok (.iaload, 1) := by decide +kernel
theorem dX4_argumentWithoutImage_21 : decode cX4_argumentWithoutImage 21 = .ok (.iaload, 1) := by decide +kernel
theorem dX4_argumentWithoutImage_22 : decode cX4_argumentWithoutImage 22 = .ok (.iconst (-1), 1) := by decide +kernel
theorem dX4_argumentWithoutImage_23 : decode cX4_argumentWithoutImage 23 = .ok (.if_icmp .ne 10, 3) := by decide +kernel
theorem dX4_argumentWithoutImage_26 : decode cX4_argumentWithoutImage 26 = .ok (.aload_n 0, 1) := by decide +kernel
theorem dX4_argumentWithoutImage_27 : decode cX4_argumentWithoutImage 27 = .ok (.getfield 28, 3) := by decide +kernel
theorem dX4_argumentWithoutImage_30 : decode cX4_argumentWithoutImage 30 = .ok (.iload_n 1, 1) := by decide +kernel
theorem dX4_argumentWithoutImage_31 : decode cX4_argumentWithoutImage 31 = .ok (.iaload, 1) := by decide +kernel
theorem dX4_argumentWithoutImage_32 : decode cX4_argumentWithoutImage 32 = .ok (.ireturn, 1) := by decide +kernel
theorem dX4_argumentWithoutImage_33 : decode cX4_argumentWithoutImage 33 = .ok (.aload_n 0, 1) := by decide +kernel
theorem dX4_argumentWithoutImage_34 : decode cX4_argumentWithoutImage 34 = .ok (.getfield 31, 3) := by decide +kernel
theorem dX4_argumentWithoutImage_37 : decode cX4_argumentWithoutImage 37 = .ok (.iload_n 1, 1) := by decide +kernel
theorem dX4_argumentWithoutImage_38 : decode cX4_argumentWithoutImage 38 = .ok (.iaload, 1) := by decide +kernel
theorem dX4_argumentWithoutImage_39 : decode cX4_argumentWithoutImage 39 = .ok (.bipush 6, 2) := by decide +kernel
theorem dX4_argumentWithoutImage_41 : decode cX4_argumentWithoutImage 41 = .ok (.if_icmp .lt 25, 3) := by decide +kernel
theorem dX4_argumentWithoutImage_44 : decode cX4_argumentWithoutImage 44 = .ok (.aload_n 0, 1) := by decide +kernel
theorem dX4_argumentWithoutImage_45 : decode cX4_argumentWithoutImage 45 = .ok (.getfield 37, 3) := by decide +kernel
theorem dX4_argumentWithoutImage_48 : decode cX4_argumentWithoutImage 48 = .ok (.aload_n 0, 1) := by decide +kernel
theorem dX4_argumentWithoutImage_49 : decode cX4_argumentWithoutImage 49 = .ok (.getfield 31, 3) := by decide +kernel
theorem dX4_argumentWithoutImage_52 : decode cX4_argumentWithoutImage 52 = .ok (.iload_n 1, 1) := by decide +kernel
theorem dX4_argumentWithoutImage_53 : decode cX4_argumentWithoutImage 53 = .ok (.iaload, 1) := by decide +kernel
theorem dX4_argumentWithoutImage_54 : decode cX4_argumentWithoutImage 54 = .ok (.iaload, 1) := by decide +kernel
theorem dX4_argumentWithoutImage_55 : decode cX4_argumentWithoutImage 55 = .ok (.iconst (-1), 1) := by decide +kernel
theorem dX4_argumentWithoutImage_56 : decode cX4_argumentWithoutImage 56 = .ok (.if_icmp .ne 10, 3) := by decide +kernel
theorem dX4_argumentWithoutImage_59 : decode cX4_argumentWithoutImage 59 = .ok (.aload_n 0, 1) := by decide +kernel
theorem dX4_argumentWithoutImage_60 : decode cX4_argumentWithoutImage 60 = .ok (.getfield 31, 3) := by decide +kernel
theorem dX4_argumentWithoutImage_63 : decode cX4_argumentWithoutImage 63 = .ok (.iload_n 1, 1) := by decide +kernel
theorem dX4_argumentWithoutImage_64 : decode cX4_argumentWithoutImage 64 = .ok (.iaload, 1) := by decide +kernel
theorem dX4_argumentWithoutImage_65 : decode cX4_argumentWithoutImage 65 = .ok (.ireturn, 1) := by decide +kernel
theorem dX4_argumentWithoutImage_66 : decode cX4_argumentWithoutImage 66 = .ok (.iconst (-1), 1) := by decide +kernel
theorem dX4_argumentWithoutImage_67 : decode cX4_argumentWithoutImage 67 = .ok (.ireturn, 1) := by decide +kernel
theorem dX4_imageOf_0 : decode cX4_imageOf 0 = .ok (.iload_n 1, 1) := by decide +kernel
theorem dX4_imageOf_1 : decode cX4_imageOf 1 = .ok (.iconst (-1), 1) := by decide +kernel
theorem dX4_imageOf_2 : decode cX4_imageOf 2 = .ok (.if_icmp .ne 7, 3) := by decide +kernel
theorem dX4_imageOf_5 : decode cX4_imageOf 5 = .ok (.iconst (-1), 1) := by decide +kernel
theorem dX4_imageOf_6 : decode cX4_imageOf 6 = .ok (.goto 9, 3) := by decide +kernel
theorem dX4_imageOf_9 : decode cX4_imageOf 9 = .ok (.aload_n 0, 1) := by decide +kernel
theorem dX4_imageOf_10 : decode cX4_imageOf 10 = .ok (.getfield 37, 3) := by decide +kernel
theorem dX4_imageOf_13 : decode cX4_imageOf 13 = .ok (.iload_n 1, 1) := by decide +kernel
theorem dX4_imageOf_14 : decode cX4_imageOf 14 = .ok (.iaload, 1) := by decide +kernel
theorem dX4_imageOf_15 : decode cX4_imageOf 15 = .ok (.ireturn, 1) := by decide +kernel
set_option maxRecDepth 20000 in
theorem ggX4_isFrom_X4_classAbove : GoodIn wsX4_isFrom wsX4_classAbove := goodIn_r _ [5, 6, 7, 8, 9, 10, 11, 12, 13, 14, 15, 16, 17] (by decide +kernel) (by decide +kernel)
set_option maxRecDepth 20000 in
theorem gX4_isFrom_X4_classAbove : GoodIn wsX4_isFrom (wsV RX4 68 RX4 yX4_classAbove wsX4_classAbove) := goodIn_app (goodIn_of _ (by decide +kernel)) ggX4_isFrom_X4_classAbove
theorem dX4_isFrom_0 : decode cX4_isFrom 0 = .ok (.iload_n 1, 1) := by decide +kernel
theorem dX4_isFrom_1 : decode cX4_isFrom 1 = .ok (.istore_n 3, 1) := by decide +kernel
theorem dX4_isFrom_2 : decode cX4_isFrom 2 = .ok (.iconst 0, 1) := by decide +kernel
theorem dX4_isFrom_3 : decode cX4_isFrom 3 = .ok (.istore 4, 2) := by decide +kernel
theorem dX4_isFrom_5 : decode cX4_isFrom 5 = .ok (.iload_n 3, 1) := by decide +kernel
theorem dX4_isFrom_6 : decode cX4_isFrom 6 = .ok (.iload_n 2, 1) := by decide +kernel
theorem dX4_isFrom_7 : decode cX4_isFrom 7 = .ok (.if_icmp .le 22, 3) := by decide +kernel
theorem dX4_isFrom_10 : decode cX4_isFrom 10 = .ok (.iload 4, 2) := by decide +kernel
theorem dX4_isFrom_12 : decode cX4_isFrom 12 = .ok (.bipush 12, 2) := by decide +kernel
theorem dX4_isFrom_14 : decode cX4_isFrom 14 = .ok (.if_icmp .ge 15, 3) := by decide +kernel
theorem dX4_isFrom_17 : decode cX4_isFrom 17 = .ok (.aload_n 0, 1) := by decide +kernel
theorem dX4_isFrom_18 : decode cX4_isFrom 18 = .ok (.iload_n 3, 1) := by decide +kernel
theorem dX4_isFrom_19 : decode cX4_isFrom 19 = .ok (.invokevirtual 68, 3) := by decide +kernel
theorem dX4_isFrom_22 : decode cX4_isFrom 22 = .ok (.istore_n 3, 1) := by decide +kernel
theorem dX4_isFrom_23 : decode cX4_isFrom 23 = .ok (.iinc 4 1, 3) := by decide +kernel
theorem dX4_isFrom_26 : decode cX4_isFrom 26 = .ok (.goto (-21), 3) := by decide +kernel
theorem dX4_isFrom_29 : decode cX4_isFrom 29 = .ok (.iload_n 3, 1) := by decide +kernel
theorem dX4_isFrom_30 : decode cX4_isFrom 30 = .ok (.iload_n 2, 1) := by decide +kernel
theorem dX4_isFrom_31 : decode cX4_isFrom 31 = .ok (.if_icmp .ne 7, 3) := by decide +kernel
theorem dX4_isFrom_34 : decode cX4_isFrom 34 = .ok (.iconst 1, 1) := by decide +kernel
theorem dX4_isFrom_35 : decode cX4_isFrom 35 = .ok (.goto 4, 3) := by decide +kernel
theorem dX4_isFrom_38 : decode cX4_isFrom 38 = .ok (.iconst 0, 1) := by decide +kernel
theorem dX4_isFrom_39 : decode cX4_isFrom 39 = .ok (.ireturn, 1) := by decide +kernel
theorem dX4_classAbove_0 : decode cX4_classAbove 0 = .ok (.iload_n 1, 1) := by decide +kernel
theorem dX4_classAbove_1 : decode cX4_classAbove 1 = .ok (.ifCond .ne 7, 3) := by decide +kernel
theorem dX4_classAbove_4 : decode cX4_classAbove 4 = .ok (.iconst (-1), 1) := by decide +kernel
theorem dX4_classAbove_5 : decode cX4_classAbove 5 = .ok (.goto 14, 3) := by decide +kernel
theorem dX4_classAbove_8 : decode cX4_classAbove 8 = .ok (.aload_n 0, 1) := by decide +kernel
theorem dX4_classAbove_9 : decode cX4_classAbove 9 = .ok (.getfield 25, 3) := by decide +kernel
theorem dX4_classAbove_12 : decode cX4_classAbove 12 = .ok (.aload_n 0, 1) := by decide +kernel
theorem dX4_classAbove_13 : decode cX4_classAbove 13 = .ok (.getfield 19, 3) := by decide +kernel
theorem dX4_classAbove_16 : decode cX4_classAbove 16 = .ok (.iload_n 1, 1) := by decide +kernel
theorem dX4_classAbove_17 : decode cX4_classAbove 17 = .ok (.iaload, 1) := by decide +kernel
theorem dX4_classAbove_18 : decode cX4_classAbove 18 = .ok (.iaload, 1) := by decide +kernel
theorem dX4_classAbove_19 : decode cX4_classAbove 19 = .ok (.ireturn, 1) := by decide +kernel
set_option maxRecDepth 20000 in
theorem ggX4_seenAs_X4_isFrom : GoodIn wsX4_seenAs wsX4_isFrom := goodIn_r _ [9, 10, 11, 12, 8, 13, 1, 2, 34, 35, 36, 37, 38, 39, 40, 41, 42, 43] (by decide +kernel) (by decide +kernel)
set_option maxRecDepth 20000 in
theorem gX4_seenAs_X4_isFrom : GoodIn wsX4_seenAs (wsV RX4 71 RX4 yX4_isFrom wsX4_isFrom) := goodIn_app (goodIn_of _ (by decide +kernel)) ggX4_seenAs_X4_isFrom
set_option maxRecDepth 20000 in
theorem ggX4_seenAs_X4_putIn : GoodIn wsX4_seenAs wsX4_putIn := goodIn_r _ [17, 18, 19, 20, 21, 1, 3, 4, 22, 23, 24, 8, 25, 26, 27, 28, 29, 30, 31, 32, 33, 34, 35, 36, 37, 38, 39, 40, 41, 42, 43] (by decide +kernel) (by decide +kernel)
set_option maxRecDepth 20000 in
theorem gX4_seenAs_X4_putIn : GoodIn wsX4_seenAs (wsV RX4 75 RX4 yX4_putIn wsX4_putIn) := goodIn_app (goodIn_of _ (by decide +kernel)) ggX4_seenAs_X4_putIn
theorem dX4_seenAs_0 : decode cX4_seenAs 0 = .ok (.aload_n 0, 1) := by decide +kernel
theorem dX4_seenAs_1 : decode cX4_seenAs 1 = .ok (.aload_n 0, 1) := by decide +kernel
theorem dX4_seenAs_2 : decode cX4_seenAs 2 = .ok (.getfield 25, 3) := by decide +kernel
theorem dX4_seenAs_5 : decode cX4_seenAs 5 = .ok (.iload_n 1, 1) := by decide +kernel
theorem dX4_seenAs_6 : decode cX4_seenAs 6 = .ok (.iaload, 1) := by decide +kernel
theorem dX4_seenAs_7 : decode cX4_seenAs 7 = .ok (.iload_n 2, 1) := by decide +kernel
theorem dX4_seenAs_8 : decode cX4_seenAs 8 = .ok (.invokevirtual 71, 3) := by decide +kernel
theorem dX4_seenAs_11 : decode cX4_seenAs 11 = .ok (.ifCond .ne 5, 3) := by decide +kernel
theorem dX4_seenAs_14 : decode cX4_seenAs 14 = .ok (.iconst (-1), 1) := by decide +kernel
theorem dX4_seenAs_15 : decode cX4_seenAs 15 = .ok (.ireturn, 1) := by decide +kernel
theorem dX4_seenAs_16 : decode cX4_seenAs 16 = .ok (.iload_n 1, 1) := by decide +kernel
theorem dX4_seenAs_17 : decode cX4_seenAs 17 = .ok (.istore_n 3, 1) := by decide +kernel
theorem dX4_seenAs_18 : decode cX4_seenAs 18 = .ok (.iconst 0, 1) := by decide +kernel
theorem dX4_seenAs_19 : decode cX4_seenAs 19 = .ok (.istore 4, 2) := by decide +kernel
theorem dX4_seenAs_21 : decode cX4_seenAs 21 = .ok (.aload_n 0, 1) := by decide +kernel
theorem dX4_seenAs_22 : decode cX4_seenAs 22 = .ok (.getfield 25, 3) := by decide +kernel
theorem dX4_seenAs_25 : decode cX4_seenAs 25 = .ok (.iload_n 3, 1) := by decide +kernel
theorem dX4_seenAs_26 : decode cX4_seenAs 26 = .ok (.iaload, 1) := by decide +kernel
theorem dX4_seenAs_27 : decode cX4_seenAs 27 = .ok (.iload_n 2, 1) := by decide +kernel
theorem dX4_seenAs_28 : decode cX4_seenAs 28 = .ok (.if_icmp .eq 53, 3) := by decide +kernel
theorem dX4_seenAs_31 : decode cX4_seenAs 31 = .ok (.iload 4, 2) := by decide +kernel
theorem dX4_seenAs_33 : decode cX4_seenAs 33 = .ok (.bipush 12, 2) := by decide +kernel
theorem dX4_seenAs_35 : decode cX4_seenAs 35 = .ok (.if_icmp .ge 46, 3) := by decide +kernel
theorem dX4_seenAs_38 : decode cX4_seenAs 38 = .ok (.aload_n 0, 1) := by decide +kernel
theorem dX4_seenAs_39 : decode cX4_seenAs 39 = .ok (.aload_n 0, 1) := by decide +kernel
theorem dX4_seenAs_40 : decode cX4_seenAs 40 = .ok (.getfield 19, 3) := by decide +kernel
theorem dX4_seenAs_43 : decode cX4_seenAs 43 = .ok (.aload_n 0, 1) := by decide +kernel
theorem dX4_seenAs_44 : decode cX4_seenAs 44 = .ok (.getfield 25, 3) := by decide +kernel
theorem dX4_seenAs_47 : decode cX4_seenAs 47 = .ok (.iload_n 3, 1) := by decide +kernel
theorem dX4_seenAs_48 : decode cX4_seenAs 48 = .ok (.iaload, 1) := by decide +kernel
theorem dX4_seenAs_49 : decode cX4_seenAs 49 = .ok (.iaload, 1) := by decide +kernel
theorem dX4_seenAs_50 : decode cX4_seenAs 50 = .ok (.aload_n 0, 1) := by decide +kernel
theorem dX4_seenAs_51 : decode cX4_seenAs 51 = .ok (.getfield 28, 3) := by decide +kernel
theorem dX4_seenAs_54 : decode cX4_seenAs 54 = .ok (.iload_n 3, 1) := by decide +kernel
theorem dX4_seenAs_55 : decode cX4_seenAs 55 = .ok (.iaload, 1) := by decide +kernel
theorem dX4_seenAs_56 : decode cX4_seenAs 56 = .ok (.aload_n 0, 1) := by decide +kernel
theorem dX4_seenAs_57 : decode cX4_seenAs 57 = .ok (.getfield 31, 3) := by decide +kernel
theorem dX4_seenAs_60 : decode cX4_seenAs 60 = .ok (.iload_n 3, 1) := by decide +kernel
theorem dX4_seenAs_61 : decode cX4_seenAs 61 = .ok (.iaload, 1) := by decide +kernel
theorem dX4_seenAs_62 : decode cX4_seenAs 62 = .ok (.invokevirtual 75, 3) := by decide +kernel
theorem dX4_seenAs_65 : decode cX4_seenAs 65 = .ok (.istore_n 3, 1) := by decide +kernel
theorem dX4_seenAs_66 : decode cX4_seenAs 66 = .ok (.iload_n 3, 1) := by decide +kernel
theorem dX4_seenAs_67 : decode cX4_seenAs 67 = .ok (.bipush (-3), 2) := by decide +kernel
theorem dX4_seenAs_69 : decode cX4_seenAs 69 = .ok (.if_icmp .ne 6, 3) := by decide +kernel
theorem dX4_seenAs_72 : decode cX4_seenAs 72 = .ok (.bipush (-3), 2) := by decide +kernel
theorem dX4_seenAs_74 : decode cX4_seenAs 74 = .ok (.ireturn, 1) := by decide +kernel
theorem dX4_seenAs_75 : decode cX4_seenAs 75 = .ok (.iinc 4 1, 3) := by decide +kernel
theorem dX4_seenAs_78 : decode cX4_seenAs 78 = .ok (.goto (-57), 3) := by decide +kernel
theorem dX4_seenAs_81 : decode cX4_seenAs 81 = .ok (.iload_n 3, 1) := by decide +kernel
theorem dX4_seenAs_82 : decode cX4_seenAs 82 = .ok (.ireturn, 1) := by decide +kernel
set_option maxRecDepth 20000 in
theorem ggX4_goesFor_X6_widens : GoodIn wsX4_goesFor wsX6_widens := goodIn_r _ [4] (by decide +kernel) (by decide +kernel)
set_option maxRecDepth 20000 in
theorem gX4_goesFor_X6_widens_n78 : GoodIn wsX4_goesFor (wsX6_widens) := ggX4_goesFor_X6_widens
set_option maxRecDepth 20000 in
theorem ggX4_goesFor_X6_isPrimitive : GoodIn wsX4_goesFor wsX6_isPrimitive := goodIn_r _ [6] (by decide +kernel) (by decide +kernel)
set_option maxRecDepth 20000 in
theorem gX4_goesFor_X6_isPrimitive_n81 : GoodIn wsX4_goesFor (wsX6_isPrimitive) := ggX4_goesFor_X6_isPrimitive
set_option maxRecDepth 20000 in
theorem ggX4_goesFor_X4_seenAs : GoodIn wsX4_goesFor wsX4_seenAs := goodIn_r _ [11, 1, 12, 13, 14, 15, 16, 17, 10, 18, 19, 20, 21, 22, 23, 24, 25, 26, 27, 28, 29, 30, 31, 32, 33, 34, 35, 36, 37, 38, 39, 40, 41, 42, 43, 44, 45, 46, 47, 48, 49, 50, 51, 52] (by decide +kernel) (by decide +kernel)
set_option maxRecDepth 20000 in
theorem gX4_goesFor_X4_seenAs : GoodIn wsX4_goesFor (wsV RX4 84 RX4 yX4_seenAs wsX4_seenAs) := goodIn_app (goodIn_of _ (by decide +kernel)) ggX4_goesFor_X4_seenAs
theorem dX4_goesFor_0 : decode cX4_goesFor 0 = .ok (.iload_n 1, 1) := by decide +kernel
theorem dX4_goesFor_1 : decode cX4_goesFor 1 = .ok (.iload_n 2, 1) := by decide +kernel
theorem dX4_goesFor_2 : decode cX4_goesFor 2 = .ok (.if_icmp .eq 11, 3) := by decide +kernel
theorem dX4_goesFor_5 : decode cX4_goesFor 5 = .ok (.iload_n 1, 1) := by decide +kernel
theorem dX4_goesFor_6 : decode cX4_goesFor 6 = .ok (.iload_n 2, 1) := by decide +kernel
theorem dX4_goesFor_7 : decode cX4_goesFor 7 = .ok (.invokestatic 78, 3) := by decide +kernel
theorem dX4_goesFor_10 : decode cX4_goesFor 10 = .ok (.ifCond .eq 5, 3) := by decide +kernel
theorem dX4_goesFor_13 : decode cX4_goesFor 13 = .ok (.iconst 1, 1) := by decide +kernel
theorem dX4_goesFor_14 : decode cX4_goesFor 14 = .ok (.ireturn, 1) := by decide +kernel
theorem dX4_goesFor_15 : decode cX4_goesFor 15 = .ok (.iload_n 1, 1) := by decide +kernel
theorem dX4_goesFor_16 : decode cX4_goesFor 16 = .ok (.invokestatic 81, 3) := by decide +kernel
theorem dX4_goesFor_19 : decode cX4_goesFor 19 = .ok (.ifCond .ne 10, 3) := by decide +kernel
theorem dX4_goesFor_22 : decode cX4_goesFor 22 = .ok (.iload_n 2, 1) := by decide +kernel
theorem dX4_goesFor_23 : decode cX4_goesFor 23 = .ok (.invokestatic 81, 3) := by decide +kernel
theorem dX4_goesFor_26 : decode cX4_goesFor 26 = .ok (.ifCond .eq 5, 3) := by decide +kernel
theorem dX4_goesFor_29 : decode cX4_goesFor 29 = .ok (.iconst 0, 1) := by decide +kernel
theorem dX4_goesFor_30 : decode cX4_goesFor 30 = .ok (.ireturn, 1) := by decide +kernel
theorem dX4_goesFor_31 : decode cX4_goesFor 31 = .ok (.aload_n 0, 1) := by decide +kernel
theorem dX4_goesFor_32 : decode cX4_goesFor 32 = .ok (.iload_n 1, 1) := by decide +kernel
theorem dX4_goesFor_33 : decode cX4_goesFor 33 = .ok (.aload_n 0, 1) := by decide +kernel
theorem dX4_goesFor_34 : decode cX4_goesFor 34 = .ok (.getfield 25, 3) := by decide +kernel
theorem dX4_goesFor_37 : decode cX4_goesFor 37 = .ok (.iload_n 2, 1) := by decide +kernel
theorem dX4_goesFor_38 : decode cX4_goesFor 38 = .ok (.iaload, 1) := by decide +kernel
theorem dX4_goesFor_39 : decode cX4_goesFor 39 = .ok (.invokevirtual 84, 3) := by decide +kernel
theorem dX4_goesFor_42 : decode cX4_goesFor 42 = .ok (.istore_n 3, 1) := by decide +kernel
theorem dX4_goesFor_43 : decode cX4_goesFor 43 = .ok (.iload_n 3, 1) := by decide +kernel
theorem dX4_goesFor_44 : decode cX4_goesFor 44 = .ok (.bipush (-3), 2) := by decide +kernel
theorem dX4_goesFor_46 : decode cX4_goesFor 46 = .ok (.if_icmp .ne 6, 3) := by decide +kernel
theorem dX4_goesFor_49 : decode cX4_goesFor 49 = .ok (.bipush (-3), 2) := by decide +kernel
theorem dX4_goesFor_51 : decode cX4_goesFor 51 = .ok (.ireturn, 1) := by decide +kernel
theorem dX4_goesFor_52 : decode cX4_goesFor 52 = .ok (.iload_n 3, 1) := by decide +kernel
theorem dX4_goesFor_53 : decode cX4_goesFor 53 = .ok (.iload_n 2, 1) := by decide +kernel
theorem dX4_goesFor_54 : decode cX4_goesFor 54 = .ok (.if_icmp .ne 7, 3) := by decide +kernel
theorem dX4_goesFor_57 : decode cX4_goesFor 57 = .ok (.iconst 1, 1) := by decide +kernel
theorem dX4_goesFor_58 : decode cX4_goesFor 58 = .ok (.goto 4, 3) := by decide +kernel
theorem dX4_goesFor_61 : decode cX4_goesFor 61 = .ok (.iconst 0, 1) := by decide +kernel
theorem dX4_goesFor_62 : decode cX4_goesFor 62 = .ok (.ireturn, 1) := by decide +kernel
set_option maxRecDepth 20000 in
theorem ggX4_commonOf_X6_widens : GoodIn wsX4_commonOf wsX6_widens := goodIn_r _ [4] (by decide +kernel) (by decide +kernel)
set_option maxRecDepth 20000 in
theorem gX4_commonOf_X6_widens_n78 : GoodIn wsX4_commonOf (wsX6_widens) := ggX4_commonOf_X6_widens
set_option maxRecDepth 20000 in
theorem ggX4_commonOf_X6_isPrimitive : GoodIn wsX4_commonOf wsX6_isPrimitive := goodIn_r _ [6] (by decide +kernel) (by decide +kernel)
set_option maxRecDepth 20000 in
theorem gX4_commonOf_X6_isPrimitive_n81 : GoodIn wsX4_commonOf (wsX6_isPrimitive) := ggX4_commonOf_X6_isPrimitive
set_option maxRecDepth 20000 in
theorem ggX4_commonOf_X4_isFrom : GoodIn wsX4_commonOf wsX4_isFrom := goodIn_r _ [11, 12, 13, 14, 10, 15, 1, 16, 43, 44, 45, 46, 47, 48, 49, 50, 51, 52] (by decide +kernel) (by decide +kernel)
set_option maxRecDepth 20000 in
theorem gX4_commonOf_X4_isFrom : GoodIn wsX4_commonOf (wsV RX4 71 RX4 yX4_isFrom wsX4_isFrom) := goodIn_app (goodIn_of _ (by decide +kernel)) ggX4_commonOf_X4_isFrom
set_option maxRecDepth 20000 in
theorem ggX4_commonOf_X4_seenAs : GoodIn wsX4_commonOf wsX4_seenAs := goodIn_r _ [20, 1, 16, 21, 22, 7, 8, 9, 10, 11, 12, 13, 14, 15, 23, 24, 25, 26, 27, 28, 29, 30, 31, 32, 33, 34, 35, 36, 37, 38, 39, 40, 41, 42, 43, 44, 45, 46, 47, 48, 49, 50, 51, 52] (by decide +kernel) (by decide +kernel)
set_option maxRecDepth 20000 in
theorem gX4_commonOf_X4_seenAs : GoodIn wsX4_commonOf (wsV RX4 84 RX4 yX4_seenAs wsX4_seenAs) := goodIn_app (goodIn_of _ (by decide +kernel)) ggX4_commonOf_X4_seenAs
set_option maxRecDepth 20000 in
theorem ggX4_commonOf_X4_classAbove : GoodIn wsX4_commonOf wsX4_classAbove := goodIn_r _ [15, 1, 16, 43, 44, 45, 46, 47, 48, 49, 50, 51, 52] (by decide +kernel) (by decide +kernel)
set_option maxRecDepth 20000 in
theorem gX4_commonOf_X4_classAbove : GoodIn wsX4_commonOf (wsV RX4 68 RX4 yX4_classAbove wsX4_classAbove) := goodIn_app (goodIn_of _ (by decide +kernel)) ggX4_commonOf_X4_classAbove
theorem dX4_commonOf_0 : decode cX4_commonOf 0 = .ok (.iload_n 1, 1) := by decide +kernel
theorem dX4_commonOf_1 : decode cX4_commonOf 1 = .ok (.iload_n 2, 1) := by decide +kernel
theorem dX4_commonOf_2 : decode cX4_commonOf 2 = .ok (.if_icmp .eq 11, 3) := by decide +kernel
theorem dX4_commonOf_5 : decode cX4_commonOf 5 = .ok (.iload_n 2, 1) := by decide +kernel
theorem dX4_commonOf_6 : decode cX4_commonOf 6 = .ok (.iload_n 1, 1) := by decide +kernel
theorem dX4_commonOf_7 : decode cX4_commonOf 7 = .ok (.invokestatic 78, 3) := by decide +kernel
theorem dX4_commonOf_10 : decode cX4_commonOf 10 = .ok (.ifCond .eq 5, 3) := by decide +kernel
theorem dX4_commonOf_13 : decode cX4_commonOf 13 = .ok (.iload_n 1, 1) := by decide +kernel
theorem dX4_commonOf_14 : decode cX4_commonOf 14 = .ok (.ireturn, 1) := by decide +kernel
theorem dX4_commonOf_15 : decode cX4_commonOf 15 = .ok (.iload_n 1, 1) := by decide +kernel
theorem dX4_commonOf_16 : decode cX4_commonOf 16 = .ok (.iload_n 2, 1) := by decide +kernel
theorem dX4_commonOf_17 : decode cX4_commonOf 17 = .ok (.invokestatic 78, 3) := by decide +kernel
theorem dX4_commonOf_20 : decode cX4_commonOf 20 = .ok (.ifCond .eq 5, 3) := by decide +kernel
theorem dX4_commonOf_23 : decode cX4_commonOf 23 = .ok (.iload_n 2, 1) := by decide +kernel
theorem dX4_commonOf_24 : decode cX4_commonOf 24 = .ok (.ireturn, 1) := by decide +kernel
theorem dX4_commonOf_25 : decode cX4_commonOf 25 = .ok (.iload_n 1, 1) := by decide +kernel
theorem dX4_commonOf_26 : decode cX4_commonOf 26 = .ok (.invokestatic 81, 3) := by decide +kernel
theorem dX4_commonOf_29 : decode cX4_commonOf 29 = .ok (.ifCond .ne 10, 3) := by decide +kernel
theorem dX4_commonOf_32 : decode cX4_commonOf 32 = .ok (.iload_n 2, 1) := by decide +kernel
theorem dX4_commonOf_33 : decode cX4_commonOf 33 = .ok (.invokestatic 81, 3) := by decide +kernel
theorem dX4_commonOf_36 : decode cX4_commonOf 36 = .ok (.ifCond .eq 5, 3) := by decide +kernel
theorem dX4_commonOf_39 : decode cX4_commonOf 39 = .ok (.iconst (-1), 1) := by decide +kernel
theorem dX4_commonOf_40 : decode cX4_commonOf 40 = .ok (.ireturn, 1) := by decide +kernel
theorem dX4_commonOf_41 : decode cX4_commonOf 41 = .ok (.aload_n 0, 1) := by decide +kernel
theorem dX4_commonOf_42 : decode cX4_commonOf 42 = .ok (.getfield 25, 3) := by decide +kernel
theorem dX4_commonOf_45 : decode cX4_commonOf 45 = .ok (.iload_n 1, 1) := by decide +kernel
theorem dX4_commonOf_46 : decode cX4_commonOf 46 = .ok (.iaload, 1) := by decide +kernel
theorem dX4_commonOf_47 : decode cX4_commonOf 47 = .ok (.istore_n 3, 1) := by decide +kernel
theorem dX4_commonOf_48 : decode cX4_commonOf 48 = .ok (.iconst 0, 1) := by decide +kernel
theorem dX4_commonOf_49 : decode cX4_commonOf 49 = .ok (.istore 4, 2) := by decide +kernel
theorem dX4_commonOf_51 : decode cX4_commonOf 51 = .ok (.iload_n 3, 1) := by decide +kernel
theorem dX4_commonOf_52 : decode cX4_commonOf 52 = .ok (.iconst (-1), 1) := by decide +kernel
theorem dX4_commonOf_53 : decode cX4_commonOf 53 = .ok (.if_icmp .eq 79, 3) := by decide +kernel
theorem dX4_commonOf_56 : decode cX4_commonOf 56 = .ok (.iload 4, 2) := by decide +kernel
theorem dX4_commonOf_58 : decode cX4_commonOf 58 = .ok (.bipush 12, 2) := by decide +kernel
theorem dX4_commonOf_60 : decode cX4_commonOf 60 = .ok (.if_icmp .ge 72, 3) := by decide +kernel
theorem dX4_commonOf_63 : decode cX4_commonOf 63 = .ok (.aload_n 0, 1) := by decide +kernel
theorem dX4_commonOf_64 : decode cX4_commonOf 64 = .ok (.aload_n 0, 1) := by decide +kernel
theorem dX4_commonOf_65 : decode cX4_commonOf 65 = .ok (.getfield 25, 3) := by decide +kernel
theorem dX4_commonOf_68 : decode cX4_commonOf 68 = .ok (.iload_n 2, 1) := by decide +kernel
theorem dX4_commonOf_69 : decode cX4_commonOf 69 = .ok (.iaload, 1) := by decide +kernel
theorem dX4_commonOf_70 : decode cX4_commonOf 70 = .ok (.iload_n 3, 1) := by decide +kernel
theorem dX4_commonOf_71 : decode cX4_commonOf 71 = .ok (.invokevirtual 71, 3) := by decide +kernel
theorem dX4_commonOf_74 : decode cX4_commonOf 74 = .ok (.ifCond .eq 46, 3) := by decide +kernel
theorem dX4_commonOf_77 : decode cX4_commonOf 77 = .ok (.aload_n 0, 1) := by decide +kernel
theorem dX4_commonOf_78 : decode cX4_commonOf 78 = .ok (.iload_n 1, 1) := by decide +kernel
theorem dX4_commonOf_79 : decode cX4_commonOf 79 = .ok (.iload_n 3, 1) := by decide +kernel
theorem dX4_commonOf_80 : decode cX4_commonOf 80 = .ok (.invokevirtual 84, 3) := by decide +kernel
theorem dX4_commonOf_83 : decode cX4_commonOf 83 = .ok (.istore 5, 2) := by decide +kernel
theorem dX4_commonOf_85 : decode cX4_commonOf 85 = .ok (.iload 5, 2) := by decide +kernel
theorem dX4_commonOf_87 : decode cX4_commonOf 87 = .ok (.bipush (-3), 2) := by decide +kernel
theorem dX4_commonOf_89 : decode cX4_commonOf 89 = .ok (.if_icmp .ne 6, 3) := by decide +kernel
theorem dX4_commonOf_92 : decode cX4_commonOf 92 = .ok (.bipush (-3), 2) := by decide +kernel
theorem dX4_commonOf_94 : decode cX4_commonOf 94 = .ok (.ireturn, 1) := by decide +kernel
theorem dX4_commonOf_95 : decode cX4_commonOf 95 = .ok (.aload_n 0, 1) := by decide +kernel
theorem dX4_commonOf_96 : decode cX4_commonOf 96 = .ok (.iload_n 2, 1) := by decide +kernel
theorem dX4_commonOf_97 : decode cX4_commonOf 97 = .ok (.iload_n 3, 1) := by decide +kernel
theorem dX4_commonOf_98 : decode cX4_commonOf 98 = .ok (.invokevirtual 84, 3) := by decide +kernel
theorem dX4_commonOf_101 : decode cX4_commonOf 101 = .ok (.istore 6, 2) := by decide +kernel
theorem dX4_commonOf_103 : decode cX4_commonOf 103 = .ok (.iload 6, 2) := by decide +kernel
theorem dX4_commonOf_105 : decode cX4_commonOf 105 = .ok (.bipush (-3), 2) := by decide +kernel
theorem dX4_commonOf_107 : decode cX4_commonOf 107 = .ok (.if_icmp .eq 10, 3) := by decide +kernel
theorem dX4_commonOf_110 : decode cX4_commonOf 110 = .ok (.iload 6, 2) := by decide +kernel
theorem dX4_commonOf_112 : decode cX4_commonOf 112 = .ok (.iload 5, 2) := by decide +kernel
theorem dX4_commonOf_114 : decode cX4_commonOf 114 = .ok (.if_icmp .ne 6, 3) := by decide +kernel
theorem dX4_commonOf_117 : decode cX4_commonOf 117 = .ok (.iload 6, 2) := by decide +kernel
theorem dX4_commonOf_119 : decode cX4_commonOf 119 = .ok (.ireturn, 1) := by decide +kernel
theorem dX4_commonOf_120 : decode cX4_commonOf 120 = .ok (.aload_n 0, 1) := by decide +kernel
theorem dX4_commonOf_121 : decode cX4_commonOf 121 = .ok (.iload_n 3, 1) := by decide +kernel
theorem dX4_commonOf_122 : decode cX4_commonOf 122 = .ok (.invokevirtual 68, 3) := by decide +kernel
theorem dX4_commonOf_125 : decode cX4_commonOf 125 = .ok (.istore_n 3, 1) := by decide +kernel
theorem dX4_commonOf_126 : decode cX4_commonOf 126 = .ok (.iinc 4 1, 3) := by decide +kernel
theorem dX4_commonOf_129 : decode cX4_commonOf 129 = .ok (.goto (-78), 3) := by decide +kernel
theorem dX4_commonOf_132 : decode cX4_commonOf 132 = .ok (.iconst (-1), 1) := by decide +kernel
theorem dX4_commonOf_133 : decode cX4_commonOf 133 = .ok (.ireturn, 1) := by decide +kernel
end
section
set_option maxRecDepth 20000 in
theorem ggX5_init_X3_init : GoodIn wsX5_init wsX3_init := goodIn_r _ [15, 16, 2, 3, 17, 18, 19, 20, 21, 22, 23, 24, 31, 32, 33, 34, 35, 36, 37] (by decide +kernel) (by decide +kernel)
set_option maxRecDepth 20000 in
theorem gX5_init_X3_init : GoodIn wsX5_init (wsX3_init) := ggX5_init_X3_init
theorem dX5_init_0 : decode cX5_init 0 = .ok (.aload_n 0, 1) := by decide +kernel
theorem dX5_init_1 : decode cX5_init 1 = .ok (.invokespecial 3, 3) := by decide +kernel
theorem dX5_init_4 : decode cX5_init 4 = .ok (.aload_n 0, 1) := by decide +kernel
theorem dX5_init_5 : decode cX5_init 5 = .ok (.iconst 0, 1) := by decide +kernel
theorem dX5_init_6 : decode cX5_init 6 = .ok (.putfield 9, 3) := by decide +kernel
theorem dX5_init_9 : decode cX5_init 9 = .ok (.aload_n 0, 1) := by decide +kernel
theorem dX5_init_10 : decode cX5_init 10 = .ok (.iconst 0, 1) := by decide +kernel
theorem dX5_init_11 : decode cX5_init 11 = .ok (.putfield 15, 3) := by decide +kernel
theorem dX5_init_14 : decode cX5_init 14 = .ok (.aload_n 0, 1) := by decide +kernel
theorem dX5_init_15 : decode cX5_init 15 = .ok (.aload_n 1, 1) := by decide +kernel
theorem dX5_init_16 : decode cX5_init 16 = .ok (.putfield 19, 3) := by decide +kernel
theorem dX5_init_19 : decode cX5_init 19 = .ok (.aload_n 0, 1) := by decide +kernel
theorem dX5_init_20 : decode cX5_init 20 = .ok (.aload_n 2, 1) := by decide +kernel
theorem dX5_init_21 : decode cX5_init 21 = .ok (.putfield 23, 3) := by decide +kernel
theorem dX5_init_24 : decode cX5_init 24 = .ok (.aload_n 0, 1) := by decide +kernel
theorem dX5_init_25 : decode cX5_init 25 = .ok (.aload 4, 2) := by decide +kernel
theorem dX5_init_27 : decode cX5_init 27 = .ok (.putfield 27, 3) := by decide +kernel
theorem dX5_init_30 : decode cX5_init 30 = .ok (.aload_n 0, 1) := by decide +kernel
theorem dX5_init_31 : decode cX5_init 31 = .ok (.new 31, 3) := by decide +kernel
theorem dX5_init_34 : decode cX5_init 34 = .ok (.dup, 1) := by decide +kernel
theorem dX5_init_35 : decode cX5_init 35 = .ok (.aload_n 1, 1) := by decide +kernel
theorem dX5_init_36 : decode cX5_init 36 = .ok (.aload_n 3, 1) := by decide +kernel
theorem dX5_init_37 : decode cX5_init 37 = .ok (.invokespecial 33, 3) := by decide +kernel
theorem dX5_init_40 : decode cX5_init 40 = .ok (.putfield 36, 3) := by decide +kernel
theorem dX5_init_43 : decode cX5_init 43 = .ok (.return_, 1) := by decide +kernel
set_option maxRecDepth 20000 in
theorem ggX5_whatComes_X2_hasTwoInputs : GoodIn wsX5_whatComes wsX2_hasTwoInputs := goodIn_r _ [16, 17, 165, 166, 167, 168, 169, 170, 171, 172, 173, 174, 175] (by decide +kernel) (by decide +kernel)
set_option maxRecDepth 20000 in
theorem gX5_whatComes_X2_hasTwoInputs : GoodIn wsX5_whatComes (wsV RX5 55 RX2 yX2_hasTwoInputs wsX2_hasTwoInputs) := goodIn_app (goodIn_of _ (by decide +kernel)) ggX5_whatComes_X2_hasTwoInputs
set_option maxRecDepth 20000 in
theorem ggX5_whatComes_X5_none : GoodIn wsX5_whatComes wsX5_none := goodIn_r _ [22, 1, 159, 160, 161, 162, 163, 164] (by decide +kernel) (by decide +kernel)
set_option maxRecDepth 20000 in
theorem gX5_whatComes_X5_none : GoodIn wsX5_whatComes (wsV RX5 62 RX5 yX5_none wsX5_none) := goodIn_app (goodIn_of _ (by decide +kernel)) ggX5_whatComes_X5_none
set_option maxRecDepth 20000 in
theorem ggX5_whatComes_X3_putTo : GoodIn wsX5_whatComes wsX3_putTo := goodIn_r _ [27, 28, 29, 30, 31, 32, 33, 34, 35, 36, 37, 38, 39, 40, 41, 42, 26, 43, 44, 45, 46, 47, 48, 49, 50, 51, 52, 53, 54, 55, 56, 57, 58, 59, 60, 61, 62, 63, 64, 65, 66, 67, 68, 69, 70, 71, 72, 73, 74, 75, 76, 77, 78, 79, 80, 81, 82, 83, 84, 85, 86, 87, 88, 89, 90, 91, 92, 93, 94, 95, 96, 97, 98, 99, 100, 101, 102, 103, 104, 105, 106, 107, 108, 109, 110, 111, 112, 113, 114, 115, 116, 117, 118, 119, 120, 176, 177, 178, 179, 180, 181, 182, 183, 184, 185, 186, 187, 188, 189, 190, 191, 192, 193, 194, 195, 196, 197] (by decide +kernel) (by decide +kernel)
set_option maxRecDepth 20000 in
theorem gX5_whatComes_X3_putTo : GoodIn wsX5_whatComes (wsV RX5 66 RX3 yX3_putTo wsX3_putTo) := goodIn_app (goodIn_of _ (by decide +kernel)) ggX5_whatComes_X3_putTo
set_option maxRecDepth 20000 in
theorem ggX5_whatComes_X5_orFault : GoodIn wsX5_whatComes wsX5_orFault := goodIn_r _ [124, 18, 19, 20, 21, 22, 1, 159, 160, 161, 162, 163, 164] (by decide +kernel) (by decide +kernel)
set_option maxRecDepth 20000 in
theorem gX5_whatComes_X5_orFault : GoodIn wsX5_whatComes (wsV RX5 71 RX5 yX5_orFault wsX5_orFault) := goodIn_app (goodIn_of _ (by decide +kernel)) ggX5_whatComes_X5_orFault
set_option maxRecDepth 20000 in
theorem ggX5_whatComes_X5_filtered : GoodIn wsX5_whatComes wsX5_filtered := goodIn_r _ [128, 18, 19, 20, 21, 22, 1, 159, 160, 161, 162, 163, 164] (by decide +kernel) (by decide +kernel)
set_option maxRecDepth 20000 in
theorem gX5_whatComes_X5_filtered : GoodIn wsX5_whatComes (wsV RX5 75 RX5 yX5_filtered wsX5_filtered) := goodIn_app (goodIn_of _ (by decide +kernel)) ggX5_whatComes_X5_filtered
set_option maxRecDepth 20000 in
theorem ggX5_whatComes_X5_memberOf : GoodIn wsX5_whatComes wsX5_memberOf := goodIn_r _ [132, 11, 133, 134, 135, 136, 137, 45, 46, 47, 18, 19, 20, 21, 22, 1, 138, 57, 58, 59, 60, 61, 62, 63, 64, 65, 66, 67, 68, 69, 70, 71, 72, 73, 74, 75, 76, 77, 78, 79, 80, 81, 82, 83, 84, 85, 86, 87, 88, 89, 90, 91, 92, 121, 122, 123, 124, 139, 159, 160, 161, 162, 163, 164, 198, 199, 200, 188, 189, 190, 191, 192, 193, 194, 195, 196, 197] (by decide +kernel) (by decide +kernel)
set_option maxRecDepth 20000 in
theorem gX5_whatComes_X5_memberOf : GoodIn wsX5_whatComes (wsV RX5 78 RX5 yX5_memberOf wsX5_memberOf) := goodIn_app (goodIn_of _ (by decide +kernel)) ggX5_whatComes_X5_memberOf
set_option maxRecDepth 20000 in
theorem ggX5_whatComes_X4_commonOf : GoodIn wsX5_whatComes wsX4_commonOf := goodIn_r _ [143, 61, 48, 46, 49, 45, 47, 65, 66, 67, 59, 68, 69, 70, 71, 72, 62, 114, 57, 58, 60, 63, 64, 73, 74, 75, 76, 77, 78, 79, 80, 81, 82, 83, 84, 85, 86, 87, 88, 89, 90, 91, 92, 188, 189, 190, 191, 192, 193, 194, 195, 196, 197] (by decide +kernel) (by decide +kernel)
set_option maxRecDepth 20000 in
theorem gX5_whatComes_X4_commonOf : GoodIn wsX5_whatComes (wsV RX5 81 RX4 yX4_commonOf wsX4_commonOf) := goodIn_app (goodIn_of _ (by decide +kernel)) ggX5_whatComes_X4_commonOf
set_option maxRecDepth 20000 in
theorem ggX5_whatComes_X5_joined : GoodIn wsX5_whatComes wsX5_joined := goodIn_r _ [147, 3, 4, 148, 11, 149, 129, 130, 131, 21, 132, 133, 134, 135, 136, 137, 45, 46, 47, 18, 19, 20, 22, 1, 138, 57, 58, 59, 60, 61, 62, 63, 64, 65, 66, 67, 68, 69, 70, 71, 72, 73, 74, 75, 76, 77, 78, 79, 80, 81, 82, 83, 84, 85, 86, 87, 88, 89, 90, 91, 92, 121, 122, 123, 124, 139, 150, 111, 112, 113, 48, 49, 114, 151, 159, 160, 161, 162, 163, 164, 165, 166, 167, 168, 169, 170, 171, 172, 173, 174, 175, 198, 199, 200, 188, 189, 190, 191, 192, 193, 194, 195, 196, 197] (by decide +kernel) (by decide +kernel)
set_option maxRecDepth 20000 in
theorem gX5_whatComes_X5_joined : GoodIn wsX5_whatComes (wsV RX5 86 RX5 yX5_joined wsX5_joined) := goodIn_app (goodIn_of _ (by decide +kernel)) ggX5_whatComes_X5_joined
set_option maxRecDepth 20000 in
theorem ggX5_whatComes_X5_castTo : GoodIn wsX5_whatComes wsX5_castTo := goodIn_r _ [155, 11, 2, 150, 111, 112, 59, 113, 61, 48, 46, 49, 45, 47, 114, 57, 58, 60, 62, 63, 64, 65, 66, 67, 68, 69, 70, 71, 72, 73, 74, 75, 76, 77, 78, 79, 80, 81, 82, 83, 84, 85, 86, 87, 88, 89, 90, 91, 92, 156, 157, 21, 158, 18, 19, 20, 22, 1, 159, 160, 161, 162, 163, 164, 188, 189, 190, 191, 192, 193, 194, 195, 196, 197] (by decide +kernel) (by decide +kernel)
set_option maxRecDepth 20000 in
theorem gX5_whatComes_X5_castTo : GoodIn wsX5_whatComes (wsV RX5 89 RX5 yX5_castTo wsX5_castTo) := goodIn_app (goodIn_of _ (by decide +kernel)) ggX5_whatComes_X5_castTo
theorem dX5_whatComes_0 : decode cX5_whatComes 0 = .ok (.aload_n 0, 1) := by decide +kernel
theorem dX5_whatComes_1 : decode cX5_whatComes 1 = .ok (.iconst 0, 1) := by decide +kernel
theorem dX5_whatComes_2 : decode cX5_whatComes 2 = .ok (.putfield 9, 3) := by decide +kernel
theorem dX5_whatComes_5 : decode cX5_whatComes 5 = .ok (.aload_n 0, 1) := by decide +kernel
theorem dX5_whatComes_6 : decode cX5_whatComes 6 = .ok (.iconst 0, 1) := by decide +kernel
theorem dX5_whatComes_7 : decode cX5_whatComes 7 = .ok (.putfield 15, 3) := by decide +kernel
theorem dX5_whatComes_10 : decode cX5_whatComes 10 = .ok (.aload_n 0, 1) := by decide +kernel
theorem dX5_whatComes_11 : decode cX5_whatComes 11 = .ok (.getfield 27, 3) := by decide +kernel
theorem dX5_whatComes_14 : decode cX5_whatComes 14 = .ok (.getfield 40, 3) := by decide +kernel
theorem dX5_whatComes_17 : decode cX5_whatComes 17 = .ok (.iload_n 1, 1) := by decide +kernel
theorem dX5_whatComes_18 : decode cX5_whatComes 18 = .ok (.iaload, 1) := by decide +kernel
theorem dX5_whatComes_19 : decode cX5_whatComes 19 = .ok (.istore_n 2, 1) := by decide +kernel
theorem dX5_whatComes_20 : decode cX5_whatComes 20 = .ok (.aload_n 0, 1) := by decide +kernel
theorem dX5_whatComes_21 : decode cX5_whatComes 21 = .ok (.getfield 27, 3) := by decide +kernel
theorem dX5_whatComes_24 : decode cX5_whatComes 24 = .ok (.getfield 46, 3) := by decide +kernel
theorem dX5_whatComes_27 : decode cX5_whatComes 27 = .ok (.iload_n 1, 1) := by decide +kernel
theorem dX5_whatComes_28 : decode cX5_whatComes 28 = .ok (.iaload, 1) := by decide +kernel
theorem dX5_whatComes_29 : decode cX5_whatComes 29 = .ok (.ifCond .ne 5, 3) := by decide +kernel
theorem dX5_whatComes_32 : decode cX5_whatComes 32 = .ok (.iload_n 2, 1) := by decide +kernel
theorem dX5_whatComes_33 : decode cX5_whatComes 33 = .ok (.ireturn, 1) := by decide +kernel
theorem dX5_whatComes_34 : decode cX5_whatComes 34 = .ok (.aload_n 0, 1) := by decide +kernel
theorem dX5_whatComes_35 : decode cX5_whatComes 35 = .ok (.getfield 27, 3) := by decide +kernel
theorem dX5_whatComes_38 : decode cX5_whatComes 38 = .ok (.getfield 49, 3) := by decide +kernel
theorem dX5_whatComes_41 : decode cX5_whatComes 41 = .ok (.aload_n 0, 1) := by decide +kernel
theorem dX5_whatComes_42 : decode cX5_whatComes 42 = .ok (.getfield 27, 3) := by decide +kernel
theorem dX5_whatComes_45 : decode cX5_whatComes 45 = .ok (.getfield 52, 3) := by decide +kernel
theorem dX5_whatComes_48 : decode cX5_whatComes 48 = .ok (.iload_n 1, 1) := by decide +kernel
theorem dX5_whatComes_49 : decode cX5_whatComes 49 = .ok (.iaload, 1) := by decide +kernel
theorem dX5_whatComes_50 : decode cX5_whatComes 50 = .ok (.iaload, 1) := by decide +kernel
theorem dX5_whatComes_51 : decode cX5_whatComes 51 = .ok (.istore_n 3, 1) := by decide +kernel
theorem dX5_whatComes_52 : decode cX5_whatComes 52 = .ok (.aload_n 0, 1) := by decide +kernel
theorem dX5_whatComes_53 : decode cX5_whatComes 53 = .ok (.getfield 27, 3) := by decide +kernel
theorem dX5_whatComes_56 : decode cX5_whatComes 56 = .ok (.iload_n 1, 1) := by decide +kernel
theorem dX5_whatComes_57 : decode cX5_whatComes 57 = .ok (.invokevirtual 55, 3) := by decide +kernel
theorem dX5_whatComes_60 : decode cX5_whatComes 60 = .ok (.istore 4, 2) := by decide +kernel
theorem dX5_whatComes_62 : decode cX5_whatComes 62 = .ok (.iload 4, 2) := by decide +kernel
theorem dX5_whatComes_64 : decode cX5_whatComes 64 = .ok (.ifCond .eq 23, 3) := by decide +kernel
theorem dX5_whatComes_67 : decode cX5_whatComes 67 = .ok (.aload_n 0, 1) := by decide +kernel
theorem dX5_whatComes_68 : decode cX5_whatComes 68 = .ok (.getfield 27, 3) := by decide +kernel
theorem dX5_whatComes_71 : decode cX5_whatComes 71 = .ok (.getfield 49, 3) := by decide +kernel
theorem dX5_whatComes_74 : decode cX5_whatComes 74 = .ok (.aload_n 0, 1) := by decide +kernel
theorem dX5_whatComes_75 : decode cX5_whatComes 75 = .ok (.getfield 27, 3) := by decide +kernel
theorem dX5_whatComes_78 : decode cX5_whatComes 78 = .ok (.getfield 59, 3) := by decide +kernel
theorem dX5_whatComes_81 : decode cX5_whatComes 81 = .ok (.iload_n 1, 1) := by decide +kernel
theorem dX5_whatComes_82 : decode cX5_whatComes 82 = .ok (.iaload, 1) := by decide +kernel
theorem dX5_whatComes_83 : decode cX5_whatComes 83 = .ok (.iaload, 1) := by decide +kernel
theorem dX5_whatComes_84 : decode cX5_whatComes 84 = .ok (.goto 4, 3) := by decide +kernel
theorem dX5_whatComes_87 : decode cX5_whatComes 87 = .ok (.iconst (-1), 1) := by decide +kernel
theorem dX5_whatComes_88 : decode cX5_whatComes 88 = .ok (.istore 5, 2) := by decide +kernel
theorem dX5_whatComes_90 : decode cX5_whatComes 90 = .ok (.iload_n 3, 1) := by decide +kernel
theorem dX5_whatComes_91 : decode cX5_whatComes 91 = .ok (.iconst (-1), 1) := by decide +kernel
theorem dX5_whatComes_92 : decode cX5_whatComes 92 = .ok (.if_icmp .eq 14, 3) := by decide +kernel
theorem dX5_whatComes_95 : decode cX5_whatComes 95 = .ok (.iload 4, 2) := by decide +kernel
theorem dX5_whatComes_97 : decode cX5_whatComes 97 = .ok (.ifCond .eq 16, 3) := by decide +kernel
theorem dX5_whatComes_100 : decode cX5_whatComes 100 = .ok (.iload 5, 2) := by decide +kernel
theorem dX5_whatComes_102 : decode cX5_whatComes 102 = .ok (.iconst (-1), 1) := by decide +kernel
theorem dX5_whatComes_103 : decode cX5_whatComes 103 = .ok (.if_icmp .ne 10, 3) := by decide +kernel
theorem dX5_whatComes_106 : decode cX5_whatComes 106 = .ok (.aload_n 0, 1) := by decide +kernel
theorem dX5_whatComes_107 : decode cX5_whatComes 107 = .ok (.bipush 7, 2) := by decide +kernel
theorem dX5_whatComes_109 : decode cX5_whatComes 109 = .ok (.invokevirtual 62, 3) := by decide +kernel
theorem dX5_whatComes_112 : decode cX5_whatComes 112 = .ok (.ireturn, 1) := by decide +kernel
theorem dX5_whatComes_113 : decode cX5_whatComes 113 = .ok (.aload_n 0, 1) := by decide +kernel
theorem dX5_whatComes_114 : decode cX5_whatComes 114 = .ok (.getfield 27, 3) := by decide +kernel
theorem dX5_whatComes_117 : decode cX5_whatComes 117 = .ok (.getfield 46, 3) := by decide +kernel
theorem dX5_whatComes_120 : decode cX5_whatComes 120 = .ok (.iload_n 1, 1) := by decide +kernel
theorem dX5_whatComes_121 : decode cX5_whatComes 121 = .ok (.iaload, 1) := by decide +kernel
theorem dX5_whatComes_122 : decode cX5_whatComes 122 = .ok (.tableswitch 121 1 6 #[38, 61, 88, 95, 38, 112], 38) := by decide +kernel
theorem dX5_whatComes_160 : decode cX5_whatComes 160 = .ok (.aload_n 0, 1) := by decide +kernel
theorem dX5_whatComes_161 : decode cX5_whatComes 161 = .ok (.aload_n 0, 1) := by decide +kernel
theorem dX5_whatComes_162 : decode cX5_whatComes 162 = .ok (.getfield 36, 3) := by decide +kernel
theorem dX5_whatComes_165 : decode cX5_whatComes 165 = .ok (.iload_n 2, 1) := by decide +kernel
theorem dX5_whatComes_166 : decode cX5_whatComes 166 = .ok (.iload_n 3, 1) := by decide +kernel
theorem dX5_whatComes_167 : decode cX5_whatComes 167 = .ok (.iload 5, 2) := by decide +kernel
theorem dX5_whatComes_169 : decode cX5_whatComes 169 = .ok (.invokevirtual 66, 3) := by decide +kernel
theorem dX5_whatComes_172 : decode cX5_whatComes 172 = .ok (.aload_n 0, 1) := by decide +kernel
theorem dX5_whatComes_173 : decode cX5_whatComes 173 = .ok (.getfield 36, 3) := by decide +kernel
theorem dX5_whatComes_176 : decode cX5_whatComes 176 = .ok (.getfield 70, 3) := by decide +kernel
theorem dX5_whatComes_179 : decode cX5_whatComes 179 = .ok (.invokevirtual 71, 3) := by decide +kernel
theorem dX5_whatComes_182 : decode cX5_whatComes 182 = .ok (.ireturn, 1) := by decide +kernel
theorem dX5_whatComes_183 : decode cX5_whatComes 183 = .ok (.aload_n 0, 1) := by decide +kernel
theorem dX5_whatComes_184 : decode cX5_whatComes 184 = .ok (.iload_n 3, 1) := by decide +kernel
theorem dX5_whatComes_185 : decode cX5_whatComes 185 = .ok (.aload_n 0, 1) := by decide +kernel
theorem dX5_whatComes_186 : decode cX5_whatComes 186 = .ok (.aload_n 0, 1) := by decide +kernel
theorem dX5_whatComes_187 : decode cX5_whatComes 187 = .ok (.getfield 36, 3) := by decide +kernel
theorem dX5_whatComes_190 : decode cX5_whatComes 190 = .ok (.iload_n 2, 1) := by decide +kernel
theorem dX5_whatComes_191 : decode cX5_whatComes 191 = .ok (.iload_n 3, 1) := by decide +kernel
theorem dX5_whatComes_192 : decode cX5_whatComes 192 = .ok (.iconst (-1), 1) := by decide +kernel
theorem dX5_whatComes_193 : decode cX5_whatComes 193 = .ok (.invokevirtual 66, 3) := by decide +kernel
theorem dX5_whatComes_196 : decode cX5_whatComes 196 = .ok (.aload_n 0, 1) := by decide +kernel
theorem dX5_whatComes_197 : decode cX5_whatComes 197 = .ok (.getfield 36, 3) := by decide +kernel
theorem dX5_whatComes_200 : decode cX5_whatComes 200 = .ok (.getfield 70, 3) := by decide +kernel
theorem dX5_whatComes_203 : decode cX5_whatComes 203 = .ok (.invokevirtual 71, 3) := by decide +kernel
theorem dX5_whatComes_206 : decode cX5_whatComes 206 = .ok (.invokevirtual 75, 3) := by decide +kernel
theorem dX5_whatComes_209 : decode cX5_whatComes 209 = .ok (.ireturn, 1) := by decide +kernel
theorem dX5_whatComes_210 : decode cX5_whatComes 210 = .ok (.aload_n 0, 1) := by decide +kernel
theorem dX5_whatComes_211 : decode cX5_whatComes 211 = .ok (.iload_n 3, 1) := by decide +kernel
theorem dX5_whatComes_212 : decode cX5_whatComes 212 = .ok (.iload_n 2, 1) := by decide +kernel
theorem dX5_whatComes_213 : decode cX5_whatComes 213 = .ok (.invokevirtual 78, 3) := by decide +kernel
theorem dX5_whatComes_216 : decode cX5_whatComes 216 = .ok (.ireturn, 1) := by decide +kernel
theorem dX5_whatComes_217 : decode cX5_whatComes 217 = .ok (.aload_n 0, 1) := by decide +kernel
theorem dX5_whatComes_218 : decode cX5_whatComes 218 = .ok (.aload_n 0, 1) := by decide +kernel
theorem dX5_whatComes_219 : decode cX5_whatComes 219 = .ok (.getfield 19, 3) := by decide +kernel
theorem dX5_whatComes_222 : decode cX5_whatComes 222 = .ok (.iload_n 3, 1) := by decide +kernel
theorem dX5_whatComes_223 : decode cX5_whatComes 223 = .ok (.iload 5, 2) := by decide +kernel
theorem dX5_whatComes_225 : decode cX5_whatComes 225 = .ok (.invokevirtual 81, 3) := by decide +kernel
theorem dX5_whatComes_228 : decode cX5_whatComes 228 = .ok (.bipush 6, 2) := by decide +kernel
theorem dX5_whatComes_230 : decode cX5_whatComes 230 = .ok (.invokevirtual 71, 3) := by decide +kernel
theorem dX5_whatComes_233 : decode cX5_whatComes 233 = .ok (.ireturn, 1) := by decide +kernel
theorem dX5_whatComes_234 : decode cX5_whatComes 234 = .ok (.aload_n 0, 1) := by decide +kernel
theorem dX5_whatComes_235 : decode cX5_whatComes 235 = .ok (.iload_n 1, 1) := by decide +kernel
theorem dX5_whatComes_236 : decode cX5_whatComes 236 = .ok (.iload_n 3, 1) := by decide +kernel
theorem dX5_whatComes_237 : decode cX5_whatComes 237 = .ok (.iload 5, 2) := by decide +kernel
theorem dX5_whatComes_239 : decode cX5_whatComes 239 = .ok (.invokevirtual 86, 3) := by decide +kernel
theorem dX5_whatComes_242 : decode cX5_whatComes 242 = .ok (.ireturn, 1) := by decide +kernel
theorem dX5_whatComes_243 : decode cX5_whatComes 243 = .ok (.aload_n 0, 1) := by decide +kernel
theorem dX5_whatComes_244 : decode cX5_whatComes 244 = .ok (.iload_n 3, 1) := by decide +kernel
theorem dX5_whatComes_245 : decode cX5_whatComes 245 = .ok (.iload_n 2, 1) := by decide +kernel
theorem dX5_whatComes_246 : decode cX5_whatComes 246 = .ok (.invokevirtual 89, 3) := by decide +kernel
theorem dX5_whatComes_249 : decode cX5_whatComes 249 = .ok (.ireturn, 1) := by decide +kernel
set_option maxRecDepth 20000 in
theorem ggX5_keep_X2_tell : GoodIn wsX5_keep wsX2_tell := goodIn_r _ [11, 12, 13, 14, 26, 27, 28, 29, 30, 31, 32, 33, 34, 35, 36] (by decide +kernel) (by decide +kernel)
set_option maxRecDepth 20000 in
theorem gX5_keep_X2_tell : GoodIn wsX5_keep (wsV RX5 92 RX2 yX2_tell wsX2_tell) := goodIn_app (goodIn_of _ (by decide +kernel)) ggX5_keep_X2_tell
set_option maxRecDepth 20000 in
theorem ggX5_keep_X2_bind : GoodIn wsX5_keep wsX2_bind := goodIn_r _ [18, 19, 26, 27, 28, 29, 30, 31, 32, 33, 34, 35, 36] (by decide +kernel) (by decide +kernel)
set_option maxRecDepth 20000 in
theorem gX5_keep_X2_bind : GoodIn wsX5_keep (wsV RX5 99 RX2 yX2_bind wsX2_bind) := goodIn_app (goodIn_of _ (by decide +kernel)) ggX5_keep_X2_bind
theorem dX5_keep_0 : decode cX5_keep 0 = .ok (.aload_n 0, 1) := by decide +kernel
theorem dX5_keep_1 : decode cX5_keep 1 = .ok (.getfield 27, 3) := by decide +kernel
theorem dX5_keep_4 : decode cX5_keep 4 = .ok (.iload_n 1, 1) := by decide +kernel
theorem dX5_keep_5 : decode cX5_keep 5 = .ok (.iload_n 2, 1) := by decide +kernel
theorem dX5_keep_6 : decode cX5_keep 6 = .ok (.aload_n 0, 1) := by decide +kernel
theorem dX5_keep_7 : decode cX5_keep 7 = .ok (.getfield 9, 3) := by decide +kernel
theorem dX5_keep_10 : decode cX5_keep 10 = .ok (.aload_n 0, 1) := by decide +kernel
theorem dX5_keep_11 : decode cX5_keep 11 = .ok (.getfield 15, 3) := by decide +kernel
theorem dX5_keep_14 : decode cX5_keep 14 = .ok (.invokevirtual 92, 3) := by decide +kernel
theorem dX5_keep_17 : decode cX5_keep 17 = .ok (.aload_n 0, 1) := by decide +kernel
theorem dX5_keep_18 : decode cX5_keep 18 = .ok (.getfield 27, 3) := by decide +kernel
theorem dX5_keep_21 : decode cX5_keep 21 = .ok (.getfield 46, 3) := by decide +kernel
theorem dX5_keep_24 : decode cX5_keep 24 = .ok (.iload_n 1, 1) := by decide +kernel
theorem dX5_keep_25 : decode cX5_keep 25 = .ok (.iaload, 1) := by decide +kernel
theorem dX5_keep_26 : decode cX5_keep 26 = .ok (.istore_n 3, 1) := by decide +kernel
theorem dX5_keep_27 : decode cX5_keep 27 = .ok (.iload_n 2, 1) := by decide +kernel
theorem dX5_keep_28 : decode cX5_keep 28 = .ok (.iconst (-1), 1) := by decide +kernel
theorem dX5_keep_29 : decode cX5_keep 29 = .ok (.if_icmp .eq 47, 3) := by decide +kernel
theorem dX5_keep_32 : decode cX5_keep 32 = .ok (.iload_n 3, 1) := by decide +kernel
theorem dX5_keep_33 : decode cX5_keep 33 = .ok (.iconst 1, 1) := by decide +kernel
theorem dX5_keep_34 : decode cX5_keep 34 = .ok (.if_icmp .eq 13, 3) := by decide +kernel
theorem dX5_keep_37 : decode cX5_keep 37 = .ok (.iload_n 3, 1) := by decide +kernel
theorem dX5_keep_38 : decode cX5_keep 38 = .ok (.iconst 2, 1) := by decide +kernel
theorem dX5_keep_39 : decode cX5_keep 39 = .ok (.if_icmp .eq 8, 3) := by decide +kernel
theorem dX5_keep_42 : decode cX5_keep 42 = .ok (.iload_n 3, 1) := by decide +kernel
theorem dX5_keep_43 : decode cX5_keep 43 = .ok (.iconst 5, 1) := by decide +kernel
theorem dX5_keep_44 : decode cX5_keep 44 = .ok (.if_icmp .ne 32, 3) := by decide +kernel
theorem dX5_keep_47 : decode cX5_keep 47 = .ok (.aload_n 0, 1) := by decide +kernel
theorem dX5_keep_48 : decode cX5_keep 48 = .ok (.getfield 27, 3) := by decide +kernel
theorem dX5_keep_51 : decode cX5_keep 51 = .ok (.iload_n 1, 1) := by decide +kernel
theorem dX5_keep_52 : decode cX5_keep 52 = .ok (.aload_n 0, 1) := by decide +kernel
theorem dX5_keep_53 : decode cX5_keep 53 = .ok (.getfield 36, 3) := by decide +kernel
theorem dX5_keep_56 : decode cX5_keep 56 = .ok (.getfield 96, 3) := by decide +kernel
theorem dX5_keep_59 : decode cX5_keep 59 = .ok (.iconst 0, 1) := by decide +kernel
theorem dX5_keep_60 : decode cX5_keep 60 = .ok (.iaload, 1) := by decide +kernel
theorem dX5_keep_61 : decode cX5_keep 61 = .ok (.aload_n 0, 1) := by decide +kernel
theorem dX5_keep_62 : decode cX5_keep 62 = .ok (.getfield 36, 3) := by decide +kernel
theorem dX5_keep_65 : decode cX5_keep 65 = .ok (.getfield 96, 3) := by decide +kernel
theorem dX5_keep_68 : decode cX5_keep 68 = .ok (.iconst 1, 1) := by decide +kernel
theorem dX5_keep_69 : decode cX5_keep 69 = .ok (.iaload, 1) := by decide +kernel
theorem dX5_keep_70 : decode cX5_keep 70 = .ok (.invokevirtual 99, 3) := by decide +kernel
theorem dX5_keep_73 : decode cX5_keep 73 = .ok (.goto 13, 3) := by decide +kernel
theorem dX5_keep_76 : decode cX5_keep 76 = .ok (.aload_n 0, 1) := by decide +kernel
theorem dX5_keep_77 : decode cX5_keep 77 = .ok (.getfield 27, 3) := by decide +kernel
theorem dX5_keep_80 : decode cX5_keep 80 = .ok (.iload_n 1, 1) := by decide +kernel
theorem dX5_keep_81 : decode cX5_keep 81 = .ok (.iconst (-1), 1) := by decide +kernel
theorem dX5_keep_82 : decode cX5_keep 82 = .ok (.iconst (-1), 1) := by decide +kernel
theorem dX5_keep_83 : decode cX5_keep 83 = .ok (.invokevirtual 99, 3) := by decide +kernel
theorem dX5_keep_86 : decode cX5_keep 86 = .ok (.return_, 1) := by decide +kernel
theorem dX5_none_0 : decode cX5_none 0 = .ok (.aload_n 0, 1) := by decide +kernel
theorem dX5_none_1 : decode cX5_none 1 = .ok (.iload_n 1, 1) := by decide +kernel
theorem dX5_none_2 : decode cX5_none 2 = .ok (.putfield 9, 3) := by decide +kernel
theorem dX5_none_5 : decode cX5_none 5 = .ok (.iconst (-1), 1) := by decide +kernel
theorem dX5_none_6 : decode cX5_none 6 = .ok (.ireturn, 1) := by decide +kernel
set_option maxRecDepth 20000 in
theorem ggX5_orFault_X5_none : GoodIn wsX5_orFault wsX5_none := goodIn_r _ [5, 6, 7, 8, 9, 10, 11, 12] (by decide +kernel) (by decide +kernel)
set_option maxRecDepth 20000 in
theorem gX5_orFault_X5_none : GoodIn wsX5_orFault (wsV RX5 62 RX5 yX5_none wsX5_none) := goodIn_app (goodIn_of _ (by decide +kernel)) ggX5_orFault_X5_none
theorem dX5_orFault_0 : decode cX5_orFault 0 = .ok (.iload_n 1, 1) := by decide +kernel
theorem dX5_orFault_1 : decode cX5_orFault 1 = .ok (.ifCond .lt 5, 3) := by decide +kernel
theorem dX5_orFault_4 : decode cX5_orFault 4 = .ok (.iload_n 1, 1) := by decide +kernel
theorem dX5_orFault_5 : decode cX5_orFault 5 = .ok (.ireturn, 1) := by decide +kernel
theorem dX5_orFault_6 : decode cX5_orFault 6 = .ok (.aload_n 0, 1) := by decide +kernel
theorem dX5_orFault_7 : decode cX5_orFault 7 = .ok (.iload_n 1, 1) := by decide +kernel
theorem dX5_orFault_8 : decode cX5_orFault 8 = .ok (.bipush (-3), 2) := by decide +kernel
theorem dX5_orFault_10 : decode cX5_orFault 10 = .ok (.if_icmp .ne 8, 3) := by decide +kernel
theorem dX5_orFault_13 : decode cX5_orFault 13 = .ok (.bipush 8, 2) := by decide +kernel
theorem dX5_orFault_15 : decode cX5_orFault 15 = .ok (.goto 4, 3) := by decide +kernel
theorem dX5_orFault_18 : decode cX5_orFault 18 = .ok (.iload_n 2, 1) := by decide +kernel
theorem dX5_orFault_19 : decode cX5_orFault 19 = .ok (.invokevirtual 62, 3) := by decide +kernel
theorem dX5_orFault_22 : decode cX5_orFault 22 = .ok (.ireturn, 1) := by decide +kernel
set_option maxRecDepth 20000 in
theorem ggX5_filtered_X5_none : GoodIn wsX5_filtered wsX5_none := goodIn_r _ [5, 6, 7, 8, 9, 10, 11, 12] (by decide +kernel) (by decide +kernel)
set_option maxRecDepth 20000 in
theorem gX5_filtered_X5_none : GoodIn wsX5_filtered (wsV RX5 62 RX5 yX5_none wsX5_none) := goodIn_app (goodIn_of _ (by decide +kernel)) ggX5_filtered_X5_none
theorem dX5_filtered_0 : decode cX5_filtered 0 = .ok (.iload_n 2, 1) := by decide +kernel
theorem dX5_filtered_1 : decode cX5_filtered 1 = .ok (.iconst (-1), 1) := by decide +kernel
theorem dX5_filtered_2 : decode cX5_filtered 2 = .ok (.if_icmp .ne 5, 3) := by decide +kernel
theorem dX5_filtered_5 : decode cX5_filtered 5 = .ok (.iconst (-1), 1) := by decide +kernel
theorem dX5_filtered_6 : decode cX5_filtered 6 = .ok (.ireturn, 1) := by decide +kernel
theorem dX5_filtered_7 : decode cX5_filtered 7 = .ok (.iload_n 2, 1) := by decide +kernel
theorem dX5_filtered_8 : decode cX5_filtered 8 = .ok (.ifCond .ne 7, 3) := by decide +kernel
theorem dX5_filtered_11 : decode cX5_filtered 11 = .ok (.iload_n 1, 1) := by decide +kernel
theorem dX5_filtered_12 : decode cX5_filtered 12 = .ok (.goto 8, 3) := by decide +kernel
theorem dX5_filtered_15 : decode cX5_filtered 15 = .ok (.aload_n 0, 1) := by decide +kernel
theorem dX5_filtered_16 : decode cX5_filtered 16 = .ok (.iconst 1, 1) := by decide +kernel
theorem dX5_filtered_17 : decode cX5_filtered 17 = .ok (.invokevirtual 62, 3) := by decide +kernel
theorem dX5_filtered_20 : decode cX5_filtered 20 = .ok (.ireturn, 1) := by decide +kernel
set_option maxRecDepth 20000 in
theorem ggX5_memberOf_X6_isPrimitive : GoodIn wsX5_memberOf wsX6_isPrimitive := goodIn_r _ [9] (by decide +kernel) (by decide +kernel)
set_option maxRecDepth 20000 in
theorem gX5_memberOf_X6_isPrimitive_n103 : GoodIn wsX5_memberOf (wsX6_isPrimitive) := ggX5_memberOf_X6_isPrimitive
set_option maxRecDepth 20000 in
theorem ggX5_memberOf_X5_none : GoodIn wsX5_memberOf wsX5_none := goodIn_r _ [14, 15, 58, 59, 60, 61, 62, 63] (by decide +kernel) (by decide +kernel)
set_option maxRecDepth 20000 in
theorem gX5_memberOf_X5_none : GoodIn wsX5_memberOf (wsV RX5 62 RX5 yX5_none wsX5_none) := goodIn_app (goodIn_of _ (by decide +kernel)) ggX5_memberOf_X5_none
set_option maxRecDepth 20000 in
theorem ggX5_memberOf_X4_seenAs : GoodIn wsX5_memberOf wsX4_seenAs := goodIn_r _ [20, 21, 22, 23, 24, 25, 26, 27, 19, 28, 29, 30, 31, 32, 33, 34, 35, 36, 37, 38, 39, 40, 41, 42, 43, 44, 45, 46, 47, 48, 49, 50, 51, 52, 67, 68, 69, 70, 71, 72, 73, 74, 75, 76] (by decide +kernel) (by decide +kernel)
set_option maxRecDepth 20000 in
theorem gX5_memberOf_X4_seenAs : GoodIn wsX5_memberOf (wsV RX5 111 RX4 yX4_seenAs wsX4_seenAs) := goodIn_app (goodIn_of _ (by decide +kernel)) ggX5_memberOf_X4_seenAs
set_option maxRecDepth 20000 in
theorem ggX5_memberOf_X5_orFault : GoodIn wsX5_memberOf wsX5_orFault := goodIn_r _ [56, 10, 11, 12, 13, 14, 15, 58, 59, 60, 61, 62, 63] (by decide +kernel) (by decide +kernel)
set_option maxRecDepth 20000 in
theorem gX5_memberOf_X5_orFault : GoodIn wsX5_memberOf (wsV RX5 71 RX5 yX5_orFault wsX5_orFault) := goodIn_app (goodIn_of _ (by decide +kernel)) ggX5_memberOf_X5_orFault
set_option maxRecDepth 20000 in
theorem ggX5_memberOf_X4_putIn : GoodIn wsX5_memberOf wsX4_putIn := goodIn_r _ [36, 37, 38, 39, 40, 21, 23, 24, 41, 42, 43, 19, 44, 45, 46, 47, 48, 49, 50, 51, 52, 67, 68, 69, 70, 71, 72, 73, 74, 75, 76] (by decide +kernel) (by decide +kernel)
set_option maxRecDepth 20000 in
theorem gX5_memberOf_X4_putIn : GoodIn wsX5_memberOf (wsV RX5 121 RX4 yX4_putIn wsX4_putIn) := goodIn_app (goodIn_of _ (by decide +kernel)) ggX5_memberOf_X4_putIn
theorem dX5_memberOf_0 : decode cX5_memberOf 0 = .ok (.iload_n 1, 1) := by decide +kernel
theorem dX5_memberOf_1 : decode cX5_memberOf 1 = .ok (.invokestatic 103, 3) := by decide +kernel
theorem dX5_memberOf_4 : decode cX5_memberOf 4 = .ok (.ifCond .eq 9, 3) := by decide +kernel
theorem dX5_memberOf_7 : decode cX5_memberOf 7 = .ok (.aload_n 0, 1) := by decide +kernel
theorem dX5_memberOf_8 : decode cX5_memberOf 8 = .ok (.iconst 5, 1) := by decide +kernel
theorem dX5_memberOf_9 : decode cX5_memberOf 9 = .ok (.invokevirtual 62, 3) := by decide +kernel
theorem dX5_memberOf_12 : decode cX5_memberOf 12 = .ok (.ireturn, 1) := by decide +kernel
theorem dX5_memberOf_13 : decode cX5_memberOf 13 = .ok (.aload_n 0, 1) := by decide +kernel
theorem dX5_memberOf_14 : decode cX5_memberOf 14 = .ok (.aload_n 0, 1) := by decide +kernel
theorem dX5_memberOf_15 : decode cX5_memberOf 15 = .ok (.getfield 19, 3) := by decide +kernel
theorem dX5_memberOf_18 : decode cX5_memberOf 18 = .ok (.iload_n 1, 1) := by decide +kernel
theorem dX5_memberOf_19 : decode cX5_memberOf 19 = .ok (.aload_n 0, 1) := by decide +kernel
theorem dX5_memberOf_20 : decode cX5_memberOf 20 = .ok (.getfield 23, 3) := by decide +kernel
theorem dX5_memberOf_23 : decode cX5_memberOf 23 = .ok (.getfield 106, 3) := by decide +kernel
theorem dX5_memberOf_26 : decode cX5_memberOf 26 = .ok (.iload_n 2, 1) := by decide +kernel
theorem dX5_memberOf_27 : decode cX5_memberOf 27 = .ok (.iaload, 1) := by decide +kernel
theorem dX5_memberOf_28 : decode cX5_memberOf 28 = .ok (.invokevirtual 111, 3) := by decide +kernel
theorem dX5_memberOf_31 : decode cX5_memberOf 31 = .ok (.iconst 5, 1) := by decide +kernel
theorem dX5_memberOf_32 : decode cX5_memberOf 32 = .ok (.invokevirtual 71, 3) := by decide +kernel
theorem dX5_memberOf_35 : decode cX5_memberOf 35 = .ok (.istore_n 3, 1) := by decide +kernel
theorem dX5_memberOf_36 : decode cX5_memberOf 36 = .ok (.iload_n 3, 1) := by decide +kernel
theorem dX5_memberOf_37 : decode cX5_memberOf 37 = .ok (.iconst (-1), 1) := by decide +kernel
theorem dX5_memberOf_38 : decode cX5_memberOf 38 = .ok (.if_icmp .ne 5, 3) := by decide +kernel
theorem dX5_memberOf_41 : decode cX5_memberOf 41 = .ok (.iconst (-1), 1) := by decide +kernel
theorem dX5_memberOf_42 : decode cX5_memberOf 42 = .ok (.ireturn, 1) := by decide +kernel
theorem dX5_memberOf_43 : decode cX5_memberOf 43 = .ok (.aload_n 0, 1) := by decide +kernel
theorem dX5_memberOf_44 : decode cX5_memberOf 44 = .ok (.getfield 23, 3) := by decide +kernel
theorem dX5_memberOf_47 : decode cX5_memberOf 47 = .ok (.getfield 114, 3) := by decide +kernel
theorem dX5_memberOf_50 : decode cX5_memberOf 50 = .ok (.iload_n 2, 1) := by decide +kernel
theorem dX5_memberOf_51 : decode cX5_memberOf 51 = .ok (.iaload, 1) := by decide +kernel
theorem dX5_memberOf_52 : decode cX5_memberOf 52 = .ok (.istore 4, 2) := by decide +kernel
theorem dX5_memberOf_54 : decode cX5_memberOf 54 = .ok (.aload_n 0, 1) := by decide +kernel
theorem dX5_memberOf_55 : decode cX5_memberOf 55 = .ok (.aload_n 0, 1) := by decide +kernel
theorem dX5_memberOf_56 : decode cX5_memberOf 56 = .ok (.getfield 19, 3) := by decide +kernel
theorem dX5_memberOf_59 : decode cX5_memberOf 59 = .ok (.iload 4, 2) := by decide +kernel
theorem dX5_memberOf_61 : decode cX5_memberOf 61 = .ok (.aload_n 0, 1) := by decide +kernel
theorem dX5_memberOf_62 : decode cX5_memberOf 62 = .ok (.getfield 19, 3) := by decide +kernel
theorem dX5_memberOf_65 : decode cX5_memberOf 65 = .ok (.getfield 115, 3) := by decide +kernel
theorem dX5_memberOf_68 : decode cX5_memberOf 68 = .ok (.iload_n 3, 1) := by decide +kernel
theorem dX5_memberOf_69 : decode cX5_memberOf 69 = .ok (.iaload, 1) := by decide +kernel
theorem dX5_memberOf_70 : decode cX5_memberOf 70 = .ok (.aload_n 0, 1) := by decide +kernel
theorem dX5_memberOf_71 : decode cX5_memberOf 71 = .ok (.getfield 19, 3) := by decide +kernel
theorem dX5_memberOf_74 : decode cX5_memberOf 74 = .ok (.getfield 118, 3) := by decide +kernel
theorem dX5_memberOf_77 : decode cX5_memberOf 77 = .ok (.iload_n 3, 1) := by decide +kernel
theorem dX5_memberOf_78 : decode cX5_memberOf 78 = .ok (.iaload, 1) := by decide +kernel
theorem dX5_memberOf_79 : decode cX5_memberOf 79 = .ok (.invokevirtual 121, 3) := by decide +kernel
theorem dX5_memberOf_82 : decode cX5_memberOf 82 = .ok (.bipush 8, 2) := by decide +kernel
theorem dX5_memberOf_84 : decode cX5_memberOf 84 = .ok (.invokevirtual 71, 3) := by decide +kernel
theorem dX5_memberOf_87 : decode cX5_memberOf 87 = .ok (.ireturn, 1) := by decide +kernel
set_option maxRecDepth 20000 in
theorem ggX5_joined_X5_memberOf : GoodIn wsX5_joined wsX5_memberOf := goodIn_r _ [10, 4, 11, 12, 13, 14, 15, 16, 17, 18, 19, 20, 21, 9, 22, 23, 24, 25, 26, 27, 28, 29, 30, 31, 32, 33, 34, 35, 36, 37, 38, 39, 40, 41, 42, 43, 44, 45, 46, 47, 48, 49, 50, 51, 52, 53, 54, 55, 56, 57, 58, 59, 60, 61, 62, 63, 64, 65, 74, 75, 76, 77, 78, 79, 91, 92, 93, 94, 95, 96, 97, 98, 99, 100, 101, 102, 103] (by decide +kernel) (by decide +kernel)
set_option maxRecDepth 20000 in
theorem gX5_joined_X5_memberOf : GoodIn wsX5_joined (wsV RX5 78 RX5 yX5_memberOf wsX5_memberOf) := goodIn_app (goodIn_of _ (by decide +kernel)) ggX5_joined_X5_memberOf
set_option maxRecDepth 20000 in
theorem ggX5_joined_X4_goesFor : GoodIn wsX5_joined wsX4_goesFor := goodIn_r _ [69, 29, 70, 17, 71, 16, 18, 72, 25, 26, 27, 28, 30, 31, 32, 33, 34, 35, 36, 37, 38, 39, 40, 41, 42, 43, 44, 45, 46, 47, 48, 49, 50, 51, 52, 53, 54, 55, 56, 57, 58, 59, 60, 94, 95, 96, 97, 98, 99, 100, 101, 102, 103] (by decide +kernel) (by decide +kernel)
set_option maxRecDepth 20000 in
theorem gX5_joined_X4_goesFor : GoodIn wsX5_joined (wsV RX5 127 RX4 yX4_goesFor wsX4_goesFor) := goodIn_app (goodIn_of _ (by decide +kernel)) ggX5_joined_X4_goesFor
set_option maxRecDepth 20000 in
theorem ggX5_joined_X5_none : GoodIn wsX5_joined wsX5_none := goodIn_r _ [22, 23, 74, 75, 76, 77, 78, 79] (by decide +kernel) (by decide +kernel)
set_option maxRecDepth 20000 in
theorem gX5_joined_X5_none : GoodIn wsX5_joined (wsV RX5 62 RX5 yX5_none wsX5_none) := goodIn_app (goodIn_of _ (by decide +kernel)) ggX5_joined_X5_none
set_option maxRecDepth 20000 in
theorem ggX5_joined_X4_make : GoodIn wsX5_joined wsX4_make := goodIn_r _ [60, 45, 29, 31, 32, 47, 94, 95, 96, 97, 98, 99, 100, 101, 102, 103] (by decide +kernel) (by decide +kernel)
set_option maxRecDepth 20000 in
theorem gX5_joined_X4_make : GoodIn wsX5_joined (wsV RX5 133 RX4 yX4_make wsX4_make) := goodIn_app (goodIn_of _ (by decide +kernel)) ggX5_joined_X4_make
set_option maxRecDepth 20000 in
theorem ggX5_joined_X5_orFault : GoodIn wsX5_joined wsX5_orFault := goodIn_r _ [64, 19, 20, 21, 9, 22, 23, 74, 75, 76, 77, 78, 79] (by decide +kernel) (by decide +kernel)
set_option maxRecDepth 20000 in
theorem gX5_joined_X5_orFault : GoodIn wsX5_joined (wsV RX5 71 RX5 yX5_orFault wsX5_orFault) := goodIn_app (goodIn_of _ (by decide +kernel)) ggX5_joined_X5_orFault
theorem dX5_joined_0 : decode cX5_joined 0 = .ok (.aload_n 0, 1) := by decide +kernel
theorem dX5_joined_1 : decode cX5_joined 1 = .ok (.iload_n 2, 1) := by decide +kernel
theorem dX5_joined_2 : decode cX5_joined 2 = .ok (.aload_n 0, 1) := by decide +kernel
theorem dX5_joined_3 : decode cX5_joined 3 = .ok (.getfield 27, 3) := by decide +kernel
theorem dX5_joined_6 : decode cX5_joined 6 = .ok (.getfield 40, 3) := by decide +kernel
theorem dX5_joined_9 : decode cX5_joined 9 = .ok (.iload_n 1, 1) := by decide +kernel
theorem dX5_joined_10 : decode cX5_joined 10 = .ok (.iaload, 1) := by decide +kernel
theorem dX5_joined_11 : decode cX5_joined 11 = .ok (.invokevirtual 78, 3) := by decide +kernel
theorem dX5_joined_14 : decode cX5_joined 14 = .ok (.istore 4, 2) := by decide +kernel
theorem dX5_joined_16 : decode cX5_joined 16 = .ok (.iload 4, 2) := by decide +kernel
theorem dX5_joined_18 : decode cX5_joined 18 = .ok (.iconst (-1), 1) := by decide +kernel
theorem dX5_joined_19 : decode cX5_joined 19 = .ok (.if_icmp .ne 5, 3) := by decide +kernel
theorem dX5_joined_22 : decode cX5_joined 22 = .ok (.iconst (-1), 1) := by decide +kernel
theorem dX5_joined_23 : decode cX5_joined 23 = .ok (.ireturn, 1) := by decide +kernel
theorem dX5_joined_24 : decode cX5_joined 24 = .ok (.aload_n 0, 1) := by decide +kernel
theorem dX5_joined_25 : decode cX5_joined 25 = .ok (.iload_n 3, 1) := by decide +kernel
theorem dX5_joined_26 : decode cX5_joined 26 = .ok (.aload_n 0, 1) := by decide +kernel
theorem dX5_joined_27 : decode cX5_joined 27 = .ok (.getfield 27, 3) := by decide +kernel
theorem dX5_joined_30 : decode cX5_joined 30 = .ok (.getfield 124, 3) := by decide +kernel
theorem dX5_joined_33 : decode cX5_joined 33 = .ok (.iload_n 1, 1) := by decide +kernel
theorem dX5_joined_34 : decode cX5_joined 34 = .ok (.iaload, 1) := by decide +kernel
theorem dX5_joined_35 : decode cX5_joined 35 = .ok (.invokevirtual 78, 3) := by decide +kernel
theorem dX5_joined_38 : decode cX5_joined 38 = .ok (.istore 5, 2) := by decide +kernel
theorem dX5_joined_40 : decode cX5_joined 40 = .ok (.iload 5, 2) := by decide +kernel
theorem dX5_joined_42 : decode cX5_joined 42 = .ok (.iconst (-1), 1) := by decide +kernel
theorem dX5_joined_43 : decode cX5_joined 43 = .ok (.if_icmp .ne 5, 3) := by decide +kernel
theorem dX5_joined_46 : decode cX5_joined 46 = .ok (.iconst (-1), 1) := by decide +kernel
theorem dX5_joined_47 : decode cX5_joined 47 = .ok (.ireturn, 1) := by decide +kernel
theorem dX5_joined_48 : decode cX5_joined 48 = .ok (.aload_n 0, 1) := by decide +kernel
theorem dX5_joined_49 : decode cX5_joined 49 = .ok (.getfield 19, 3) := by decide +kernel
theorem dX5_joined_52 : decode cX5_joined 52 = .ok (.iload 4, 2) := by decide +kernel
theorem dX5_joined_54 : decode cX5_joined 54 = .ok (.iload 5, 2) := by decide +kernel
theorem dX5_joined_56 : decode cX5_joined 56 = .ok (.invokevirtual 127, 3) := by decide +kernel
theorem dX5_joined_59 : decode cX5_joined 59 = .ok (.istore 6, 2) := by decide +kernel
theorem dX5_joined_61 : decode cX5_joined 61 = .ok (.iload 6, 2) := by decide +kernel
theorem dX5_joined_63 : decode cX5_joined 63 = .ok (.ifCond .ne 16, 3) := by decide +kernel
theorem dX5_joined_66 : decode cX5_joined 66 = .ok (.aload_n 0, 1) := by decide +kernel
theorem dX5_joined_67 : decode cX5_joined 67 = .ok (.getfield 19, 3) := by decide +kernel
theorem dX5_joined_70 : decode cX5_joined 70 = .ok (.iload 5, 2) := by decide +kernel
theorem dX5_joined_72 : decode cX5_joined 72 = .ok (.iload 4, 2) := by decide +kernel
theorem dX5_joined_74 : decode cX5_joined 74 = .ok (.invokevirtual 127, 3) := by decide +kernel
theorem dX5_joined_77 : decode cX5_joined 77 = .ok (.istore 6, 2) := by decide +kernel
theorem dX5_joined_79 : decode cX5_joined 79 = .ok (.iload 6, 2) := by decide +kernel
theorem dX5_joined_81 : decode cX5_joined 81 = .ok (.iconst 1, 1) := by decide +kernel
theorem dX5_joined_82 : decode cX5_joined 82 = .ok (.if_icmp .eq 22, 3) := by decide +kernel
theorem dX5_joined_85 : decode cX5_joined 85 = .ok (.aload_n 0, 1) := by decide +kernel
theorem dX5_joined_86 : decode cX5_joined 86 = .ok (.iload 6, 2) := by decide +kernel
theorem dX5_joined_88 : decode cX5_joined 88 = .ok (.bipush (-3), 2) := by decide +kernel
theorem dX5_joined_90 : decode cX5_joined 90 = .ok (.if_icmp .ne 8, 3) := by decide +kernel
theorem dX5_joined_93 : decode cX5_joined 93 = .ok (.bipush 8, 2) := by decide +kernel
theorem dX5_joined_95 : decode cX5_joined 95 = .ok (.goto 5, 3) := by decide +kernel
theorem dX5_joined_98 : decode cX5_joined 98 = .ok (.bipush 6, 2) := by decide +kernel
theorem dX5_joined_100 : decode cX5_joined 100 = .ok (.invokevirtual 62, 3) := by decide +kernel
theorem dX5_joined_103 : decode cX5_joined 103 = .ok (.ireturn, 1) := by decide +kernel
theorem dX5_joined_104 : decode cX5_joined 104 = .ok (.aload_n 0, 1) := by decide +kernel
theorem dX5_joined_105 : decode cX5_joined 105 = .ok (.aload_n 0, 1) := by decide +kernel
theorem dX5_joined_106 : decode cX5_joined 106 = .ok (.getfield 19, 3) := by decide +kernel
theorem dX5_joined_109 : decode cX5_joined 109 = .ok (.aload_n 0, 1) := by decide +kernel
theorem dX5_joined_110 : decode cX5_joined 110 = .ok (.getfield 27, 3) := by decide +kernel
theorem dX5_joined_113 : decode cX5_joined 113 = .ok (.getfield 130, 3) := by decide +kernel
theorem dX5_joined_116 : decode cX5_joined 116 = .ok (.iload_n 1, 1) := by decide +kernel
theorem dX5_joined_117 : decode cX5_joined 117 = .ok (.iaload, 1) := by decide +kernel
theorem dX5_joined_118 : decode cX5_joined 118 = .ok (.iload_n 2, 1) := by decide +kernel
theorem dX5_joined_119 : decode cX5_joined 119 = .ok (.iload_n 3, 1) := by decide +kernel
theorem dX5_joined_120 : decode cX5_joined 120 = .ok (.invokevirtual 133, 3) := by decide +kernel
theorem dX5_joined_123 : decode cX5_joined 123 = .ok (.bipush 8, 2) := by decide +kernel
theorem dX5_joined_125 : decode cX5_joined 125 = .ok (.invokevirtual 71, 3) := by decide +kernel
theorem dX5_joined_128 : decode cX5_joined 128 = .ok (.ireturn, 1) := by decide +kernel
set_option maxRecDepth 20000 in
theorem ggX5_castTo_X4_goesFor : GoodIn wsX5_castTo wsX4_goesFor := goodIn_r _ [7, 8, 9, 10, 11, 12, 13, 14, 15, 16, 6, 17, 18, 19, 20, 21, 22, 23, 24, 25, 26, 27, 28, 29, 30, 31, 32, 33, 34, 35, 36, 37, 38, 39, 40, 41, 42, 43, 44, 45, 46, 47, 48, 64, 65, 66, 67, 68, 69, 70, 71, 72, 73] (by decide +kernel) (by decide +kernel)
set_option maxRecDepth 20000 in
theorem gX5_castTo_X4_goesFor : GoodIn wsX5_castTo (wsV RX5 127 RX4 yX4_goesFor wsX4_goesFor) := goodIn_app (goodIn_of _ (by decide +kernel)) ggX5_castTo_X4_goesFor
set_option maxRecDepth 20000 in
theorem ggX5_castTo_X5_isNumber : GoodIn wsX5_castTo wsX5_isNumber := goodIn_r _ [52, 12, 10, 13] (by decide +kernel) (by decide +kernel)
set_option maxRecDepth 20000 in
theorem gX5_castTo_X5_isNumber : GoodIn wsX5_castTo (va_wsS RX5 136 yX5_isNumber wsX5_isNumber) := goodIn_app (goodIn_of _ (by decide +kernel)) ggX5_castTo_X5_isNumber
set_option maxRecDepth 20000 in
theorem ggX5_castTo_X5_none : GoodIn wsX5_castTo wsX5_none := goodIn_r _ [56, 57, 58, 59, 60, 61, 62, 63] (by decide +kernel) (by decide +kernel)
set_option maxRecDepth 20000 in
theorem gX5_castTo_X5_none : GoodIn wsX5_castTo (wsV RX5 62 RX5 yX5_none wsX5_none) := goodIn_app (goodIn_of _ (by decide +kernel)) ggX5_castTo_X5_none
theorem dX5_castTo_0 : decode cX5_castTo 0 = .ok (.aload_n 0, 1) := by decide +kernel
theorem dX5_castTo_1 : decode cX5_castTo 1 = .ok (.getfield 19, 3) := by decide +kernel
theorem dX5_castTo_4 : decode cX5_castTo 4 = .ok (.iload_n 1, 1) := by decide +kernel
theorem dX5_castTo_5 : decode cX5_castTo 5 = .ok (.iload_n 2, 1) := by decide +kernel
theorem dX5_castTo_6 : decode cX5_castTo 6 = .ok (.invokevirtual 127, 3) := by decide +kernel
theorem dX5_castTo_9 : decode cX5_castTo 9 = .ok (.istore_n 3, 1) := by decide +kernel
theorem dX5_castTo_10 : decode cX5_castTo 10 = .ok (.iload_n 3, 1) := by decide +kernel
theorem dX5_castTo_11 : decode cX5_castTo 11 = .ok (.ifCond .ne 41, 3) := by decide +kernel
theorem dX5_castTo_14 : decode cX5_castTo 14 = .ok (.aload_n 0, 1) := by decide +kernel
theorem dX5_castTo_15 : decode cX5_castTo 15 = .ok (.getfield 19, 3) := by decide +kernel
theorem dX5_castTo_18 : decode cX5_castTo 18 = .ok (.iload_n 2, 1) := by decide +kernel
theorem dX5_castTo_19 : decode cX5_castTo 19 = .ok (.iload_n 1, 1) := by decide +kernel
theorem dX5_castTo_20 : decode cX5_castTo 20 = .ok (.invokevirtual 127, 3) := by decide +kernel
theorem dX5_castTo_23 : decode cX5_castTo 23 = .ok (.istore_n 3, 1) := by decide +kernel
theorem dX5_castTo_24 : decode cX5_castTo 24 = .ok (.aload_n 0, 1) := by decide +kernel
theorem dX5_castTo_25 : decode cX5_castTo 25 = .ok (.iload_n 3, 1) := by decide +kernel
theorem dX5_castTo_26 : decode cX5_castTo 26 = .ok (.iconst 1, 1) := by decide +kernel
theorem dX5_castTo_27 : decode cX5_castTo 27 = .ok (.if_icmp .eq 17, 3) := by decide +kernel
theorem dX5_castTo_30 : decode cX5_castTo 30 = .ok (.iload_n 1, 1) := by decide +kernel
theorem dX5_castTo_31 : decode cX5_castTo 31 = .ok (.invokestatic 136, 3) := by decide +kernel
theorem dX5_castTo_34 : decode cX5_castTo 34 = .ok (.ifCond .eq 14, 3) := by decide +kernel
theorem dX5_castTo_37 : decode cX5_castTo 37 = .ok (.iload_n 2, 1) := by decide +kernel
theorem dX5_castTo_38 : decode cX5_castTo 38 = .ok (.invokestatic 136, 3) := by decide +kernel
theorem dX5_castTo_41 : decode cX5_castTo 41 = .ok (.ifCond .eq 7, 3) := by decide +kernel
theorem dX5_castTo_44 : decode cX5_castTo 44 = .ok (.iconst 1, 1) := by decide +kernel
theorem dX5_castTo_45 : decode cX5_castTo 45 = .ok (.goto 4, 3) := by decide +kernel
theorem dX5_castTo_48 : decode cX5_castTo 48 = .ok (.iconst 0, 1) := by decide +kernel
theorem dX5_castTo_49 : decode cX5_castTo 49 = .ok (.putfield 15, 3) := by decide +kernel
theorem dX5_castTo_52 : decode cX5_castTo 52 = .ok (.iload_n 3, 1) := by decide +kernel
theorem dX5_castTo_53 : decode cX5_castTo 53 = .ok (.bipush (-3), 2) := by decide +kernel
theorem dX5_castTo_55 : decode cX5_castTo 55 = .ok (.if_icmp .ne 10, 3) := by decide +kernel
theorem dX5_castTo_58 : decode cX5_castTo 58 = .ok (.aload_n 0, 1) := by decide +kernel
theorem dX5_castTo_59 : decode cX5_castTo 59 = .ok (.bipush 8, 2) := by decide +kernel
theorem dX5_castTo_61 : decode cX5_castTo 61 = .ok (.invokevirtual 62, 3) := by decide +kernel
theorem dX5_castTo_64 : decode cX5_castTo 64 = .ok (.ireturn, 1) := by decide +kernel
theorem dX5_castTo_65 : decode cX5_castTo 65 = .ok (.iload_n 3, 1) := by decide +kernel
theorem dX5_castTo_66 : decode cX5_castTo 66 = .ok (.iconst 1, 1) := by decide +kernel
theorem dX5_castTo_67 : decode cX5_castTo 67 = .ok (.if_icmp .eq 10, 3) := by decide +kernel
theorem dX5_castTo_70 : decode cX5_castTo 70 = .ok (.aload_n 0, 1) := by decide +kernel
theorem dX5_castTo_71 : decode cX5_castTo 71 = .ok (.getfield 15, 3) := by decide +kernel
theorem dX5_castTo_74 : decode cX5_castTo 74 = .ok (.ifCond .eq 7, 3) := by decide +kernel
theorem dX5_castTo_77 : decode cX5_castTo 77 = .ok (.iload_n 2, 1) := by decide +kernel
theorem dX5_castTo_78 : decode cX5_castTo 78 = .ok (.goto 9, 3) := by decide +kernel
theorem dX5_castTo_81 : decode cX5_castTo 81 = .ok (.aload_n 0, 1) := by decide +kernel
theorem dX5_castTo_82 : decode cX5_castTo 82 = .ok (.bipush 6, 2) := by decide +kernel
theorem dX5_castTo_84 : decode cX5_castTo 84 = .ok (.invokevirtual 62, 3) := by decide +kernel
theorem dX5_castTo_87 : decode cX5_castTo 87 = .ok (.ireturn, 1) := by decide +kernel
set_option maxRecDepth 20000 in
theorem ggX5_isNumber_X6_isPrimitive : GoodIn wsX5_isNumber wsX6_isPrimitive := goodIn_r _ [3] (by decide +kernel) (by decide +kernel)
set_option maxRecDepth 20000 in
theorem gX5_isNumber_X6_isPrimitive_n103 : GoodIn wsX5_isNumber (wsX6_isPrimitive) := ggX5_isNumber_X6_isPrimitive
theorem dX5_isNumber_0 : decode cX5_isNumber 0 = .ok (.iload_n 0, 1) := by decide +kernel
theorem dX5_isNumber_1 : decode cX5_isNumber 1 = .ok (.invokestatic 103, 3) := by decide +kernel
theorem dX5_isNumber_4 : decode cX5_isNumber 4 = .ok (.ifCond .eq 11, 3) := by decide +kernel
theorem dX5_isNumber_7 : decode cX5_isNumber 7 = .ok (.iload_n 0, 1) := by decide +kernel
theorem dX5_isNumber_8 : decode cX5_isNumber 8 = .ok (.ifCond .eq 7, 3) := by decide +kernel
theorem dX5_isNumber_11 : decode cX5_isNumber 11 = .ok (.iconst 1, 1) := by decide +kernel
theorem dX5_isNumber_12 : decode cX5_isNumber 12 = .ok (.goto 4, 3) := by decide +kernel
theorem dX5_isNumber_15 : decode cX5_isNumber 15 = .ok (.iconst 0, 1) := by decide +kernel
theorem dX5_isNumber_16 : decode cX5_isNumber 16 = .ok (.ireturn, 1) := by decide +kernel
set_option maxRecDepth 20000 in
theorem ggX6_init_X4_init : GoodIn wsX6_init wsX4_init := goodIn_r _ [26, 27, 2, 3, 28, 29, 30, 31, 32, 33, 34, 35, 36, 37, 38, 39, 40, 41, 6, 42, 43, 44, 45, 46, 47, 48, 49, 50, 104, 105, 106, 107, 108, 109, 110, 111, 112, 113] (by decide +kernel) (by decide +kernel)
set_option maxRecDepth 20000 in
theorem gX6_init_X4_init : GoodIn wsX6_init (wsX4_init) := ggX6_init_X4_init
set_option maxRecDepth 20000 in
theorem ggX6_init_X1_init : GoodIn wsX6_init wsX1_init := goodIn_r _ [52, 53, 2, 3, 54, 29, 55, 56, 119, 120, 121] (by decide +kernel) (by decide +kernel)
set_option maxRecDepth 20000 in
theorem gX6_init_X1_init_n18 : GoodIn wsX6_init (wsX1_init) := ggX6_init_X1_init
set_option maxRecDepth 20000 in
theorem ggX6_init_X0_init : GoodIn wsX6_init wsX0_init := goodIn_r _ [58, 59, 2, 3, 60, 29, 61, 62, 63, 64, 122, 123, 124, 125, 126] (by decide +kernel) (by decide +kernel)
set_option maxRecDepth 20000 in
theorem gX6_init_X0_init_n25 : GoodIn wsX6_init (wsX0_init) := ggX6_init_X0_init
set_option maxRecDepth 20000 in
theorem ggX6_init_X2_init : GoodIn wsX6_init wsX2_init := goodIn_r _ [66, 67, 2, 3, 68, 29, 69, 70, 71, 72, 73, 74, 75, 76, 77, 78, 79, 127, 128, 129, 130, 131, 132, 133, 134, 135, 136, 137] (by decide +kernel) (by decide +kernel)
set_option maxRecDepth 20000 in
theorem gX6_init_X2_init_n32 : GoodIn wsX6_init (wsX2_init) := ggX6_init_X2_init
set_option maxRecDepth 20000 in
theorem ggX6_init_X5_init : GoodIn wsX6_init wsX5_init := goodIn_r _ [82, 83, 2, 3, 84, 85, 86, 87, 88, 89, 90, 91, 92, 93, 94, 95, 96, 29, 97, 98, 99, 100, 101, 102, 103, 138, 139, 140, 141, 142, 143, 144, 145, 146, 147, 148, 149, 150] (by decide +kernel) (by decide +kernel)
set_option maxRecDepth 20000 in
theorem gX6_init_X5_init : GoodIn wsX6_init (wsX5_init) := ggX6_init_X5_init
theorem dX6_init_0 : decode cX6_init 0 = .ok (.aload_n 0, 1) := by decide +kernel
theorem dX6_init_1 : decode cX6_init 1 = .ok (.invokespecial 1, 3) := by decide +kernel
theorem dX6_init_4 : decode cX6_init 4 = .ok (.aload_n 0, 1) := by decide +kernel
theorem dX6_init_5 : decode cX6_init 5 = .ok (.new 7, 3) := by decide +kernel
theorem dX6_init_8 : decode cX6_init 8 = .ok (.dup, 1) := by decide +kernel
theorem dX6_init_9 : decode cX6_init 9 = .ok (.invokespecial 9, 3) := by decide +kernel
theorem dX6_init_12 : decode cX6_init 12 = .ok (.putfield 10, 3) := by decide +kernel
theorem dX6_init_15 : decode cX6_init 15 = .ok (.aload_n 0, 1) := by decide +kernel
theorem dX6_init_16 : decode cX6_init 16 = .ok (.new 16, 3) := by decide +kernel
theorem dX6_init_19 : decode cX6_init 19 = .ok (.dup, 1) := by decide +kernel
theorem dX6_init_20 : decode cX6_init 20 = .ok (.invokespecial 18, 3) := by decide +kernel
theorem dX6_init_23 : decode cX6_init 23 = .ok (.putfield 19, 3) := by decide +kernel
theorem dX6_init_26 : decode cX6_init 26 = .ok (.aload_n 0, 1) := by decide +kernel
theorem dX6_init_27 : decode cX6_init 27 = .ok (.new 23, 3) := by decide +kernel
theorem dX6_init_30 : decode cX6_init 30 = .ok (.dup, 1) := by decide +kernel
theorem dX6_init_31 : decode cX6_init 31 = .ok (.invokespecial 25, 3) := by decide +kernel
theorem dX6_init_34 : decode cX6_init 34 = .ok (.putfield 26, 3) := by decide +kernel
theorem dX6_init_37 : decode cX6_init 37 = .ok (.aload_n 0, 1) := by decide +kernel
theorem dX6_init_38 : decode cX6_init 38 = .ok (.new 30, 3) := by decide +kernel
theorem dX6_init_41 : decode cX6_init 41 = .ok (.dup, 1) := by decide +kernel
theorem dX6_init_42 : decode cX6_init 42 = .ok (.invokespecial 32, 3) := by decide +kernel
theorem dX6_init_45 : decode cX6_init 45 = .ok (.putfield 33, 3) := by decide +kernel
theorem dX6_init_48 : decode cX6_init 48 = .ok (.aload_n 0, 1) := by decide +kernel
theorem dX6_init_49 : decode cX6_init 49 = .ok (.new 37, 3) := by decide +kernel
theorem dX6_init_52 : decode cX6_init 52 = .ok (.dup, 1) := by decide +kernel
theorem dX6_init_53 : decode cX6_init 53 = .ok (.aload_n 0, 1) := by decide +kernel
theorem dX6_init_54 : decode cX6_init 54 = .ok (.getfield 10, 3) := by decide +kernel
theorem dX6_init_57 : decode cX6_init 57 = .ok (.aload_n 0, 1) := by decide +kernel
theorem dX6_init_58 : decode cX6_init 58 = .ok (.getfield 19, 3) := by decide +kernel
theorem dX6_init_61 : decode cX6_init 61 = .ok (.aload_n 0, 1) := by decide +kernel
theorem dX6_init_62 : decode cX6_init 62 = .ok (.getfield 26, 3) := by decide +kernel
theorem dX6_init_65 : decode cX6_init 65 = .ok (.aload_n 0, 1) := by decide +kernel
theorem dX6_init_66 : decode cX6_init 66 = .ok (.getfield 33, 3) := by decide +kernel
theorem dX6_init_69 : decode cX6_init 69 = .ok (.invokespecial 39, 3) := by decide +kernel
theorem dX6_init_72 : decode cX6_init 72 = .ok (.putfield 42, 3) := by decide +kernel
theorem dX6_init_75 : decode cX6_init 75 = .ok (.return_, 1) := by decide +kernel
set_option maxRecDepth 20000 in
theorem ggX6_classOf_X4_isClassType : GoodIn wsX6_classOf wsX4_isClassType := goodIn_r _ [6, 7, 25, 26, 27, 28, 29, 30, 31, 32, 33, 34] (by decide +kernel) (by decide +kernel)
set_option maxRecDepth 20000 in
theorem gX6_classOf_X4_isClassType : GoodIn wsX6_classOf (wsV RX6 46 RX4 yX4_isClassType wsX4_isClassType) := goodIn_app (goodIn_of _ (by decide +kernel)) ggX6_classOf_X4_isClassType
set_option maxRecDepth 20000 in
theorem ggX6_classOf_X4_hasOnly : GoodIn wsX6_classOf wsX4_hasOnly := goodIn_r _ [11, 12, 25, 26, 27, 28, 29, 30, 31, 32, 33, 34] (by decide +kernel) (by decide +kernel)
set_option maxRecDepth 20000 in
theorem gX6_classOf_X4_hasOnly : GoodIn wsX6_classOf (wsV RX6 50 RX4 yX4_hasOnly wsX4_hasOnly) := goodIn_app (goodIn_of _ (by decide +kernel)) ggX6_classOf_X4_hasOnly
set_option maxRecDepth 20000 in
theorem ggX6_classOf_X4_addClass : GoodIn wsX6_classOf wsX4_addClass := goodIn_r _ [16, 17, 18, 19, 25, 26, 27, 28, 29, 30, 31, 32, 33, 34] (by decide +kernel) (by decide +kernel)
set_option maxRecDepth 20000 in
theorem gX6_classOf_X4_addClass : GoodIn wsX6_classOf (wsV RX6 54 RX4 yX4_addClass wsX4_addClass) := goodIn_app (goodIn_of _ (by decide +kernel)) ggX6_classOf_X4_addClass
theorem dX6_classOf_0 : decode cX6_classOf 0 = .ok (.iload_n 1, 1) := by decide +kernel
theorem dX6_classOf_1 : decode cX6_classOf 1 = .ok (.ifCond .lt 8, 3) := by decide +kernel
theorem dX6_classOf_4 : decode cX6_classOf 4 = .ok (.iload_n 1, 1) := by decide +kernel
theorem dX6_classOf_5 : decode cX6_classOf 5 = .ok (.iconst 2, 1) := by decide +kernel
theorem dX6_classOf_6 : decode cX6_classOf 6 = .ok (.if_icmp .le 6, 3) := by decide +kernel
theorem dX6_classOf_9 : decode cX6_classOf 9 = .ok (.bipush (-2), 2) := by decide +kernel
theorem dX6_classOf_11 : decode cX6_classOf 11 = .ok (.ireturn, 1) := by decide +kernel
theorem dX6_classOf_12 : decode cX6_classOf 12 = .ok (.aload_n 0, 1) := by decide +kernel
theorem dX6_classOf_13 : decode cX6_classOf 13 = .ok (.getfield 10, 3) := by decide +kernel
theorem dX6_classOf_16 : decode cX6_classOf 16 = .ok (.iload_n 2, 1) := by decide +kernel
theorem dX6_classOf_17 : decode cX6_classOf 17 = .ok (.invokevirtual 46, 3) := by decide +kernel
theorem dX6_classOf_20 : decode cX6_classOf 20 = .ok (.ifCond .eq 15, 3) := by decide +kernel
theorem dX6_classOf_23 : decode cX6_classOf 23 = .ok (.aload_n 0, 1) := by decide +kernel
theorem dX6_classOf_24 : decode cX6_classOf 24 = .ok (.getfield 10, 3) := by decide +kernel
theorem dX6_classOf_27 : decode cX6_classOf 27 = .ok (.iload_n 2, 1) := by decide +kernel
theorem dX6_classOf_28 : decode cX6_classOf 28 = .ok (.iload_n 1, 1) := by decide +kernel
theorem dX6_classOf_29 : decode cX6_classOf 29 = .ok (.invokevirtual 50, 3) := by decide +kernel
theorem dX6_classOf_32 : decode cX6_classOf 32 = .ok (.ifCond .ne 6, 3) := by decide +kernel
theorem dX6_classOf_35 : decode cX6_classOf 35 = .ok (.bipush (-2), 2) := by decide +kernel
theorem dX6_classOf_37 : decode cX6_classOf 37 = .ok (.ireturn, 1) := by decide +kernel
theorem dX6_classOf_38 : decode cX6_classOf 38 = .ok (.aload_n 0, 1) := by decide +kernel
theorem dX6_classOf_39 : decode cX6_classOf 39 = .ok (.getfield 10, 3) := by decide +kernel
theorem dX6_classOf_42 : decode cX6_classOf 42 = .ok (.iload_n 1, 1) := by decide +kernel
theorem dX6_classOf_43 : decode cX6_classOf 43 = .ok (.iload_n 2, 1) := by decide +kernel
theorem dX6_classOf_44 : decode cX6_classOf 44 = .ok (.invokevirtual 54, 3) := by decide +kernel
theorem dX6_classOf_47 : decode cX6_classOf 47 = .ok (.ireturn, 1) := by decide +kernel
set_option maxRecDepth 20000 in
theorem ggX6_type_X4_isClass : GoodIn wsX6_type wsX4_isClass := goodIn_r _ [7, 8, 27, 28, 29, 30, 31, 32, 33, 34, 35, 36] (by decide +kernel) (by decide +kernel)
set_option maxRecDepth 20000 in
theorem gX6_type_X4_isClass : GoodIn wsX6_type (wsV RX6 58 RX4 yX4_isClass wsX4_isClass) := goodIn_app (goodIn_of _ (by decide +kernel)) ggX6_type_X4_isClass
set_option maxRecDepth 20000 in
theorem ggX6_type_X4_isArgument : GoodIn wsX6_type wsX4_isArgument := goodIn_r _ [12, 13, 27, 28, 29, 30, 31, 32, 33, 34, 35, 36] (by decide +kernel) (by decide +kernel)
set_option maxRecDepth 20000 in
theorem gX6_type_X4_isArgument : GoodIn wsX6_type (wsV RX6 65 RX4 yX4_isArgument wsX4_isArgument) := goodIn_app (goodIn_of _ (by decide +kernel)) ggX6_type_X4_isArgument
set_option maxRecDepth 20000 in
theorem ggX6_type_X4_make : GoodIn wsX6_type wsX4_make := goodIn_r _ [17, 13, 18, 19, 20, 21, 27, 28, 29, 30, 31, 32, 33, 34, 35, 36] (by decide +kernel) (by decide +kernel)
set_option maxRecDepth 20000 in
theorem gX6_type_X4_make : GoodIn wsX6_type (wsV RX6 68 RX4 yX4_make wsX4_make) := goodIn_app (goodIn_of _ (by decide +kernel)) ggX6_type_X4_make
theorem dX6_type_0 : decode cX6_type 0 = .ok (.aload_n 0, 1) := by decide +kernel
theorem dX6_type_1 : decode cX6_type 1 = .ok (.getfield 10, 3) := by decide +kernel
theorem dX6_type_4 : decode cX6_type 4 = .ok (.iload_n 1, 1) := by decide +kernel
theorem dX6_type_5 : decode cX6_type 5 = .ok (.invokevirtual 58, 3) := by decide +kernel
theorem dX6_type_8 : decode cX6_type 8 = .ok (.ifCond .ne 6, 3) := by decide +kernel
theorem dX6_type_11 : decode cX6_type 11 = .ok (.bipush (-2), 2) := by decide +kernel
theorem dX6_type_13 : decode cX6_type 13 = .ok (.ireturn, 1) := by decide +kernel
theorem dX6_type_14 : decode cX6_type 14 = .ok (.aload_n 0, 1) := by decide +kernel
theorem dX6_type_15 : decode cX6_type 15 = .ok (.getfield 10, 3) := by decide +kernel
theorem dX6_type_18 : decode cX6_type 18 = .ok (.getfield 61, 3) := by decide +kernel
theorem dX6_type_21 : decode cX6_type 21 = .ok (.iload_n 1, 1) := by decide +kernel
theorem dX6_type_22 : decode cX6_type 22 = .ok (.iaload, 1) := by decide +kernel
theorem dX6_type_23 : decode cX6_type 23 = .ok (.istore 4, 2) := by decide +kernel
theorem dX6_type_25 : decode cX6_type 25 = .ok (.iload 4, 2) := by decide +kernel
theorem dX6_type_27 : decode cX6_type 27 = .ok (.ifCond .le 14, 3) := by decide +kernel
theorem dX6_type_30 : decode cX6_type 30 = .ok (.aload_n 0, 1) := by decide +kernel
theorem dX6_type_31 : decode cX6_type 31 = .ok (.getfield 10, 3) := by decide +kernel
theorem dX6_type_34 : decode cX6_type 34 = .ok (.iload_n 2, 1) := by decide +kernel
theorem dX6_type_35 : decode cX6_type 35 = .ok (.invokevirtual 65, 3) := by decide +kernel
theorem dX6_type_38 : decode cX6_type 38 = .ok (.ifCond .eq 20, 3) := by decide +kernel
theorem dX6_type_41 : decode cX6_type 41 = .ok (.iload 4, 2) := by decide +kernel
theorem dX6_type_43 : decode cX6_type 43 = .ok (.iconst 1, 1) := by decide +kernel
theorem dX6_type_44 : decode cX6_type 44 = .ok (.if_icmp .le 17, 3) := by decide +kernel
theorem dX6_type_47 : decode cX6_type 47 = .ok (.aload_n 0, 1) := by decide +kernel
theorem dX6_type_48 : decode cX6_type 48 = .ok (.getfield 10, 3) := by decide +kernel
theorem dX6_type_51 : decode cX6_type 51 = .ok (.iload_n 3, 1) := by decide +kernel
theorem dX6_type_52 : decode cX6_type 52 = .ok (.invokevirtual 65, 3) := by decide +kernel
theorem dX6_type_55 : decode cX6_type 55 = .ok (.ifCond .ne 6, 3) := by decide +kernel
theorem dX6_type_58 : decode cX6_type 58 = .ok (.bipush (-2), 2) := by decide +kernel
theorem dX6_type_60 : decode cX6_type 60 = .ok (.ireturn, 1) := by decide +kernel
theorem dX6_type_61 : decode cX6_type 61 = .ok (.aload_n 0, 1) := by decide +kernel
theorem dX6_type_62 : decode cX6_type 62 = .ok (.getfield 10, 3) := by decide +kernel
theorem dX6_type_65 : decode cX6_type 65 = .ok (.iload_n 1, 1) := by decide +kernel
theorem dX6_type_66 : decode cX6_type 66 = .ok (.iload 4, 2) := by decide +kernel
theorem dX6_type_68 : decode cX6_type 68 = .ok (.ifCond .le 7, 3) := by decide +kernel
theorem dX6_type_71 : decode cX6_type 71 = .ok (.iload_n 2, 1) := by decide +kernel
theorem dX6_type_72 : decode cX6_type 72 = .ok (.goto 4, 3) := by decide +kernel
theorem dX6_type_75 : decode cX6_type 75 = .ok (.iconst (-1), 1) := by decide +kernel
theorem dX6_type_76 : decode cX6_type 76 = .ok (.iload 4, 2) := by decide +kernel
theorem dX6_type_78 : decode cX6_type 78 = .ok (.iconst 1, 1) := by decide +kernel
theorem dX6_type_79 : decode cX6_type 79 = .ok (.if_icmp .le 7, 3) := by decide +kernel
theorem dX6_type_82 : decode cX6_type 82 = .ok (.iload_n 3, 1) := by decide +kernel
theorem dX6_type_83 : decode cX6_type 83 = .ok (.goto 4, 3) := by decide +kernel
theorem dX6_type_86 : decode cX6_type 86 = .ok (.iconst (-1), 1) := by decide +kernel
theorem dX6_type_87 : decode cX6_type 87 = .ok (.invokevirtual 68, 3) := by decide +kernel
theorem dX6_type_90 : decode cX6_type 90 = .ok (.ireturn, 1) := by decide +kernel
set_option maxRecDepth 20000 in
theorem ggX6_member_X4_isClass : GoodIn wsX6_member wsX4_isClass := goodIn_r _ [8, 9, 33, 34, 35, 36, 37, 38, 39, 40, 41, 42] (by decide +kernel) (by decide +kernel)
set_option maxRecDepth 20000 in
theorem gX6_member_X4_isClass : GoodIn wsX6_member (wsV RX6 58 RX4 yX4_isClass wsX4_isClass) := goodIn_app (goodIn_of _ (by decide +kernel)) ggX6_member_X4_isClass
set_option maxRecDepth 20000 in
theorem ggX6_member_X4_isType : GoodIn wsX6_member wsX4_isType := goodIn_r _ [13, 14, 33, 34, 35, 36, 37, 38, 39, 40, 41, 42] (by decide +kernel) (by decide +kernel)
set_option maxRecDepth 20000 in
theorem gX6_member_X4_isType : GoodIn wsX6_member (wsV RX6 72 RX4 yX4_isType wsX4_isType) := goodIn_app (goodIn_of _ (by decide +kernel)) ggX6_member_X4_isType
set_option maxRecDepth 20000 in
theorem ggX6_member_X4_hasOnly : GoodIn wsX6_member wsX4_hasOnly := goodIn_r _ [18, 19, 33, 34, 35, 36, 37, 38, 39, 40, 41, 42] (by decide +kernel) (by decide +kernel)
set_option maxRecDepth 20000 in
theorem gX6_member_X4_hasOnly : GoodIn wsX6_member (wsV RX6 50 RX4 yX4_hasOnly wsX4_hasOnly) := goodIn_app (goodIn_of _ (by decide +kernel)) ggX6_member_X4_hasOnly
set_option maxRecDepth 20000 in
theorem ggX6_member_X1_add : GoodIn wsX6_member wsX1_add := goodIn_r _ [24, 25, 26, 27, 43, 44, 45] (by decide +kernel) (by decide +kernel)
set_option maxRecDepth 20000 in
theorem gX6_member_X1_add : GoodIn wsX6_member (wsV RX6 75 RX1 yX1_add wsX1_add) := goodIn_app (goodIn_of _ (by decide +kernel)) ggX6_member_X1_add
theorem dX6_member_0 : decode cX6_member 0 = .ok (.aload_n 0, 1) := by decide +kernel
theorem dX6_member_1 : decode cX6_member 1 = .ok (.getfield 10, 3) := by decide +kernel
theorem dX6_member_4 : decode cX6_member 4 = .ok (.iload_n 1, 1) := by decide +kernel
theorem dX6_member_5 : decode cX6_member 5 = .ok (.invokevirtual 58, 3) := by decide +kernel
theorem dX6_member_8 : decode cX6_member 8 = .ok (.ifCond .eq 14, 3) := by decide +kernel
theorem dX6_member_11 : decode cX6_member 11 = .ok (.aload_n 0, 1) := by decide +kernel
theorem dX6_member_12 : decode cX6_member 12 = .ok (.getfield 10, 3) := by decide +kernel
theorem dX6_member_15 : decode cX6_member 15 = .ok (.iload_n 2, 1) := by decide +kernel
theorem dX6_member_16 : decode cX6_member 16 = .ok (.invokevirtual 72, 3) := by decide +kernel
theorem dX6_member_19 : decode cX6_member 19 = .ok (.ifCond .ne 6, 3) := by decide +kernel
theorem dX6_member_22 : decode cX6_member 22 = .ok (.bipush (-2), 2) := by decide +kernel
theorem dX6_member_24 : decode cX6_member 24 = .ok (.ireturn, 1) := by decide +kernel
theorem dX6_member_25 : decode cX6_member 25 = .ok (.aload_n 0, 1) := by decide +kernel
theorem dX6_member_26 : decode cX6_member 26 = .ok (.getfield 10, 3) := by decide +kernel
theorem dX6_member_29 : decode cX6_member 29 = .ok (.iload_n 2, 1) := by decide +kernel
theorem dX6_member_30 : decode cX6_member 30 = .ok (.aload_n 0, 1) := by decide +kernel
theorem dX6_member_31 : decode cX6_member 31 = .ok (.getfield 10, 3) := by decide +kernel
theorem dX6_member_34 : decode cX6_member 34 = .ok (.getfield 61, 3) := by decide +kernel
theorem dX6_member_37 : decode cX6_member 37 = .ok (.iload_n 1, 1) := by decide +kernel
theorem dX6_member_38 : decode cX6_member 38 = .ok (.iaload, 1) := by decide +kernel
theorem dX6_member_39 : decode cX6_member 39 = .ok (.invokevirtual 50, 3) := by decide +kernel
theorem dX6_member_42 : decode cX6_member 42 = .ok (.ifCond .ne 6, 3) := by decide +kernel
theorem dX6_member_45 : decode cX6_member 45 = .ok (.bipush (-2), 2) := by decide +kernel
theorem dX6_member_47 : decode cX6_member 47 = .ok (.ireturn, 1) := by decide +kernel
theorem dX6_member_48 : decode cX6_member 48 = .ok (.aload_n 0, 1) := by decide +kernel
theorem dX6_member_49 : decode cX6_member 49 = .ok (.getfield 19, 3) := by decide +kernel
theorem dX6_member_52 : decode cX6_member 52 = .ok (.iload_n 1, 1) := by decide +kernel
theorem dX6_member_53 : decode cX6_member 53 = .ok (.iload_n 2, 1) := by decide +kernel
theorem dX6_member_54 : decode cX6_member 54 = .ok (.invokevirtual 75, 3) := by decide +kernel
theorem dX6_member_57 : decode cX6_member 57 = .ok (.ireturn, 1) := by decide +kernel
set_option maxRecDepth 20000 in
theorem ggX6_function_X4_isType : GoodIn wsX6_function wsX4_isType := goodIn_r _ [7, 8, 24, 25, 26, 27, 28, 29, 30, 31, 32, 33] (by decide +kernel) (by decide +kernel)
set_option maxRecDepth 20000 in
theorem gX6_function_X4_isType : GoodIn wsX6_function (wsV RX6 72 RX4 yX4_isType wsX4_isType) := goodIn_app (goodIn_of _ (by decide +kernel)) ggX6_function_X4_isType
set_option maxRecDepth 20000 in
theorem ggX6_function_X0_add : GoodIn wsX6_function wsX0_add := goodIn_r _ [13, 14, 15, 16, 17, 18, 34, 35, 36, 37, 38] (by decide +kernel) (by decide +kernel)
set_option maxRecDepth 20000 in
theorem gX6_function_X0_add : GoodIn wsX6_function (wsV RX6 78 RX0 yX0_add wsX0_add) := goodIn_app (goodIn_of _ (by decide +kernel)) ggX6_function_X0_add
theorem dX6_function_0 : decode cX6_function 0 = .ok (.aload_n 0, 1) := by decide +kernel
theorem dX6_function_1 : decode cX6_function 1 = .ok (.getfield 10, 3) := by decide +kernel
theorem dX6_function_4 : decode cX6_function 4 = .ok (.iload_n 1, 1) := by decide +kernel
theorem dX6_function_5 : decode cX6_function 5 = .ok (.invokevirtual 72, 3) := by decide +kernel
theorem dX6_function_8 : decode cX6_function 8 = .ok (.ifCond .eq 14, 3) := by decide +kernel
theorem dX6_function_11 : decode cX6_function 11 = .ok (.aload_n 0, 1) := by decide +kernel
theorem dX6_function_12 : decode cX6_function 12 = .ok (.getfield 10, 3) := by decide +kernel
theorem dX6_function_15 : decode cX6_function 15 = .ok (.iload_n 3, 1) := by decide +kernel
theorem dX6_function_16 : decode cX6_function 16 = .ok (.invokevirtual 72, 3) := by decide +kernel
theorem dX6_function_19 : decode cX6_function 19 = .ok (.ifCond .ne 6, 3) := by decide +kernel
theorem dX6_function_22 : decode cX6_function 22 = .ok (.bipush (-2), 2) := by decide +kernel
theorem dX6_function_24 : decode cX6_function 24 = .ok (.ireturn, 1) := by decide +kernel
theorem dX6_function_25 : decode cX6_function 25 = .ok (.iload_n 2, 1) := by decide +kernel
theorem dX6_function_26 : decode cX6_function 26 = .ok (.iconst (-1), 1) := by decide +kernel
theorem dX6_function_27 : decode cX6_function 27 = .ok (.if_icmp .eq 17, 3) := by decide +kernel
theorem dX6_function_30 : decode cX6_function 30 = .ok (.aload_n 0, 1) := by decide +kernel
theorem dX6_function_31 : decode cX6_function 31 = .ok (.getfield 10, 3) := by decide +kernel
theorem dX6_function_34 : decode cX6_function 34 = .ok (.iload_n 2, 1) := by decide +kernel
theorem dX6_function_35 : decode cX6_function 35 = .ok (.invokevirtual 72, 3) := by decide +kernel
theorem dX6_function_38 : decode cX6_function 38 = .ok (.ifCond .ne 6, 3) := by decide +kernel
theorem dX6_function_41 : decode cX6_function 41 = .ok (.bipush (-2), 2) := by decide +kernel
theorem dX6_function_43 : decode cX6_function 43 = .ok (.ireturn, 1) := by decide +kernel
theorem dX6_function_44 : decode cX6_function 44 = .ok (.aload_n 0, 1) := by decide +kernel
theorem dX6_function_45 : decode cX6_function 45 = .ok (.getfield 26, 3) := by decide +kernel
theorem dX6_function_48 : decode cX6_function 48 = .ok (.iload_n 1, 1) := by decide +kernel
theorem dX6_function_49 : decode cX6_function 49 = .ok (.iload_n 2, 1) := by decide +kernel
theorem dX6_function_50 : decode cX6_function 50 = .ok (.iload_n 3, 1) := by decide +kernel
theorem dX6_function_51 : decode cX6_function 51 = .ok (.invokevirtual 78, 3) := by decide +kernel
theorem dX6_function_54 : decode cX6_function 54 = .ok (.ireturn, 1) := by decide +kernel
set_option maxRecDepth 20000 in
theorem ggX6_bound_X0_has : GoodIn wsX6_bound wsX0_has := goodIn_r _ [8, 9, 34, 35, 36, 37, 38] (by decide +kernel) (by decide +kernel)
set_option maxRecDepth 20000 in
theorem gX6_bound_X0_has : GoodIn wsX6_bound (wsV RX6 80 RX0 yX0_has wsX0_has) := goodIn_app (goodIn_of _ (by decide +kernel)) ggX6_bound_X0_has
set_option maxRecDepth 20000 in
theorem ggX6_bound_X6_isVariableNumber : GoodIn wsX6_bound wsX6_isVariableNumber := goodIn_r _ [13] (by decide +kernel) (by decide +kernel)
set_option maxRecDepth 20000 in
theorem gX6_bound_X6_isVariableNumber : GoodIn wsX6_bound (va_wsS RX6 83 yX6_isVariableNumber wsX6_isVariableNumber) := goodIn_app (goodIn_of _ (by decide +kernel)) ggX6_bound_X6_isVariableNumber
set_option maxRecDepth 20000 in
theorem ggX6_bound_X4_isClassType : GoodIn wsX6_bound wsX4_isClassType := goodIn_r _ [18, 19, 39, 40, 41, 42, 43, 44, 45, 46, 47, 48] (by decide +kernel) (by decide +kernel)
set_option maxRecDepth 20000 in
theorem gX6_bound_X4_isClassType : GoodIn wsX6_bound (wsV RX6 46 RX4 yX4_isClassType wsX4_isClassType) := goodIn_app (goodIn_of _ (by decide +kernel)) ggX6_bound_X4_isClassType
set_option maxRecDepth 20000 in
theorem ggX6_bound_X4_isClosed : GoodIn wsX6_bound wsX4_isClosed := goodIn_r _ [23, 24, 25, 26, 27, 17, 28, 19, 39, 40, 41, 42, 43, 44, 45, 46, 47, 48] (by decide +kernel) (by decide +kernel)
set_option maxRecDepth 20000 in
theorem gX6_bound_X4_isClosed : GoodIn wsX6_bound (wsV RX6 86 RX4 yX4_isClosed wsX4_isClosed) := goodIn_app (goodIn_of _ (by decide +kernel)) ggX6_bound_X4_isClosed
theorem dX6_bound_0 : decode cX6_bound 0 = .ok (.aload_n 0, 1) := by decide +kernel
theorem dX6_bound_1 : decode cX6_bound 1 = .ok (.getfield 26, 3) := by decide +kernel
theorem dX6_bound_4 : decode cX6_bound 4 = .ok (.iload_n 1, 1) := by decide +kernel
theorem dX6_bound_5 : decode cX6_bound 5 = .ok (.invokevirtual 80, 3) := by decide +kernel
theorem dX6_bound_8 : decode cX6_bound 8 = .ok (.ifCond .eq 10, 3) := by decide +kernel
theorem dX6_bound_11 : decode cX6_bound 11 = .ok (.iload_n 2, 1) := by decide +kernel
theorem dX6_bound_12 : decode cX6_bound 12 = .ok (.invokestatic 83, 3) := by decide +kernel
theorem dX6_bound_15 : decode cX6_bound 15 = .ok (.ifCond .ne 6, 3) := by decide +kernel
theorem dX6_bound_18 : decode cX6_bound 18 = .ok (.bipush (-2), 2) := by decide +kernel
theorem dX6_bound_20 : decode cX6_bound 20 = .ok (.ireturn, 1) := by decide +kernel
theorem dX6_bound_21 : decode cX6_bound 21 = .ok (.iload_n 3, 1) := by decide +kernel
theorem dX6_bound_22 : decode cX6_bound 22 = .ok (.iconst (-1), 1) := by decide +kernel
theorem dX6_bound_23 : decode cX6_bound 23 = .ok (.if_icmp .eq 28, 3) := by decide +kernel
theorem dX6_bound_26 : decode cX6_bound 26 = .ok (.aload_n 0, 1) := by decide +kernel
theorem dX6_bound_27 : decode cX6_bound 27 = .ok (.getfield 10, 3) := by decide +kernel
theorem dX6_bound_30 : decode cX6_bound 30 = .ok (.iload_n 3, 1) := by decide +kernel
theorem dX6_bound_31 : decode cX6_bound 31 = .ok (.invokevirtual 46, 3) := by decide +kernel
theorem dX6_bound_34 : decode cX6_bound 34 = .ok (.ifCond .eq 14, 3) := by decide +kernel
theorem dX6_bound_37 : decode cX6_bound 37 = .ok (.aload_n 0, 1) := by decide +kernel
theorem dX6_bound_38 : decode cX6_bound 38 = .ok (.getfield 10, 3) := by decide +kernel
theorem dX6_bound_41 : decode cX6_bound 41 = .ok (.iload_n 3, 1) := by decide +kernel
theorem dX6_bound_42 : decode cX6_bound 42 = .ok (.invokevirtual 86, 3) := by decide +kernel
theorem dX6_bound_45 : decode cX6_bound 45 = .ok (.ifCond .ne 6, 3) := by decide +kernel
theorem dX6_bound_48 : decode cX6_bound 48 = .ok (.bipush (-2), 2) := by decide +kernel
theorem dX6_bound_50 : decode cX6_bound 50 = .ok (.ireturn, 1) := by decide +kernel
theorem dX6_bound_51 : decode cX6_bound 51 = .ok (.aload_n 0, 1) := by decide +kernel
theorem dX6_bound_52 : decode cX6_bound 52 = .ok (.getfield 26, 3) := by decide +kernel
theorem dX6_bound_55 : decode cX6_bound 55 = .ok (.getfield 89, 3) := by decide +kernel
theorem dX6_bound_58 : decode cX6_bound 58 = .ok (.iload_n 1, 1) := by decide +kernel
theorem dX6_bound_59 : decode cX6_bound 59 = .ok (.iconst 2, 1) := by decide +kernel
theorem dX6_bound_60 : decode cX6_bound 60 = .ok (.imul, 1) := by decide +kernel
theorem dX6_bound_61 : decode cX6_bound 61 = .ok (.iload_n 2, 1) := by decide +kernel
theorem dX6_bound_62 : decode cX6_bound 62 = .ok (.iadd, 1) := by decide +kernel
theorem dX6_bound_63 : decode cX6_bound 63 = .ok (.iload_n 3, 1) := by decide +kernel
theorem dX6_bound_64 : decode cX6_bound 64 = .ok (.iastore, 1) := by decide +kernel
theorem dX6_bound_65 : decode cX6_bound 65 = .ok (.iconst 1, 1) := by decide +kernel
theorem dX6_bound_66 : decode cX6_bound 66 = .ok (.ireturn, 1) := by decide +kernel
set_option maxRecDepth 20000 in
theorem ggX6_operator_X6_isAsTold : GoodIn wsX6_operator wsX6_isAsTold := goodIn_r _ [6, 7, 1, 8, 9, 10, 11, 12, 13, 14, 15, 16, 17, 18, 19, 20, 21, 22, 23, 24, 25, 26, 27, 28, 29, 30, 31, 32, 33, 34, 35, 36, 37, 38, 39, 40, 41, 42, 43, 44, 45, 46, 47, 48, 49, 72, 73, 74, 75, 76, 77, 78, 79, 80, 81, 82, 83, 84, 85, 86, 87, 88, 89, 90, 91, 92, 93, 94, 95, 96, 97, 98, 99, 100, 101, 102, 103, 104, 105] (by decide +kernel) (by decide +kernel)
set_option maxRecDepth 20000 in
theorem gX6_operator_X6_isAsTold : GoodIn wsX6_operator (wsV RX6 92 RX6 yX6_isAsTold wsX6_isAsTold) := goodIn_app (goodIn_of _ (by decide +kernel)) ggX6_operator_X6_isAsTold
set_option maxRecDepth 20000 in
theorem ggX6_operator_X2_add : GoodIn wsX6_operator wsX2_add := goodIn_r _ [53, 27, 54, 55, 56, 57, 58, 59, 60, 61, 62, 25, 63, 64, 65, 66, 67, 68, 69, 70, 71, 87, 88, 89, 90, 91, 92, 93, 94, 95, 96, 97] (by decide +kernel) (by decide +kernel)
set_option maxRecDepth 20000 in
theorem gX6_operator_X2_add : GoodIn wsX6_operator (wsV RX6 96 RX2 yX2_add wsX2_add) := goodIn_app (goodIn_of _ (by decide +kernel)) ggX6_operator_X2_add
theorem dX6_operator_0 : decode cX6_operator 0 = .ok (.aload_n 0, 1) := by decide +kernel
theorem dX6_operator_1 : decode cX6_operator 1 = .ok (.iload_n 1, 1) := by decide +kernel
theorem dX6_operator_2 : decode cX6_operator 2 = .ok (.iload_n 2, 1) := by decide +kernel
theorem dX6_operator_3 : decode cX6_operator 3 = .ok (.iload_n 3, 1) := by decide +kernel
theorem dX6_operator_4 : decode cX6_operator 4 = .ok (.iload 4, 2) := by decide +kernel
theorem dX6_operator_6 : decode cX6_operator 6 = .ok (.iload 5, 2) := by decide +kernel
theorem dX6_operator_8 : decode cX6_operator 8 = .ok (.iload 6, 2) := by decide +kernel
theorem dX6_operator_10 : decode cX6_operator 10 = .ok (.invokevirtual 92, 3) := by decide +kernel
theorem dX6_operator_13 : decode cX6_operator 13 = .ok (.ifCond .ne 6, 3) := by decide +kernel
theorem dX6_operator_16 : decode cX6_operator 16 = .ok (.bipush (-2), 2) := by decide +kernel
theorem dX6_operator_18 : decode cX6_operator 18 = .ok (.ireturn, 1) := by decide +kernel
theorem dX6_operator_19 : decode cX6_operator 19 = .ok (.aload_n 0, 1) := by decide +kernel
theorem dX6_operator_20 : decode cX6_operator 20 = .ok (.getfield 33, 3) := by decide +kernel
theorem dX6_operator_23 : decode cX6_operator 23 = .ok (.iload_n 1, 1) := by decide +kernel
theorem dX6_operator_24 : decode cX6_operator 24 = .ok (.iload_n 2, 1) := by decide +kernel
theorem dX6_operator_25 : decode cX6_operator 25 = .ok (.iload_n 3, 1) := by decide +kernel
theorem dX6_operator_26 : decode cX6_operator 26 = .ok (.iload 4, 2) := by decide +kernel
theorem dX6_operator_28 : decode cX6_operator 28 = .ok (.iload 5, 2) := by decide +kernel
theorem dX6_operator_30 : decode cX6_operator 30 = .ok (.iload 6, 2) := by decide +kernel
theorem dX6_operator_32 : decode cX6_operator 32 = .ok (.invokevirtual 96, 3) := by decide +kernel
theorem dX6_operator_35 : decode cX6_operator 35 = .ok (.ireturn, 1) := by decide +kernel
theorem dX6_clear_0 : decode cX6_clear 0 = .ok (.aload_n 0, 1) := by decide +kernel
theorem dX6_clear_1 : decode cX6_clear 1 = .ok (.getfield 33, 3) := by decide +kernel
theorem dX6_clear_4 : decode cX6_clear 4 = .ok (.getfield 99, 3) := by decide +kernel
theorem dX6_clear_7 : decode cX6_clear 7 = .ok (.istore_n 1, 1) := by decide +kernel
theorem dX6_clear_8 : decode cX6_clear 8 = .ok (.aload_n 0, 1) := by decide +kernel
theorem dX6_clear_9 : decode cX6_clear 9 = .ok (.getfield 33, 3) := by decide +kernel
theorem dX6_clear_12 : decode cX6_clear 12 = .ok (.iconst 0, 1) := by decide +kernel
theorem dX6_clear_13 : decode cX6_clear 13 = .ok (.putfield 99, 3) := by decide +kernel
theorem dX6_clear_16 : decode cX6_clear 16 = .ok (.iload_n 1, 1) := by decide +kernel
theorem dX6_clear_17 : decode cX6_clear 17 = .ok (.ireturn, 1) := by decide +kernel
set_option maxRecDepth 20000 in
theorem ggX6_flow_X5_whatComes : GoodIn wsX6_flow wsX5_whatComes := goodIn_r _ [8, 9, 10, 11, 12, 13, 14, 15, 16, 17, 18, 19, 20, 21, 22, 23, 24, 25, 26, 27, 28, 7, 29, 30, 31, 32, 33, 34, 35, 36, 37, 38, 39, 40, 41, 42, 43, 44, 45, 46, 47, 48, 49, 50, 51, 52, 53, 54, 55, 56, 57, 58, 59, 60, 61, 62, 63, 64, 65, 66, 67, 68, 69, 70, 71, 72, 73, 74, 75, 76, 77, 78, 79, 80, 81, 82, 83, 84, 85, 86, 87, 88, 89, 90, 91, 92, 93, 94, 95, 96, 97, 98, 99, 100, 101, 102, 103, 104, 105, 106, 107, 108, 109, 110, 111, 112, 113, 114, 115, 116, 117, 118, 119, 120, 121, 122, 123, 124, 125, 126, 127, 128, 129, 130, 131, 132, 133, 134, 135, 136, 137, 138, 139, 140, 141, 142, 143, 144, 145, 146, 147, 148, 149, 150, 151, 152, 153, 154, 155, 156, 157, 158, 159, 160, 161, 162, 163, 164, 165, 199, 200, 201, 202, 203, 204, 188, 189, 190, 191, 192, 193, 194, 195, 196, 197, 198, 205, 206, 207, 208, 209, 210, 211, 212, 213, 214, 215, 216, 217, 218, 219, 220, 221, 222, 223, 224, 225, 226, 227, 228, 229] (by decide +kernel) (by decide +kernel)
set_option maxRecDepth 20000 in
theorem gX6_flow_X5_whatComes : GoodIn wsX6_flow (wsV RX6 103 RX5 yX5_whatComes wsX5_whatComes) := goodIn_app (goodIn_of _ (by decide +kernel)) ggX6_flow_X5_whatComes
set_option maxRecDepth 20000 in
theorem ggX6_flow_X5_keep : GoodIn wsX6_flow wsX5_keep := goodIn_r _ [169, 11, 9, 10, 13, 17, 170, 171, 172, 173, 23, 174, 175, 176, 177, 178, 179, 180, 181, 182, 199, 200, 201, 202, 203, 204, 188, 189, 190, 191, 192, 193, 194, 195, 196, 197, 198, 205, 206, 207, 208, 209, 210, 211] (by decide +kernel) (by decide +kernel)
set_option maxRecDepth 20000 in
theorem gX6_flow_X5_keep : GoodIn wsX6_flow (wsV RX6 107 RX5 yX5_keep wsX5_keep) := goodIn_app (goodIn_of _ (by decide +kernel)) ggX6_flow_X5_keep
theorem dX6_flow_0 : decode cX6_flow 0 = .ok (.iconst 0, 1) := by decide +kernel
theorem dX6_flow_1 : decode cX6_flow 1 = .ok (.istore_n 1, 1) := by decide +kernel
theorem dX6_flow_2 : decode cX6_flow 2 = .ok (.iconst 0, 1) := by decide +kernel
theorem dX6_flow_3 : decode cX6_flow 3 = .ok (.istore_n 2, 1) := by decide +kernel
theorem dX6_flow_4 : decode cX6_flow 4 = .ok (.iload_n 2, 1) := by decide +kernel
theorem dX6_flow_5 : decode cX6_flow 5 = .ok (.aload_n 0, 1) := by decide +kernel
theorem dX6_flow_6 : decode cX6_flow 6 = .ok (.getfield 33, 3) := by decide +kernel
theorem dX6_flow_9 : decode cX6_flow 9 = .ok (.getfield 99, 3) := by decide +kernel
theorem dX6_flow_12 : decode cX6_flow 12 = .ok (.if_icmp .ge 35, 3) := by decide +kernel
theorem dX6_flow_15 : decode cX6_flow 15 = .ok (.aload_n 0, 1) := by decide +kernel
theorem dX6_flow_16 : decode cX6_flow 16 = .ok (.getfield 42, 3) := by decide +kernel
theorem dX6_flow_19 : decode cX6_flow 19 = .ok (.iload_n 2, 1) := by decide +kernel
theorem dX6_flow_20 : decode cX6_flow 20 = .ok (.invokevirtual 103, 3) := by decide +kernel
theorem dX6_flow_23 : decode cX6_flow 23 = .ok (.istore_n 3, 1) := by decide +kernel
theorem dX6_flow_24 : decode cX6_flow 24 = .ok (.aload_n 0, 1) := by decide +kernel
theorem dX6_flow_25 : decode cX6_flow 25 = .ok (.getfield 42, 3) := by decide +kernel
theorem dX6_flow_28 : decode cX6_flow 28 = .ok (.iload_n 2, 1) := by decide +kernel
theorem dX6_flow_29 : decode cX6_flow 29 = .ok (.iload_n 3, 1) := by decide +kernel
theorem dX6_flow_30 : decode cX6_flow 30 = .ok (.invokevirtual 107, 3) := by decide +kernel
theorem dX6_flow_33 : decode cX6_flow 33 = .ok (.iload_n 3, 1) := by decide +kernel
theorem dX6_flow_34 : decode cX6_flow 34 = .ok (.iconst (-1), 1) := by decide +kernel
theorem dX6_flow_35 : decode cX6_flow 35 = .ok (.if_icmp .eq 6, 3) := by decide +kernel
theorem dX6_flow_38 : decode cX6_flow 38 = .ok (.iinc 1 1, 3) := by decide +kernel
theorem dX6_flow_41 : decode cX6_flow 41 = .ok (.iinc 2 1, 3) := by decide +kernel
theorem dX6_flow_44 : decode cX6_flow 44 = .ok (.goto (-40), 3) := by decide +kernel
theorem dX6_flow_47 : decode cX6_flow 47 = .ok (.iload_n 1, 1) := by decide +kernel
theorem dX6_flow_48 : decode cX6_flow 48 = .ok (.ireturn, 1) := by decide +kernel
set_option maxRecDepth 20000 in
theorem ggX6_comes_X2_has : GoodIn wsX6_comes wsX2_has := goodIn_r _ [7, 8, 14, 15, 16, 17, 18, 19, 20, 21, 22, 23, 24] (by decide +kernel) (by decide +kernel)
set_option maxRecDepth 20000 in
theorem gX6_comes_X2_has : GoodIn wsX6_comes (wsV RX6 111 RX2 yX2_has wsX2_has) := goodIn_app (goodIn_of _ (by decide +kernel)) ggX6_comes_X2_has
theorem dX6_comes_0 : decode cX6_comes 0 = .ok (.aload_n 0, 1) := by decide +kernel
theorem dX6_comes_1 : decode cX6_comes 1 = .ok (.getfield 33, 3) := by decide +kernel
theorem dX6_comes_4 : decode cX6_comes 4 = .ok (.iload_n 1, 1) := by decide +kernel
theorem dX6_comes_5 : decode cX6_comes 5 = .ok (.invokevirtual 111, 3) := by decide +kernel
theorem dX6_comes_8 : decode cX6_comes 8 = .ok (.ifCond .eq 15, 3) := by decide +kernel
theorem dX6_comes_11 : decode cX6_comes 11 = .ok (.aload_n 0, 1) := by decide +kernel
theorem dX6_comes_12 : decode cX6_comes 12 = .ok (.getfield 33, 3) := by decide +kernel
theorem dX6_comes_15 : decode cX6_comes 15 = .ok (.getfield 112, 3) := by decide +kernel
theorem dX6_comes_18 : decode cX6_comes 18 = .ok (.iload_n 1, 1) := by decide +kernel
theorem dX6_comes_19 : decode cX6_comes 19 = .ok (.iaload, 1) := by decide +kernel
theorem dX6_comes_20 : decode cX6_comes 20 = .ok (.goto 5, 3) := by decide +kernel
theorem dX6_comes_23 : decode cX6_comes 23 = .ok (.bipush (-2), 2) := by decide +kernel
theorem dX6_comes_25 : decode cX6_comes 25 = .ok (.ireturn, 1) := by decide +kernel
set_option maxRecDepth 20000 in
theorem ggX6_reason_X2_has : GoodIn wsX6_reason wsX2_has := goodIn_r _ [7, 8, 14, 15, 16, 17, 18, 19, 20, 21, 22, 23, 24] (by decide +kernel) (by decide +kernel)
set_option maxRecDepth 20000 in
theorem gX6_reason_X2_has : GoodIn wsX6_reason (wsV RX6 111 RX2 yX2_has wsX2_has) := goodIn_app (goodIn_of _ (by decide +kernel)) ggX6_reason_X2_has
theorem dX6_reason_0 : decode cX6_reason 0 = .ok (.aload_n 0, 1) := by decide +kernel
theorem dX6_reason_1 : decode cX6_reason 1 = .ok (.getfield 33, 3) := by decide +kernel
theorem dX6_reason_4 : decode cX6_reason 4 = .ok (.iload_n 1, 1) := by decide +kernel
theorem dX6_reason_5 : decode cX6_reason 5 = .ok (.invokevirtual 111, 3) := by decide +kernel
theorem dX6_reason_8 : decode cX6_reason 8 = .ok (.ifCond .eq 15, 3) := by decide +kernel
theorem dX6_reason_11 : decode cX6_reason 11 = .ok (.aload_n 0, 1) := by decide +kernel
theorem dX6_reason_12 : decode cX6_reason 12 = .ok (.getfield 33, 3) := by decide +kernel
theorem dX6_reason_15 : decode cX6_reason 15 = .ok (.getfield 115, 3) := by decide +kernel
theorem dX6_reason_18 : decode cX6_reason 18 = .ok (.iload_n 1, 1) := by decide +kernel
theorem dX6_reason_19 : decode cX6_reason 19 = .ok (.iaload, 1) := by decide +kernel
theorem dX6_reason_20 : decode cX6_reason 20 = .ok (.goto 5, 3) := by decide +kernel
theorem dX6_reason_23 : decode cX6_reason 23 = .ok (.bipush (-2), 2) := by decide +kernel
theorem dX6_reason_25 : decode cX6_reason 25 = .ok (.ireturn, 1) := by decide +kernel
set_option maxRecDepth 20000 in
theorem ggX6_mayFail_X2_has : GoodIn wsX6_mayFail wsX2_has := goodIn_r _ [7, 8, 14, 15, 16, 17, 18, 19, 20, 21, 22, 23, 24] (by decide +kernel) (by decide +kernel)
set_option maxRecDepth 20000 in
theorem gX6_mayFail_X2_has : GoodIn wsX6_mayFail (wsV RX6 111 RX2 yX2_has wsX2_has) := goodIn_app (goodIn_of _ (by decide +kernel)) ggX6_mayFail_X2_has
theorem dX6_mayFail_0 : decode cX6_mayFail 0 = .ok (.aload_n 0, 1) := by decide +kernel
theorem dX6_mayFail_1 : decode cX6_mayFail 1 = .ok (.getfield 33, 3) := by decide +kernel
theorem dX6_mayFail_4 : decode cX6_mayFail 4 = .ok (.iload_n 1, 1) := by decide +kernel
theorem dX6_mayFail_5 : decode cX6_mayFail 5 = .ok (.invokevirtual 111, 3) := by decide +kernel
theorem dX6_mayFail_8 : decode cX6_mayFail 8 = .ok (.ifCond .ne 6, 3) := by decide +kernel
theorem dX6_mayFail_11 : decode cX6_mayFail 11 = .ok (.bipush (-2), 2) := by decide +kernel
theorem dX6_mayFail_13 : decode cX6_mayFail 13 = .ok (.ireturn, 1) := by decide +kernel
theorem dX6_mayFail_14 : decode cX6_mayFail 14 = .ok (.aload_n 0, 1) := by decide +kernel
theorem dX6_mayFail_15 : decode cX6_mayFail 15 = .ok (.getfield 33, 3) := by decide +kernel
theorem dX6_mayFail_18 : decode cX6_mayFail 18 = .ok (.getfield 118, 3) := by decide +kernel
theorem dX6_mayFail_21 : decode cX6_mayFail 21 = .ok (.iload_n 1, 1) := by decide +kernel
theorem dX6_mayFail_22 : decode cX6_mayFail 22 = .ok (.baload, 1) := by decide +kernel
theorem dX6_mayFail_23 : decode cX6_mayFail 23 = .ok (.ifCond .eq 7, 3) := by decide +kernel
theorem dX6_mayFail_26 : decode cX6_mayFail 26 = .ok (.iconst 1, 1) := by decide +kernel
theorem dX6_mayFail_27 : decode cX6_mayFail 27 = .ok (.goto 4, 3) := by decide +kernel
theorem dX6_mayFail_30 : decode cX6_mayFail 30 = .ok (.iconst 0, 1) := by decide +kernel
theorem dX6_mayFail_31 : decode cX6_mayFail 31 = .ok (.ireturn, 1) := by decide +kernel
theorem dX6_cast_0 : decode cX6_cast 0 = .ok (.iconst 0, 1) := by decide +kernel
theorem dX6_cast_1 : decode cX6_cast 1 = .ok (.istore_n 2, 1) := by decide +kernel
theorem dX6_cast_2 : decode cX6_cast 2 = .ok (.iconst 0, 1) := by decide +kernel
theorem dX6_cast_3 : decode cX6_cast 3 = .ok (.istore_n 3, 1) := by decide +kernel
theorem dX6_cast_4 : decode cX6_cast 4 = .ok (.iload_n 3, 1) := by decide +kernel
theorem dX6_cast_5 : decode cX6_cast 5 = .ok (.aload_n 0, 1) := by decide +kernel
theorem dX6_cast_6 : decode cX6_cast 6 = .ok (.getfield 33, 3) := by decide +kernel
theorem dX6_cast_9 : decode cX6_cast 9 = .ok (.getfield 99, 3) := by decide +kernel
theorem dX6_cast_12 : decode cX6_cast 12 = .ok (.if_icmp .ge 31, 3) := by decide +kernel
theorem dX6_cast_15 : decode cX6_cast 15 = .ok (.aload_n 0, 1) := by decide +kernel
theorem dX6_cast_16 : decode cX6_cast 16 = .ok (.getfield 33, 3) := by decide +kernel
theorem dX6_cast_19 : decode cX6_cast 19 = .ok (.getfield 118, 3) := by decide +kernel
theorem dX6_cast_22 : decode cX6_cast 22 = .ok (.iload_n 3, 1) := by decide +kernel
theorem dX6_cast_23 : decode cX6_cast 23 = .ok (.baload, 1) := by decide +kernel
theorem dX6_cast_24 : decode cX6_cast 24 = .ok (.ifCond .eq 13, 3) := by decide +kernel
theorem dX6_cast_27 : decode cX6_cast 27 = .ok (.iload_n 2, 1) := by decide +kernel
theorem dX6_cast_28 : decode cX6_cast 28 = .ok (.iload_n 1, 1) := by decide +kernel
theorem dX6_cast_29 : decode cX6_cast 29 = .ok (.if_icmp .ne 5, 3) := by decide +kernel
theorem dX6_cast_32 : decode cX6_cast 32 = .ok (.iload_n 3, 1) := by decide +kernel
theorem dX6_cast_33 : decode cX6_cast 33 = .ok (.ireturn, 1) := by decide +kernel
theorem dX6_cast_34 : decode cX6_cast 34 = .ok (.iinc 2 1, 3) := by decide +kernel
theorem dX6_cast_37 : decode cX6_cast 37 = .ok (.iinc 3 1, 3) := by decide +kernel
theorem dX6_cast_40 : decode cX6_cast 40 = .ok (.goto (-36), 3) := by decide +kernel
theorem dX6_cast_43 : decode cX6_cast 43 = .ok (.iconst (-1), 1) := by decide +kernel
theorem dX6_cast_44 : decode cX6_cast 44 = .ok (.ireturn, 1) := by decide +kernel
set_option maxRecDepth 20000 in
theorem ggX6_boundTo_X2_has : GoodIn wsX6_boundTo wsX2_has := goodIn_r _ [7, 8, 18, 19, 20, 21, 22, 23, 24, 25, 26, 27, 28] (by decide +kernel) (by decide +kernel)
set_option maxRecDepth 20000 in
theorem gX6_boundTo_X2_has : GoodIn wsX6_boundTo (wsV RX6 111 RX2 yX2_has wsX2_has) := goodIn_app (goodIn_of _ (by decide +kernel)) ggX6_boundTo_X2_has
set_option maxRecDepth 20000 in
theorem ggX6_boundTo_X6_isVariableNumber : GoodIn wsX6_boundTo wsX6_isVariableNumber := goodIn_r _ [12] (by decide +kernel) (by decide +kernel)
set_option maxRecDepth 20000 in
theorem gX6_boundTo_X6_isVariableNumber : GoodIn wsX6_boundTo (va_wsS RX6 83 yX6_isVariableNumber wsX6_isVariableNumber) := goodIn_app (goodIn_of _ (by decide +kernel)) ggX6_boundTo_X6_isVariableNumber
theorem dX6_boundTo_0 : decode cX6_boundTo 0 = .ok (.aload_n 0, 1) := by decide +kernel
theorem dX6_boundTo_1 : decode cX6_boundTo 1 = .ok (.getfield 33, 3) := by decide +kernel
theorem dX6_boundTo_4 : decode cX6_boundTo 4 = .ok (.iload_n 1, 1) := by decide +kernel
theorem dX6_boundTo_5 : decode cX6_boundTo 5 = .ok (.invokevirtual 111, 3) := by decide +kernel
theorem dX6_boundTo_8 : decode cX6_boundTo 8 = .ok (.ifCond .eq 10, 3) := by decide +kernel
theorem dX6_boundTo_11 : decode cX6_boundTo 11 = .ok (.iload_n 2, 1) := by decide +kernel
theorem dX6_boundTo_12 : decode cX6_boundTo 12 = .ok (.invokestatic 83, 3) := by decide +kernel
theorem dX6_boundTo_15 : decode cX6_boundTo 15 = .ok (.ifCond .ne 6, 3) := by decide +kernel
theorem dX6_boundTo_18 : decode cX6_boundTo 18 = .ok (.bipush (-2), 2) := by decide +kernel
theorem dX6_boundTo_20 : decode cX6_boundTo 20 = .ok (.ireturn, 1) := by decide +kernel
theorem dX6_boundTo_21 : decode cX6_boundTo 21 = .ok (.aload_n 0, 1) := by decide +kernel
theorem dX6_boundTo_22 : decode cX6_boundTo 22 = .ok (.getfield 33, 3) := by decide +kernel
theorem dX6_boundTo_25 : decode cX6_boundTo 25 = .ok (.getfield 122, 3) := by decide +kernel
theorem dX6_boundTo_28 : decode cX6_boundTo 28 = .ok (.iload_n 1, 1) := by decide +kernel
theorem dX6_boundTo_29 : decode cX6_boundTo 29 = .ok (.iconst 2, 1) := by decide +kernel
theorem dX6_boundTo_30 : decode cX6_boundTo 30 = .ok (.imul, 1) := by decide +kernel
theorem dX6_boundTo_31 : decode cX6_boundTo 31 = .ok (.iload_n 2, 1) := by decide +kernel
theorem dX6_boundTo_32 : decode cX6_boundTo 32 = .ok (.iadd, 1) := by decide +kernel
theorem dX6_boundTo_33 : decode cX6_boundTo 33 = .ok (.iaload, 1) := by decide +kernel
theorem dX6_boundTo_34 : decode cX6_boundTo 34 = .ok (.ireturn, 1) := by decide +kernel
set_option maxRecDepth 20000 in
theorem ggX6_goes_X4_isClosed : GoodIn wsX6_goes wsX4_isClosed := goodIn_r _ [6, 7, 8, 9, 10, 5, 11, 12, 61, 62, 63, 64, 65, 66, 67, 68, 69, 70] (by decide +kernel) (by decide +kernel)
set_option maxRecDepth 20000 in
theorem gX6_goes_X4_isClosed : GoodIn wsX6_goes (wsV RX6 86 RX4 yX4_isClosed wsX4_isClosed) := goodIn_app (goodIn_of _ (by decide +kernel)) ggX6_goes_X4_isClosed
set_option maxRecDepth 20000 in
theorem ggX6_goes_X4_goesFor : GoodIn wsX6_goes wsX4_goesFor := goodIn_r _ [16, 17, 18, 19, 20, 21, 22, 23, 24, 25, 5, 26, 27, 28, 29, 30, 31, 32, 33, 34, 35, 36, 37, 38, 39, 40, 41, 12, 42, 7, 43, 44, 45, 46, 47, 48, 49, 50, 51, 52, 53, 54, 55, 61, 62, 63, 64, 65, 66, 67, 68, 69, 70] (by decide +kernel) (by decide +kernel)
set_option maxRecDepth 20000 in
theorem gX6_goes_X4_goesFor : GoodIn wsX6_goes (wsV RX6 125 RX4 yX4_goesFor wsX4_goesFor) := goodIn_app (goodIn_of _ (by decide +kernel)) ggX6_goes_X4_goesFor
theorem dX6_goes_0 : decode cX6_goes 0 = .ok (.aload_n 0, 1) := by decide +kernel
theorem dX6_goes_1 : decode cX6_goes 1 = .ok (.getfield 10, 3) := by decide +kernel
theorem dX6_goes_4 : decode cX6_goes 4 = .ok (.iload_n 1, 1) := by decide +kernel
theorem dX6_goes_5 : decode cX6_goes 5 = .ok (.invokevirtual 86, 3) := by decide +kernel
theorem dX6_goes_8 : decode cX6_goes 8 = .ok (.ifCond .eq 14, 3) := by decide +kernel
theorem dX6_goes_11 : decode cX6_goes 11 = .ok (.aload_n 0, 1) := by decide +kernel
theorem dX6_goes_12 : decode cX6_goes 12 = .ok (.getfield 10, 3) := by decide +kernel
theorem dX6_goes_15 : decode cX6_goes 15 = .ok (.iload_n 2, 1) := by decide +kernel
theorem dX6_goes_16 : decode cX6_goes 16 = .ok (.invokevirtual 86, 3) := by decide +kernel
theorem dX6_goes_19 : decode cX6_goes 19 = .ok (.ifCond .ne 6, 3) := by decide +kernel
theorem dX6_goes_22 : decode cX6_goes 22 = .ok (.bipush (-2), 2) := by decide +kernel
theorem dX6_goes_24 : decode cX6_goes 24 = .ok (.ireturn, 1) := by decide +kernel
theorem dX6_goes_25 : decode cX6_goes 25 = .ok (.aload_n 0, 1) := by decide +kernel
theorem dX6_goes_26 : decode cX6_goes 26 = .ok (.getfield 10, 3) := by decide +kernel
theorem dX6_goes_29 : decode cX6_goes 29 = .ok (.iload_n 1, 1) := by decide +kernel
theorem dX6_goes_30 : decode cX6_goes 30 = .ok (.iload_n 2, 1) := by decide +kernel
theorem dX6_goes_31 : decode cX6_goes 31 = .ok (.invokevirtual 125, 3) := by decide +kernel
theorem dX6_goes_34 : decode cX6_goes 34 = .ok (.ireturn, 1) := by decide +kernel
set_option maxRecDepth 20000 in
theorem ggX6_common_X4_isClosed : GoodIn wsX6_common wsX4_isClosed := goodIn_r _ [6, 7, 8, 9, 10, 5, 11, 12, 61, 62, 63, 64, 65, 66, 67, 68, 69, 70] (by decide +kernel) (by decide +kernel)
set_option maxRecDepth 20000 in
theorem gX6_common_X4_isClosed : GoodIn wsX6_common (wsV RX6 86 RX4 yX4_isClosed wsX4_isClosed) := goodIn_app (goodIn_of _ (by decide +kernel)) ggX6_common_X4_isClosed
set_option maxRecDepth 20000 in
theorem ggX6_common_X4_commonOf : GoodIn wsX6_common wsX4_commonOf := goodIn_r _ [16, 17, 18, 19, 20, 21, 22, 23, 24, 25, 5, 26, 27, 28, 29, 30, 31, 32, 33, 34, 35, 36, 37, 38, 39, 40, 41, 12, 42, 7, 43, 44, 45, 46, 47, 48, 49, 50, 51, 52, 53, 54, 55, 61, 62, 63, 64, 65, 66, 67, 68, 69, 70] (by decide +kernel) (by decide +kernel)
set_option maxRecDepth 20000 in
theorem gX6_common_X4_commonOf : GoodIn wsX6_common (wsV RX6 128 RX4 yX4_commonOf wsX4_commonOf) := goodIn_app (goodIn_of _ (by decide +kernel)) ggX6_common_X4_commonOf
theorem dX6_common_0 : decode cX6_common 0 = .ok (.aload_n 0, 1) := by decide +kernel
theorem dX6_common_1 : decode cX6_common 1 = .ok (.getfield 10, 3) := by decide +kernel
theorem dX6_common_4 : decode cX6_common 4 = .ok (.iload_n 1, 1) := by decide +kernel
theorem dX6_common_5 : decode cX6_common 5 = .ok (.invokevirtual 86, 3) := by decide +kernel
theorem dX6_common_8 : decode cX6_common 8 = .ok (.ifCond .eq 14, 3) := by decide +kernel
theorem dX6_common_11 : decode cX6_common 11 = .ok (.aload_n 0, 1) := by decide +kernel
theorem dX6_common_12 : decode cX6_common 12 = .ok (.getfield 10, 3) := by decide +kernel
theorem dX6_common_15 : decode cX6_common 15 = .ok (.iload_n 2, 1) := by decide +kernel
theorem dX6_common_16 : decode cX6_common 16 = .ok (.invokevirtual 86, 3) := by decide +kernel
theorem dX6_common_19 : decode cX6_common 19 = .ok (.ifCond .ne 6, 3) := by decide +kernel
theorem dX6_common_22 : decode cX6_common 22 = .ok (.bipush (-2), 2) := by decide +kernel
theorem dX6_common_24 : decode cX6_common 24 = .ok (.ireturn, 1) := by decide +kernel
theorem dX6_common_25 : decode cX6_common 25 = .ok (.aload_n 0, 1) := by decide +kernel
theorem dX6_common_26 : decode cX6_common 26 = .ok (.getfield 10, 3) := by decide +kernel
theorem dX6_common_29 : decode cX6_common 29 = .ok (.iload_n 1, 1) := by decide +kernel
theorem dX6_common_30 : decode cX6_common 30 = .ok (.iload_n 2, 1) := by decide +kernel
theorem dX6_common_31 : decode cX6_common 31 = .ok (.invokevirtual 128, 3) := by decide +kernel
theorem dX6_common_34 : decode cX6_common 34 = .ok (.ireturn, 1) := by decide +kernel
set_option maxRecDepth 20000 in
theorem ggX6_seen_X4_isClassType : GoodIn wsX6_seen wsX4_isClassType := goodIn_r _ [6, 7, 53, 54, 55, 56, 57, 58, 59, 60, 61, 62] (by decide +kernel) (by decide +kernel)
set_option maxRecDepth 20000 in
theorem gX6_seen_X4_isClassType : GoodIn wsX6_seen (wsV RX6 46 RX4 yX4_isClassType wsX4_isClassType) := goodIn_app (goodIn_of _ (by decide +kernel)) ggX6_seen_X4_isClassType
set_option maxRecDepth 20000 in
theorem ggX6_seen_X4_isClass : GoodIn wsX6_seen wsX4_isClass := goodIn_r _ [11, 12, 53, 54, 55, 56, 57, 58, 59, 60, 61, 62] (by decide +kernel) (by decide +kernel)
set_option maxRecDepth 20000 in
theorem gX6_seen_X4_isClass : GoodIn wsX6_seen (wsV RX6 58 RX4 yX4_isClass wsX4_isClass) := goodIn_app (goodIn_of _ (by decide +kernel)) ggX6_seen_X4_isClass
set_option maxRecDepth 20000 in
theorem ggX6_seen_X4_seenAs : GoodIn wsX6_seen wsX4_seenAs := goodIn_r _ [16, 17, 18, 19, 20, 21, 22, 23, 5, 24, 25, 26, 27, 28, 29, 30, 31, 32, 7, 33, 34, 35, 36, 37, 38, 39, 40, 41, 42, 43, 44, 45, 46, 47, 53, 54, 55, 56, 57, 58, 59, 60, 61, 62] (by decide +kernel) (by decide +kernel)
set_option maxRecDepth 20000 in
theorem gX6_seen_X4_seenAs : GoodIn wsX6_seen (wsV RX6 131 RX4 yX4_seenAs wsX4_seenAs) := goodIn_app (goodIn_of _ (by decide +kernel)) ggX6_seen_X4_seenAs
theorem dX6_seen_0 : decode cX6_seen 0 = .ok (.aload_n 0, 1) := by decide +kernel
theorem dX6_seen_1 : decode cX6_seen 1 = .ok (.getfield 10, 3) := by decide +kernel
theorem dX6_seen_4 : decode cX6_seen 4 = .ok (.iload_n 1, 1) := by decide +kernel
theorem dX6_seen_5 : decode cX6_seen 5 = .ok (.invokevirtual 46, 3) := by decide +kernel
theorem dX6_seen_8 : decode cX6_seen 8 = .ok (.ifCond .eq 14, 3) := by decide +kernel
theorem dX6_seen_11 : decode cX6_seen 11 = .ok (.aload_n 0, 1) := by decide +kernel
theorem dX6_seen_12 : decode cX6_seen 12 = .ok (.getfield 10, 3) := by decide +kernel
theorem dX6_seen_15 : decode cX6_seen 15 = .ok (.iload_n 2, 1) := by decide +kernel
theorem dX6_seen_16 : decode cX6_seen 16 = .ok (.invokevirtual 58, 3) := by decide +kernel
theorem dX6_seen_19 : decode cX6_seen 19 = .ok (.ifCond .ne 6, 3) := by decide +kernel
theorem dX6_seen_22 : decode cX6_seen 22 = .ok (.bipush (-2), 2) := by decide +kernel
theorem dX6_seen_24 : decode cX6_seen 24 = .ok (.ireturn, 1) := by decide +kernel
theorem dX6_seen_25 : decode cX6_seen 25 = .ok (.aload_n 0, 1) := by decide +kernel
theorem dX6_seen_26 : decode cX6_seen 26 = .ok (.getfield 10, 3) := by decide +kernel
theorem dX6_seen_29 : decode cX6_seen 29 = .ok (.iload_n 1, 1) := by decide +kernel
theorem dX6_seen_30 : decode cX6_seen 30 = .ok (.iload_n 2, 1) := by decide +kernel
theorem dX6_seen_31 : decode cX6_seen 31 = .ok (.invokevirtual 131, 3) := by decide +kernel
theorem dX6_seen_34 : decode cX6_seen 34 = .ok (.ireturn, 1) := by decide +kernel
set_option maxRecDepth 20000 in
theorem ggX6_about_X4_isType : GoodIn wsX6_about wsX4_isType := goodIn_r _ [9, 10, 22, 23, 24, 25, 26, 27, 28, 29, 30, 31] (by decide +kernel) (by decide +kernel)
set_option maxRecDepth 20000 in
theorem gX6_about_X4_isType : GoodIn wsX6_about (wsV RX6 72 RX4 yX4_isType wsX4_isType) := goodIn_app (goodIn_of _ (by decide +kernel)) ggX6_about_X4_isType
set_option maxRecDepth 20000 in
theorem ggX6_about_X4_isClosed : GoodIn wsX6_about wsX4_isClosed := goodIn_r _ [14, 15, 16, 6, 7, 8, 9, 10, 22, 23, 24, 25, 26, 27, 28, 29, 30, 31] (by decide +kernel) (by decide +kernel)
set_option maxRecDepth 20000 in
theorem gX6_about_X4_isClosed : GoodIn wsX6_about (wsV RX6 86 RX4 yX4_isClosed wsX4_isClosed) := goodIn_app (goodIn_of _ (by decide +kernel)) ggX6_about_X4_isClosed
theorem dX6_about_0 : decode cX6_about 0 = .ok (.aload_n 0, 1) := by decide +kernel
theorem dX6_about_1 : decode cX6_about 1 = .ok (.getfield 10, 3) := by decide +kernel
theorem dX6_about_4 : decode cX6_about 4 = .ok (.iload_n 1, 1) := by decide +kernel
theorem dX6_about_5 : decode cX6_about 5 = .ok (.invokevirtual 72, 3) := by decide +kernel
theorem dX6_about_8 : decode cX6_about 8 = .ok (.ifCond .ne 6, 3) := by decide +kernel
theorem dX6_about_11 : decode cX6_about 11 = .ok (.bipush (-2), 2) := by decide +kernel
theorem dX6_about_13 : decode cX6_about 13 = .ok (.ireturn, 1) := by decide +kernel
theorem dX6_about_14 : decode cX6_about 14 = .ok (.iload_n 2, 1) := by decide +kernel
theorem dX6_about_15 : decode cX6_about 15 = .ok (.tableswitch 76 0 3 #[29, 39, 49, 59], 29) := by decide +kernel
theorem dX6_about_44 : decode cX6_about 44 = .ok (.aload_n 0, 1) := by decide +kernel
theorem dX6_about_45 : decode cX6_about 45 = .ok (.getfield 10, 3) := by decide +kernel
theorem dX6_about_48 : decode cX6_about 48 = .ok (.getfield 134, 3) := by decide +kernel
theorem dX6_about_51 : decode cX6_about 51 = .ok (.iload_n 1, 1) := by decide +kernel
theorem dX6_about_52 : decode cX6_about 52 = .ok (.iaload, 1) := by decide +kernel
theorem dX6_about_53 : decode cX6_about 53 = .ok (.ireturn, 1) := by decide +kernel
theorem dX6_about_54 : decode cX6_about 54 = .ok (.aload_n 0, 1) := by decide +kernel
theorem dX6_about_55 : decode cX6_about 55 = .ok (.getfield 10, 3) := by decide +kernel
theorem dX6_about_58 : decode cX6_about 58 = .ok (.getfield 137, 3) := by decide +kernel
theorem dX6_about_61 : decode cX6_about 61 = .ok (.iload_n 1, 1) := by decide +kernel
theorem dX6_about_62 : decode cX6_about 62 = .ok (.iaload, 1) := by decide +kernel
theorem dX6_about_63 : decode cX6_about 63 = .ok (.ireturn, 1) := by decide +kernel
theorem dX6_about_64 : decode cX6_about 64 = .ok (.aload_n 0, 1) := by decide +kernel
theorem dX6_about_65 : decode cX6_about 65 = .ok (.getfield 10, 3) := by decide +kernel
theorem dX6_about_68 : decode cX6_about 68 = .ok (.getfield 140, 3) := by decide +kernel
theorem dX6_about_71 : decode cX6_about 71 = .ok (.iload_n 1, 1) := by decide +kernel
theorem dX6_about_72 : decode cX6_about 72 = .ok (.iaload, 1) := by decide +kernel
theorem dX6_about_73 : decode cX6_about 73 = .ok (.ireturn, 1) := by decide +kernel
theorem dX6_about_74 : decode cX6_about 74 = .ok (.aload_n 0, 1) := by decide +kernel
theorem dX6_about_75 : decode cX6_about 75 = .ok (.getfield 10, 3) := by decide +kernel
theorem dX6_about_78 : decode cX6_about 78 = .ok (.iload_n 1, 1) := by decide +kernel
theorem dX6_about_79 : decode cX6_about 79 = .ok (.invokevirtual 86, 3) := by decide +kernel
theorem dX6_about_82 : decode cX6_about 82 = .ok (.ifCond .eq 7, 3) := by decide +kernel
theorem dX6_about_85 : decode cX6_about 85 = .ok (.iconst 1, 1) := by decide +kernel
theorem dX6_about_86 : decode cX6_about 86 = .ok (.goto 4, 3) := by decide +kernel
theorem dX6_about_89 : decode cX6_about 89 = .ok (.iconst 0, 1) := by decide +kernel
theorem dX6_about_90 : decode cX6_about 90 = .ok (.ireturn, 1) := by decide +kernel
theorem dX6_about_91 : decode cX6_about 91 = .ok (.bipush (-2), 2) := by decide +kernel
theorem dX6_about_93 : decode cX6_about 93 = .ok (.ireturn, 1) := by decide +kernel
set_option maxRecDepth 20000 in
theorem ggX6_count_X2_howManyRisky : GoodIn wsX6_count wsX2_howManyRisky := goodIn_r _ [14, 15, 16, 40, 41, 42, 43, 44, 45, 46, 47, 48, 49, 50] (by decide +kernel) (by decide +kernel)
set_option maxRecDepth 20000 in
theorem gX6_count_X2_howManyRisky : GoodIn wsX6_count (wsV RX6 149 RX2 yX2_howManyRisky wsX2_howManyRisky) := goodIn_app (goodIn_of _ (by decide +kernel)) ggX6_count_X2_howManyRisky
theorem dX6_count_0 : decode cX6_count 0 = .ok (.iload_n 1, 1) := by decide +kernel
theorem dX6_count_1 : decode cX6_count 1 = .ok (.tableswitch 87 0 5 #[39, 47, 55, 63, 71, 79], 39) := by decide +kernel
theorem dX6_count_40 : decode cX6_count 40 = .ok (.aload_n 0, 1) := by decide +kernel
theorem dX6_count_41 : decode cX6_count 41 = .ok (.getfield 10, 3) := by decide +kernel
theorem dX6_count_44 : decode cX6_count 44 = .ok (.getfield 143, 3) := by decide +kernel
theorem dX6_count_47 : decode cX6_count 47 = .ok (.ireturn, 1) := by decide +kernel
theorem dX6_count_48 : decode cX6_count 48 = .ok (.aload_n 0, 1) := by decide +kernel
theorem dX6_count_49 : decode cX6_count 49 = .ok (.getfield 10, 3) := by decide +kernel
theorem dX6_count_52 : decode cX6_count 52 = .ok (.getfield 146, 3) := by decide +kernel
theorem dX6_count_55 : decode cX6_count 55 = .ok (.ireturn, 1) := by decide +kernel
theorem dX6_count_56 : decode cX6_count 56 = .ok (.aload_n 0, 1) := by decide +kernel
theorem dX6_count_57 : decode cX6_count 57 = .ok (.getfield 19, 3) := by decide +kernel
theorem dX6_count_60 : decode cX6_count 60 = .ok (.getfield 147, 3) := by decide +kernel
theorem dX6_count_63 : decode cX6_count 63 = .ok (.ireturn, 1) := by decide +kernel
theorem dX6_count_64 : decode cX6_count 64 = .ok (.aload_n 0, 1) := by decide +kernel
theorem dX6_count_65 : decode cX6_count 65 = .ok (.getfield 26, 3) := by decide +kernel
theorem dX6_count_68 : decode cX6_count 68 = .ok (.getfield 148, 3) := by decide +kernel
theorem dX6_count_71 : decode cX6_count 71 = .ok (.ireturn, 1) := by decide +kernel
theorem dX6_count_72 : decode cX6_count 72 = .ok (.aload_n 0, 1) := by decide +kernel
theorem dX6_count_73 : decode cX6_count 73 = .ok (.getfield 33, 3) := by decide +kernel
theorem dX6_count_76 : decode cX6_count 76 = .ok (.getfield 99, 3) := by decide +kernel
theorem dX6_count_79 : decode cX6_count 79 = .ok (.ireturn, 1) := by decide +kernel
theorem dX6_count_80 : decode cX6_count 80 = .ok (.aload_n 0, 1) := by decide +kernel
theorem dX6_count_81 : decode cX6_count 81 = .ok (.getfield 33, 3) := by decide +kernel
theorem dX6_count_84 : decode cX6_count 84 = .ok (.invokevirtual 149, 3) := by decide +kernel
theorem dX6_count_87 : decode cX6_count 87 = .ok (.ireturn, 1) := by decide +kernel
theorem dX6_count_88 : decode cX6_count 88 = .ok (.bipush (-2), 2) := by decide +kernel
theorem dX6_count_90 : decode cX6_count 90 = .ok (.ireturn, 1) := by decide +kernel
set_option maxRecDepth 20000 in
theorem ggX6_isAsTold_X4_isClosed : GoodIn wsX6_isAsTold wsX4_isClosed := goodIn_r _ [10, 11, 12, 13, 14, 9, 15, 16, 50, 51, 52, 53, 54, 55, 56, 57, 58, 59] (by decide +kernel) (by decide +kernel)
set_option maxRecDepth 20000 in
theorem gX6_isAsTold_X4_isClosed : GoodIn wsX6_isAsTold (wsV RX6 86 RX4 yX4_isClosed wsX4_isClosed) := goodIn_app (goodIn_of _ (by decide +kernel)) ggX6_isAsTold_X4_isClosed
set_option maxRecDepth 20000 in
theorem ggX6_isAsTold_X2_has : GoodIn wsX6_isAsTold wsX2_has := goodIn_r _ [21, 22, 60, 61, 62, 63, 64, 65, 66, 67, 68, 69, 70] (by decide +kernel) (by decide +kernel)
set_option maxRecDepth 20000 in
theorem gX6_isAsTold_X2_has : GoodIn wsX6_isAsTold (wsV RX6 111 RX2 yX2_has wsX2_has) := goodIn_app (goodIn_of _ (by decide +kernel)) ggX6_isAsTold_X2_has
set_option maxRecDepth 20000 in
theorem ggX6_isAsTold_X0_hasWith : GoodIn wsX6_isAsTold wsX0_hasWith := goodIn_r _ [27, 28, 29, 30, 31, 26, 32, 33, 71, 72, 73, 74, 75] (by decide +kernel) (by decide +kernel)
set_option maxRecDepth 20000 in
theorem gX6_isAsTold_X0_hasWith : GoodIn wsX6_isAsTold (wsV RX6 153 RX0 yX0_hasWith wsX0_hasWith) := goodIn_app (goodIn_of _ (by decide +kernel)) ggX6_isAsTold_X0_hasWith
set_option maxRecDepth 20000 in
theorem ggX6_isAsTold_X1_has : GoodIn wsX6_isAsTold wsX1_has := goodIn_r _ [38, 39, 76, 77, 78] (by decide +kernel) (by decide +kernel)
set_option maxRecDepth 20000 in
theorem gX6_isAsTold_X1_has : GoodIn wsX6_isAsTold (wsV RX6 156 RX1 yX1_has wsX1_has) := goodIn_app (goodIn_of _ (by decide +kernel)) ggX6_isAsTold_X1_has
set_option maxRecDepth 20000 in
theorem ggX6_isAsTold_X4_isClass : GoodIn wsX6_isAsTold wsX4_isClass := goodIn_r _ [43, 44, 50, 51, 52, 53, 54, 55, 56, 57, 58, 59] (by decide +kernel) (by decide +kernel)
set_option maxRecDepth 20000 in
theorem gX6_isAsTold_X4_isClass : GoodIn wsX6_isAsTold (wsV RX6 58 RX4 yX4_isClass wsX4_isClass) := goodIn_app (goodIn_of _ (by decide +kernel)) ggX6_isAsTold_X4_isClass
theorem dX6_isAsTold_0 : decode cX6_isAsTold 0 = .ok (.iload_n 1, 1) := by decide +kernel
theorem dX6_isAsTold_1 : decode cX6_isAsTold 1 = .ok (.tableswitch 292 0 7 #[47, 57, 57, 87, 116, 144, 185, 263], 47) := by decide +kernel
theorem dX6_isAsTold_48 : decode cX6_isAsTold 48 = .ok (.aload_n 0, 1) := by decide +kernel
theorem dX6_isAsTold_49 : decode cX6_isAsTold 49 = .ok (.getfield 10, 3) := by decide +kernel
theorem dX6_isAsTold_52 : decode cX6_isAsTold 52 = .ok (.iload 4, 2) := by decide +kernel
theorem dX6_isAsTold_54 : decode cX6_isAsTold 54 = .ok (.invokevirtual 86, 3) := by decide +kernel
theorem dX6_isAsTold_57 : decode cX6_isAsTold 57 = .ok (.ireturn, 1) := by decide +kernel
theorem dX6_isAsTold_58 : decode cX6_isAsTold 58 = .ok (.aload_n 0, 1) := by decide +kernel
theorem dX6_isAsTold_59 : decode cX6_isAsTold 59 = .ok (.getfield 33, 3) := by decide +kernel
theorem dX6_isAsTold_62 : decode cX6_isAsTold 62 = .ok (.iload_n 2, 1) := by decide +kernel
theorem dX6_isAsTold_63 : decode cX6_isAsTold 63 = .ok (.invokevirtual 111, 3) := by decide +kernel
theorem dX6_isAsTold_66 : decode cX6_isAsTold 66 = .ok (.ifCond .eq 20, 3) := by decide +kernel
theorem dX6_isAsTold_69 : decode cX6_isAsTold 69 = .ok (.aload_n 0, 1) := by decide +kernel
theorem dX6_isAsTold_70 : decode cX6_isAsTold 70 = .ok (.getfield 26, 3) := by decide +kernel
theorem dX6_isAsTold_73 : decode cX6_isAsTold 73 = .ok (.iload 4, 2) := by decide +kernel
theorem dX6_isAsTold_75 : decode cX6_isAsTold 75 = .ok (.iconst 1, 1) := by decide +kernel
theorem dX6_isAsTold_76 : decode cX6_isAsTold 76 = .ok (.invokevirtual 153, 3) := by decide +kernel
theorem dX6_isAsTold_79 : decode cX6_isAsTold 79 = .ok (.ifCond .eq 7, 3) := by decide +kernel
theorem dX6_isAsTold_82 : decode cX6_isAsTold 82 = .ok (.iconst 1, 1) := by decide +kernel
theorem dX6_isAsTold_83 : decode cX6_isAsTold 83 = .ok (.goto 4, 3) := by decide +kernel
theorem dX6_isAsTold_86 : decode cX6_isAsTold 86 = .ok (.iconst 0, 1) := by decide +kernel
theorem dX6_isAsTold_87 : decode cX6_isAsTold 87 = .ok (.ireturn, 1) := by decide +kernel
theorem dX6_isAsTold_88 : decode cX6_isAsTold 88 = .ok (.aload_n 0, 1) := by decide +kernel
theorem dX6_isAsTold_89 : decode cX6_isAsTold 89 = .ok (.getfield 33, 3) := by decide +kernel
theorem dX6_isAsTold_92 : decode cX6_isAsTold 92 = .ok (.iload_n 2, 1) := by decide +kernel
theorem dX6_isAsTold_93 : decode cX6_isAsTold 93 = .ok (.invokevirtual 111, 3) := by decide +kernel
theorem dX6_isAsTold_96 : decode cX6_isAsTold 96 = .ok (.ifCond .eq 19, 3) := by decide +kernel
theorem dX6_isAsTold_99 : decode cX6_isAsTold 99 = .ok (.aload_n 0, 1) := by decide +kernel
theorem dX6_isAsTold_100 : decode cX6_isAsTold 100 = .ok (.getfield 19, 3) := by decide +kernel
theorem dX6_isAsTold_103 : decode cX6_isAsTold 103 = .ok (.iload 4, 2) := by decide +kernel
theorem dX6_isAsTold_105 : decode cX6_isAsTold 105 = .ok (.invokevirtual 156, 3) := by decide +kernel
theorem dX6_isAsTold_108 : decode cX6_isAsTold 108 = .ok (.ifCond .eq 7, 3) := by decide +kernel
theorem dX6_isAsTold_111 : decode cX6_isAsTold 111 = .ok (.iconst 1, 1) := by decide +kernel
theorem dX6_isAsTold_112 : decode cX6_isAsTold 112 = .ok (.goto 4, 3) := by decide +kernel
theorem dX6_isAsTold_115 : decode cX6_isAsTold 115 = .ok (.iconst 0, 1) := by decide +kernel
theorem dX6_isAsTold_116 : decode cX6_isAsTold 116 = .ok (.ireturn, 1) := by decide +kernel
theorem dX6_isAsTold_117 : decode cX6_isAsTold 117 = .ok (.aload_n 0, 1) := by decide +kernel
theorem dX6_isAsTold_118 : decode cX6_isAsTold 118 = .ok (.getfield 33, 3) := by decide +kernel
theorem dX6_isAsTold_121 : decode cX6_isAsTold 121 = .ok (.iload_n 2, 1) := by decide +kernel
theorem dX6_isAsTold_122 : decode cX6_isAsTold 122 = .ok (.invokevirtual 111, 3) := by decide +kernel
theorem dX6_isAsTold_125 : decode cX6_isAsTold 125 = .ok (.ifCond .eq 18, 3) := by decide +kernel
theorem dX6_isAsTold_128 : decode cX6_isAsTold 128 = .ok (.aload_n 0, 1) := by decide +kernel
theorem dX6_isAsTold_129 : decode cX6_isAsTold 129 = .ok (.getfield 33, 3) := by decide +kernel
theorem dX6_isAsTold_132 : decode cX6_isAsTold 132 = .ok (.iload_n 3, 1) := by decide +kernel
theorem dX6_isAsTold_133 : decode cX6_isAsTold 133 = .ok (.invokevirtual 111, 3) := by decide +kernel
theorem dX6_isAsTold_136 : decode cX6_isAsTold 136 = .ok (.ifCond .eq 7, 3) := by decide +kernel
theorem dX6_isAsTold_139 : decode cX6_isAsTold 139 = .ok (.iconst 1, 1) := by decide +kernel
theorem dX6_isAsTold_140 : decode cX6_isAsTold 140 = .ok (.goto 4, 3) := by decide +kernel
theorem dX6_isAsTold_143 : decode cX6_isAsTold 143 = .ok (.iconst 0, 1) := by decide +kernel
theorem dX6_isAsTold_144 : decode cX6_isAsTold 144 = .ok (.ireturn, 1) := by decide +kernel
theorem dX6_isAsTold_145 : decode cX6_isAsTold 145 = .ok (.aload_n 0, 1) := by decide +kernel
theorem dX6_isAsTold_146 : decode cX6_isAsTold 146 = .ok (.getfield 33, 3) := by decide +kernel
theorem dX6_isAsTold_149 : decode cX6_isAsTold 149 = .ok (.iload_n 2, 1) := by decide +kernel
theorem dX6_isAsTold_150 : decode cX6_isAsTold 150 = .ok (.invokevirtual 111, 3) := by decide +kernel
theorem dX6_isAsTold_153 : decode cX6_isAsTold 153 = .ok (.ifCond .eq 31, 3) := by decide +kernel
theorem dX6_isAsTold_156 : decode cX6_isAsTold 156 = .ok (.aload_n 0, 1) := by decide +kernel
theorem dX6_isAsTold_157 : decode cX6_isAsTold 157 = .ok (.getfield 33, 3) := by decide +kernel
theorem dX6_isAsTold_160 : decode cX6_isAsTold 160 = .ok (.iload_n 3, 1) := by decide +kernel
theorem dX6_isAsTold_161 : decode cX6_isAsTold 161 = .ok (.invokevirtual 111, 3) := by decide +kernel
theorem dX6_isAsTold_164 : decode cX6_isAsTold 164 = .ok (.ifCond .eq 20, 3) := by decide +kernel
theorem dX6_isAsTold_167 : decode cX6_isAsTold 167 = .ok (.aload_n 0, 1) := by decide +kernel
theorem dX6_isAsTold_168 : decode cX6_isAsTold 168 = .ok (.getfield 26, 3) := by decide +kernel
theorem dX6_isAsTold_171 : decode cX6_isAsTold 171 = .ok (.iload 4, 2) := by decide +kernel
theorem dX6_isAsTold_173 : decode cX6_isAsTold 173 = .ok (.iconst 2, 1) := by decide +kernel
theorem dX6_isAsTold_174 : decode cX6_isAsTold 174 = .ok (.invokevirtual 153, 3) := by decide +kernel
theorem dX6_isAsTold_177 : decode cX6_isAsTold 177 = .ok (.ifCond .eq 7, 3) := by decide +kernel
theorem dX6_isAsTold_180 : decode cX6_isAsTold 180 = .ok (.iconst 1, 1) := by decide +kernel
theorem dX6_isAsTold_181 : decode cX6_isAsTold 181 = .ok (.goto 4, 3) := by decide +kernel
theorem dX6_isAsTold_184 : decode cX6_isAsTold 184 = .ok (.iconst 0, 1) := by decide +kernel
theorem dX6_isAsTold_185 : decode cX6_isAsTold 185 = .ok (.ireturn, 1) := by decide +kernel
theorem dX6_isAsTold_186 : decode cX6_isAsTold 186 = .ok (.aload_n 0, 1) := by decide +kernel
theorem dX6_isAsTold_187 : decode cX6_isAsTold 187 = .ok (.getfield 33, 3) := by decide +kernel
theorem dX6_isAsTold_190 : decode cX6_isAsTold 190 = .ok (.iload_n 2, 1) := by decide +kernel
theorem dX6_isAsTold_191 : decode cX6_isAsTold 191 = .ok (.invokevirtual 111, 3) := by decide +kernel
theorem dX6_isAsTold_194 : decode cX6_isAsTold 194 = .ok (.ifCond .eq 68, 3) := by decide +kernel
theorem dX6_isAsTold_197 : decode cX6_isAsTold 197 = .ok (.aload_n 0, 1) := by decide +kernel
theorem dX6_isAsTold_198 : decode cX6_isAsTold 198 = .ok (.getfield 33, 3) := by decide +kernel
theorem dX6_isAsTold_201 : decode cX6_isAsTold 201 = .ok (.iload_n 3, 1) := by decide +kernel
theorem dX6_isAsTold_202 : decode cX6_isAsTold 202 = .ok (.invokevirtual 111, 3) := by decide +kernel
theorem dX6_isAsTold_205 : decode cX6_isAsTold 205 = .ok (.ifCond .eq 57, 3) := by decide +kernel
theorem dX6_isAsTold_208 : decode cX6_isAsTold 208 = .ok (.aload_n 0, 1) := by decide +kernel
theorem dX6_isAsTold_209 : decode cX6_isAsTold 209 = .ok (.getfield 19, 3) := by decide +kernel
theorem dX6_isAsTold_212 : decode cX6_isAsTold 212 = .ok (.iload 4, 2) := by decide +kernel
theorem dX6_isAsTold_214 : decode cX6_isAsTold 214 = .ok (.invokevirtual 156, 3) := by decide +kernel
theorem dX6_isAsTold_217 : decode cX6_isAsTold 217 = .ok (.ifCond .eq 45, 3) := by decide +kernel
theorem dX6_isAsTold_220 : decode cX6_isAsTold 220 = .ok (.aload_n 0, 1) := by decide +kernel
theorem dX6_isAsTold_221 : decode cX6_isAsTold 221 = .ok (.getfield 19, 3) := by decide +kernel
theorem dX6_isAsTold_224 : decode cX6_isAsTold 224 = .ok (.iload 5, 2) := by decide +kernel
theorem dX6_isAsTold_226 : decode cX6_isAsTold 226 = .ok (.invokevirtual 156, 3) := by decide +kernel
theorem dX6_isAsTold_229 : decode cX6_isAsTold 229 = .ok (.ifCond .eq 33, 3) := by decide +kernel
theorem dX6_isAsTold_232 : decode cX6_isAsTold 232 = .ok (.aload_n 0, 1) := by decide +kernel
theorem dX6_isAsTold_233 : decode cX6_isAsTold 233 = .ok (.getfield 10, 3) := by decide +kernel
theorem dX6_isAsTold_236 : decode cX6_isAsTold 236 = .ok (.iload 6, 2) := by decide +kernel
theorem dX6_isAsTold_238 : decode cX6_isAsTold 238 = .ok (.invokevirtual 58, 3) := by decide +kernel
theorem dX6_isAsTold_241 : decode cX6_isAsTold 241 = .ok (.ifCond .eq 21, 3) := by decide +kernel
theorem dX6_isAsTold_244 : decode cX6_isAsTold 244 = .ok (.aload_n 0, 1) := by decide +kernel
theorem dX6_isAsTold_245 : decode cX6_isAsTold 245 = .ok (.getfield 10, 3) := by decide +kernel
theorem dX6_isAsTold_248 : decode cX6_isAsTold 248 = .ok (.getfield 61, 3) := by decide +kernel
theorem dX6_isAsTold_251 : decode cX6_isAsTold 251 = .ok (.iload 6, 2) := by decide +kernel
theorem dX6_isAsTold_253 : decode cX6_isAsTold 253 = .ok (.iaload, 1) := by decide +kernel
theorem dX6_isAsTold_254 : decode cX6_isAsTold 254 = .ok (.iconst 2, 1) := by decide +kernel
theorem dX6_isAsTold_255 : decode cX6_isAsTold 255 = .ok (.if_icmp .ne 7, 3) := by decide +kernel
theorem dX6_isAsTold_258 : decode cX6_isAsTold 258 = .ok (.iconst 1, 1) := by decide +kernel
theorem dX6_isAsTold_259 : decode cX6_isAsTold 259 = .ok (.goto 4, 3) := by decide +kernel
theorem dX6_isAsTold_262 : decode cX6_isAsTold 262 = .ok (.iconst 0, 1) := by decide +kernel
theorem dX6_isAsTold_263 : decode cX6_isAsTold 263 = .ok (.ireturn, 1) := by decide +kernel
theorem dX6_isAsTold_264 : decode cX6_isAsTold 264 = .ok (.aload_n 0, 1) := by decide +kernel
theorem dX6_isAsTold_265 : decode cX6_isAsTold 265 = .ok (.getfield 33, 3) := by decide +kernel
theorem dX6_isAsTold_268 : decode cX6_isAsTold 268 = .ok (.iload_n 2, 1) := by decide +kernel
theorem dX6_isAsTold_269 : decode cX6_isAsTold 269 = .ok (.invokevirtual 111, 3) := by decide +kernel
theorem dX6_isAsTold_272 : decode cX6_isAsTold 272 = .ok (.ifCond .eq 19, 3) := by decide +kernel
theorem dX6_isAsTold_275 : decode cX6_isAsTold 275 = .ok (.aload_n 0, 1) := by decide +kernel
theorem dX6_isAsTold_276 : decode cX6_isAsTold 276 = .ok (.getfield 10, 3) := by decide +kernel
theorem dX6_isAsTold_279 : decode cX6_isAsTold 279 = .ok (.iload 4, 2) := by decide +kernel
theorem dX6_isAsTold_281 : decode cX6_isAsTold 281 = .ok (.invokevirtual 86, 3) := by decide +kernel
theorem dX6_isAsTold_284 : decode cX6_isAsTold 284 = .ok (.ifCond .eq 7, 3) := by decide +kernel
theorem dX6_isAsTold_287 : decode cX6_isAsTold 287 = .ok (.iconst 1, 1) := by decide +kernel
theorem dX6_isAsTold_288 : decode cX6_isAsTold 288 = .ok (.goto 4, 3) := by decide +kernel
theorem dX6_isAsTold_291 : decode cX6_isAsTold 291 = .ok (.iconst 0, 1) := by decide +kernel
theorem dX6_isAsTold_292 : decode cX6_isAsTold 292 = .ok (.ireturn, 1) := by decide +kernel
theorem dX6_isAsTold_293 : decode cX6_isAsTold 293 = .ok (.iconst 0, 1) := by decide +kernel
theorem dX6_isAsTold_294 : decode cX6_isAsTold 294 = .ok (.ireturn, 1) := by decide +kernel
theorem dX6_isVariableNumber_0 : decode cX6_isVariableNumber 0 = .ok (.iload_n 0, 1) := by decide +kernel
theorem dX6_isVariableNumber_1 : decode cX6_isVariableNumber 1 = .ok (.ifCond .lt 12, 3) := by decide +kernel
theorem dX6_isVariableNumber_4 : decode cX6_isVariableNumber 4 = .ok (.iload_n 0, 1) := by decide +kernel
theorem dX6_isVariableNumber_5 : decode cX6_isVariableNumber 5 = .ok (.iconst 2, 1) := by decide +kernel
theorem dX6_isVariableNumber_6 : decode cX6_isVariableNumber 6 = .ok (.if_icmp .ge 7, 3) := by decide +kernel
theorem dX6_isVariableNumber_9 : decode cX6_isVariableNumber 9 = .ok (.iconst 1, 1) := by decide +kernel
theorem dX6_isVariableNumber_10 : decode cX6_isVariableNumber 10 = .ok (.goto 4, 3) := by decide +kernel
theorem dX6_isVariableNumber_13 : decode cX6_isVariableNumber 13 = .ok (.iconst 0, 1) := by decide +kernel
theorem dX6_isVariableNumber_14 : decode cX6_isVariableNumber 14 = .ok (.ireturn, 1) := by decide +kernel
theorem dX6_isPrimitive_0 : decode cX6_isPrimitive 0 = .ok (.iload_n 0, 1) := by decide +kernel
theorem dX6_isPrimitive_1 : decode cX6_isPrimitive 1 = .ok (.ifCond .lt 12, 3) := by decide +kernel
theorem dX6_isPrimitive_4 : decode cX6_isPrimitive 4 = .ok (.iload_n 0, 1) := by decide +kernel
theorem dX6_isPrimitive_5 : decode cX6_isPrimitive 5 = .ok (.iconst 3, 1) := by decide +kernel
theorem dX6_isPrimitive_6 : decode cX6_isPrimitive 6 = .ok (.if_icmp .gt 7, 3) := by decide +kernel
theorem dX6_isPrimitive_9 : decode cX6_isPrimitive 9 = .ok (.iconst 1, 1) := by decide +kernel
theorem dX6_isPrimitive_10 : decode cX6_isPrimitive 10 = .ok (.goto 4, 3) := by decide +kernel
theorem dX6_isPrimitive_13 : decode cX6_isPrimitive 13 = .ok (.iconst 0, 1) := by decide +kernel
theorem dX6_isPrimitive_14 : decode cX6_isPrimitive 14 = .ok (.ireturn, 1) := by decide +kernel
theorem dX6_isVariable_0 : decode cX6_isVariable 0 = .ok (.iload_n 0, 1) := by decide +kernel
theorem dX6_isVariable_1 : decode cX6_isVariable 1 = .ok (.iconst 4, 1) := by decide +kernel
theorem dX6_isVariable_2 : decode cX6_isVariable 2 = .ok (.if_icmp .eq 8, 3) := by decide +kernel
theorem dX6_isVariable_5 : decode cX6_isVariable 5 = .ok (.iload_n 0, 1) := by decide +kernel
theorem dX6_isVariable_6 : decode cX6_isVariable 6 = .ok (.iconst 5, 1) := by decide +kernel
theorem dX6_isVariable_7 : decode cX6_isVariable 7 = .ok (.if_icmp .ne 7, 3) := by decide +kernel
theorem dX6_isVariable_10 : decode cX6_isVariable 10 = .ok (.iconst 1, 1) := by decide +kernel
theorem dX6_isVariable_11 : decode cX6_isVariable 11 = .ok (.goto 4, 3) := by decide +kernel
theorem dX6_isVariable_14 : decode cX6_isVariable 14 = .ok (.iconst 0, 1) := by decide +kernel
theorem dX6_isVariable_15 : decode cX6_isVariable 15 = .ok (.ireturn, 1) := by decide +kernel
theorem dX6_widens_0 : decode cX6_widens 0 = .ok (.iload_n 0, 1) := by decide +kernel
theorem dX6_widens_1 : decode cX6_widens 1 = .ok (.iconst 1, 1) := by decide +kernel
theorem dX6_widens_2 : decode cX6_widens 2 = .ok (.if_icmp .ne 17, 3) := by decide +kernel
theorem dX6_widens_5 : decode cX6_widens 5 = .ok (.iload_n 1, 1) := by decide +kernel
theorem dX6_widens_6 : decode cX6_widens 6 = .ok (.iconst 2, 1) := by decide +kernel
theorem dX6_widens_7 : decode cX6_widens 7 = .ok (.if_icmp .eq 8, 3) := by decide +kernel
theorem dX6_widens_10 : decode cX6_widens 10 = .ok (.iload_n 1, 1) := by decide +kernel
theorem dX6_widens_11 : decode cX6_widens 11 = .ok (.iconst 3, 1) := by decide +kernel
theorem dX6_widens_12 : decode cX6_widens 12 = .ok (.if_icmp .ne 7, 3) := by decide +kernel
theorem dX6_widens_15 : decode cX6_widens 15 = .ok (.iconst 1, 1) := by decide +kernel
theorem dX6_widens_16 : decode cX6_widens 16 = .ok (.goto 4, 3) := by decide +kernel
theorem dX6_widens_19 : decode cX6_widens 19 = .ok (.iconst 0, 1) := by decide +kernel
theorem dX6_widens_20 : decode cX6_widens 20 = .ok (.ireturn, 1) := by decide +kernel
end
section
theorem dJ7_fill_53178_0 : decode cJ7_fill_53178 0 = .ok (.iconst 0, 1) := by decide +kernel
theorem dJ7_fill_53178_1 : decode cJ7_fill_53178 1 = .ok (.istore_n 2, 1) := by decide +kernel
theorem dJ7_fill_53178_2 : decode cJ7_fill_53178 2 = .ok (.aload_n 0, 1) := by decide +kernel
theorem dJ7_fill_53178_3 : decode cJ7_fill_53178 3 = .ok (.arraylength, 1) := by decide +kernel
theorem dJ7_fill_53178_4 : decode cJ7_fill_53178 4 = .ok (.istore_n 3, 1) := by decide +kernel
theorem dJ7_fill_53178_5 : decode cJ7_fill_53178 5 = .ok (.iload_n 2, 1) := by decide +kernel
theorem dJ7_fill_53178_6 : decode cJ7_fill_53178 6 = .ok (.iload_n 3, 1) := by decide +kernel
theorem dJ7_fill_53178_7 : decode cJ7_fill_53178 7 = .ok (.if_icmp .ge 13, 3) := by decide +kernel
theorem dJ7_fill_53178_10 : decode cJ7_fill_53178 10 = .ok (.aload_n 0, 1) := by decide +kernel
theorem dJ7_fill_53178_11 : decode cJ7_fill_53178 11 = .ok (.iload_n 2, 1) := by decide +kernel
theorem dJ7_fill_53178_12 : decode cJ7_fill_53178 12 = .ok (.iload_n 1, 1) := by decide +kernel
theorem dJ7_fill_53178_13 : decode cJ7_fill_53178 13 = .ok (.iastore, 1) := by decide +kernel
theorem dJ7_fill_53178_14 : decode cJ7_fill_53178 14 = .ok (.iinc 2 1, 3) := by decide +kernel
theorem dJ7_fill_53178_17 : decode cJ7_fill_53178 17 = .ok (.goto (-12), 3) := by decide +kernel
theorem dJ7_fill_53178_20 : decode cJ7_fill_53178 20 = .ok (.return_, 1) := by decide +kernel
end
section
/-! the words of decompiled methods: an abstract heap, partial functions over it, and the kit's rows bundled over a whole side's world -/
abbrev tf_S : Type := Nat → Nat → Int32
def tf_0 : tf_S := fun _ _ => 0
def tf_hs (σ : tf_S) (c : Nat) (f : Nat → Int32) : tf_S := fun c' => if c' = c then f else σ c'
def tf_wr (σ : tf_S) (c i : Nat) (x : Int32) : tf_S := tf_hs σ c (upd (σ c) i x)
def tf_inb (i : Int32) (n : Nat) : Bool := !(decide (i < 0) || decide (n ≤ i.toNatClampNeg))
def tf_bz (x : Int32) : Bool := decide (x = 0) || decide (x = 1)
def tf_gl {α β : Type} (v : α) (f : α → β) : β := f v
theorem tf_inb_in {i : Int32} {n : Nat} (h : tf_inb i n = true) : vp_in i n := by
  unfold tf_inb at h
  unfold vp_in
  intro q
  rcases q with q | q <;> simp [q] at h
theorem tf_gin {α : Type} {i : Int32} {n : Nat} {A : Option α} {z : α} (h : (if tf_inb i n = true then A else none) = some z) : vp_in i n ∧ A = some z := by
  by_cases c : tf_inb i n = true
  · rw [if_pos c] at h; exact ⟨tf_inb_in c, h⟩
  · rw [if_neg c] at h; cases h
theorem tf_gbz {α : Type} {x : Int32} {A : Option α} {z : α} (h : (if tf_bz x = true then A else none) = some z) : (x = 0 ∨ x = 1) ∧ A = some z := by
  by_cases c : tf_bz x = true
  · rw [if_pos c] at h
    refine ⟨?_, h⟩
    unfold tf_bz at c
    rcases Bool.or_eq_true_iff.mp c with c | c
    · exact Or.inl (of_decide_eq_true c)
    · exact Or.inr (of_decide_eq_true c)
  · rw [if_neg c] at h; cases h
theorem tf_glet {α β : Type} {v : α} {f : α → Option β} {z : β} (h : tf_gl v f = some z) : ∃ y, y = v ∧ f y = some z := ⟨v, rfl, h⟩
theorem tf_gbind {α β : Type} {o : Option α} {f : α → Option β} {z : β} (h : o.bind f = some z) : ∃ u, o = some u ∧ f u = some z := by
  cases o with
  | none => cases h
  | some u => exact ⟨u, rfl, h⟩
theorem tf_pos {α : Type} {c : Prop} {i : Decidable c} {A B z : α} (hc : c) (h : @ite α c i A B = z) : A = z := (if_pos hc).symm.trans h
theorem tf_neg {α : Type} {c : Prop} {i : Decidable c} {A B z : α} (hc : ¬ c) (h : @ite α c i A B = z) : B = z := (if_neg hc).symm.trans h
theorem tf_nb {x : Int32} (h : x = 0 ∨ x = 1) : narrow .boolean (.int x) = .int x := by
  rcases h with rfl | rfl <;> rfl
theorem tf_nz {x : Int32} (h : x = 0 ∨ x = 1) : vp_nar .boolean x = x := by
  rcases h with rfl | rfl <;> rfl
/-- the calls of a nest mate's private members -/
def tf_N (L : List (String × Nat × MethodName × String)) (U : State) : Prop := ∀ q ∈ L, va_Nw (.methodLinkNest q.1 q.2.1 q.2.2.1 q.2.2.2) U
theorem tf_N.warm {L : List (String × Nat × MethodName × String)} {s U : State} (hW : s.WarmedH U.vm) (h : tf_N L s) : tf_N L U := fun q hq => va_Nw.warmM hW (h q hq)
theorem tf_N.same {L : List (String × Nat × MethodName × String)} {s U : State} (e : s.vm = U.vm) (h : tf_N L s) : tf_N L U := fun q hq => va_Nw.same rfl e (h q hq)
/-- the world of a side, as it stands in a walk that began at heap H0 -/
def tf_I (D : va_G) (w : tf_S → va_W) (H0 : Heap) (σ : tf_S) (H : Heap) (locs : List Loc) : Prop :=
  va_P D vwCl (w σ) H ∧ va_D (va_A (w tf_0) H0.size) (w σ) ∧ va_S (va_A (w tf_0) H0.size) H0 H locs
/-- the addresses of a world don't hang on what it holds -/
def tf_Ad (w : tf_S → va_W) : Prop := ∀ σ σ' : tf_S, (w σ).map Prod.fst = (w σ').map Prod.fst
theorem tf_Ad.in {w : tf_S → va_W} (h : tf_Ad w) {σ : tf_S} {k : Nat} {q : Nat × va_E} (hk : (w σ)[k]? = some q) (sz : Nat) : va_A (w tf_0) sz q.1 := by
  have h1 : ((w σ).map Prod.fst)[k]? = some q.1 := by rw [List.getElem?_map, hk]; rfl
  rw [h σ tf_0, List.getElem?_map] at h1
  cases hq : (w tf_0)[k]? with
  | none => rw [hq] at h1; cases h1
  | some r =>
    rw [hq] at h1
    obtain ⟨r1, r2⟩ := r
    have e : r1 = q.1 := Option.some.inj h1
    subst e
    exact Or.inl ⟨k, r2, hq⟩
theorem tf_D {w : tf_S → va_W} (h : tf_Ad w) {A : Nat → Prop} {σ : tf_S} (hD : va_D A (w σ)) (sz : Nat) : va_D (va_A (w tf_0) sz) (w σ) :=
  hD.weaken (fun _ _ hk _ => h.in hk sz)
theorem tf_mono {w : tf_S → va_W} {a b : Nat} (h : a ≤ b) (q : Nat) (hq : va_A (w tf_0) b q) : va_A (w tf_0) a q := by
  rcases hq with hq | hq
  · exact Or.inl hq
  · exact Or.inr (Nat.le_trans h hq)
theorem tf_start {D : va_G} {w : tf_S → va_W} {s : State} {σ : tf_S} (h : tf_Ad w) (hP : va_P D vwCl (w σ) s.heap) (hD : va_D (fun _ => True) (w σ)) : tf_I D w s.heap σ s.heap [] := ⟨hP, tf_D h hD _, va_S.rf⟩
/-- a method's contract: it answers z.1 and leaves the world z.2 -/
def tf_C (l : Launch) (D : va_G) (w : tf_S → va_W) (tys : List (ClassId × FieldType)) (Nw : List (String × Nat × MethodName × String)) (y : MethodName) (ws : List Cond) (rm : Room) (av : List Value) (σ : tf_S) (z : Int32 × tf_S) : Prop :=
  ∀ sz : Nat, Met l y ws rm (va_Pc av (fun U => U.heap.size = sz ∧ va_P D vwCl (w σ) U.heap ∧ va_K D vwCl tys U ∧ tf_N Nw U ∧ va_D (fun _ => True) (w σ)))
    (va_Qi (fun (r : Int32) (σ2 : tf_S) => r = z.1 ∧ σ2 = z.2) (fun σ2 t => va_P D vwCl (w σ2) t.heap ∧ va_D (va_A (w tf_0) sz) (w σ2)) (va_A (w tf_0) sz)) 0 0 (va_A (w tf_0) sz)
def tf_Cv (l : Launch) (D : va_G) (w : tf_S → va_W) (tys : List (ClassId × FieldType)) (Nw : List (String × Nat × MethodName × String)) (y : MethodName) (ws : List Cond) (rm : Room) (av : List Value) (σ : tf_S) (z : tf_S) : Prop :=
  ∀ sz : Nat, Met l y ws rm (va_Pc av (fun U => U.heap.size = sz ∧ va_P D vwCl (w σ) U.heap ∧ va_K D vwCl tys U ∧ tf_N Nw U ∧ va_D (fun _ => True) (w σ)))
    (va_Qv (fun (σ2 : tf_S) => σ2 = z) (fun σ2 t => va_P D vwCl (w σ2) t.heap ∧ va_D (va_A (w tf_0) sz) (w σ2)) (va_A (w tf_0) sz)) 0 0 (va_A (w tf_0) sz)
abbrev tf_Q (below : List Frame) (D : va_G) (w : tf_S → va_W) (z : Int32 × tf_S) (args : Array Value) (s : State) : State → Prop :=
  MQ below (va_Qi (fun (r : Int32) (σ2 : tf_S) => r = z.1 ∧ σ2 = z.2) (fun σ2 t => va_P D vwCl (w σ2) t.heap ∧ va_D (va_A (w tf_0) s.heap.size) (w σ2)) (va_A (w tf_0) s.heap.size)) args s 0 0 (va_A (w tf_0) s.heap.size)
abbrev tf_Qv (below : List Frame) (D : va_G) (w : tf_S → va_W) (z : tf_S) (args : Array Value) (s : State) : State → Prop :=
  MQ below (va_Qv (fun (σ2 : tf_S) => σ2 = z) (fun σ2 t => va_P D vwCl (w σ2) t.heap ∧ va_D (va_A (w tf_0) s.heap.size) (w σ2)) (va_A (w tf_0) s.heap.size)) args s 0 0 (va_A (w tf_0) s.heap.size)
section TFW
variable {p : Program} {l : Launch} {e : Env} {R : Room} {s : State} {m : MethodId} {args : Array Value} {below : List Frame} {meth : Method} {c : Code} {H : Heap} {locs : List Loc} {cells slots : Nat} {Q : State → Prop}
variable {cc : ByteArray} {pc : Nat} {ls : Array Slot} {rest : List Value} {D : va_G} {w : tf_S → va_W} {σ σ1 : tf_S} {tys : List (ClassId × FieldType)} {Nw : List (String × Nat × MethodName × String)}
theorem tf_top {x y : Int32} (h : y = x) (k : W p l e R s m args below meth c H locs cells slots Q (F0 m pc ls (.int y :: rest))) : W p l e R s m args below meth c H locs cells slots Q (F0 m pc ls (.int x :: rest)) := h ▸ k
theorem tf_iret {v : Int32} {z : Int32 × tf_S} (hx : p.tables.exec = Jvm.exec) (hb : c.code = cc) (hr : meth.sig.returnType = some .int) (hI : tf_I D w s.heap σ H locs) (h : some (v, σ) = some z) (hdg : decode cc pc = .ok (.ireturn, 1)) (hlocks : meth.locks = false) :
    W p l e R s m args below meth c H locs 0 0 (tf_Q below D w z args s) (F0 m pc ls [.int v]) := by
  cases h
  exact W.iret (v := v) hx hb hr (fun t ht hW => ⟨⟨v, σ, rfl, ⟨rfl, rfl⟩, by rw [ht]; exact hI.1, hI.2.1⟩, hI.2.2.F ht⟩) hI.2.2.2.2 hdg hlocks
theorem tf_zret {v : Int32} {z : Int32 × tf_S} (hx : p.tables.exec = Jvm.exec) (hb : c.code = cc) (hr : meth.sig.returnType = some .boolean) (hv : v = 0 ∨ v = 1) (hI : tf_I D w s.heap σ H locs) (h : some (v, σ) = some z) (hdg : decode cc pc = .ok (.ireturn, 1)) (hlocks : meth.locks = false) :
    W p l e R s m args below meth c H locs 0 0 (tf_Q below D w z args s) (F0 m pc ls [.int v]) := by
  cases h
  exact W.zret (v := v) hx hb hr (tf_nb hv) (fun t ht hW => ⟨⟨v, σ, rfl, ⟨rfl, rfl⟩, by rw [ht]; exact hI.1, hI.2.1⟩, hI.2.2.F ht⟩) hI.2.2.2.2 hdg hlocks
theorem tf_vret {z : tf_S} (hx : p.tables.exec = Jvm.exec) (hb : c.code = cc) (hr : meth.sig.returnType = none) (hI : tf_I D w s.heap σ H locs) (h : some σ = some z) (hdg : decode cc pc = .ok (.return_, 1)) (hlocks : meth.locks = false) :
    W p l e R s m args below meth c H locs 0 0 (tf_Qv below D w z args s) (F0 m pc ls []) := by
  cases h
  exact W.vret hx hb hr (fun t ht hW => ⟨⟨σ, rfl, rfl, by rw [ht]; exact hI.1, hI.2.1⟩, hI.2.2.F ht⟩) hI.2.2.2.2 hdg hlocks
theorem tf_iast (hx : p.tables.exec = Jvm.exec) (hb : c.code = cc) (hK : va_K D vwCl tys s) (hI : tf_I D w s.heap σ H locs) (q0 t0 : Nat) {k a : Nat} {cA : ClassId} {n : Nat} (ha : (w σ)[q0]? = some (a, .inl (cA, n, .inl (σ k))))
    (hs : ∀ f : Nat → Int32, (w σ).set q0 (a, .inl (cA, n, .inl f)) = w (tf_hs σ k f)) (ht : tys[t0]? = some (cA, .int)) {i x : Int32} (hin : vp_in i n) (e1 : σ1 = tf_wr σ k i.toNatClampNeg x) (hdg : decode cc pc = .ok (.iastore, 1))
    (kk : ∀ (H1 : Heap) (locs1 : List Loc), tf_I D w s.heap σ1 H1 locs1 → W p l e R s m args below meth c H1 locs1 cells slots Q (F0 m (pc + 1) ls rest)) : W p l e R s m args below meth c H locs cells slots Q (F0 m pc ls (.int x :: .int i :: .ref a :: rest)) := by
  refine va_iast hx hb hK hI.1 hI.2.1 hI.2.2 q0 t0 ha ht hin hdg (fun H1 locs1 h1 h2 h3 => ?_)
  rw [hs] at h1 h2
  subst e1
  exact kk H1 locs1 ⟨h1, h2, h3⟩
theorem tf_zast (hx : p.tables.exec = Jvm.exec) (hb : c.code = cc) (hK : va_K D vwCl tys s) (hI : tf_I D w s.heap σ H locs) (q0 t0 : Nat) {k a : Nat} {cA : ClassId} {n : Nat} (ha : (w σ)[q0]? = some (a, .inl (cA, n, .inl (σ k))))
    (hs : ∀ f : Nat → Int32, (w σ).set q0 (a, .inl (cA, n, .inl f)) = w (tf_hs σ k f)) (ht : tys[t0]? = some (cA, .boolean)) {i x : Int32} (hin : vp_in i n) (hz : x = 0 ∨ x = 1) (e1 : σ1 = tf_wr σ k i.toNatClampNeg x) (hdg : decode cc pc = .ok (.bastore, 1))
    (kk : ∀ (H1 : Heap) (locs1 : List Loc), tf_I D w s.heap σ1 H1 locs1 → W p l e R s m args below meth c H1 locs1 cells slots Q (F0 m (pc + 1) ls rest)) : W p l e R s m args below meth c H locs cells slots Q (F0 m pc ls (.int x :: .int i :: .ref a :: rest)) := by
  refine va_zast hx hb hK hI.1 hI.2.1 hI.2.2 q0 t0 ha ht hin hdg (fun H1 locs1 h1 h2 h3 => ?_)
  rw [tf_nz hz, hs] at h1 h2
  subst e1
  exact kk H1 locs1 ⟨h1, h2, h3⟩
theorem tf_put (hx : p.tables.exec = Jvm.exec) (hb : c.code = cc) {own C : String} {T : u_T} {N ci index : Nat} {Ts : List Cond} (hts : ∀ w ∈ Ts, w.before args s = true) (hin : ∀ w ∈ u_ws C T N, w ∈ Ts) (ty0 : Nat → FieldType) (hty : ∀ k, k < N → parseFieldDescriptor (T k).2.2.1 = some (ty0 k)) (hnm : ∀ a, a < N → ∀ b, b < N → a ≠ b → (T a).2.1 ≠ (T b).2.1) (hown : s.vm.findClass own = some m.cls) (hK : va_K D vwCl tys s) (hI : tf_I D w s.heap σ H locs)
    (q0 : Nat) {a id : Nat} {fs : List Value} (he : (w σ)[q0]? = some (a, .inr (ci, fs))) (hc : vwCl[ci]? = some (C, T, N)) (k : Nat) (hk : k < N) (hlink : (Cond.fieldLink own index C (T k).2.1 (T k).2.2.1).before args s = true) (hsame : (T k).1 = C) (hfin : (T k).2.2.2 = false) {ty : FieldType} {x : Int32} (hd : parseFieldDescriptor (T k).2.2.1 = some ty) (hn : narrow ty (.int x) = .int x) (hfit : fits ty (.int x) = true) (hl : k < fs.length)
    (hs : (w σ).set q0 (a, .inr (ci, fs.set k (.int x))) = w (tf_wr σ id k x)) (e1 : σ1 = tf_wr σ id k x) (hdg : decode cc pc = .ok (.putfield index, 3))
    (kk : ∀ (H1 : Heap) (locs1 : List Loc), tf_I D w s.heap σ1 H1 locs1 → W p l e R s m args below meth c H1 locs1 cells slots Q (F0 m (pc + 3) ls rest)) : W p l e R s m args below meth c H locs cells slots Q (F0 m pc ls (.int x :: .ref a :: rest)) := by
  refine va_put hx hb hts hin ty0 hty hnm hown hK hI.1 hI.2.1 hI.2.2 q0 he hc k hk hlink (fun y hy => by rw [hsame] at hy; exact hy) hfin hd hn hfit hl hdg (fun H1 locs1 h1 h2 h3 => ?_)
  rw [hs] at h1 h2
  subst e1
  exact kk H1 locs1 ⟨h1, h2, h3⟩
theorem tf_get (hx : p.tables.exec = Jvm.exec) (hb : c.code = cc) {own C : String} {T : u_T} {N ci index : Nat} {Ts : List Cond} (hts : ∀ w ∈ Ts, w.before args s = true) (hin : ∀ w ∈ u_ws C T N, w ∈ Ts) (hown : s.vm.findClass own = some m.cls) (hK : va_K D vwCl tys s) (hI : tf_I D w s.heap σ H locs)
    (q0 : Nat) {a : Nat} {fs : List Value} (he : (w σ)[q0]? = some (a, .inr (ci, fs))) (hc : vwCl[ci]? = some (C, T, N)) (k : Nat) (hk : k < N) (hlink : (Cond.fieldLink own index C (T k).2.1 (T k).2.2.1).before args s = true) (hsame : (T k).1 = C) {v : Value} (hv : fs[k]? = some v) (hdg : decode cc pc = .ok (.getfield index, 3))
    (kk : W p l e R s m args below meth c H locs cells slots Q (F0 m (pc + 3) ls (v :: rest))) : W p l e R s m args below meth c H locs cells slots Q (F0 m pc ls (.ref a :: rest)) :=
  va_get hx hb hts hin hown hK hI.1 q0 he hc k hk hlink (fun y hy => by rw [hsame] at hy; exact hy) hv hdg kk
theorem tf_pre {av : List Value} {z : Nat} (hK : va_K D vwCl tys s) (hN : tf_N Nw s) (hI : tf_I D w s.heap σ H locs) (hz : H.size = z) :
    FrameBlind (va_Pc av (fun U => U.heap.size = z ∧ va_P D vwCl (w σ) U.heap ∧ va_K D vwCl tys U ∧ tf_N Nw U ∧ va_D (fun _ => True) (w σ))) ∧ ∀ U : State, U.heap = H → s.WarmedH U.vm → va_Pc av (fun U => U.heap.size = z ∧ va_P D vwCl (w σ) U.heap ∧ va_K D vwCl tys U ∧ tf_N Nw U ∧ va_D (fun _ => True) (w σ)) av.toArray U := by
  refine ⟨fun a U g mk q => ?_, fun U hU hW => ?_⟩
  · obtain ⟨q0, q1, qP, qK, qN, qD⟩ := q
    exact ⟨q0, q1, qP, va_K.moved (u := U) (U := U.calling g mk a) (Vm.Alike.refl U.vm) qK, tf_N.same (U := U.calling g mk a) rfl qN, qD⟩
  · exact ⟨rfl, by rw [hU]; exact hz, by rw [hU]; exact hI.1, va_K.moved hW.alike hK, tf_N.warm hW hN, hI.2.1.weaken (fun _ _ _ _ => trivial)⟩
variable {Ts ws : List Cond} {nL maxL index n : Nat} {own C : String} {y : MethodName} {bytes : ByteArray} {ret : Option FieldType} {rm : Room} {As : List Value} {z : Int32 × tf_S} {zv : tf_S}
theorem tf_back (hI : tf_I D w s.heap σ H locs) : ∀ q, va_A (w tf_0) H.size q → va_A (w tf_0) s.heap.size q := fun q h => tf_mono hI.2.2.1 q h
theorem tf_runi {st : List Value} {av : Array Value} (hI : tf_I D w s.heap σ H locs)
    (hr : va_Run p l e R s m args below meth c H locs 0 0 0 0 (F0 m pc ls st) rest (va_Qi (fun (r : Int32) (σ2 : tf_S) => r = z.1 ∧ σ2 = z.2) (fun σ2 t => va_P D vwCl (w σ2) t.heap ∧ va_D (va_A (w tf_0) H.size) (w σ2)) (va_A (w tf_0) H.size) av) (va_A (w tf_0) H.size))
    (kk : ∀ (H1 : Heap) (locs1 : List Loc), tf_I D w s.heap z.2 H1 locs1 → W p l e R s m args below meth c H1 locs1 0 0 Q (F0 m (pc + 3) ls (.int z.1 :: rest))) : W p l e R s m args below meth c H locs 0 0 Q (F0 m pc ls st) := by
  refine va_calli hr hI.2.2 (fun q _ h => tf_back hI q h) (tf_back hI) (fun r u t H1 locs1 ht hvm hw hB hz hk hS => ?_)
  obtain ⟨rfl, rfl⟩ := hw
  obtain ⟨hP1, hD1⟩ := hB
  rw [ht] at hP1
  exact kk H1 locs1 ⟨hP1, hD1.weaken (fun _ _ _ h => tf_back hI _ h), hS⟩
theorem tf_runv {st : List Value} {av : Array Value} (hI : tf_I D w s.heap σ H locs)
    (hr : va_Run p l e R s m args below meth c H locs 0 0 0 0 (F0 m pc ls st) rest (va_Qv (fun (σ2 : tf_S) => σ2 = zv) (fun σ2 t => va_P D vwCl (w σ2) t.heap ∧ va_D (va_A (w tf_0) H.size) (w σ2)) (va_A (w tf_0) H.size) av) (va_A (w tf_0) H.size))
    (kk : ∀ (H1 : Heap) (locs1 : List Loc), tf_I D w s.heap zv H1 locs1 → W p l e R s m args below meth c H1 locs1 0 0 Q (F0 m (pc + 3) ls rest)) : W p l e R s m args below meth c H locs 0 0 Q (F0 m pc ls st) := by
  refine va_callv hr hI.2.2 (fun q _ h => tf_back hI q h) (tf_back hI) (fun u t H1 locs1 ht hvm hw hB hz hk hS => ?_)
  subst hw
  obtain ⟨hP1, hD1⟩ := hB
  rw [ht] at hP1
  exact kk H1 locs1 ⟨hP1, hD1.weaken (fun _ _ _ h => tf_back hI _ h), hS⟩
theorem tf_callV {b : Nat} (S : CallFix p m c cc nL s args Ts own) (hK : va_K D vwCl tys s) (hN : tf_N Nw s) (hI : tf_I D w s.heap σ H locs) (hC : tf_C l D w tys Nw y ws rm (.ref b :: As) σ z) (cw : CallW R s args own C index y bytes maxL ret ws rm 0 0 n)
    (q0 ci : Nat) {fs : List Value} {T : u_T} {N : Nat} (hq : (w σ)[q0]? = some (b, .inr (ci, fs))) (hc : vwCl[ci]? = some (C, T, N)) (hn : As.length = n) (hsize : ls.size = nL) {st : List Value} (hstack : st = As.reverse ++ .ref b :: rest) (hroom : (rest.map fun v => v.category).sum ≤ 8) (hdg : decode cc pc = .ok (.invokevirtual index, 3))
    (kk : ∀ (H1 : Heap) (locs1 : List Loc), tf_I D w s.heap z.2 H1 locs1 → W p l e R s m args below meth c H1 locs1 0 0 Q (F0 m (pc + 3) ls (.int z.1 :: rest))) : W p l e R s m args below meth c H locs 0 0 Q (F0 m pc ls st) := by
  have hp := tf_pre (av := .ref b :: As) hK hN hI rfl
  exact tf_runi hI (va_runV (As := As) (rest := rest) S (hC H.size) cw ⟨hp.1, va_recv hK hI.1 hc hq, hp.2⟩ rfl hn hsize hstack (lv_room (m := m) (pc := pc) (ls := ls) (rest := st) hroom) hdg ⟨Nat.zero_le _, Nat.zero_le _⟩) kk
theorem tf_callVv {b : Nat} (S : CallFix p m c cc nL s args Ts own) (hK : va_K D vwCl tys s) (hN : tf_N Nw s) (hI : tf_I D w s.heap σ H locs) (hC : tf_Cv l D w tys Nw y ws rm (.ref b :: As) σ zv) (cw : CallW R s args own C index y bytes maxL ret ws rm 0 0 n)
    (q0 ci : Nat) {fs : List Value} {T : u_T} {N : Nat} (hq : (w σ)[q0]? = some (b, .inr (ci, fs))) (hc : vwCl[ci]? = some (C, T, N)) (hn : As.length = n) (hsize : ls.size = nL) {st : List Value} (hstack : st = As.reverse ++ .ref b :: rest) (hroom : (rest.map fun v => v.category).sum ≤ 8) (hdg : decode cc pc = .ok (.invokevirtual index, 3))
    (kk : ∀ (H1 : Heap) (locs1 : List Loc), tf_I D w s.heap zv H1 locs1 → W p l e R s m args below meth c H1 locs1 0 0 Q (F0 m (pc + 3) ls rest)) : W p l e R s m args below meth c H locs 0 0 Q (F0 m pc ls st) := by
  have hp := tf_pre (av := .ref b :: As) hK hN hI rfl
  exact tf_runv hI (va_runV (As := As) (rest := rest) S (hC H.size) cw ⟨hp.1, va_recv hK hI.1 hc hq, hp.2⟩ rfl hn hsize hstack (lv_room (m := m) (pc := pc) (ls := ls) (rest := st) hroom) hdg ⟨Nat.zero_le _, Nat.zero_le _⟩) kk
theorem tf_callS (S : CallFix p m c cc nL s args Ts own) (hK : va_K D vwCl tys s) (hN : tf_N Nw s) (hI : tf_I D w s.heap σ H locs) (hC : tf_C l D w tys Nw y ws rm As σ z) (cw : CallB R s args own index y bytes maxL ret ws rm 0 0 n ∧ (Cond.static y).before args s = true)
    (hn : As.length = n) (hsize : ls.size = nL) {st : List Value} (hstack : st = As.reverse ++ rest) (hroom : (rest.map fun v => v.category).sum ≤ 8) (hdg : decode cc pc = .ok (.invokestatic index, 3))
    (kk : ∀ (H1 : Heap) (locs1 : List Loc), tf_I D w s.heap z.2 H1 locs1 → W p l e R s m args below meth c H1 locs1 0 0 Q (F0 m (pc + 3) ls (.int z.1 :: rest))) : W p l e R s m args below meth c H locs 0 0 Q (F0 m pc ls st) :=
  tf_runi hI (va_runS (As := As) (rest := rest) S (hC H.size) cw (tf_pre hK hN hI rfl) rfl hn hsize hstack (lv_room (m := m) (pc := pc) (ls := ls) (rest := st) hroom) hdg ⟨Nat.zero_le _, Nat.zero_le _⟩) kk
theorem tf_callSN {host : String} (S : CallFix p m c cc nL s args Ts own) (hK : va_K D vwCl tys s) (hN : tf_N Nw s) (hI : tf_I D w s.heap σ H locs) (hC : tf_C l D w tys Nw y ws rm As σ z) (cw : va_CN R s args own index y host bytes maxL ret ws rm 0 0 n ∧ (Cond.static y).before args s = true ∧ True)
    (hn : As.length = n) (hsize : ls.size = nL) {st : List Value} (hstack : st = As.reverse ++ rest) (hroom : (rest.map fun v => v.category).sum ≤ 8) (hdg : decode cc pc = .ok (.invokestatic index, 3))
    (kk : ∀ (H1 : Heap) (locs1 : List Loc), tf_I D w s.heap z.2 H1 locs1 → W p l e R s m args below meth c H1 locs1 0 0 Q (F0 m (pc + 3) ls (.int z.1 :: rest))) : W p l e R s m args below meth c H locs 0 0 Q (F0 m pc ls st) :=
  tf_runi hI (va_runSN (As := As) (rest := rest) S (hC H.size) cw (tf_pre hK hN hI rfl) rfl hn hsize hstack (lv_room (m := m) (pc := pc) (ls := ls) (rest := st) hroom) hdg ⟨Nat.zero_le _, Nat.zero_le _⟩) kk
end TFW
end
section
/-! Arrays.fill over one array -/
def tf_fl (f : Nat → Int32) (n : Nat) (x : Int32) : Nat → Int32 := fun j => if j < n then x else f j
theorem tf_fl_0 (f : Nat → Int32) (x : Int32) : tf_fl f 0 x = f := by
  funext j; simp [tf_fl]
theorem tf_fl_s (f : Nat → Int32) (n : Nat) (x : Int32) : upd (tf_fl f n x) n x = tf_fl f (n + 1) x := by
  funext j
  unfold upd tf_fl
  by_cases h : j = n
  · subst h; simp
  · rw [if_neg h]
    by_cases h2 : j < n
    · rw [if_pos h2, if_pos (by omega)]
    · rw [if_neg h2, if_neg (by omega)]
theorem tf_Pset {D : va_G} {cl : List vw_C} {A : Nat → Prop} {p : Nat} {ws : va_W} {a : Nat} {e0 e : va_E} {H H1 : Heap} (h : va_P D cl ws H) (hD : va_D A ws) (hp : ws[p]? = some (a, e0)) (he : va_at D cl (a, e) H1) (oq : ∀ (k : Nat) (q : Nat × va_E), ws[k]? = some q → q.1 ≠ a → H1[q.1]? = H[q.1]?) : va_P D cl (ws.set p (a, e)) H1 := by
  have hl := (List.getElem?_eq_some_iff.mp hp).1
  intro k q hk
  by_cases hkp : k = p
  · subst hkp
    rw [List.getElem?_set_self hl] at hk
    cases hk
    exact he
  · rw [List.getElem?_set_ne (Ne.symm hkp)] at hk
    exact (h k q hk).kept (oq k q hk (fun z => hkp (hD.1 k p q (a, e0) hk hp z)))
set_option maxHeartbeats 4000000 in
set_option maxRecDepth 100000 in
theorem tf_kfill (l : Launch) (D : va_G) (a : Nat) (cI : ClassId) (n : Nat) (f : Nat → Int32) (x : Int32) (hn : n < 2 ^ 31) (sz : Nat) : Met l yJ7_fill_53178 wsJ7_fill_53178 ({ frames := 0, cells := 0, slots := 0, locals := 0 }) (va_Pc [.ref a, .int x] (fun U => U.heap.size = sz ∧ va_P D vwCl [(a, .inl (cI, n, .inl f))] U.heap ∧ va_K D vwCl [(cI, .int)] U ∧ va_D (fun _ => True) [(a, .inl (cI, n, .inl f))])) (va_Qv (fun (g : Nat → Int32) => g = tf_fl f n x) (fun g t => va_P D vwCl [(a, .inl (cI, n, .inl g))] t.heap ∧ va_D (va_A [(a, .inl (cI, n, .inl f))] sz) [(a, .inl (cI, n, .inl g))]) (va_A [(a, .inl (cI, n, .inl f))] sz)) 0 0 (va_A [(a, .inl (cI, n, .inl f))] sz) := by
  refine Met.ofW (cc := cJ7_fill_53178) (maxL := 4) (ret := none) (by decide) rfl ?_
  intro p e s m args below meth c s₁ B hml hv
  obtain ⟨rfl, hsz, hP, hK, hD0⟩ := hv
  have hx := B.exec
  have hb := B.bytes
  have hr := B.returns
  have hlocks := B.notSynchronized
  subst hsz
  have hD := hD0.self (sz := s.heap.size)
  generalize hAe : va_A [(a, .inl (cI, n, .inl f))] s.heap.size = A at hD ⊢
  have hS : va_S A s.heap s.heap [] := va_S.rf
  have hl := lv_entry ([.ref a, .int x]) (n := 4) (Nat.le_of_ble_eq_true rfl)
  rw [lg_entry_eq]
  generalize (lg_sl ([.ref a, .int x]) ++ List.replicate (4 - (lg_sl ([.ref a, .int x])).length) Slot.unset).toArray = ls at hl ⊢
  have hl : lv_has ls 4 [(0, .ref a), (1, .int x)] := hl
  have loop : ∀ (k i : Nat) (g : Nat → Int32) (H : Heap) (locs : List Loc) (ls : Array Slot), i ≤ n → n + 1 ≤ i + k → g = tf_fl f i x → va_P D vwCl [(a, .inl (cI, n, .inl g))] H → va_D A [(a, .inl (cI, n, .inl g))] → va_S A s.heap H locs → lv_has ls 4 [(0, .ref a), (1, .int x), (2, .int (nI i)), (3, .int (nI n))] →
      W p l e (headSpec wsJ7_fill_53178 ({ frames := 0, cells := 0, slots := 0, locals := 0 })).room s m ([.ref a, .int x] : List Value).toArray below meth c H locs 0 0 (MQ below (va_Qv (fun (g : Nat → Int32) => g = tf_fl f n x) (fun g t => va_P D vwCl [(a, .inl (cI, n, .inl g))] t.heap ∧ va_D A [(a, .inl (cI, n, .inl g))]) A) ([.ref a, .int x] : List Value).toArray s 0 0 A) (F0 m 5 ls []) := by
    intro k
    induction k with
    | zero => intro i g H locs ls h1 h2; exact absurd h2 (by omega)
    | succ k ih =>
      intro i g H locs ls hi hk hg hP hD hS hl
      refine lv_iload_n hx hb dJ7_fill_53178_5 rfl (lv_at hl 2 rfl) ?_
      refine lv_iload_n hx hb dJ7_fill_53178_6 rfl (lv_at hl 3 rfl) ?_
      refine lv_icmp_ge (tgt := 20) hx hb dJ7_fill_53178_7 (by decide) (fun c1 => ?_) (fun c1 => ?_)
      · have hin : ¬ i < n := fun q => nI_ge q hn c1
        have e : i = n := by omega
        subst e
        exact W.vret hx hb hr (fun t ht hW => ⟨⟨g, rfl, hg, by rw [ht]; exact hP, hD⟩, hS.F ht⟩) hS.2.2 dJ7_fill_53178_20 hlocks
      · have hin : i < n := by
          rcases Nat.lt_or_ge i n with q | q
          · exact q
          · exact absurd (nI_le q (by omega)) c1
        refine lv_aload_n hx hb dJ7_fill_53178_10 rfl (lv_at hl 0 rfl) ?_
        refine lv_iload_n hx hb dJ7_fill_53178_11 rfl (lv_at hl 2 rfl) ?_
        refine lv_iload_n hx hb dJ7_fill_53178_12 rfl (lv_at hl 1 rfl) ?_
        refine va_iast hx hb hK hP hD hS 0 0 rfl rfl (vp_in_nI hin hn) dJ7_fill_53178_13 (fun H locs hP hD hS => ?_)
        rw [nI_clamp (by omega)] at hP hD
        obtain ⟨y, ey⟩ : ∃ y : Int32, y = nI i + 1 := ⟨_, rfl⟩
        refine lv_iinc (v := y) (lv' := [(2, .int y), (0, .ref a), (1, .int x), (3, .int (nI n))]) hx hb dJ7_fill_53178_14 hl (k := 2) rfl (by rw [ey]; rfl) (by decide) rfl (fun ls hl => ?_)
        refine lv_goto (tgt := 5) hx hb dJ7_fill_53178_17 (by decide) ?_
        rw [nI_1] at ey
        subst ey
        exact ih (i + 1) (upd g i x) _ _ _ hin (by omega) (by rw [hg, tf_fl_s]) hP hD hS (lv_sub hl [1, 2, 0, 3] rfl)
  refine lv_iconst (v := 0) hx hb dJ7_fill_53178_0 (by decide) ?_
  refine lv_istore_n (lv' := [(2, .int 0), (0, .ref a), (1, .int x)]) hx hb dJ7_fill_53178_1 rfl hl (by decide) rfl (fun ls hl => ?_)
  refine lv_aload_n hx hb dJ7_fill_53178_2 rfl (lv_at hl 1 rfl) ?_
  refine va_alen hx hb hK hP 0 0 rfl (ty := .int) rfl (v := nI n) rfl dJ7_fill_53178_3 ?_
  refine lv_istore_n (lv' := [(3, .int (nI n)), (2, .int 0), (0, .ref a), (1, .int x)]) hx hb dJ7_fill_53178_4 rfl hl (by decide) rfl (fun ls hl => ?_)
  exact loop (n + 1) 0 f _ _ _ (Nat.zero_le n) (by omega) (tf_fl_0 f x).symm hP hD hS (lv_sub hl [2, 3, 1, 0] rfl)
theorem tf_fill {p : Program} {l : Launch} {e : Env} {R : Room} {s : State} {m : MethodId} {args : Array Value} {below : List Frame} {meth : Method} {c : Code} {H : Heap} {locs : List Loc} {Q : State → Prop}
    {cc : ByteArray} {pc : Nat} {ls : Array Slot} {rest : List Value} {D : va_G} {w : tf_S → va_W} {σ σ1 : tf_S} {tys : List (ClassId × FieldType)} {Ts : List Cond} {own : String} {nL index : Nat}
    (S : CallFix p m c cc nL s args Ts own) (hK : va_K D vwCl tys s) (hI : tf_I D w s.heap σ H locs) (q0 t0 : Nat) {k a n : Nat} {cA : ClassId} {x : Int32} (ha : (w σ)[q0]? = some (a, .inl (cA, n, .inl (σ k))))
    (hs : ∀ f : Nat → Int32, (w σ).set q0 (a, .inl (cA, n, .inl f)) = w (tf_hs σ k f)) (ht0 : tys[t0]? = some (cA, .int)) (cw : CallB R s args own index yJ7_fill_53178 cJ7_fill_53178 4 none wsJ7_fill_53178 ({ frames := 0, cells := 0, slots := 0, locals := 0 }) 0 0 2 ∧ (Cond.static yJ7_fill_53178).before args s = true)
    (hsize : ls.size = nL) (hn : n < 2 ^ 31) (hroom : (rest.map fun v => v.category).sum ≤ 8) (e1 : σ1 = tf_hs σ k (tf_fl (σ k) n x)) (hdg : decode cc pc = .ok (.invokestatic index, 3))
    (kk : ∀ (H1 : Heap) (locs1 : List Loc), tf_I D w s.heap σ1 H1 locs1 → W p l e R s m args below meth c H1 locs1 0 0 Q (F0 m (pc + 3) ls rest)) : W p l e R s m args below meth c H locs 0 0 Q (F0 m pc ls (.int x :: .ref a :: rest)) := by
  have hAa : va_A (w tf_0) s.heap.size a := hI.2.1.2 q0 _ ha
  have hAA : ∀ q, va_A [(a, .inl (cA, n, .inl (σ k)))] H.size q → va_A (w tf_0) s.heap.size q := by
    intro q hq
    rcases hq with ⟨j, e, hj⟩ | hq
    · have : q = a := by
        match j, hj with
        | 0, hj => cases hj; rfl
        | j + 1, hj => cases hj
      rw [this]; exact hAa
    · exact Or.inr (Nat.le_trans hI.2.2.1 hq)
  have hPc : va_P D vwCl [(a, .inl (cA, n, .inl (σ k)))] H := fun j q hj => by
    match j, hj with
    | 0, hj => cases hj; exact hI.1 q0 _ ha
    | j + 1, hj => cases hj
  have hKc : va_K D vwCl [(cA, .int)] s := by
    refine ⟨hK.1, fun j q hj => ?_⟩
    match j, hj with
    | 0, hj => cases hj; exact hK.2 t0 _ ht0
    | j + 1, hj => cases hj
  have hDc : va_D (fun _ => True) [(a, .inl (cA, n, .inl (σ k)))] := by
    refine ⟨fun i j x y hi hj _ => ?_, fun _ _ _ => trivial⟩
    match i, j, hi, hj with
    | 0, 0, _, _ => rfl
    | i + 1, _, hi, _ => cases hi
    | 0, j + 1, _, hj => cases hj
  refine va_callv (va_runS (As := [.ref a, .int x]) (rest := rest) S (tf_kfill l D a cA n (σ k) x hn H.size) cw ⟨fun b U g mk q => ?_, fun U hU hW => ?_⟩ rfl rfl hsize rfl (lv_room hroom) hdg ⟨Nat.zero_le _, Nat.zero_le _⟩) hI.2.2 (fun q _ h => hAA q h) hAA (fun u t H1 locs1 ht hvm hw hB hz hk hS => ?_)
  · obtain ⟨q0, q1, qP, qK, qD⟩ := q
    exact ⟨q0, q1, qP, va_K.moved (u := U) (U := U.calling g mk b) (Vm.Alike.refl U.vm) qK, qD⟩
  · exact ⟨rfl, by rw [hU], by rw [hU]; exact hPc, va_K.moved hW.alike hKc, hDc⟩
  · subst hw
    obtain ⟨hP1, hD1⟩ := hB
    rw [ht] at hP1
    have h1 : va_P D vwCl ((w σ).set q0 (a, .inl (cA, n, .inl (tf_fl (σ k) n x)))) H1 := by
      refine tf_Pset hI.1 hI.2.1 ha (hP1 0 _ rfl) (fun j q hj hne => hk q.1 (hI.1 j q hj).lt (fun hq => ?_))
      rcases hq with ⟨i, e, hi⟩ | hq
      · match i, hi with
        | 0, hi => cases hi; exact hne rfl
        | i + 1, hi => cases hi
      · exact absurd (hI.1 j q hj).lt (Nat.not_lt.mpr hq)
    have h2 : va_D (va_A (w tf_0) s.heap.size) ((w σ).set q0 (a, .inl (cA, n, .inl (tf_fl (σ k) n x)))) := hI.2.1.set ha
    rw [hs] at h1 h2
    subst e1
    exact kk H1 locs1 ⟨h1, h2, hS⟩
end
section
def tf_nest : List (String × Nat × MethodName × String) := [(RX3, 71, yX6_isPrimitive, "TypeFlow"), (RX3, 74, yX6_widens, "TypeFlow"), (RX3, 78, yX6_isVariable, "TypeFlow"), (RX4, 78, yX6_widens, "TypeFlow"), (RX4, 81, yX6_isPrimitive, "TypeFlow"), (RX5, 103, yX6_isPrimitive, "TypeFlow"), (RX6, 18, yX1_init, "TypeFlow"), (RX6, 25, yX0_init, "TypeFlow"), (RX6, 32, yX2_init, "TypeFlow")]
/-- the world of X -/
def tf_wx (ad : Nat → Nat) (cI cZ : ClassId) (σ : tf_S) : va_W := [(ad 0, .inr (6, [.ref (ad 1), .ref (ad 2), .ref (ad 3), .ref (ad 4), .ref (ad 5)])), (ad 1, .inr (4, [.int (σ 1 0), .ref (ad 7), .ref (ad 8), .int (σ 1 3), .ref (ad 9), .ref (ad 10), .ref (ad 11), .ref (ad 12), .ref (ad 13), .ref (ad 14)])), (ad 2, .inr (1, [.int (σ 2 0), .ref (ad 15), .ref (ad 16)])), (ad 3, .inr (0, [.int (σ 3 0), .ref (ad 17), .ref (ad 18), .ref (ad 19), .ref (ad 20)])), (ad 4, .inr (2, [.int (σ 4 0), .ref (ad 21), .ref (ad 22), .ref (ad 23), .ref (ad 24), .ref (ad 25), .ref (ad 26), .ref (ad 27), .ref (ad 28), .ref (ad 29), .ref (ad 30)])), (ad 5, .inr (5, [.ref (ad 1), .ref (ad 2), .ref (ad 4), .ref (ad 6), .int (σ 5 4), .int (σ 5 5)])), (ad 6, .inr (3, [.ref (ad 1), .ref (ad 3), .ref (ad 31), .int (σ 6 3), .ref (ad 32), .ref (ad 33), .ref (ad 34)])), (ad 7, .inl (cI, 12, .inl (σ 7))), (ad 8, .inl (cI, 12, .inl (σ 8))), (ad 9, .inl (cI, 80, .inl (σ 9))), (ad 10, .inl (cI, 80, .inl (σ 10))), (ad 11, .inl (cI, 80, .inl (σ 11))), (ad 12, .inl (cI, 80, .inl (σ 12))), (ad 13, .inl (cI, 80, .inl (σ 13))), (ad 14, .inl (cI, 80, .inl (σ 14))), (ad 15, .inl (cI, 24, .inl (σ 15))), (ad 16, .inl (cI, 24, .inl (σ 16))), (ad 17, .inl (cI, 16, .inl (σ 17))), (ad 18, .inl (cI, 16, .inl (σ 18))), (ad 19, .inl (cI, 16, .inl (σ 19))), (ad 20, .inl (cI, 32, .inl (σ 20))), (ad 21, .inl (cI, 24, .inl (σ 21))), (ad 22, .inl (cI, 24, .inl (σ 22))), (ad 23, .inl (cI, 24, .inl (σ 23))), (ad 24, .inl (cI, 24, .inl (σ 24))), (ad 25, .inl (cI, 24, .inl (σ 25))), (ad 26, .inl (cI, 24, .inl (σ 26))), (ad 27, .inl (cI, 24, .inl (σ 27))), (ad 28, .inl (cI, 24, .inl (σ 28))), (ad 29, .inl (cZ, 24, .inl (σ 29))), (ad 30, .inl (cI, 48, .inl (σ 30))), (ad 31, .inl (cI, 2, .inl (σ 31))), (ad 32, .inl (cI, 80, .inl (σ 32))), (ad 33, .inl (cI, 82, .inl (σ 33))), (ad 34, .inl (cI, 82, .inl (σ 34)))]
theorem tf_x_ad (ad : Nat → Nat) (cI cZ : ClassId) : tf_Ad (tf_wx ad cI cZ) := fun _ _ => rfl
theorem tf_xat_0 (ad : Nat → Nat) (cI cZ : ClassId) (σ : tf_S) : (tf_wx ad cI cZ σ)[0]? = some (ad 0, .inr (6, [.ref (ad 1), .ref (ad 2), .ref (ad 3), .ref (ad 4), .ref (ad 5)])) := rfl
theorem tf_xat_1 (ad : Nat → Nat) (cI cZ : ClassId) (σ : tf_S) : (tf_wx ad cI cZ σ)[1]? = some (ad 1, .inr (4, [.int (σ 1 0), .ref (ad 7), .ref (ad 8), .int (σ 1 3), .ref (ad 9), .ref (ad 10), .ref (ad 11), .ref (ad 12), .ref (ad 13), .ref (ad 14)])) := rfl
theorem tf_xput_1_0 (ad : Nat → Nat) (cI cZ : ClassId) (σ : tf_S) (x : Int32) : (tf_wx ad cI cZ σ).set 1 (ad 1, .inr (4, [.int (σ 1 0), .ref (ad 7), .ref (ad 8), .int (σ 1 3), .ref (ad 9), .ref (ad 10), .ref (ad 11), .ref (ad 12), .ref (ad 13), .ref (ad 14)].set 0 (.int x))) = tf_wx ad cI cZ (tf_wr σ 1 0 x) := rfl
theorem tf_xput_1_3 (ad : Nat → Nat) (cI cZ : ClassId) (σ : tf_S) (x : Int32) : (tf_wx ad cI cZ σ).set 1 (ad 1, .inr (4, [.int (σ 1 0), .ref (ad 7), .ref (ad 8), .int (σ 1 3), .ref (ad 9), .ref (ad 10), .ref (ad 11), .ref (ad 12), .ref (ad 13), .ref (ad 14)].set 3 (.int x))) = tf_wx ad cI cZ (tf_wr σ 1 3 x) := rfl
theorem tf_xat_2 (ad : Nat → Nat) (cI cZ : ClassId) (σ : tf_S) : (tf_wx ad cI cZ σ)[2]? = some (ad 2, .inr (1, [.int (σ 2 0), .ref (ad 15), .ref (ad 16)])) := rfl
theorem tf_xput_2_0 (ad : Nat → Nat) (cI cZ : ClassId) (σ : tf_S) (x : Int32) : (tf_wx ad cI cZ σ).set 2 (ad 2, .inr (1, [.int (σ 2 0), .ref (ad 15), .ref (ad 16)].set 0 (.int x))) = tf_wx ad cI cZ (tf_wr σ 2 0 x) := rfl
theorem tf_xat_3 (ad : Nat → Nat) (cI cZ : ClassId) (σ : tf_S) : (tf_wx ad cI cZ σ)[3]? = some (ad 3, .inr (0, [.int (σ 3 0), .ref (ad 17), .ref (ad 18), .ref (ad 19), .ref (ad 20)])) := rfl
theorem tf_xput_3_0 (ad : Nat → Nat) (cI cZ : ClassId) (σ : tf_S) (x : Int32) : (tf_wx ad cI cZ σ).set 3 (ad 3, .inr (0, [.int (σ 3 0), .ref (ad 17), .ref (ad 18), .ref (ad 19), .ref (ad 20)].set 0 (.int x))) = tf_wx ad cI cZ (tf_wr σ 3 0 x) := rfl
theorem tf_xat_4 (ad : Nat → Nat) (cI cZ : ClassId) (σ : tf_S) : (tf_wx ad cI cZ σ)[4]? = some (ad 4, .inr (2, [.int (σ 4 0), .ref (ad 21), .ref (ad 22), .ref (ad 23), .ref (ad 24), .ref (ad 25), .ref (ad 26), .ref (ad 27), .ref (ad 28), .ref (ad 29), .ref (ad 30)])) := rfl
theorem tf_xput_4_0 (ad : Nat → Nat) (cI cZ : ClassId) (σ : tf_S) (x : Int32) : (tf_wx ad cI cZ σ).set 4 (ad 4, .inr (2, [.int (σ 4 0), .ref (ad 21), .ref (ad 22), .ref (ad 23), .ref (ad 24), .ref (ad 25), .ref (ad 26), .ref (ad 27), .ref (ad 28), .ref (ad 29), .ref (ad 30)].set 0 (.int x))) = tf_wx ad cI cZ (tf_wr σ 4 0 x) := rfl
theorem tf_xat_5 (ad : Nat → Nat) (cI cZ : ClassId) (σ : tf_S) : (tf_wx ad cI cZ σ)[5]? = some (ad 5, .inr (5, [.ref (ad 1), .ref (ad 2), .ref (ad 4), .ref (ad 6), .int (σ 5 4), .int (σ 5 5)])) := rfl
theorem tf_xput_5_4 (ad : Nat → Nat) (cI cZ : ClassId) (σ : tf_S) (x : Int32) : (tf_wx ad cI cZ σ).set 5 (ad 5, .inr (5, [.ref (ad 1), .ref (ad 2), .ref (ad 4), .ref (ad 6), .int (σ 5 4), .int (σ 5 5)].set 4 (.int x))) = tf_wx ad cI cZ (tf_wr σ 5 4 x) := rfl
theorem tf_xput_5_5 (ad : Nat → Nat) (cI cZ : ClassId) (σ : tf_S) (x : Int32) : (tf_wx ad cI cZ σ).set 5 (ad 5, .inr (5, [.ref (ad 1), .ref (ad 2), .ref (ad 4), .ref (ad 6), .int (σ 5 4), .int (σ 5 5)].set 5 (.int x))) = tf_wx ad cI cZ (tf_wr σ 5 5 x) := rfl
theorem tf_xat_6 (ad : Nat → Nat) (cI cZ : ClassId) (σ : tf_S) : (tf_wx ad cI cZ σ)[6]? = some (ad 6, .inr (3, [.ref (ad 1), .ref (ad 3), .ref (ad 31), .int (σ 6 3), .ref (ad 32), .ref (ad 33), .ref (ad 34)])) := rfl
theorem tf_xput_6_3 (ad : Nat → Nat) (cI cZ : ClassId) (σ : tf_S) (x : Int32) : (tf_wx ad cI cZ σ).set 6 (ad 6, .inr (3, [.ref (ad 1), .ref (ad 3), .ref (ad 31), .int (σ 6 3), .ref (ad 32), .ref (ad 33), .ref (ad 34)].set 3 (.int x))) = tf_wx ad cI cZ (tf_wr σ 6 3 x) := rfl
theorem tf_xat_7 (ad : Nat → Nat) (cI cZ : ClassId) (σ : tf_S) : (tf_wx ad cI cZ σ)[7]? = some (ad 7, .inl (cI, 12, .inl (σ 7))) := rfl
theorem tf_xset_7 (ad : Nat → Nat) (cI cZ : ClassId) (σ : tf_S) (f : Nat → Int32) : (tf_wx ad cI cZ σ).set 7 (ad 7, .inl (cI, 12, .inl f)) = tf_wx ad cI cZ (tf_hs σ 7 f) := rfl
theorem tf_xat_8 (ad : Nat → Nat) (cI cZ : ClassId) (σ : tf_S) : (tf_wx ad cI cZ σ)[8]? = some (ad 8, .inl (cI, 12, .inl (σ 8))) := rfl
theorem tf_xset_8 (ad : Nat → Nat) (cI cZ : ClassId) (σ : tf_S) (f : Nat → Int32) : (tf_wx ad cI cZ σ).set 8 (ad 8, .inl (cI, 12, .inl f)) = tf_wx ad cI cZ (tf_hs σ 8 f) := rfl
theorem tf_xat_9 (ad : Nat → Nat) (cI cZ : ClassId) (σ : tf_S) : (tf_wx ad cI cZ σ)[9]? = some (ad 9, .inl (cI, 80, .inl (σ 9))) := rfl
theorem tf_xset_9 (ad : Nat → Nat) (cI cZ : ClassId) (σ : tf_S) (f : Nat → Int32) : (tf_wx ad cI cZ σ).set 9 (ad 9, .inl (cI, 80, .inl f)) = tf_wx ad cI cZ (tf_hs σ 9 f) := rfl
theorem tf_xat_10 (ad : Nat → Nat) (cI cZ : ClassId) (σ : tf_S) : (tf_wx ad cI cZ σ)[10]? = some (ad 10, .inl (cI, 80, .inl (σ 10))) := rfl
theorem tf_xset_10 (ad : Nat → Nat) (cI cZ : ClassId) (σ : tf_S) (f : Nat → Int32) : (tf_wx ad cI cZ σ).set 10 (ad 10, .inl (cI, 80, .inl f)) = tf_wx ad cI cZ (tf_hs σ 10 f) := rfl
theorem tf_xat_11 (ad : Nat → Nat) (cI cZ : ClassId) (σ : tf_S) : (tf_wx ad cI cZ σ)[11]? = some (ad 11, .inl (cI, 80, .inl (σ 11))) := rfl
theorem tf_xset_11 (ad : Nat → Nat) (cI cZ : ClassId) (σ : tf_S) (f : Nat → Int32) : (tf_wx ad cI cZ σ).set 11 (ad 11, .inl (cI, 80, .inl f)) = tf_wx ad cI cZ (tf_hs σ 11 f) := rfl
theorem tf_xat_12 (ad : Nat → Nat) (cI cZ : ClassId) (σ : tf_S) : (tf_wx ad cI cZ σ)[12]? = some (ad 12, .inl (cI, 80, .inl (σ 12))) := rfl
theorem tf_xset_12 (ad : Nat → Nat) (cI cZ : ClassId) (σ : tf_S) (f : Nat → Int32) : (tf_wx ad cI cZ σ).set 12 (ad 12, .inl (cI, 80, .inl f)) = tf_wx ad cI cZ (tf_hs σ 12 f) := rfl
theorem tf_xat_13 (ad : Nat → Nat) (cI cZ : ClassId) (σ : tf_S) : (tf_wx ad cI cZ σ)[13]? = some (ad 13, .inl (cI, 80, .inl (σ 13))) := rfl
theorem tf_xset_13 (ad : Nat → Nat) (cI cZ : ClassId) (σ : tf_S) (f : Nat → Int32) : (tf_wx ad cI cZ σ).set 13 (ad 13, .inl (cI, 80, .inl f)) = tf_wx ad cI cZ (tf_hs σ 13 f) := rfl
theorem tf_xat_14 (ad : Nat → Nat) (cI cZ : ClassId) (σ : tf_S) : (tf_wx ad cI cZ σ)[14]? = some (ad 14, .inl (cI, 80, .inl (σ 14))) := rfl
theorem tf_xset_14 (ad : Nat → Nat) (cI cZ : ClassId) (σ : tf_S) (f : Nat → Int32) : (tf_wx ad cI cZ σ).set 14 (ad 14, .inl (cI, 80, .inl f)) = tf_wx ad cI cZ (tf_hs σ 14 f) := rfl
theorem tf_xat_15 (ad : Nat → Nat) (cI cZ : ClassId) (σ : tf_S) : (tf_wx ad cI cZ σ)[15]? = some (ad 15, .inl (cI, 24, .inl (σ 15))) := rfl
theorem tf_xset_15 (ad : Nat → Nat) (cI cZ : ClassId) (σ : tf_S) (f : Nat → Int32) : (tf_wx ad cI cZ σ).set 15 (ad 15, .inl (cI, 24, .inl f)) = tf_wx ad cI cZ (tf_hs σ 15 f) := rfl
theorem tf_xat_16 (ad : Nat → Nat) (cI cZ : ClassId) (σ : tf_S) : (tf_wx ad cI cZ σ)[16]? = some (ad 16, .inl (cI, 24, .inl (σ 16))) := rfl
theorem tf_xset_16 (ad : Nat → Nat) (cI cZ : ClassId) (σ : tf_S) (f : Nat → Int32) : (tf_wx ad cI cZ σ).set 16 (ad 16, .inl (cI, 24, .inl f)) = tf_wx ad cI cZ (tf_hs σ 16 f) := rfl
theorem tf_xat_17 (ad : Nat → Nat) (cI cZ : ClassId) (σ : tf_S) : (tf_wx ad cI cZ σ)[17]? = some (ad 17, .inl (cI, 16, .inl (σ 17))) := rfl
theorem tf_xset_17 (ad : Nat → Nat) (cI cZ : ClassId) (σ : tf_S) (f : Nat → Int32) : (tf_wx ad cI cZ σ).set 17 (ad 17, .inl (cI, 16, .inl f)) = tf_wx ad cI cZ (tf_hs σ 17 f) := rfl
theorem tf_xat_18 (ad : Nat → Nat) (cI cZ : ClassId) (σ : tf_S) : (tf_wx ad cI cZ σ)[18]? = some (ad 18, .inl (cI, 16, .inl (σ 18))) := rfl
theorem tf_xset_18 (ad : Nat → Nat) (cI cZ : ClassId) (σ : tf_S) (f : Nat → Int32) : (tf_wx ad cI cZ σ).set 18 (ad 18, .inl (cI, 16, .inl f)) = tf_wx ad cI cZ (tf_hs σ 18 f) := rfl
theorem tf_xat_19 (ad : Nat → Nat) (cI cZ : ClassId) (σ : tf_S) : (tf_wx ad cI cZ σ)[19]? = some (ad 19, .inl (cI, 16, .inl (σ 19))) := rfl
theorem tf_xset_19 (ad : Nat → Nat) (cI cZ : ClassId) (σ : tf_S) (f : Nat → Int32) : (tf_wx ad cI cZ σ).set 19 (ad 19, .inl (cI, 16, .inl f)) = tf_wx ad cI cZ (tf_hs σ 19 f) := rfl
theorem tf_xat_20 (ad : Nat → Nat) (cI cZ : ClassId) (σ : tf_S) : (tf_wx ad cI cZ σ)[20]? = some (ad 20, .inl (cI, 32, .inl (σ 20))) := rfl
theorem tf_xset_20 (ad : Nat → Nat) (cI cZ : ClassId) (σ : tf_S) (f : Nat → Int32) : (tf_wx ad cI cZ σ).set 20 (ad 20, .inl (cI, 32, .inl f)) = tf_wx ad cI cZ (tf_hs σ 20 f) := rfl
theorem tf_xat_21 (ad : Nat → Nat) (cI cZ : ClassId) (σ : tf_S) : (tf_wx ad cI cZ σ)[21]? = some (ad 21, .inl (cI, 24, .inl (σ 21))) := rfl
theorem tf_xset_21 (ad : Nat → Nat) (cI cZ : ClassId) (σ : tf_S) (f : Nat → Int32) : (tf_wx ad cI cZ σ).set 21 (ad 21, .inl (cI, 24, .inl f)) = tf_wx ad cI cZ (tf_hs σ 21 f) := rfl
theorem tf_xat_22 (ad : Nat → Nat) (cI cZ : ClassId) (σ : tf_S) : (tf_wx ad cI cZ σ)[22]? = some (ad 22, .inl (cI, 24, .inl (σ 22))) := rfl
theorem tf_xset_22 (ad : Nat → Nat) (cI cZ : ClassId) (σ : tf_S) (f : Nat → Int32) : (tf_wx ad cI cZ σ).set 22 (ad 22, .inl (cI, 24, .inl f)) = tf_wx ad cI cZ (tf_hs σ 22 f) := rfl
theorem tf_xat_23 (ad : Nat → Nat) (cI cZ : ClassId) (σ : tf_S) : (tf_wx ad cI cZ σ)[23]? = some (ad 23, .inl (cI, 24, .inl (σ 23))) := rfl
theorem tf_xset_23 (ad : Nat → Nat) (cI cZ : ClassId) (σ : tf_S) (f : Nat → Int32) : (tf_wx ad cI cZ σ).set 23 (ad 23, .inl (cI, 24, .inl f)) = tf_wx ad cI cZ (tf_hs σ 23 f) := rfl
theorem tf_xat_24 (ad : Nat → Nat) (cI cZ : ClassId) (σ : tf_S) : (tf_wx ad cI cZ σ)[24]? = some (ad 24, .inl (cI, 24, .inl (σ 24))) := rfl
theorem tf_xset_24 (ad : Nat → Nat) (cI cZ : ClassId) (σ : tf_S) (f : Nat → Int32) : (tf_wx ad cI cZ σ).set 24 (ad 24, .inl (cI, 24, .inl f)) = tf_wx ad cI cZ (tf_hs σ 24 f) := rfl
theorem tf_xat_25 (ad : Nat → Nat) (cI cZ : ClassId) (σ : tf_S) : (tf_wx ad cI cZ σ)[25]? = some (ad 25, .inl (cI, 24, .inl (σ 25))) := rfl
theorem tf_xset_25 (ad : Nat → Nat) (cI cZ : ClassId) (σ : tf_S) (f : Nat → Int32) : (tf_wx ad cI cZ σ).set 25 (ad 25, .inl (cI, 24, .inl f)) = tf_wx ad cI cZ (tf_hs σ 25 f) := rfl
theorem tf_xat_26 (ad : Nat → Nat) (cI cZ : ClassId) (σ : tf_S) : (tf_wx ad cI cZ σ)[26]? = some (ad 26, .inl (cI, 24, .inl (σ 26))) := rfl
theorem tf_xset_26 (ad : Nat → Nat) (cI cZ : ClassId) (σ : tf_S) (f : Nat → Int32) : (tf_wx ad cI cZ σ).set 26 (ad 26, .inl (cI, 24, .inl f)) = tf_wx ad cI cZ (tf_hs σ 26 f) := rfl
theorem tf_xat_27 (ad : Nat → Nat) (cI cZ : ClassId) (σ : tf_S) : (tf_wx ad cI cZ σ)[27]? = some (ad 27, .inl (cI, 24, .inl (σ 27))) := rfl
theorem tf_xset_27 (ad : Nat → Nat) (cI cZ : ClassId) (σ : tf_S) (f : Nat → Int32) : (tf_wx ad cI cZ σ).set 27 (ad 27, .inl (cI, 24, .inl f)) = tf_wx ad cI cZ (tf_hs σ 27 f) := rfl
theorem tf_xat_28 (ad : Nat → Nat) (cI cZ : ClassId) (σ : tf_S) : (tf_wx ad cI cZ σ)[28]? = some (ad 28, .inl (cI, 24, .inl (σ 28))) := rfl
theorem tf_xset_28 (ad : Nat → Nat) (cI cZ : ClassId) (σ : tf_S) (f : Nat → Int32) : (tf_wx ad cI cZ σ).set 28 (ad 28, .inl (cI, 24, .inl f)) = tf_wx ad cI cZ (tf_hs σ 28 f) := rfl
theorem tf_xat_29 (ad : Nat → Nat) (cI cZ : ClassId) (σ : tf_S) : (tf_wx ad cI cZ σ)[29]? = some (ad 29, .inl (cZ, 24, .inl (σ 29))) := rfl
theorem tf_xset_29 (ad : Nat → Nat) (cI cZ : ClassId) (σ : tf_S) (f : Nat → Int32) : (tf_wx ad cI cZ σ).set 29 (ad 29, .inl (cZ, 24, .inl f)) = tf_wx ad cI cZ (tf_hs σ 29 f) := rfl
theorem tf_xat_30 (ad : Nat → Nat) (cI cZ : ClassId) (σ : tf_S) : (tf_wx ad cI cZ σ)[30]? = some (ad 30, .inl (cI, 48, .inl (σ 30))) := rfl
theorem tf_xset_30 (ad : Nat → Nat) (cI cZ : ClassId) (σ : tf_S) (f : Nat → Int32) : (tf_wx ad cI cZ σ).set 30 (ad 30, .inl (cI, 48, .inl f)) = tf_wx ad cI cZ (tf_hs σ 30 f) := rfl
theorem tf_xat_31 (ad : Nat → Nat) (cI cZ : ClassId) (σ : tf_S) : (tf_wx ad cI cZ σ)[31]? = some (ad 31, .inl (cI, 2, .inl (σ 31))) := rfl
theorem tf_xset_31 (ad : Nat → Nat) (cI cZ : ClassId) (σ : tf_S) (f : Nat → Int32) : (tf_wx ad cI cZ σ).set 31 (ad 31, .inl (cI, 2, .inl f)) = tf_wx ad cI cZ (tf_hs σ 31 f) := rfl
theorem tf_xat_32 (ad : Nat → Nat) (cI cZ : ClassId) (σ : tf_S) : (tf_wx ad cI cZ σ)[32]? = some (ad 32, .inl (cI, 80, .inl (σ 32))) := rfl
theorem tf_xset_32 (ad : Nat → Nat) (cI cZ : ClassId) (σ : tf_S) (f : Nat → Int32) : (tf_wx ad cI cZ σ).set 32 (ad 32, .inl (cI, 80, .inl f)) = tf_wx ad cI cZ (tf_hs σ 32 f) := rfl
theorem tf_xat_33 (ad : Nat → Nat) (cI cZ : ClassId) (σ : tf_S) : (tf_wx ad cI cZ σ)[33]? = some (ad 33, .inl (cI, 82, .inl (σ 33))) := rfl
theorem tf_xset_33 (ad : Nat → Nat) (cI cZ : ClassId) (σ : tf_S) (f : Nat → Int32) : (tf_wx ad cI cZ σ).set 33 (ad 33, .inl (cI, 82, .inl f)) = tf_wx ad cI cZ (tf_hs σ 33 f) := rfl
theorem tf_xat_34 (ad : Nat → Nat) (cI cZ : ClassId) (σ : tf_S) : (tf_wx ad cI cZ σ)[34]? = some (ad 34, .inl (cI, 82, .inl (σ 34))) := rfl
theorem tf_xset_34 (ad : Nat → Nat) (cI cZ : ClassId) (σ : tf_S) (f : Nat → Int32) : (tf_wx ad cI cZ σ).set 34 (ad 34, .inl (cI, 82, .inl f)) = tf_wx ad cI cZ (tf_hs σ 34 f) := rfl
/-- the world of T -/
def tf_wt (ad : Nat → Nat) (cI cZ : ClassId) (σ : tf_S) : va_W := [(ad 1, .inr (4, [.int (σ 1 0), .ref (ad 7), .ref (ad 8), .int (σ 1 3), .ref (ad 9), .ref (ad 10), .ref (ad 11), .ref (ad 12), .ref (ad 13), .ref (ad 14)])), (ad 7, .inl (cI, 12, .inl (σ 7))), (ad 8, .inl (cI, 12, .inl (σ 8))), (ad 9, .inl (cI, 80, .inl (σ 9))), (ad 10, .inl (cI, 80, .inl (σ 10))), (ad 11, .inl (cI, 80, .inl (σ 11))), (ad 12, .inl (cI, 80, .inl (σ 12))), (ad 13, .inl (cI, 80, .inl (σ 13))), (ad 14, .inl (cI, 80, .inl (σ 14)))]
theorem tf_t_ad (ad : Nat → Nat) (cI cZ : ClassId) : tf_Ad (tf_wt ad cI cZ) := fun _ _ => rfl
theorem tf_tat_1 (ad : Nat → Nat) (cI cZ : ClassId) (σ : tf_S) : (tf_wt ad cI cZ σ)[0]? = some (ad 1, .inr (4, [.int (σ 1 0), .ref (ad 7), .ref (ad 8), .int (σ 1 3), .ref (ad 9), .ref (ad 10), .ref (ad 11), .ref (ad 12), .ref (ad 13), .ref (ad 14)])) := rfl
theorem tf_tput_1_0 (ad : Nat → Nat) (cI cZ : ClassId) (σ : tf_S) (x : Int32) : (tf_wt ad cI cZ σ).set 0 (ad 1, .inr (4, [.int (σ 1 0), .ref (ad 7), .ref (ad 8), .int (σ 1 3), .ref (ad 9), .ref (ad 10), .ref (ad 11), .ref (ad 12), .ref (ad 13), .ref (ad 14)].set 0 (.int x))) = tf_wt ad cI cZ (tf_wr σ 1 0 x) := rfl
theorem tf_tput_1_3 (ad : Nat → Nat) (cI cZ : ClassId) (σ : tf_S) (x : Int32) : (tf_wt ad cI cZ σ).set 0 (ad 1, .inr (4, [.int (σ 1 0), .ref (ad 7), .ref (ad 8), .int (σ 1 3), .ref (ad 9), .ref (ad 10), .ref (ad 11), .ref (ad 12), .ref (ad 13), .ref (ad 14)].set 3 (.int x))) = tf_wt ad cI cZ (tf_wr σ 1 3 x) := rfl
theorem tf_tat_7 (ad : Nat → Nat) (cI cZ : ClassId) (σ : tf_S) : (tf_wt ad cI cZ σ)[1]? = some (ad 7, .inl (cI, 12, .inl (σ 7))) := rfl
theorem tf_tset_7 (ad : Nat → Nat) (cI cZ : ClassId) (σ : tf_S) (f : Nat → Int32) : (tf_wt ad cI cZ σ).set 1 (ad 7, .inl (cI, 12, .inl f)) = tf_wt ad cI cZ (tf_hs σ 7 f) := rfl
theorem tf_tat_8 (ad : Nat → Nat) (cI cZ : ClassId) (σ : tf_S) : (tf_wt ad cI cZ σ)[2]? = some (ad 8, .inl (cI, 12, .inl (σ 8))) := rfl
theorem tf_tset_8 (ad : Nat → Nat) (cI cZ : ClassId) (σ : tf_S) (f : Nat → Int32) : (tf_wt ad cI cZ σ).set 2 (ad 8, .inl (cI, 12, .inl f)) = tf_wt ad cI cZ (tf_hs σ 8 f) := rfl
theorem tf_tat_9 (ad : Nat → Nat) (cI cZ : ClassId) (σ : tf_S) : (tf_wt ad cI cZ σ)[3]? = some (ad 9, .inl (cI, 80, .inl (σ 9))) := rfl
theorem tf_tset_9 (ad : Nat → Nat) (cI cZ : ClassId) (σ : tf_S) (f : Nat → Int32) : (tf_wt ad cI cZ σ).set 3 (ad 9, .inl (cI, 80, .inl f)) = tf_wt ad cI cZ (tf_hs σ 9 f) := rfl
theorem tf_tat_10 (ad : Nat → Nat) (cI cZ : ClassId) (σ : tf_S) : (tf_wt ad cI cZ σ)[4]? = some (ad 10, .inl (cI, 80, .inl (σ 10))) := rfl
theorem tf_tset_10 (ad : Nat → Nat) (cI cZ : ClassId) (σ : tf_S) (f : Nat → Int32) : (tf_wt ad cI cZ σ).set 4 (ad 10, .inl (cI, 80, .inl f)) = tf_wt ad cI cZ (tf_hs σ 10 f) := rfl
theorem tf_tat_11 (ad : Nat → Nat) (cI cZ : ClassId) (σ : tf_S) : (tf_wt ad cI cZ σ)[5]? = some (ad 11, .inl (cI, 80, .inl (σ 11))) := rfl
theorem tf_tset_11 (ad : Nat → Nat) (cI cZ : ClassId) (σ : tf_S) (f : Nat → Int32) : (tf_wt ad cI cZ σ).set 5 (ad 11, .inl (cI, 80, .inl f)) = tf_wt ad cI cZ (tf_hs σ 11 f) := rfl
theorem tf_tat_12 (ad : Nat → Nat) (cI cZ : ClassId) (σ : tf_S) : (tf_wt ad cI cZ σ)[6]? = some (ad 12, .inl (cI, 80, .inl (σ 12))) := rfl
theorem tf_tset_12 (ad : Nat → Nat) (cI cZ : ClassId) (σ : tf_S) (f : Nat → Int32) : (tf_wt ad cI cZ σ).set 6 (ad 12, .inl (cI, 80, .inl f)) = tf_wt ad cI cZ (tf_hs σ 12 f) := rfl
theorem tf_tat_13 (ad : Nat → Nat) (cI cZ : ClassId) (σ : tf_S) : (tf_wt ad cI cZ σ)[7]? = some (ad 13, .inl (cI, 80, .inl (σ 13))) := rfl
theorem tf_tset_13 (ad : Nat → Nat) (cI cZ : ClassId) (σ : tf_S) (f : Nat → Int32) : (tf_wt ad cI cZ σ).set 7 (ad 13, .inl (cI, 80, .inl f)) = tf_wt ad cI cZ (tf_hs σ 13 f) := rfl
theorem tf_tat_14 (ad : Nat → Nat) (cI cZ : ClassId) (σ : tf_S) : (tf_wt ad cI cZ σ)[8]? = some (ad 14, .inl (cI, 80, .inl (σ 14))) := rfl
theorem tf_tset_14 (ad : Nat → Nat) (cI cZ : ClassId) (σ : tf_S) (f : Nat → Int32) : (tf_wt ad cI cZ σ).set 8 (ad 14, .inl (cI, 80, .inl f)) = tf_wt ad cI cZ (tf_hs σ 14 f) := rfl
/-- the world of M -/
def tf_wm (ad : Nat → Nat) (cI cZ : ClassId) (σ : tf_S) : va_W := [(ad 0, .inr (7, [.int (σ 0 0), .ref (ad 1), .ref (ad 2), .int (σ 0 3), .ref (ad 3), .ref (ad 4), .ref (ad 5), .ref (ad 6), .ref (ad 7), .ref (ad 8), .int (σ 0 10), .int (σ 0 11), .ref (ad 9), .ref (ad 10), .int (σ 0 14), .ref (ad 11), .ref (ad 12), .ref (ad 13), .ref (ad 14), .ref (ad 15), .int (σ 0 20), .ref (ad 16), .ref (ad 17), .int (σ 0 23), .int (σ 0 24), .ref (ad 18), .ref (ad 19), .ref (ad 20), .ref (ad 21), .ref (ad 22), .ref (ad 23), .ref (ad 24), .ref (ad 25), .ref (ad 26), .ref (ad 27)])), (ad 1, .inl (cI, 12, .inl (σ 1))), (ad 2, .inl (cI, 12, .inl (σ 2))), (ad 3, .inl (cI, 80, .inl (σ 3))), (ad 4, .inl (cI, 80, .inl (σ 4))), (ad 5, .inl (cI, 80, .inl (σ 5))), (ad 6, .inl (cI, 80, .inl (σ 6))), (ad 7, .inl (cI, 80, .inl (σ 7))), (ad 8, .inl (cI, 200, .inl (σ 8))), (ad 9, .inl (cI, 24, .inl (σ 9))), (ad 10, .inl (cI, 24, .inl (σ 10))), (ad 11, .inl (cI, 16, .inl (σ 11))), (ad 12, .inl (cI, 16, .inl (σ 12))), (ad 13, .inl (cI, 16, .inl (σ 13))), (ad 14, .inl (cI, 32, .inl (σ 14))), (ad 15, .inl (cI, 2, .inl (σ 15))), (ad 16, .inl (cI, 400, .inl (σ 16))), (ad 17, .inl (cZ, 6400, .inl (σ 17))), (ad 18, .inl (cI, 24, .inl (σ 18))), (ad 19, .inl (cI, 24, .inl (σ 19))), (ad 20, .inl (cI, 24, .inl (σ 20))), (ad 21, .inl (cI, 24, .inl (σ 21))), (ad 22, .inl (cI, 24, .inl (σ 22))), (ad 23, .inl (cI, 24, .inl (σ 23))), (ad 24, .inl (cI, 24, .inl (σ 24))), (ad 25, .inl (cI, 24, .inl (σ 25))), (ad 26, .inl (cZ, 24, .inl (σ 26))), (ad 27, .inl (cI, 48, .inl (σ 27)))]
theorem tf_m_ad (ad : Nat → Nat) (cI cZ : ClassId) : tf_Ad (tf_wm ad cI cZ) := fun _ _ => rfl
theorem tf_mat_0 (ad : Nat → Nat) (cI cZ : ClassId) (σ : tf_S) : (tf_wm ad cI cZ σ)[0]? = some (ad 0, .inr (7, [.int (σ 0 0), .ref (ad 1), .ref (ad 2), .int (σ 0 3), .ref (ad 3), .ref (ad 4), .ref (ad 5), .ref (ad 6), .ref (ad 7), .ref (ad 8), .int (σ 0 10), .int (σ 0 11), .ref (ad 9), .ref (ad 10), .int (σ 0 14), .ref (ad 11), .ref (ad 12), .ref (ad 13), .ref (ad 14), .ref (ad 15), .int (σ 0 20), .ref (ad 16), .ref (ad 17), .int (σ 0 23), .int (σ 0 24), .ref (ad 18), .ref (ad 19), .ref (ad 20), .ref (ad 21), .ref (ad 22), .ref (ad 23), .ref (ad 24), .ref (ad 25), .ref (ad 26), .ref (ad 27)])) := rfl
theorem tf_mput_0_0 (ad : Nat → Nat) (cI cZ : ClassId) (σ : tf_S) (x : Int32) : (tf_wm ad cI cZ σ).set 0 (ad 0, .inr (7, [.int (σ 0 0), .ref (ad 1), .ref (ad 2), .int (σ 0 3), .ref (ad 3), .ref (ad 4), .ref (ad 5), .ref (ad 6), .ref (ad 7), .ref (ad 8), .int (σ 0 10), .int (σ 0 11), .ref (ad 9), .ref (ad 10), .int (σ 0 14), .ref (ad 11), .ref (ad 12), .ref (ad 13), .ref (ad 14), .ref (ad 15), .int (σ 0 20), .ref (ad 16), .ref (ad 17), .int (σ 0 23), .int (σ 0 24), .ref (ad 18), .ref (ad 19), .ref (ad 20), .ref (ad 21), .ref (ad 22), .ref (ad 23), .ref (ad 24), .ref (ad 25), .ref (ad 26), .ref (ad 27)].set 0 (.int x))) = tf_wm ad cI cZ (tf_wr σ 0 0 x) := rfl
theorem tf_mput_0_3 (ad : Nat → Nat) (cI cZ : ClassId) (σ : tf_S) (x : Int32) : (tf_wm ad cI cZ σ).set 0 (ad 0, .inr (7, [.int (σ 0 0), .ref (ad 1), .ref (ad 2), .int (σ 0 3), .ref (ad 3), .ref (ad 4), .ref (ad 5), .ref (ad 6), .ref (ad 7), .ref (ad 8), .int (σ 0 10), .int (σ 0 11), .ref (ad 9), .ref (ad 10), .int (σ 0 14), .ref (ad 11), .ref (ad 12), .ref (ad 13), .ref (ad 14), .ref (ad 15), .int (σ 0 20), .ref (ad 16), .ref (ad 17), .int (σ 0 23), .int (σ 0 24), .ref (ad 18), .ref (ad 19), .ref (ad 20), .ref (ad 21), .ref (ad 22), .ref (ad 23), .ref (ad 24), .ref (ad 25), .ref (ad 26), .ref (ad 27)].set 3 (.int x))) = tf_wm ad cI cZ (tf_wr σ 0 3 x) := rfl
theorem tf_mput_0_10 (ad : Nat → Nat) (cI cZ : ClassId) (σ : tf_S) (x : Int32) : (tf_wm ad cI cZ σ).set 0 (ad 0, .inr (7, [.int (σ 0 0), .ref (ad 1), .ref (ad 2), .int (σ 0 3), .ref (ad 3), .ref (ad 4), .ref (ad 5), .ref (ad 6), .ref (ad 7), .ref (ad 8), .int (σ 0 10), .int (σ 0 11), .ref (ad 9), .ref (ad 10), .int (σ 0 14), .ref (ad 11), .ref (ad 12), .ref (ad 13), .ref (ad 14), .ref (ad 15), .int (σ 0 20), .ref (ad 16), .ref (ad 17), .int (σ 0 23), .int (σ 0 24), .ref (ad 18), .ref (ad 19), .ref (ad 20), .ref (ad 21), .ref (ad 22), .ref (ad 23), .ref (ad 24), .ref (ad 25), .ref (ad 26), .ref (ad 27)].set 10 (.int x))) = tf_wm ad cI cZ (tf_wr σ 0 10 x) := rfl
theorem tf_mput_0_11 (ad : Nat → Nat) (cI cZ : ClassId) (σ : tf_S) (x : Int32) : (tf_wm ad cI cZ σ).set 0 (ad 0, .inr (7, [.int (σ 0 0), .ref (ad 1), .ref (ad 2), .int (σ 0 3), .ref (ad 3), .ref (ad 4), .ref (ad 5), .ref (ad 6), .ref (ad 7), .ref (ad 8), .int (σ 0 10), .int (σ 0 11), .ref (ad 9), .ref (ad 10), .int (σ 0 14), .ref (ad 11), .ref (ad 12), .ref (ad 13), .ref (ad 14), .ref (ad 15), .int (σ 0 20), .ref (ad 16), .ref (ad 17), .int (σ 0 23), .int (σ 0 24), .ref (ad 18), .ref (ad 19), .ref (ad 20), .ref (ad 21), .ref (ad 22), .ref (ad 23), .ref (ad 24), .ref (ad 25), .ref (ad 26), .ref (ad 27)].set 11 (.int x))) = tf_wm ad cI cZ (tf_wr σ 0 11 x) := rfl
theorem tf_mput_0_14 (ad : Nat → Nat) (cI cZ : ClassId) (σ : tf_S) (x : Int32) : (tf_wm ad cI cZ σ).set 0 (ad 0, .inr (7, [.int (σ 0 0), .ref (ad 1), .ref (ad 2), .int (σ 0 3), .ref (ad 3), .ref (ad 4), .ref (ad 5), .ref (ad 6), .ref (ad 7), .ref (ad 8), .int (σ 0 10), .int (σ 0 11), .ref (ad 9), .ref (ad 10), .int (σ 0 14), .ref (ad 11), .ref (ad 12), .ref (ad 13), .ref (ad 14), .ref (ad 15), .int (σ 0 20), .ref (ad 16), .ref (ad 17), .int (σ 0 23), .int (σ 0 24), .ref (ad 18), .ref (ad 19), .ref (ad 20), .ref (ad 21), .ref (ad 22), .ref (ad 23), .ref (ad 24), .ref (ad 25), .ref (ad 26), .ref (ad 27)].set 14 (.int x))) = tf_wm ad cI cZ (tf_wr σ 0 14 x) := rfl
theorem tf_mput_0_20 (ad : Nat → Nat) (cI cZ : ClassId) (σ : tf_S) (x : Int32) : (tf_wm ad cI cZ σ).set 0 (ad 0, .inr (7, [.int (σ 0 0), .ref (ad 1), .ref (ad 2), .int (σ 0 3), .ref (ad 3), .ref (ad 4), .ref (ad 5), .ref (ad 6), .ref (ad 7), .ref (ad 8), .int (σ 0 10), .int (σ 0 11), .ref (ad 9), .ref (ad 10), .int (σ 0 14), .ref (ad 11), .ref (ad 12), .ref (ad 13), .ref (ad 14), .ref (ad 15), .int (σ 0 20), .ref (ad 16), .ref (ad 17), .int (σ 0 23), .int (σ 0 24), .ref (ad 18), .ref (ad 19), .ref (ad 20), .ref (ad 21), .ref (ad 22), .ref (ad 23), .ref (ad 24), .ref (ad 25), .ref (ad 26), .ref (ad 27)].set 20 (.int x))) = tf_wm ad cI cZ (tf_wr σ 0 20 x) := rfl
theorem tf_mput_0_23 (ad : Nat → Nat) (cI cZ : ClassId) (σ : tf_S) (x : Int32) : (tf_wm ad cI cZ σ).set 0 (ad 0, .inr (7, [.int (σ 0 0), .ref (ad 1), .ref (ad 2), .int (σ 0 3), .ref (ad 3), .ref (ad 4), .ref (ad 5), .ref (ad 6), .ref (ad 7), .ref (ad 8), .int (σ 0 10), .int (σ 0 11), .ref (ad 9), .ref (ad 10), .int (σ 0 14), .ref (ad 11), .ref (ad 12), .ref (ad 13), .ref (ad 14), .ref (ad 15), .int (σ 0 20), .ref (ad 16), .ref (ad 17), .int (σ 0 23), .int (σ 0 24), .ref (ad 18), .ref (ad 19), .ref (ad 20), .ref (ad 21), .ref (ad 22), .ref (ad 23), .ref (ad 24), .ref (ad 25), .ref (ad 26), .ref (ad 27)].set 23 (.int x))) = tf_wm ad cI cZ (tf_wr σ 0 23 x) := rfl
theorem tf_mput_0_24 (ad : Nat → Nat) (cI cZ : ClassId) (σ : tf_S) (x : Int32) : (tf_wm ad cI cZ σ).set 0 (ad 0, .inr (7, [.int (σ 0 0), .ref (ad 1), .ref (ad 2), .int (σ 0 3), .ref (ad 3), .ref (ad 4), .ref (ad 5), .ref (ad 6), .ref (ad 7), .ref (ad 8), .int (σ 0 10), .int (σ 0 11), .ref (ad 9), .ref (ad 10), .int (σ 0 14), .ref (ad 11), .ref (ad 12), .ref (ad 13), .ref (ad 14), .ref (ad 15), .int (σ 0 20), .ref (ad 16), .ref (ad 17), .int (σ 0 23), .int (σ 0 24), .ref (ad 18), .ref (ad 19), .ref (ad 20), .ref (ad 21), .ref (ad 22), .ref (ad 23), .ref (ad 24), .ref (ad 25), .ref (ad 26), .ref (ad 27)].set 24 (.int x))) = tf_wm ad cI cZ (tf_wr σ 0 24 x) := rfl
theorem tf_mat_1 (ad : Nat → Nat) (cI cZ : ClassId) (σ : tf_S) : (tf_wm ad cI cZ σ)[1]? = some (ad 1, .inl (cI, 12, .inl (σ 1))) := rfl
theorem tf_mset_1 (ad : Nat → Nat) (cI cZ : ClassId) (σ : tf_S) (f : Nat → Int32) : (tf_wm ad cI cZ σ).set 1 (ad 1, .inl (cI, 12, .inl f)) = tf_wm ad cI cZ (tf_hs σ 1 f) := rfl
theorem tf_mat_2 (ad : Nat → Nat) (cI cZ : ClassId) (σ : tf_S) : (tf_wm ad cI cZ σ)[2]? = some (ad 2, .inl (cI, 12, .inl (σ 2))) := rfl
theorem tf_mset_2 (ad : Nat → Nat) (cI cZ : ClassId) (σ : tf_S) (f : Nat → Int32) : (tf_wm ad cI cZ σ).set 2 (ad 2, .inl (cI, 12, .inl f)) = tf_wm ad cI cZ (tf_hs σ 2 f) := rfl
theorem tf_mat_3 (ad : Nat → Nat) (cI cZ : ClassId) (σ : tf_S) : (tf_wm ad cI cZ σ)[3]? = some (ad 3, .inl (cI, 80, .inl (σ 3))) := rfl
theorem tf_mset_3 (ad : Nat → Nat) (cI cZ : ClassId) (σ : tf_S) (f : Nat → Int32) : (tf_wm ad cI cZ σ).set 3 (ad 3, .inl (cI, 80, .inl f)) = tf_wm ad cI cZ (tf_hs σ 3 f) := rfl
theorem tf_mat_4 (ad : Nat → Nat) (cI cZ : ClassId) (σ : tf_S) : (tf_wm ad cI cZ σ)[4]? = some (ad 4, .inl (cI, 80, .inl (σ 4))) := rfl
theorem tf_mset_4 (ad : Nat → Nat) (cI cZ : ClassId) (σ : tf_S) (f : Nat → Int32) : (tf_wm ad cI cZ σ).set 4 (ad 4, .inl (cI, 80, .inl f)) = tf_wm ad cI cZ (tf_hs σ 4 f) := rfl
theorem tf_mat_5 (ad : Nat → Nat) (cI cZ : ClassId) (σ : tf_S) : (tf_wm ad cI cZ σ)[5]? = some (ad 5, .inl (cI, 80, .inl (σ 5))) := rfl
theorem tf_mset_5 (ad : Nat → Nat) (cI cZ : ClassId) (σ : tf_S) (f : Nat → Int32) : (tf_wm ad cI cZ σ).set 5 (ad 5, .inl (cI, 80, .inl f)) = tf_wm ad cI cZ (tf_hs σ 5 f) := rfl
theorem tf_mat_6 (ad : Nat → Nat) (cI cZ : ClassId) (σ : tf_S) : (tf_wm ad cI cZ σ)[6]? = some (ad 6, .inl (cI, 80, .inl (σ 6))) := rfl
theorem tf_mset_6 (ad : Nat → Nat) (cI cZ : ClassId) (σ : tf_S) (f : Nat → Int32) : (tf_wm ad cI cZ σ).set 6 (ad 6, .inl (cI, 80, .inl f)) = tf_wm ad cI cZ (tf_hs σ 6 f) := rfl
theorem tf_mat_7 (ad : Nat → Nat) (cI cZ : ClassId) (σ : tf_S) : (tf_wm ad cI cZ σ)[7]? = some (ad 7, .inl (cI, 80, .inl (σ 7))) := rfl
theorem tf_mset_7 (ad : Nat → Nat) (cI cZ : ClassId) (σ : tf_S) (f : Nat → Int32) : (tf_wm ad cI cZ σ).set 7 (ad 7, .inl (cI, 80, .inl f)) = tf_wm ad cI cZ (tf_hs σ 7 f) := rfl
theorem tf_mat_8 (ad : Nat → Nat) (cI cZ : ClassId) (σ : tf_S) : (tf_wm ad cI cZ σ)[8]? = some (ad 8, .inl (cI, 200, .inl (σ 8))) := rfl
theorem tf_mset_8 (ad : Nat → Nat) (cI cZ : ClassId) (σ : tf_S) (f : Nat → Int32) : (tf_wm ad cI cZ σ).set 8 (ad 8, .inl (cI, 200, .inl f)) = tf_wm ad cI cZ (tf_hs σ 8 f) := rfl
theorem tf_mat_9 (ad : Nat → Nat) (cI cZ : ClassId) (σ : tf_S) : (tf_wm ad cI cZ σ)[9]? = some (ad 9, .inl (cI, 24, .inl (σ 9))) := rfl
theorem tf_mset_9 (ad : Nat → Nat) (cI cZ : ClassId) (σ : tf_S) (f : Nat → Int32) : (tf_wm ad cI cZ σ).set 9 (ad 9, .inl (cI, 24, .inl f)) = tf_wm ad cI cZ (tf_hs σ 9 f) := rfl
theorem tf_mat_10 (ad : Nat → Nat) (cI cZ : ClassId) (σ : tf_S) : (tf_wm ad cI cZ σ)[10]? = some (ad 10, .inl (cI, 24, .inl (σ 10))) := rfl
theorem tf_mset_10 (ad : Nat → Nat) (cI cZ : ClassId) (σ : tf_S) (f : Nat → Int32) : (tf_wm ad cI cZ σ).set 10 (ad 10, .inl (cI, 24, .inl f)) = tf_wm ad cI cZ (tf_hs σ 10 f) := rfl
theorem tf_mat_11 (ad : Nat → Nat) (cI cZ : ClassId) (σ : tf_S) : (tf_wm ad cI cZ σ)[11]? = some (ad 11, .inl (cI, 16, .inl (σ 11))) := rfl
theorem tf_mset_11 (ad : Nat → Nat) (cI cZ : ClassId) (σ : tf_S) (f : Nat → Int32) : (tf_wm ad cI cZ σ).set 11 (ad 11, .inl (cI, 16, .inl f)) = tf_wm ad cI cZ (tf_hs σ 11 f) := rfl
theorem tf_mat_12 (ad : Nat → Nat) (cI cZ : ClassId) (σ : tf_S) : (tf_wm ad cI cZ σ)[12]? = some (ad 12, .inl (cI, 16, .inl (σ 12))) := rfl
theorem tf_mset_12 (ad : Nat → Nat) (cI cZ : ClassId) (σ : tf_S) (f : Nat → Int32) : (tf_wm ad cI cZ σ).set 12 (ad 12, .inl (cI, 16, .inl f)) = tf_wm ad cI cZ (tf_hs σ 12 f) := rfl
theorem tf_mat_13 (ad : Nat → Nat) (cI cZ : ClassId) (σ : tf_S) : (tf_wm ad cI cZ σ)[13]? = some (ad 13, .inl (cI, 16, .inl (σ 13))) := rfl
theorem tf_mset_13 (ad : Nat → Nat) (cI cZ : ClassId) (σ : tf_S) (f : Nat → Int32) : (tf_wm ad cI cZ σ).set 13 (ad 13, .inl (cI, 16, .inl f)) = tf_wm ad cI cZ (tf_hs σ 13 f) := rfl
theorem tf_mat_14 (ad : Nat → Nat) (cI cZ : ClassId) (σ : tf_S) : (tf_wm ad cI cZ σ)[14]? = some (ad 14, .inl (cI, 32, .inl (σ 14))) := rfl
theorem tf_mset_14 (ad : Nat → Nat) (cI cZ : ClassId) (σ : tf_S) (f : Nat → Int32) : (tf_wm ad cI cZ σ).set 14 (ad 14, .inl (cI, 32, .inl f)) = tf_wm ad cI cZ (tf_hs σ 14 f) := rfl
theorem tf_mat_15 (ad : Nat → Nat) (cI cZ : ClassId) (σ : tf_S) : (tf_wm ad cI cZ σ)[15]? = some (ad 15, .inl (cI, 2, .inl (σ 15))) := rfl
theorem tf_mset_15 (ad : Nat → Nat) (cI cZ : ClassId) (σ : tf_S) (f : Nat → Int32) : (tf_wm ad cI cZ σ).set 15 (ad 15, .inl (cI, 2, .inl f)) = tf_wm ad cI cZ (tf_hs σ 15 f) := rfl
theorem tf_mat_16 (ad : Nat → Nat) (cI cZ : ClassId) (σ : tf_S) : (tf_wm ad cI cZ σ)[16]? = some (ad 16, .inl (cI, 400, .inl (σ 16))) := rfl
theorem tf_mset_16 (ad : Nat → Nat) (cI cZ : ClassId) (σ : tf_S) (f : Nat → Int32) : (tf_wm ad cI cZ σ).set 16 (ad 16, .inl (cI, 400, .inl f)) = tf_wm ad cI cZ (tf_hs σ 16 f) := rfl
theorem tf_mat_17 (ad : Nat → Nat) (cI cZ : ClassId) (σ : tf_S) : (tf_wm ad cI cZ σ)[17]? = some (ad 17, .inl (cZ, 6400, .inl (σ 17))) := rfl
theorem tf_mset_17 (ad : Nat → Nat) (cI cZ : ClassId) (σ : tf_S) (f : Nat → Int32) : (tf_wm ad cI cZ σ).set 17 (ad 17, .inl (cZ, 6400, .inl f)) = tf_wm ad cI cZ (tf_hs σ 17 f) := rfl
theorem tf_mat_18 (ad : Nat → Nat) (cI cZ : ClassId) (σ : tf_S) : (tf_wm ad cI cZ σ)[18]? = some (ad 18, .inl (cI, 24, .inl (σ 18))) := rfl
theorem tf_mset_18 (ad : Nat → Nat) (cI cZ : ClassId) (σ : tf_S) (f : Nat → Int32) : (tf_wm ad cI cZ σ).set 18 (ad 18, .inl (cI, 24, .inl f)) = tf_wm ad cI cZ (tf_hs σ 18 f) := rfl
theorem tf_mat_19 (ad : Nat → Nat) (cI cZ : ClassId) (σ : tf_S) : (tf_wm ad cI cZ σ)[19]? = some (ad 19, .inl (cI, 24, .inl (σ 19))) := rfl
theorem tf_mset_19 (ad : Nat → Nat) (cI cZ : ClassId) (σ : tf_S) (f : Nat → Int32) : (tf_wm ad cI cZ σ).set 19 (ad 19, .inl (cI, 24, .inl f)) = tf_wm ad cI cZ (tf_hs σ 19 f) := rfl
theorem tf_mat_20 (ad : Nat → Nat) (cI cZ : ClassId) (σ : tf_S) : (tf_wm ad cI cZ σ)[20]? = some (ad 20, .inl (cI, 24, .inl (σ 20))) := rfl
theorem tf_mset_20 (ad : Nat → Nat) (cI cZ : ClassId) (σ : tf_S) (f : Nat → Int32) : (tf_wm ad cI cZ σ).set 20 (ad 20, .inl (cI, 24, .inl f)) = tf_wm ad cI cZ (tf_hs σ 20 f) := rfl
theorem tf_mat_21 (ad : Nat → Nat) (cI cZ : ClassId) (σ : tf_S) : (tf_wm ad cI cZ σ)[21]? = some (ad 21, .inl (cI, 24, .inl (σ 21))) := rfl
theorem tf_mset_21 (ad : Nat → Nat) (cI cZ : ClassId) (σ : tf_S) (f : Nat → Int32) : (tf_wm ad cI cZ σ).set 21 (ad 21, .inl (cI, 24, .inl f)) = tf_wm ad cI cZ (tf_hs σ 21 f) := rfl
theorem tf_mat_22 (ad : Nat → Nat) (cI cZ : ClassId) (σ : tf_S) : (tf_wm ad cI cZ σ)[22]? = some (ad 22, .inl (cI, 24, .inl (σ 22))) := rfl
theorem tf_mset_22 (ad : Nat → Nat) (cI cZ : ClassId) (σ : tf_S) (f : Nat → Int32) : (tf_wm ad cI cZ σ).set 22 (ad 22, .inl (cI, 24, .inl f)) = tf_wm ad cI cZ (tf_hs σ 22 f) := rfl
theorem tf_mat_23 (ad : Nat → Nat) (cI cZ : ClassId) (σ : tf_S) : (tf_wm ad cI cZ σ)[23]? = some (ad 23, .inl (cI, 24, .inl (σ 23))) := rfl
theorem tf_mset_23 (ad : Nat → Nat) (cI cZ : ClassId) (σ : tf_S) (f : Nat → Int32) : (tf_wm ad cI cZ σ).set 23 (ad 23, .inl (cI, 24, .inl f)) = tf_wm ad cI cZ (tf_hs σ 23 f) := rfl
theorem tf_mat_24 (ad : Nat → Nat) (cI cZ : ClassId) (σ : tf_S) : (tf_wm ad cI cZ σ)[24]? = some (ad 24, .inl (cI, 24, .inl (σ 24))) := rfl
theorem tf_mset_24 (ad : Nat → Nat) (cI cZ : ClassId) (σ : tf_S) (f : Nat → Int32) : (tf_wm ad cI cZ σ).set 24 (ad 24, .inl (cI, 24, .inl f)) = tf_wm ad cI cZ (tf_hs σ 24 f) := rfl
theorem tf_mat_25 (ad : Nat → Nat) (cI cZ : ClassId) (σ : tf_S) : (tf_wm ad cI cZ σ)[25]? = some (ad 25, .inl (cI, 24, .inl (σ 25))) := rfl
theorem tf_mset_25 (ad : Nat → Nat) (cI cZ : ClassId) (σ : tf_S) (f : Nat → Int32) : (tf_wm ad cI cZ σ).set 25 (ad 25, .inl (cI, 24, .inl f)) = tf_wm ad cI cZ (tf_hs σ 25 f) := rfl
theorem tf_mat_26 (ad : Nat → Nat) (cI cZ : ClassId) (σ : tf_S) : (tf_wm ad cI cZ σ)[26]? = some (ad 26, .inl (cZ, 24, .inl (σ 26))) := rfl
theorem tf_mset_26 (ad : Nat → Nat) (cI cZ : ClassId) (σ : tf_S) (f : Nat → Int32) : (tf_wm ad cI cZ σ).set 26 (ad 26, .inl (cZ, 24, .inl f)) = tf_wm ad cI cZ (tf_hs σ 26 f) := rfl
theorem tf_mat_27 (ad : Nat → Nat) (cI cZ : ClassId) (σ : tf_S) : (tf_wm ad cI cZ σ)[27]? = some (ad 27, .inl (cI, 48, .inl (σ 27))) := rfl
theorem tf_mset_27 (ad : Nat → Nat) (cI cZ : ClassId) (σ : tf_S) (f : Nat → Int32) : (tf_wm ad cI cZ σ).set 27 (ad 27, .inl (cI, 48, .inl f)) = tf_wm ad cI cZ (tf_hs σ 27 f) := rfl
end
section
def fX0_has (σ : tf_S) (x1 : Int32) : Option (Int32 × tf_S) :=
  if x1 < 0 then
  (some ((0 : Int32), σ))
  else
  (if (σ 3 0) ≤ x1 then
  (some ((0 : Int32), σ))
  else
  (some ((1 : Int32), σ)))

def fX0_hasWith (σ : tf_S) (x1 x2 : Int32) : Option (Int32 × tf_S) :=
  (fX0_has σ x1).bind fun u1 =>
  if u1.1 = 0 then
  (some ((0 : Int32), u1.2))
  else
  (if tf_inb x1 16 = true then
  (if (u1.2 18 (x1).toNatClampNeg) = (-1 : Int32) then
  (if (1 : Int32) = x2 then
  (some ((1 : Int32), u1.2))
  else
  (some ((0 : Int32), u1.2)))
  else
  (if (2 : Int32) = x2 then
  (some ((1 : Int32), u1.2))
  else
  (some ((0 : Int32), u1.2))))
  else none)

def fX0_add_45 (x1 x2 x3 : Int32) : Nat → tf_S → Int32 → Option (Int32 × tf_S)
  | 0, _, _ => none
  | n + 1, σ, y4 =>
    if (2 : Int32) ≤ y4 then
    (tf_gl (tf_wr σ 3 0 ((σ 3 0) + (1 : Int32))) fun s9 =>
    some ((σ 3 0), s9))
    else
    (if tf_inb (((σ 3 0) * (2 : Int32)) + y4) 32 = true then
    (tf_gl (tf_wr σ 20 ((((σ 3 0) * (2 : Int32)) + y4)).toNatClampNeg (-1 : Int32)) fun s11 =>
    tf_gl (y4 + (1 : Int32)) fun v12 =>
    fX0_add_45 x1 x2 x3 n s11 v12)
    else none)
def fX0_add (σ : tf_S) (x1 x2 x3 : Int32) : Option (Int32 × tf_S) :=
  if (σ 3 0) < (16 : Int32) then
  (if tf_inb (σ 3 0) 16 = true then
  (tf_gl (tf_wr σ 17 ((σ 3 0)).toNatClampNeg x1) fun s3 =>
  if tf_inb (s3 3 0) 16 = true then
  (tf_gl (tf_wr s3 18 ((s3 3 0)).toNatClampNeg x2) fun s5 =>
  if tf_inb (s5 3 0) 16 = true then
  (tf_gl (tf_wr s5 19 ((s5 3 0)).toNatClampNeg x3) fun s7 =>
  fX0_add_45 x1 x2 x3 100000 s7 (0 : Int32))
  else none)
  else none)
  else none)
  else
  (some ((-3 : Int32), σ))

def fX1_has (σ : tf_S) (x1 : Int32) : Option (Int32 × tf_S) :=
  if x1 < 0 then
  (some ((0 : Int32), σ))
  else
  (if (σ 2 0) ≤ x1 then
  (some ((0 : Int32), σ))
  else
  (some ((1 : Int32), σ)))

def fX1_add (σ : tf_S) (x1 x2 : Int32) : Option (Int32 × tf_S) :=
  if (σ 2 0) < (24 : Int32) then
  (if tf_inb (σ 2 0) 24 = true then
  (tf_gl (tf_wr σ 15 ((σ 2 0)).toNatClampNeg x1) fun s3 =>
  if tf_inb (s3 2 0) 24 = true then
  (tf_gl (tf_wr s3 16 ((s3 2 0)).toNatClampNeg x2) fun s5 =>
  tf_gl (tf_wr s5 2 0 ((s5 2 0) + (1 : Int32))) fun s6 =>
  some ((s5 2 0), s6))
  else none)
  else none)
  else
  (some ((-3 : Int32), σ))

def fX2_has (σ : tf_S) (x1 : Int32) : Option (Int32 × tf_S) :=
  if x1 < 0 then
  (some ((0 : Int32), σ))
  else
  (if (σ 4 0) ≤ x1 then
  (some ((0 : Int32), σ))
  else
  (some ((1 : Int32), σ)))

def fX2_tell (σ : tf_S) (x1 x2 x3 x4 : Int32) : Option tf_S :=
  if tf_inb x1 24 = true then
  (tf_gl (tf_wr σ 27 (x1).toNatClampNeg x2) fun s2 =>
  if tf_inb x1 24 = true then
  (tf_gl (tf_wr s2 28 (x1).toNatClampNeg x3) fun s4 =>
  if tf_inb x1 24 = true then
  (if tf_bz x4 = true then
  (tf_gl (tf_wr s4 29 (x1).toNatClampNeg x4) fun s6 =>
  some s6)
  else none)
  else none)
  else none)
  else none

def fX2_bind (σ : tf_S) (x1 x2 x3 : Int32) : Option tf_S :=
  if tf_inb (x1 * (2 : Int32)) 48 = true then
  (tf_gl (tf_wr σ 30 ((x1 * (2 : Int32))).toNatClampNeg x2) fun s2 =>
  if tf_inb ((x1 * (2 : Int32)) + (1 : Int32)) 48 = true then
  (tf_gl (tf_wr s2 30 (((x1 * (2 : Int32)) + (1 : Int32))).toNatClampNeg x3) fun s4 =>
  some s4)
  else none)
  else none

def fX2_add (σ : tf_S) (x1 x2 x3 x4 x5 x6 : Int32) : Option (Int32 × tf_S) :=
  if (σ 4 0) < (24 : Int32) then
  (if tf_inb (σ 4 0) 24 = true then
  (tf_gl (tf_wr σ 21 ((σ 4 0)).toNatClampNeg x1) fun s3 =>
  if tf_inb (s3 4 0) 24 = true then
  (tf_gl (tf_wr s3 22 ((s3 4 0)).toNatClampNeg x2) fun s5 =>
  if tf_inb (s5 4 0) 24 = true then
  (tf_gl (tf_wr s5 23 ((s5 4 0)).toNatClampNeg x3) fun s7 =>
  if tf_inb (s7 4 0) 24 = true then
  (tf_gl (tf_wr s7 24 ((s7 4 0)).toNatClampNeg x4) fun s9 =>
  if tf_inb (s9 4 0) 24 = true then
  (tf_gl (tf_wr s9 25 ((s9 4 0)).toNatClampNeg x5) fun s11 =>
  if tf_inb (s11 4 0) 24 = true then
  (tf_gl (tf_wr s11 26 ((s11 4 0)).toNatClampNeg x6) fun s13 =>
  (fX2_tell s13 (s13 4 0) (-1 : Int32) (0 : Int32) (0 : Int32)).bind fun u14 =>
  (fX2_bind u14 (u14 4 0) (-1 : Int32) (-1 : Int32)).bind fun u16 =>
  tf_gl (tf_wr u16 4 0 ((u16 4 0) + (1 : Int32))) fun s18 =>
  some ((u16 4 0), s18))
  else none)
  else none)
  else none)
  else none)
  else none)
  else none)
  else
  (some ((-3 : Int32), σ))

def fX2_hasTwoInputs (σ : tf_S) (x1 : Int32) : Option (Int32 × tf_S) :=
  if tf_inb x1 24 = true then
  (if (σ 21 (x1).toNatClampNeg) = (4 : Int32) then
  (some ((1 : Int32), σ))
  else
  (if tf_inb x1 24 = true then
  (if (σ 21 (x1).toNatClampNeg) = (5 : Int32) then
  (some ((1 : Int32), σ))
  else
  (if tf_inb x1 24 = true then
  (if (σ 21 (x1).toNatClampNeg) = (6 : Int32) then
  (some ((1 : Int32), σ))
  else
  (some ((0 : Int32), σ)))
  else none))
  else none))
  else none

def fX2_howManyRisky_4 : Nat → tf_S → Int32 → Int32 → Option (Int32 × tf_S)
  | 0, _, _, _ => none
  | n + 1, σ, y1, y2 =>
    if (σ 4 0) ≤ y2 then
    (some (y1, σ))
    else
    (if tf_inb y2 24 = true then
    (if (σ 29 (y2).toNatClampNeg) = 0 then
    (tf_gl (y2 + (1 : Int32)) fun v4 =>
    fX2_howManyRisky_4 n σ y1 v4)
    else
    (tf_gl (y1 + (1 : Int32)) fun v5 =>
    tf_gl (y2 + (1 : Int32)) fun v6 =>
    fX2_howManyRisky_4 n σ v5 v6))
    else none)
def fX2_howManyRisky (σ : tf_S) : Option (Int32 × tf_S) :=
  fX2_howManyRisky_4 100000 σ (0 : Int32) (0 : Int32)

def fX6_isPrimitive (σ : tf_S) (x0 : Int32) : Option (Int32 × tf_S) :=
  if x0 < 0 then
  (some ((0 : Int32), σ))
  else
  (if (3 : Int32) < x0 then
  (some ((0 : Int32), σ))
  else
  (some ((1 : Int32), σ)))

def fX6_widens (σ : tf_S) (x0 x1 : Int32) : Option (Int32 × tf_S) :=
  if x0 = (1 : Int32) then
  (if x1 = (2 : Int32) then
  (some ((1 : Int32), σ))
  else
  (if x1 = (3 : Int32) then
  (some ((1 : Int32), σ))
  else
  (some ((0 : Int32), σ))))
  else
  (some ((0 : Int32), σ))

def fX6_isVariable (σ : tf_S) (x0 : Int32) : Option (Int32 × tf_S) :=
  if x0 = (4 : Int32) then
  (some ((1 : Int32), σ))
  else
  (if x0 = (5 : Int32) then
  (some ((1 : Int32), σ))
  else
  (some ((0 : Int32), σ)))

def fX3_bindTo (σ : tf_S) (x1 x2 : Int32) : Option (Int32 × tf_S) :=
  tf_gl (x1 - (4 : Int32)) fun v1 =>
  if tf_inb v1 2 = true then
  (if (σ 31 (v1).toNatClampNeg) = (-1 : Int32) then
  (if tf_inb v1 2 = true then
  (tf_gl (tf_wr σ 31 (v1).toNatClampNeg x2) fun s7 =>
  if tf_inb v1 2 = true then
  (if (s7 31 (v1).toNatClampNeg) = x2 then
  (some ((0 : Int32), s7))
  else
  (some ((2 : Int32), s7)))
  else none)
  else none)
  else
  (if tf_inb v1 2 = true then
  (if (σ 31 (v1).toNatClampNeg) = x2 then
  (some ((0 : Int32), σ))
  else
  (some ((2 : Int32), σ)))
  else none))
  else none

def fX4_classAbove (σ : tf_S) (x1 : Int32) : Option (Int32 × tf_S) :=
  if x1 = 0 then
  (some ((-1 : Int32), σ))
  else
  (if tf_inb x1 12 = true then
  (if tf_inb (σ 8 (x1).toNatClampNeg) 80 = true then
  (some ((σ 9 ((σ 8 (x1).toNatClampNeg)).toNatClampNeg), σ))
  else none)
  else none)

def fX4_isFrom_5 (x1 x2 : Int32) : Nat → tf_S → Int32 → Int32 → Option (Int32 × tf_S)
  | 0, _, _, _ => none
  | n + 1, σ, y3, y4 =>
    if y3 ≤ x2 then
    (if y3 = x2 then
    (some ((1 : Int32), σ))
    else
    (some ((0 : Int32), σ)))
    else
    (if (12 : Int32) ≤ y4 then
    (if y3 = x2 then
    (some ((1 : Int32), σ))
    else
    (some ((0 : Int32), σ)))
    else
    ((fX4_classAbove σ y3).bind fun u5 =>
    tf_gl (u5.1) fun v7 =>
    tf_gl (y4 + (1 : Int32)) fun v8 =>
    fX4_isFrom_5 x1 x2 n u5.2 v7 v8))
def fX4_isFrom (σ : tf_S) (x1 x2 : Int32) : Option (Int32 × tf_S) :=
  fX4_isFrom_5 x1 x2 100000 σ x1 (0 : Int32)

def fX4_argumentWithoutImage_33 (x1 : Int32) (σ : tf_S) : Option (Int32 × tf_S) :=
  if tf_inb x1 80 = true then
  (if (σ 11 (x1).toNatClampNeg) < (6 : Int32) then
  (some ((-1 : Int32), σ))
  else
  (if tf_inb x1 80 = true then
  (if tf_inb (σ 11 (x1).toNatClampNeg) 80 = true then
  (if (σ 13 ((σ 11 (x1).toNatClampNeg)).toNatClampNeg) = (-1 : Int32) then
  (if tf_inb x1 80 = true then
  (some ((σ 11 (x1).toNatClampNeg), σ))
  else none)
  else
  (some ((-1 : Int32), σ)))
  else none)
  else none))
  else none
def fX4_argumentWithoutImage (σ : tf_S) (x1 : Int32) : Option (Int32 × tf_S) :=
  if tf_inb x1 80 = true then
  (if (σ 10 (x1).toNatClampNeg) < (6 : Int32) then
  (fX4_argumentWithoutImage_33 x1 σ)
  else
  (if tf_inb x1 80 = true then
  (if tf_inb (σ 10 (x1).toNatClampNeg) 80 = true then
  (if (σ 13 ((σ 10 (x1).toNatClampNeg)).toNatClampNeg) = (-1 : Int32) then
  (if tf_inb x1 80 = true then
  (some ((σ 10 (x1).toNatClampNeg), σ))
  else none)
  else
  (fX4_argumentWithoutImage_33 x1 σ))
  else none)
  else none))
  else none

def fX4_imageOf (σ : tf_S) (x1 : Int32) : Option (Int32 × tf_S) :=
  if x1 = (-1 : Int32) then
  (some ((-1 : Int32), σ))
  else
  (if tf_inb x1 80 = true then
  (some ((σ 13 (x1).toNatClampNeg), σ))
  else none)

def fX4_make_119 (x1 x2 x3 : Int32) (σ : tf_S) (t0 t1 : Int32) : Option (Int32 × tf_S) :=
  if 0 ≤ x3 then
  (if tf_inb x3 80 = true then
  (if tf_inb t1 80 = true then
  (tf_gl (tf_wr σ 12 (t1).toNatClampNeg (t0 ||| (σ 12 (x3).toNatClampNeg))) fun s14 =>
  tf_gl (tf_wr s14 1 3 ((s14 1 3) + (1 : Int32))) fun s15 =>
  some ((s14 1 3), s15))
  else none)
  else none)
  else
  (if tf_inb t1 80 = true then
  (tf_gl (tf_wr σ 12 (t1).toNatClampNeg (t0 ||| (0 : Int32))) fun s17 =>
  tf_gl (tf_wr s17 1 3 ((s17 1 3) + (1 : Int32))) fun s18 =>
  some ((s17 1 3), s18))
  else none)
def fX4_make_4 (x1 x2 x3 : Int32) : Nat → tf_S → Int32 → Option (Int32 × tf_S)
  | 0, _, _ => none
  | n + 1, σ, y4 =>
    if (σ 1 3) ≤ y4 then
    (if (σ 1 3) < (80 : Int32) then
    (if tf_inb (σ 1 3) 80 = true then
    (tf_gl (tf_wr σ 9 ((σ 1 3)).toNatClampNeg x1) fun s4 =>
    if tf_inb (s4 1 3) 80 = true then
    (tf_gl (tf_wr s4 10 ((s4 1 3)).toNatClampNeg x2) fun s6 =>
    if tf_inb (s6 1 3) 80 = true then
    (tf_gl (tf_wr s6 11 ((s6 1 3)).toNatClampNeg x3) fun s8 =>
    if 0 ≤ x2 then
    (if tf_inb x2 80 = true then
    (fX4_make_119 x1 x2 x3 s8 (s8 12 (x2).toNatClampNeg) (s8 1 3))
    else none)
    else
    (fX4_make_119 x1 x2 x3 s8 (0 : Int32) (s8 1 3)))
    else none)
    else none)
    else none)
    else
    (some ((-3 : Int32), σ)))
    else
    (if tf_inb y4 80 = true then
    (if (σ 9 (y4).toNatClampNeg) = x1 then
    (if tf_inb y4 80 = true then
    (if (σ 10 (y4).toNatClampNeg) = x2 then
    (if tf_inb y4 80 = true then
    (if (σ 11 (y4).toNatClampNeg) = x3 then
    (some (y4, σ))
    else
    (tf_gl (y4 + (1 : Int32)) fun v27 =>
    fX4_make_4 x1 x2 x3 n σ v27))
    else none)
    else
    (tf_gl (y4 + (1 : Int32)) fun v24 =>
    fX4_make_4 x1 x2 x3 n σ v24))
    else none)
    else
    (tf_gl (y4 + (1 : Int32)) fun v21 =>
    fX4_make_4 x1 x2 x3 n σ v21))
    else none)
def fX4_make (σ : tf_S) (x1 x2 x3 : Int32) : Option (Int32 × tf_S) :=
  fX4_make_4 x1 x2 x3 100000 σ (6 : Int32)

def fX4_putIn_142 (x1 x2 x3 : Int32) (k82 : tf_S → Int32 → Int32 → Option (Int32 × tf_S)) (σ : tf_S) (y4 y5 y6 : Int32) : Option (Int32 × tf_S) :=
  if tf_inb y6 80 = true then
  (if tf_inb y6 80 = true then
  ((fX4_imageOf σ (σ 10 (y6).toNatClampNeg)).bind fun u22 =>
  if tf_inb y6 80 = true then
  ((fX4_imageOf u22.2 (u22.2 11 (y6).toNatClampNeg)).bind fun u25 =>
  (fX4_make u25.2 (σ 9 (y6).toNatClampNeg) u22.1 u25.1).bind fun u27 =>
  tf_gl (u27.1) fun v29 =>
  if v29 = (-3 : Int32) then
  (some ((-3 : Int32), u27.2))
  else
  (if tf_inb y6 80 = true then
  (tf_gl (tf_wr u27.2 13 (y6).toNatClampNeg v29) fun s32 =>
  tf_gl (y4 + (-1 : Int32)) fun v33 =>
  tf_gl (y5 + (1 : Int32)) fun v34 =>
  k82 s32 v33 v34)
  else none))
  else none)
  else none)
  else none
def fX4_putIn_82 (x1 x2 x3 : Int32) : Nat → tf_S → Int32 → Int32 → Option (Int32 × tf_S)
  | 0, _, _, _ => none
  | n + 1, σ, y4, y5 =>
    if y4 ≤ 0 then
    (if tf_inb x1 80 = true then
    (some ((σ 13 (x1).toNatClampNeg), σ))
    else none)
    else
    (if (160 : Int32) ≤ y5 then
    (if tf_inb x1 80 = true then
    (some ((σ 13 (x1).toNatClampNeg), σ))
    else none)
    else
    (if tf_inb (y4 - (1 : Int32)) 80 = true then
    (tf_gl (σ 14 ((y4 - (1 : Int32))).toNatClampNeg) fun v15 =>
    (fX4_argumentWithoutImage σ v15).bind fun u16 =>
    tf_gl (u16.1) fun v18 =>
    if v18 = (-1 : Int32) then
    (fX4_putIn_142 x1 x2 x3 (fX4_putIn_82 x1 x2 x3 n) u16.2 y4 y5 v15)
    else
    (if (80 : Int32) ≤ y4 then
    (fX4_putIn_142 x1 x2 x3 (fX4_putIn_82 x1 x2 x3 n) u16.2 y4 y5 v15)
    else
    (tf_gl (y4 + (1 : Int32)) fun v36 =>
    if tf_inb y4 80 = true then
    (tf_gl (tf_wr u16.2 14 (y4).toNatClampNeg v18) fun s38 =>
    tf_gl (y5 + (1 : Int32)) fun v39 =>
    fX4_putIn_82 x1 x2 x3 n s38 v36 v39)
    else none)))
    else none))
def fX4_putIn_3 (x1 x2 x3 : Int32) : Nat → tf_S → Int32 → Option (Int32 × tf_S)
  | 0, _, _ => none
  | n + 1, σ, y4 =>
    if (σ 1 3) ≤ y4 then
    (if tf_inb (4 : Int32) 80 = true then
    (tf_gl (tf_wr σ 13 ((4 : Int32)).toNatClampNeg x2) fun s3 =>
    if tf_inb (5 : Int32) 80 = true then
    (tf_gl (tf_wr s3 13 ((5 : Int32)).toNatClampNeg x3) fun s5 =>
    if tf_inb (0 : Int32) 80 = true then
    (tf_gl (tf_wr s5 14 ((0 : Int32)).toNatClampNeg x1) fun s7 =>
    if tf_inb x1 80 = true then
    (if (s7 13 (x1).toNatClampNeg) = (-1 : Int32) then
    (fX4_putIn_82 x1 x2 x3 100000 s7 (1 : Int32) (0 : Int32))
    else
    (fX4_putIn_82 x1 x2 x3 100000 s7 (0 : Int32) (0 : Int32)))
    else none)
    else none)
    else none)
    else none)
    else
    (if tf_inb y4 80 = true then
    (if (σ 12 (y4).toNatClampNeg) = 0 then
    (if tf_inb y4 80 = true then
    (tf_gl (tf_wr σ 13 (y4).toNatClampNeg y4) fun s46 =>
    tf_gl (y4 + (1 : Int32)) fun v47 =>
    fX4_putIn_3 x1 x2 x3 n s46 v47)
    else none)
    else
    (if tf_inb y4 80 = true then
    (tf_gl (tf_wr σ 13 (y4).toNatClampNeg (-1 : Int32)) fun s43 =>
    tf_gl (y4 + (1 : Int32)) fun v44 =>
    fX4_putIn_3 x1 x2 x3 n s43 v44)
    else none))
    else none)
def fX4_putIn (σ : tf_S) (x1 x2 x3 : Int32) : Option (Int32 × tf_S) :=
  fX4_putIn_3 x1 x2 x3 100000 σ (0 : Int32)

def fX4_seenAs_21 (x1 x2 : Int32) : Nat → tf_S → Int32 → Int32 → Option (Int32 × tf_S)
  | 0, _, _, _ => none
  | n + 1, σ, y3, y4 =>
    if tf_inb y3 80 = true then
    (if (σ 9 (y3).toNatClampNeg) = x2 then
    (some (y3, σ))
    else
    (if (12 : Int32) ≤ y4 then
    (some (y3, σ))
    else
    (if tf_inb y3 80 = true then
    (if tf_inb (σ 9 (y3).toNatClampNeg) 12 = true then
    (if tf_inb y3 80 = true then
    (if tf_inb y3 80 = true then
    ((fX4_putIn σ (σ 8 ((σ 9 (y3).toNatClampNeg)).toNatClampNeg) (σ 10 (y3).toNatClampNeg) (σ 11 (y3).toNatClampNeg)).bind fun u12 =>
    tf_gl (u12.1) fun v14 =>
    if v14 = (-3 : Int32) then
    (some ((-3 : Int32), u12.2))
    else
    (tf_gl (y4 + (1 : Int32)) fun v16 =>
    fX4_seenAs_21 x1 x2 n u12.2 v14 v16))
    else none)
    else none)
    else none)
    else none)))
    else none
def fX4_seenAs (σ : tf_S) (x1 x2 : Int32) : Option (Int32 × tf_S) :=
  if tf_inb x1 80 = true then
  ((fX4_isFrom σ (σ 9 (x1).toNatClampNeg) x2).bind fun u2 =>
  if u2.1 = 0 then
  (some ((-1 : Int32), u2.2))
  else
  (fX4_seenAs_21 x1 x2 100000 u2.2 x1 (0 : Int32)))
  else none

def fX3_await (σ : tf_S) (x1 x2 x3 : Int32) : Option (Int32 × tf_S) :=
  if x1 = (-1 : Int32) then
  (some (x3, σ))
  else
  (if x2 = (-1 : Int32) then
  (some (x3, σ))
  else
  (if x3 < (82 : Int32) then
  (if tf_inb x3 82 = true then
  (tf_gl (tf_wr σ 33 (x3).toNatClampNeg x1) fun s5 =>
  if tf_inb x3 82 = true then
  (tf_gl (tf_wr s5 34 (x3).toNatClampNeg x2) fun s7 =>
  some ((x3 + (1 : Int32)), s7))
  else none)
  else none)
  else
  (some (x3, σ))))

def fX3_match_22 (x1 x2 : Int32) : Nat → tf_S → Int32 → Int32 → Int32 → Option (Int32 × tf_S)
  | 0, _, _, _, _ => none
  | n + 1, σ, y3, y4, y5 =>
    if y3 ≤ 0 then
    (some ((0 : Int32), σ))
    else
    (if (6400 : Int32) ≤ y5 then
    (some ((0 : Int32), σ))
    else
    (tf_gl (y3 + (-1 : Int32)) fun v7 =>
    if tf_inb v7 82 = true then
    (tf_gl (σ 33 (v7).toNatClampNeg) fun v9 =>
    if tf_inb v7 82 = true then
    (tf_gl (σ 34 (v7).toNatClampNeg) fun v11 =>
    (fX6_isVariable σ v9).bind fun u12 =>
    if u12.1 = 0 then
    (if tf_inb v9 80 = true then
    (if tf_inb v11 80 = true then
    (if (u12.2 9 (v9).toNatClampNeg) = (u12.2 9 (v11).toNatClampNeg) then
    (if tf_inb v9 80 = true then
    (if (u12.2 32 (v9).toNatClampNeg) = v11 then
    (if y4 = 0 then
    (tf_gl (y5 + (1 : Int32)) fun v21 =>
    fX3_match_22 x1 x2 n u12.2 v7 y4 v21)
    else
    (some (y4, u12.2)))
    else
    (if tf_inb v9 80 = true then
    (tf_gl (tf_wr u12.2 32 (v9).toNatClampNeg v11) fun s23 =>
    if tf_inb v9 80 = true then
    (if tf_inb v11 80 = true then
    ((fX3_await s23 (s23 11 (v9).toNatClampNeg) (s23 11 (v11).toNatClampNeg) v7).bind fun u26 =>
    tf_gl (u26.1) fun v28 =>
    if tf_inb v9 80 = true then
    (if tf_inb v11 80 = true then
    ((fX3_await u26.2 (u26.2 10 (v9).toNatClampNeg) (u26.2 10 (v11).toNatClampNeg) v28).bind fun u31 =>
    tf_gl (u31.1) fun v33 =>
    if y4 = 0 then
    (tf_gl (y5 + (1 : Int32)) fun v35 =>
    fX3_match_22 x1 x2 n u31.2 v33 y4 v35)
    else
    (some (y4, u31.2)))
    else none)
    else none)
    else none)
    else none)
    else none))
    else none)
    else
    (if (1 : Int32) = 0 then
    (tf_gl (y5 + (1 : Int32)) fun v37 =>
    fX3_match_22 x1 x2 n u12.2 v7 (1 : Int32) v37)
    else
    (some ((1 : Int32), u12.2))))
    else none)
    else none)
    else
    ((fX3_bindTo u12.2 v9 v11).bind fun u38 =>
    tf_gl (u38.1) fun v40 =>
    if v40 = 0 then
    (tf_gl (y5 + (1 : Int32)) fun v42 =>
    fX3_match_22 x1 x2 n u38.2 v7 v40 v42)
    else
    (some (v40, u38.2))))
    else none)
    else none))
def fX3_match (σ : tf_S) (x1 x2 : Int32) : Option (Int32 × tf_S) :=
  if tf_inb (0 : Int32) 82 = true then
  (tf_gl (tf_wr σ 33 ((0 : Int32)).toNatClampNeg x1) fun s2 =>
  if tf_inb (0 : Int32) 82 = true then
  (tf_gl (tf_wr s2 34 ((0 : Int32)).toNatClampNeg x2) fun s4 =>
  fX3_match_22 x1 x2 100000 s4 (1 : Int32) (0 : Int32) (0 : Int32))
  else none)
  else none

def fX3_take (σ : tf_S) (x1 x2 : Int32) : Option (Int32 × tf_S) :=
  (fX6_isPrimitive σ x1).bind fun u1 =>
  if u1.1 = 0 then
  ((fX6_isPrimitive u1.2 x2).bind fun u4 =>
  if u4.1 = 0 then
  ((fX6_isVariable u4.2 x1).bind fun u7 =>
  if u7.1 = 0 then
  (if tf_inb x1 80 = true then
  ((fX4_seenAs u7.2 x2 (u7.2 9 (x1).toNatClampNeg)).bind fun u11 =>
  tf_gl (u11.1) fun v13 =>
  if v13 = (-3 : Int32) then
  (some ((8 : Int32), u11.2))
  else
  (if v13 = (-1 : Int32) then
  (some ((1 : Int32), u11.2))
  else
  ((fX3_match u11.2 x1 v13).bind fun u16 =>
  some (u16.1, u16.2))))
  else none)
  else
  ((fX3_bindTo u7.2 x1 x2).bind fun u18 =>
  some (u18.1, u18.2)))
  else
  (some ((1 : Int32), u4.2)))
  else
  (if x2 = x1 then
  (some ((0 : Int32), u1.2))
  else
  ((fX6_widens u1.2 x2 x1).bind fun u21 =>
  if u21.1 = 0 then
  (some ((1 : Int32), u21.2))
  else
  (some ((0 : Int32), u21.2))))

def fX4_goesFor (σ : tf_S) (x1 x2 : Int32) : Option (Int32 × tf_S) :=
  if x1 = x2 then
  (some ((1 : Int32), σ))
  else
  ((fX6_widens σ x1 x2).bind fun u2 =>
  if u2.1 = 0 then
  ((fX6_isPrimitive u2.2 x1).bind fun u5 =>
  if u5.1 = 0 then
  ((fX6_isPrimitive u5.2 x2).bind fun u8 =>
  if u8.1 = 0 then
  (if tf_inb x2 80 = true then
  ((fX4_seenAs u8.2 x1 (u8.2 9 (x2).toNatClampNeg)).bind fun u12 =>
  tf_gl (u12.1) fun v14 =>
  if v14 = (-3 : Int32) then
  (some ((-3 : Int32), u12.2))
  else
  (if v14 = x2 then
  (some ((1 : Int32), u12.2))
  else
  (some ((0 : Int32), u12.2))))
  else none)
  else
  (some ((0 : Int32), u8.2)))
  else
  (some ((0 : Int32), u5.2)))
  else
  (some ((1 : Int32), u2.2)))

def fX3_lookAtBounds_2 (x1 : Int32) : Nat → tf_S → Int32 → Option (Int32 × tf_S)
  | 0, _, _ => none
  | n + 1, σ, y2 =>
    if (2 : Int32) ≤ y2 then
    (some ((0 : Int32), σ))
    else
    (if tf_inb ((x1 * (2 : Int32)) + y2) 32 = true then
    (tf_gl (σ 20 (((x1 * (2 : Int32)) + y2)).toNatClampNeg) fun v3 =>
    if tf_inb y2 2 = true then
    (if (σ 31 (y2).toNatClampNeg) = (-1 : Int32) then
    (tf_gl (y2 + (1 : Int32)) fun v6 =>
    fX3_lookAtBounds_2 x1 n σ v6)
    else
    (if v3 = (-1 : Int32) then
    (tf_gl (y2 + (1 : Int32)) fun v8 =>
    fX3_lookAtBounds_2 x1 n σ v8)
    else
    (if tf_inb y2 2 = true then
    ((fX4_goesFor σ (σ 31 (y2).toNatClampNeg) v3).bind fun u10 =>
    tf_gl (u10.1) fun v12 =>
    if v12 = (1 : Int32) then
    (tf_gl (y2 + (1 : Int32)) fun v14 =>
    fX3_lookAtBounds_2 x1 n u10.2 v14)
    else
    (if v12 = (-3 : Int32) then
    (some ((8 : Int32), u10.2))
    else
    (some ((3 : Int32), u10.2))))
    else none)))
    else none)
    else none)
def fX3_lookAtBounds (σ : tf_S) (x1 : Int32) : Option (Int32 × tf_S) :=
  fX3_lookAtBounds_2 x1 100000 σ (0 : Int32)

def fX3_isBoundWithin_30 (x1 : Int32) (σ : tf_S) (t0 t1 : Int32) : Option (Int32 × tf_S) :=
  tf_gl (t1 ||| t0) fun v5 =>
  if tf_inb x1 80 = true then
  (if ((σ 12 (x1).toNatClampNeg) &&& (v5 ^^^ (-1 : Int32))) = 0 then
  (some ((1 : Int32), σ))
  else
  (some ((0 : Int32), σ)))
  else none
def fX3_isBoundWithin (σ : tf_S) (x1 : Int32) : Option (Int32 × tf_S) :=
  if tf_inb (0 : Int32) 2 = true then
  (if (σ 31 ((0 : Int32)).toNatClampNeg) = (-1 : Int32) then
  (if tf_inb (1 : Int32) 2 = true then
  (if (σ 31 ((1 : Int32)).toNatClampNeg) = (-1 : Int32) then
  (fX3_isBoundWithin_30 x1 σ (0 : Int32) (0 : Int32))
  else
  (fX3_isBoundWithin_30 x1 σ (2 : Int32) (0 : Int32)))
  else none)
  else
  (if tf_inb (1 : Int32) 2 = true then
  (if (σ 31 ((1 : Int32)).toNatClampNeg) = (-1 : Int32) then
  (fX3_isBoundWithin_30 x1 σ (0 : Int32) (1 : Int32))
  else
  (fX3_isBoundWithin_30 x1 σ (2 : Int32) (1 : Int32)))
  else none))
  else none

def fX3_putTo_112 (x1 x2 x3 : Int32) (σ : tf_S) (y4 : Int32) : Option (Int32 × tf_S) :=
  if (σ 6 3) = 0 then
  (if tf_inb (0 : Int32) 2 = true then
  (if tf_inb (1 : Int32) 2 = true then
  ((fX4_putIn σ y4 (σ 31 ((0 : Int32)).toNatClampNeg) (σ 31 ((1 : Int32)).toNatClampNeg)).bind fun u15 =>
  tf_gl (u15.1) fun v17 =>
  if v17 = (-3 : Int32) then
  (tf_gl (tf_wr u15.2 6 3 (8 : Int32)) fun s21 =>
  if v17 = (-3 : Int32) then
  (some ((-1 : Int32), s21))
  else
  (some (v17, s21)))
  else
  (tf_gl (tf_wr u15.2 6 3 (0 : Int32)) fun s19 =>
  if v17 = (-3 : Int32) then
  (some ((-1 : Int32), s19))
  else
  (some (v17, s19))))
  else none)
  else none)
  else
  (some ((-1 : Int32), σ))
def fX3_putTo_80 (x1 x2 x3 : Int32) (σ : tf_S) : Option (Int32 × tf_S) :=
  if tf_inb x1 16 = true then
  (tf_gl (σ 19 (x1).toNatClampNeg) fun v10 =>
  if (σ 6 3) = 0 then
  ((fX3_isBoundWithin σ v10).bind fun u23 =>
  if u23.1 = 0 then
  (tf_gl (tf_wr u23.2 6 3 (4 : Int32)) fun s26 =>
  fX3_putTo_112 x1 x2 x3 s26 v10)
  else
  (fX3_putTo_112 x1 x2 x3 u23.2 v10))
  else
  (fX3_putTo_112 x1 x2 x3 σ v10))
  else none
def fX3_putTo (σ : tf_S) (x1 x2 x3 : Int32) : Option (Int32 × tf_S) :=
  tf_gl (tf_hs σ 32 (tf_fl (σ 32) 80 (-1 : Int32))) fun s1 =>
  tf_gl (tf_hs s1 31 (tf_fl (s1 31) 2 (-1 : Int32))) fun s2 =>
  if tf_inb x1 16 = true then
  ((fX3_take s2 (s2 17 (x1).toNatClampNeg) x2).bind fun u4 =>
  tf_gl (tf_wr u4.2 6 3 u4.1) fun s6 =>
  if (s6 6 3) = 0 then
  (if x3 = (-1 : Int32) then
  (if (s6 6 3) = 0 then
  ((fX3_lookAtBounds s6 x1).bind fun u32 =>
  tf_gl (tf_wr u32.2 6 3 u32.1) fun s34 =>
  fX3_putTo_80 x1 x2 x3 s34)
  else
  (fX3_putTo_80 x1 x2 x3 s6))
  else
  (if tf_inb x1 16 = true then
  ((fX3_take s6 (s6 18 (x1).toNatClampNeg) x3).bind fun u36 =>
  tf_gl (tf_wr u36.2 6 3 u36.1) fun s38 =>
  if (s38 6 3) = 0 then
  ((fX3_lookAtBounds s38 x1).bind fun u40 =>
  tf_gl (tf_wr u40.2 6 3 u40.1) fun s42 =>
  fX3_putTo_80 x1 x2 x3 s42)
  else
  (fX3_putTo_80 x1 x2 x3 s38))
  else none))
  else
  (if (s6 6 3) = 0 then
  ((fX3_lookAtBounds s6 x1).bind fun u27 =>
  tf_gl (tf_wr u27.2 6 3 u27.1) fun s29 =>
  fX3_putTo_80 x1 x2 x3 s29)
  else
  (fX3_putTo_80 x1 x2 x3 s6)))
  else none

def fX4_isClass (σ : tf_S) (x1 : Int32) : Option (Int32 × tf_S) :=
  if x1 < 0 then
  (some ((0 : Int32), σ))
  else
  (if (σ 1 0) ≤ x1 then
  (some ((0 : Int32), σ))
  else
  (some ((1 : Int32), σ)))

def fX4_isType (σ : tf_S) (x1 : Int32) : Option (Int32 × tf_S) :=
  if x1 < 0 then
  (some ((0 : Int32), σ))
  else
  (if (σ 1 3) ≤ x1 then
  (some ((0 : Int32), σ))
  else
  (some ((1 : Int32), σ)))

def fX4_isClassType (σ : tf_S) (x1 : Int32) : Option (Int32 × tf_S) :=
  if x1 < (6 : Int32) then
  (some ((0 : Int32), σ))
  else
  (if (σ 1 3) ≤ x1 then
  (some ((0 : Int32), σ))
  else
  (some ((1 : Int32), σ)))

def fX4_isArgument (σ : tf_S) (x1 : Int32) : Option (Int32 × tf_S) :=
  if x1 < (4 : Int32) then
  (some ((0 : Int32), σ))
  else
  (if (σ 1 3) ≤ x1 then
  (some ((0 : Int32), σ))
  else
  (some ((1 : Int32), σ)))

def fX4_isClosed (σ : tf_S) (x1 : Int32) : Option (Int32 × tf_S) :=
  (fX4_isType σ x1).bind fun u1 =>
  if u1.1 = 0 then
  (some ((0 : Int32), u1.2))
  else
  (if tf_inb x1 80 = true then
  (if (u1.2 12 (x1).toNatClampNeg) = 0 then
  (some ((1 : Int32), u1.2))
  else
  (some ((0 : Int32), u1.2)))
  else none)

def fX4_hasOnly (σ : tf_S) (x1 x2 : Int32) : Option (Int32 × tf_S) :=
  if tf_inb x1 80 = true then
  (if ((σ 12 (x1).toNatClampNeg) >>> (x2 &&& 31)) = 0 then
  (some ((1 : Int32), σ))
  else
  (some ((0 : Int32), σ)))
  else none

def fX4_addClass (σ : tf_S) (x1 x2 : Int32) : Option (Int32 × tf_S) :=
  if (σ 1 0) < (12 : Int32) then
  (if tf_inb (σ 1 0) 12 = true then
  (tf_gl (tf_wr σ 7 ((σ 1 0)).toNatClampNeg x1) fun s3 =>
  if tf_inb (s3 1 0) 12 = true then
  (tf_gl (tf_wr s3 8 ((s3 1 0)).toNatClampNeg x2) fun s5 =>
  tf_gl (tf_wr s5 1 0 ((s5 1 0) + (1 : Int32))) fun s6 =>
  some ((s5 1 0), s6))
  else none)
  else none)
  else
  (some ((-3 : Int32), σ))

def fX4_commonOf_51 (x1 x2 : Int32) : Nat → tf_S → Int32 → Int32 → Option (Int32 × tf_S)
  | 0, _, _, _ => none
  | n + 1, σ, y3, y4 =>
    if y3 = (-1 : Int32) then
    (some ((-1 : Int32), σ))
    else
    (if (12 : Int32) ≤ y4 then
    (some ((-1 : Int32), σ))
    else
    (if tf_inb x2 80 = true then
    ((fX4_isFrom σ (σ 9 (x2).toNatClampNeg) y3).bind fun u19 =>
    if u19.1 = 0 then
    ((fX4_classAbove u19.2 y3).bind fun u22 =>
    tf_gl (u22.1) fun v24 =>
    tf_gl (y4 + (1 : Int32)) fun v25 =>
    fX4_commonOf_51 x1 x2 n u22.2 v24 v25)
    else
    ((fX4_seenAs u19.2 x1 y3).bind fun u26 =>
    tf_gl (u26.1) fun v28 =>
    if v28 = (-3 : Int32) then
    (some ((-3 : Int32), u26.2))
    else
    ((fX4_seenAs u26.2 x2 y3).bind fun u30 =>
    tf_gl (u30.1) fun v32 =>
    if v32 = (-3 : Int32) then
    (some (v32, u30.2))
    else
    (if v32 = v28 then
    (some (v32, u30.2))
    else
    ((fX4_classAbove u30.2 y3).bind fun u35 =>
    tf_gl (u35.1) fun v37 =>
    tf_gl (y4 + (1 : Int32)) fun v38 =>
    fX4_commonOf_51 x1 x2 n u35.2 v37 v38)))))
    else none))
def fX4_commonOf (σ : tf_S) (x1 x2 : Int32) : Option (Int32 × tf_S) :=
  if x1 = x2 then
  (some (x1, σ))
  else
  ((fX6_widens σ x2 x1).bind fun u2 =>
  if u2.1 = 0 then
  ((fX6_widens u2.2 x1 x2).bind fun u5 =>
  if u5.1 = 0 then
  ((fX6_isPrimitive u5.2 x1).bind fun u8 =>
  if u8.1 = 0 then
  ((fX6_isPrimitive u8.2 x2).bind fun u11 =>
  if u11.1 = 0 then
  (if tf_inb x1 80 = true then
  (tf_gl (u11.2 9 (x1).toNatClampNeg) fun v15 =>
  fX4_commonOf_51 x1 x2 100000 u11.2 v15 (0 : Int32))
  else none)
  else
  (some ((-1 : Int32), u11.2)))
  else
  (some ((-1 : Int32), u8.2)))
  else
  (some (x2, u5.2)))
  else
  (some (x1, u2.2)))

def fX5_none (σ : tf_S) (x1 : Int32) : Option (Int32 × tf_S) :=
  tf_gl (tf_wr σ 5 4 x1) fun s1 =>
  some ((-1 : Int32), s1)

def fX5_orFault (σ : tf_S) (x1 x2 : Int32) : Option (Int32 × tf_S) :=
  if x1 < 0 then
  (if x1 = (-3 : Int32) then
  ((fX5_none σ (8 : Int32)).bind fun u5 =>
  some (u5.1, u5.2))
  else
  ((fX5_none σ x2).bind fun u3 =>
  some (u3.1, u3.2)))
  else
  (some (x1, σ))

def fX5_filtered (σ : tf_S) (x1 x2 : Int32) : Option (Int32 × tf_S) :=
  if x2 = (-1 : Int32) then
  (some ((-1 : Int32), σ))
  else
  (if x2 = 0 then
  (some (x1, σ))
  else
  ((fX5_none σ (1 : Int32)).bind fun u3 =>
  some (u3.1, u3.2)))

def fX5_memberOf (σ : tf_S) (x1 x2 : Int32) : Option (Int32 × tf_S) :=
  (fX6_isPrimitive σ x1).bind fun u1 =>
  if u1.1 = 0 then
  (if tf_inb x2 24 = true then
  ((fX4_seenAs u1.2 x1 (u1.2 15 (x2).toNatClampNeg)).bind fun u5 =>
  (fX5_orFault u5.2 u5.1 (5 : Int32)).bind fun u7 =>
  tf_gl (u7.1) fun v9 =>
  if v9 = (-1 : Int32) then
  (some ((-1 : Int32), u7.2))
  else
  (if tf_inb x2 24 = true then
  (tf_gl (u7.2 16 (x2).toNatClampNeg) fun v12 =>
  if tf_inb v9 80 = true then
  (if tf_inb v9 80 = true then
  ((fX4_putIn u7.2 v12 (u7.2 10 (v9).toNatClampNeg) (u7.2 11 (v9).toNatClampNeg)).bind fun u15 =>
  (fX5_orFault u15.2 u15.1 (8 : Int32)).bind fun u17 =>
  some (u17.1, u17.2))
  else none)
  else none)
  else none))
  else none)
  else
  ((fX5_none u1.2 (5 : Int32)).bind fun u19 =>
  some (u19.1, u19.2))

def fX5_joined_79 (x1 x2 x3 : Int32) (σ : tf_S) (y6 : Int32) : Option (Int32 × tf_S) :=
  if y6 = (1 : Int32) then
  (if tf_inb x1 24 = true then
  ((fX4_make σ (σ 26 (x1).toNatClampNeg) x2 x3).bind fun u17 =>
  (fX5_orFault u17.2 u17.1 (8 : Int32)).bind fun u19 =>
  some (u19.1, u19.2))
  else none)
  else
  (if y6 = (-3 : Int32) then
  ((fX5_none σ (8 : Int32)).bind fun u24 =>
  some (u24.1, u24.2))
  else
  ((fX5_none σ (6 : Int32)).bind fun u22 =>
  some (u22.1, u22.2)))
def fX5_joined (σ : tf_S) (x1 x2 x3 : Int32) : Option (Int32 × tf_S) :=
  if tf_inb x1 24 = true then
  ((fX5_memberOf σ x2 (σ 24 (x1).toNatClampNeg)).bind fun u2 =>
  tf_gl (u2.1) fun v4 =>
  if v4 = (-1 : Int32) then
  (some ((-1 : Int32), u2.2))
  else
  (if tf_inb x1 24 = true then
  ((fX5_memberOf u2.2 x3 (u2.2 25 (x1).toNatClampNeg)).bind fun u7 =>
  tf_gl (u7.1) fun v9 =>
  if v9 = (-1 : Int32) then
  (some ((-1 : Int32), u7.2))
  else
  ((fX4_goesFor u7.2 v4 v9).bind fun u11 =>
  tf_gl (u11.1) fun v13 =>
  if v13 = 0 then
  ((fX4_goesFor u11.2 v9 v4).bind fun u26 =>
  tf_gl (u26.1) fun v28 =>
  fX5_joined_79 x1 x2 x3 u26.2 v28)
  else
  (fX5_joined_79 x1 x2 x3 u11.2 v13)))
  else none))
  else none

def fX5_isNumber (σ : tf_S) (x0 : Int32) : Option (Int32 × tf_S) :=
  (fX6_isPrimitive σ x0).bind fun u1 =>
  if u1.1 = 0 then
  (some ((0 : Int32), u1.2))
  else
  (if x0 = 0 then
  (some ((0 : Int32), u1.2))
  else
  (some ((1 : Int32), u1.2)))

def fX5_castTo_52 (x1 x2 : Int32) (σ : tf_S) (y3 : Int32) : Option (Int32 × tf_S) :=
  if y3 = (-3 : Int32) then
  ((fX5_none σ (8 : Int32)).bind fun u10 =>
  some (u10.1, u10.2))
  else
  (if y3 = (1 : Int32) then
  (some (x2, σ))
  else
  (if (σ 5 5) = 0 then
  ((fX5_none σ (6 : Int32)).bind fun u8 =>
  some (u8.1, u8.2))
  else
  (some (x2, σ))))
def fX5_castTo (σ : tf_S) (x1 x2 : Int32) : Option (Int32 × tf_S) :=
  (fX4_goesFor σ x1 x2).bind fun u1 =>
  tf_gl (u1.1) fun v3 =>
  if v3 = 0 then
  ((fX4_goesFor u1.2 x2 x1).bind fun u12 =>
  tf_gl (u12.1) fun v14 =>
  if v14 = (1 : Int32) then
  (tf_gl (tf_wr u12.2 5 5 (1 : Int32)) fun s16 =>
  fX5_castTo_52 x1 x2 s16 v14)
  else
  ((fX5_isNumber u12.2 x1).bind fun u17 =>
  if u17.1 = 0 then
  (tf_gl (tf_wr u17.2 5 5 (0 : Int32)) fun s20 =>
  fX5_castTo_52 x1 x2 s20 v14)
  else
  ((fX5_isNumber u17.2 x2).bind fun u21 =>
  if u21.1 = 0 then
  (tf_gl (tf_wr u21.2 5 5 (0 : Int32)) fun s24 =>
  fX5_castTo_52 x1 x2 s24 v14)
  else
  (tf_gl (tf_wr u21.2 5 5 (1 : Int32)) fun s25 =>
  fX5_castTo_52 x1 x2 s25 v14))))
  else
  (fX5_castTo_52 x1 x2 u1.2 v3)

def fX5_whatComes_113 (x1 : Int32) (σ : tf_S) (y2 y3 y5 : Int32) : Option (Int32 × tf_S) :=
  if tf_inb x1 24 = true then
  (if (σ 21 (x1).toNatClampNeg) = (1 : Int32) then
  ((fX3_putTo σ y2 y3 y5).bind fun u20 =>
  (fX5_orFault u20.2 u20.1 (u20.2 6 3)).bind fun u22 =>
  some (u22.1, u22.2))
  else
  (if (σ 21 (x1).toNatClampNeg) = (2 : Int32) then
  ((fX3_putTo σ y2 y3 (-1 : Int32)).bind fun u25 =>
  (fX5_orFault u25.2 u25.1 (u25.2 6 3)).bind fun u27 =>
  (fX5_filtered u27.2 y3 u27.1).bind fun u29 =>
  some (u29.1, u29.2))
  else
  (if (σ 21 (x1).toNatClampNeg) = (3 : Int32) then
  ((fX5_memberOf σ y3 y2).bind fun u32 =>
  some (u32.1, u32.2))
  else
  (if (σ 21 (x1).toNatClampNeg) = (4 : Int32) then
  ((fX4_commonOf σ y3 y5).bind fun u35 =>
  (fX5_orFault u35.2 u35.1 (6 : Int32)).bind fun u37 =>
  some (u37.1, u37.2))
  else
  (if (σ 21 (x1).toNatClampNeg) = (5 : Int32) then
  ((fX3_putTo σ y2 y3 y5).bind fun u40 =>
  (fX5_orFault u40.2 u40.1 (u40.2 6 3)).bind fun u42 =>
  some (u42.1, u42.2))
  else
  (if (σ 21 (x1).toNatClampNeg) = (6 : Int32) then
  ((fX5_joined σ x1 y3 y5).bind fun u45 =>
  some (u45.1, u45.2))
  else
  ((fX5_castTo σ y3 y2).bind fun u47 =>
  some (u47.1, u47.2))))))))
  else none
def fX5_whatComes_88 (x1 : Int32) (σ : tf_S) (y2 y3 y4 t0 : Int32) : Option (Int32 × tf_S) :=
  if y3 = (-1 : Int32) then
  ((fX5_none σ (7 : Int32)).bind fun u15 =>
  some (u15.1, u15.2))
  else
  (if y4 = 0 then
  (fX5_whatComes_113 x1 σ y2 y3 t0)
  else
  (if t0 = (-1 : Int32) then
  ((fX5_none σ (7 : Int32)).bind fun u50 =>
  some (u50.1, u50.2))
  else
  (fX5_whatComes_113 x1 σ y2 y3 t0)))
def fX5_whatComes (σ : tf_S) (x1 : Int32) : Option (Int32 × tf_S) :=
  tf_gl (tf_wr σ 5 4 (0 : Int32)) fun s1 =>
  tf_gl (tf_wr s1 5 5 (0 : Int32)) fun s2 =>
  if tf_inb x1 24 = true then
  (tf_gl (s2 24 (x1).toNatClampNeg) fun v4 =>
  if tf_inb x1 24 = true then
  (if (s2 21 (x1).toNatClampNeg) = 0 then
  (some (v4, s2))
  else
  (if tf_inb x1 24 = true then
  (if tf_inb (s2 22 (x1).toNatClampNeg) 24 = true then
  (tf_gl (s2 27 ((s2 22 (x1).toNatClampNeg)).toNatClampNeg) fun v9 =>
  (fX2_hasTwoInputs s2 x1).bind fun u10 =>
  tf_gl (u10.1) fun v12 =>
  if v12 = 0 then
  (fX5_whatComes_88 x1 u10.2 v4 v9 v12 (-1 : Int32))
  else
  (if tf_inb x1 24 = true then
  (if tf_inb (u10.2 23 (x1).toNatClampNeg) 24 = true then
  (fX5_whatComes_88 x1 u10.2 v4 v9 v12 (u10.2 27 ((u10.2 23 (x1).toNatClampNeg)).toNatClampNeg))
  else none)
  else none))
  else none)
  else none))
  else none)
  else none

def fX5_keep_47 (x1 x2 : Int32) (σ : tf_S) : Option tf_S :=
  if tf_inb (0 : Int32) 2 = true then
  (if tf_inb (1 : Int32) 2 = true then
  ((fX2_bind σ x1 (σ 31 ((0 : Int32)).toNatClampNeg) (σ 31 ((1 : Int32)).toNatClampNeg)).bind fun u11 =>
  some u11)
  else none)
  else none
def fX5_keep (σ : tf_S) (x1 x2 : Int32) : Option tf_S :=
  (fX2_tell σ x1 x2 (σ 5 4) (σ 5 5)).bind fun u1 =>
  if tf_inb x1 24 = true then
  (tf_gl (u1 21 (x1).toNatClampNeg) fun v4 =>
  if x2 = (-1 : Int32) then
  ((fX2_bind u1 x1 (-1 : Int32) (-1 : Int32)).bind fun u6 =>
  some u6)
  else
  (if v4 = (1 : Int32) then
  (fX5_keep_47 x1 x2 u1)
  else
  (if v4 = (2 : Int32) then
  (fX5_keep_47 x1 x2 u1)
  else
  (if v4 = (5 : Int32) then
  (fX5_keep_47 x1 x2 u1)
  else
  ((fX2_bind u1 x1 (-1 : Int32) (-1 : Int32)).bind fun u15 =>
  some u15)))))
  else none

def fX6_classOf (σ : tf_S) (x1 x2 : Int32) : Option (Int32 × tf_S) :=
  if x1 < 0 then
  (some ((-2 : Int32), σ))
  else
  (if x1 ≤ (2 : Int32) then
  ((fX4_isClassType σ x2).bind fun u3 =>
  if u3.1 = 0 then
  (some ((-2 : Int32), u3.2))
  else
  ((fX4_hasOnly u3.2 x2 x1).bind fun u6 =>
  if u6.1 = 0 then
  (some ((-2 : Int32), u6.2))
  else
  ((fX4_addClass u6.2 x1 x2).bind fun u9 =>
  some (u9.1, u9.2))))
  else
  (some ((-2 : Int32), σ)))

def fX6_type_61 (x1 x2 x3 : Int32) (σ : tf_S) (y4 : Int32) : Option (Int32 × tf_S) :=
  if y4 ≤ 0 then
  (if y4 ≤ (1 : Int32) then
  ((fX4_make σ x1 (-1 : Int32) (-1 : Int32)).bind fun u10 =>
  some (u10.1, u10.2))
  else
  ((fX4_make σ x1 (-1 : Int32) x3).bind fun u12 =>
  some (u12.1, u12.2)))
  else
  (if y4 ≤ (1 : Int32) then
  ((fX4_make σ x1 x2 (-1 : Int32)).bind fun u15 =>
  some (u15.1, u15.2))
  else
  ((fX4_make σ x1 x2 x3).bind fun u17 =>
  some (u17.1, u17.2)))
def fX6_type (σ : tf_S) (x1 x2 x3 : Int32) : Option (Int32 × tf_S) :=
  (fX4_isClass σ x1).bind fun u1 =>
  if u1.1 = 0 then
  (some ((-2 : Int32), u1.2))
  else
  (if tf_inb x1 12 = true then
  (tf_gl (u1.2 7 (x1).toNatClampNeg) fun v5 =>
  if v5 ≤ 0 then
  (if v5 ≤ (1 : Int32) then
  (fX6_type_61 x1 x2 x3 u1.2 v5)
  else
  ((fX4_isArgument u1.2 x3).bind fun u19 =>
  if u19.1 = 0 then
  (some ((-2 : Int32), u19.2))
  else
  (fX6_type_61 x1 x2 x3 u19.2 v5)))
  else
  ((fX4_isArgument u1.2 x2).bind fun u22 =>
  if u22.1 = 0 then
  (some ((-2 : Int32), u22.2))
  else
  (if v5 ≤ (1 : Int32) then
  (fX6_type_61 x1 x2 x3 u22.2 v5)
  else
  ((fX4_isArgument u22.2 x3).bind fun u26 =>
  if u26.1 = 0 then
  (some ((-2 : Int32), u26.2))
  else
  (fX6_type_61 x1 x2 x3 u26.2 v5)))))
  else none)

def fX6_member (σ : tf_S) (x1 x2 : Int32) : Option (Int32 × tf_S) :=
  (fX4_isClass σ x1).bind fun u1 =>
  if u1.1 = 0 then
  (some ((-2 : Int32), u1.2))
  else
  ((fX4_isType u1.2 x2).bind fun u4 =>
  if u4.1 = 0 then
  (some ((-2 : Int32), u4.2))
  else
  (if tf_inb x1 12 = true then
  ((fX4_hasOnly u4.2 x2 (u4.2 7 (x1).toNatClampNeg)).bind fun u8 =>
  if u8.1 = 0 then
  (some ((-2 : Int32), u8.2))
  else
  ((fX1_add u8.2 x1 x2).bind fun u11 =>
  some (u11.1, u11.2)))
  else none))

def fX6_function (σ : tf_S) (x1 x2 x3 : Int32) : Option (Int32 × tf_S) :=
  (fX4_isType σ x1).bind fun u1 =>
  if u1.1 = 0 then
  (some ((-2 : Int32), u1.2))
  else
  ((fX4_isType u1.2 x3).bind fun u4 =>
  if u4.1 = 0 then
  (some ((-2 : Int32), u4.2))
  else
  (if x2 = (-1 : Int32) then
  ((fX0_add u4.2 x1 x2 x3).bind fun u8 =>
  some (u8.1, u8.2))
  else
  ((fX4_isType u4.2 x2).bind fun u10 =>
  if u10.1 = 0 then
  (some ((-2 : Int32), u10.2))
  else
  ((fX0_add u10.2 x1 x2 x3).bind fun u13 =>
  some (u13.1, u13.2)))))

def fX6_isVariableNumber (σ : tf_S) (x0 : Int32) : Option (Int32 × tf_S) :=
  if x0 < 0 then
  (some ((0 : Int32), σ))
  else
  (if (2 : Int32) ≤ x0 then
  (some ((0 : Int32), σ))
  else
  (some ((1 : Int32), σ)))

def fX6_bound (σ : tf_S) (x1 x2 x3 : Int32) : Option (Int32 × tf_S) :=
  (fX0_has σ x1).bind fun u1 =>
  if u1.1 = 0 then
  (some ((-2 : Int32), u1.2))
  else
  ((fX6_isVariableNumber u1.2 x2).bind fun u4 =>
  if u4.1 = 0 then
  (some ((-2 : Int32), u4.2))
  else
  (if x3 = (-1 : Int32) then
  (if tf_inb ((x1 * (2 : Int32)) + x2) 32 = true then
  (tf_gl (tf_wr u4.2 20 (((x1 * (2 : Int32)) + x2)).toNatClampNeg x3) fun s9 =>
  some ((1 : Int32), s9))
  else none)
  else
  ((fX4_isClassType u4.2 x3).bind fun u10 =>
  if u10.1 = 0 then
  (some ((-2 : Int32), u10.2))
  else
  ((fX4_isClosed u10.2 x3).bind fun u13 =>
  if u13.1 = 0 then
  (some ((-2 : Int32), u13.2))
  else
  (if tf_inb ((x1 * (2 : Int32)) + x2) 32 = true then
  (tf_gl (tf_wr u13.2 20 (((x1 * (2 : Int32)) + x2)).toNatClampNeg x3) fun s17 =>
  some ((1 : Int32), s17))
  else none)))))

def fX6_isAsTold (σ : tf_S) (x1 x2 x3 x4 x5 x6 : Int32) : Option (Int32 × tf_S) :=
  if x1 = (0 : Int32) then
  ((fX4_isClosed σ x4).bind fun u2 =>
  if tf_bz u2.1 = true then some (u2.1, u2.2) else none)
  else
  (if x1 = (1 : Int32) then
  ((fX2_has σ x2).bind fun u6 =>
  if u6.1 = 0 then
  (some ((0 : Int32), u6.2))
  else
  ((fX0_hasWith u6.2 x4 (1 : Int32)).bind fun u9 =>
  if u9.1 = 0 then
  (some ((0 : Int32), u9.2))
  else
  (some ((1 : Int32), u9.2))))
  else
  (if x1 = (2 : Int32) then
  ((fX2_has σ x2).bind fun u13 =>
  if u13.1 = 0 then
  (some ((0 : Int32), u13.2))
  else
  ((fX0_hasWith u13.2 x4 (1 : Int32)).bind fun u16 =>
  if u16.1 = 0 then
  (some ((0 : Int32), u16.2))
  else
  (some ((1 : Int32), u16.2))))
  else
  (if x1 = (3 : Int32) then
  ((fX2_has σ x2).bind fun u20 =>
  if u20.1 = 0 then
  (some ((0 : Int32), u20.2))
  else
  ((fX1_has u20.2 x4).bind fun u23 =>
  if u23.1 = 0 then
  (some ((0 : Int32), u23.2))
  else
  (some ((1 : Int32), u23.2))))
  else
  (if x1 = (4 : Int32) then
  ((fX2_has σ x2).bind fun u27 =>
  if u27.1 = 0 then
  (some ((0 : Int32), u27.2))
  else
  ((fX2_has u27.2 x3).bind fun u30 =>
  if u30.1 = 0 then
  (some ((0 : Int32), u30.2))
  else
  (some ((1 : Int32), u30.2))))
  else
  (if x1 = (5 : Int32) then
  ((fX2_has σ x2).bind fun u34 =>
  if u34.1 = 0 then
  (some ((0 : Int32), u34.2))
  else
  ((fX2_has u34.2 x3).bind fun u37 =>
  if u37.1 = 0 then
  (some ((0 : Int32), u37.2))
  else
  ((fX0_hasWith u37.2 x4 (2 : Int32)).bind fun u40 =>
  if u40.1 = 0 then
  (some ((0 : Int32), u40.2))
  else
  (some ((1 : Int32), u40.2)))))
  else
  (if x1 = (6 : Int32) then
  ((fX2_has σ x2).bind fun u44 =>
  if u44.1 = 0 then
  (some ((0 : Int32), u44.2))
  else
  ((fX2_has u44.2 x3).bind fun u47 =>
  if u47.1 = 0 then
  (some ((0 : Int32), u47.2))
  else
  ((fX1_has u47.2 x4).bind fun u50 =>
  if u50.1 = 0 then
  (some ((0 : Int32), u50.2))
  else
  ((fX1_has u50.2 x5).bind fun u53 =>
  if u53.1 = 0 then
  (some ((0 : Int32), u53.2))
  else
  ((fX4_isClass u53.2 x6).bind fun u56 =>
  if u56.1 = 0 then
  (some ((0 : Int32), u56.2))
  else
  (if tf_inb x6 12 = true then
  (if (u56.2 7 (x6).toNatClampNeg) = (2 : Int32) then
  (some ((1 : Int32), u56.2))
  else
  (some ((0 : Int32), u56.2)))
  else none))))))
  else
  (if x1 = (7 : Int32) then
  ((fX2_has σ x2).bind fun u62 =>
  if u62.1 = 0 then
  (some ((0 : Int32), u62.2))
  else
  ((fX4_isClosed u62.2 x4).bind fun u65 =>
  if u65.1 = 0 then
  (some ((0 : Int32), u65.2))
  else
  (some ((1 : Int32), u65.2))))
  else
  (some ((0 : Int32), σ)))))))))

def fX6_operator (σ : tf_S) (x1 x2 x3 x4 x5 x6 : Int32) : Option (Int32 × tf_S) :=
  (fX6_isAsTold σ x1 x2 x3 x4 x5 x6).bind fun u1 =>
  if u1.1 = 0 then
  (some ((-2 : Int32), u1.2))
  else
  ((fX2_add u1.2 x1 x2 x3 x4 x5 x6).bind fun u4 =>
  some (u4.1, u4.2))

def fX6_clear (σ : tf_S) : Option (Int32 × tf_S) :=
  tf_gl (σ 4 0) fun v1 =>
  tf_gl (tf_wr σ 4 0 (0 : Int32)) fun s2 =>
  some (v1, s2)

def fX6_flow_4 : Nat → tf_S → Int32 → Int32 → Option (Int32 × tf_S)
  | 0, _, _, _ => none
  | n + 1, σ, y1, y2 =>
    if (σ 4 0) ≤ y2 then
    (some (y1, σ))
    else
    ((fX5_whatComes σ y2).bind fun u2 =>
    tf_gl (u2.1) fun v4 =>
    (fX5_keep u2.2 y2 v4).bind fun u5 =>
    if v4 = (-1 : Int32) then
    (tf_gl (y2 + (1 : Int32)) fun v8 =>
    fX6_flow_4 n u5 y1 v8)
    else
    (tf_gl (y1 + (1 : Int32)) fun v9 =>
    tf_gl (y2 + (1 : Int32)) fun v10 =>
    fX6_flow_4 n u5 v9 v10))
def fX6_flow (σ : tf_S) : Option (Int32 × tf_S) :=
  fX6_flow_4 100000 σ (0 : Int32) (0 : Int32)

def fX6_comes (σ : tf_S) (x1 : Int32) : Option (Int32 × tf_S) :=
  (fX2_has σ x1).bind fun u1 =>
  if u1.1 = 0 then
  (some ((-2 : Int32), u1.2))
  else
  (if tf_inb x1 24 = true then
  (some ((u1.2 27 (x1).toNatClampNeg), u1.2))
  else none)

def fX6_reason (σ : tf_S) (x1 : Int32) : Option (Int32 × tf_S) :=
  (fX2_has σ x1).bind fun u1 =>
  if u1.1 = 0 then
  (some ((-2 : Int32), u1.2))
  else
  (if tf_inb x1 24 = true then
  (some ((u1.2 28 (x1).toNatClampNeg), u1.2))
  else none)

def fX6_mayFail (σ : tf_S) (x1 : Int32) : Option (Int32 × tf_S) :=
  (fX2_has σ x1).bind fun u1 =>
  if u1.1 = 0 then
  (some ((-2 : Int32), u1.2))
  else
  (if tf_inb x1 24 = true then
  (if (u1.2 29 (x1).toNatClampNeg) = 0 then
  (some ((0 : Int32), u1.2))
  else
  (some ((1 : Int32), u1.2)))
  else none)

def fX6_cast_4 (x1 : Int32) : Nat → tf_S → Int32 → Int32 → Option (Int32 × tf_S)
  | 0, _, _, _ => none
  | n + 1, σ, y2, y3 =>
    if (σ 4 0) ≤ y3 then
    (some ((-1 : Int32), σ))
    else
    (if tf_inb y3 24 = true then
    (if (σ 29 (y3).toNatClampNeg) = 0 then
    (tf_gl (y3 + (1 : Int32)) fun v4 =>
    fX6_cast_4 x1 n σ y2 v4)
    else
    (if y2 = x1 then
    (some (y3, σ))
    else
    (tf_gl (y2 + (1 : Int32)) fun v6 =>
    tf_gl (y3 + (1 : Int32)) fun v7 =>
    fX6_cast_4 x1 n σ v6 v7)))
    else none)
def fX6_cast (σ : tf_S) (x1 : Int32) : Option (Int32 × tf_S) :=
  fX6_cast_4 x1 100000 σ (0 : Int32) (0 : Int32)

def fX6_boundTo (σ : tf_S) (x1 x2 : Int32) : Option (Int32 × tf_S) :=
  (fX2_has σ x1).bind fun u1 =>
  if u1.1 = 0 then
  (some ((-2 : Int32), u1.2))
  else
  ((fX6_isVariableNumber u1.2 x2).bind fun u4 =>
  if u4.1 = 0 then
  (some ((-2 : Int32), u4.2))
  else
  (if tf_inb ((x1 * (2 : Int32)) + x2) 48 = true then
  (some ((u4.2 30 (((x1 * (2 : Int32)) + x2)).toNatClampNeg), u4.2))
  else none))

def fX6_goes (σ : tf_S) (x1 x2 : Int32) : Option (Int32 × tf_S) :=
  (fX4_isClosed σ x1).bind fun u1 =>
  if u1.1 = 0 then
  (some ((-2 : Int32), u1.2))
  else
  ((fX4_isClosed u1.2 x2).bind fun u4 =>
  if u4.1 = 0 then
  (some ((-2 : Int32), u4.2))
  else
  ((fX4_goesFor u4.2 x1 x2).bind fun u7 =>
  some (u7.1, u7.2)))

def fX6_common (σ : tf_S) (x1 x2 : Int32) : Option (Int32 × tf_S) :=
  (fX4_isClosed σ x1).bind fun u1 =>
  if u1.1 = 0 then
  (some ((-2 : Int32), u1.2))
  else
  ((fX4_isClosed u1.2 x2).bind fun u4 =>
  if u4.1 = 0 then
  (some ((-2 : Int32), u4.2))
  else
  ((fX4_commonOf u4.2 x1 x2).bind fun u7 =>
  some (u7.1, u7.2)))

def fX6_seen (σ : tf_S) (x1 x2 : Int32) : Option (Int32 × tf_S) :=
  (fX4_isClassType σ x1).bind fun u1 =>
  if u1.1 = 0 then
  (some ((-2 : Int32), u1.2))
  else
  ((fX4_isClass u1.2 x2).bind fun u4 =>
  if u4.1 = 0 then
  (some ((-2 : Int32), u4.2))
  else
  ((fX4_seenAs u4.2 x1 x2).bind fun u7 =>
  some (u7.1, u7.2)))

def fX6_about (σ : tf_S) (x1 x2 : Int32) : Option (Int32 × tf_S) :=
  (fX4_isType σ x1).bind fun u1 =>
  if u1.1 = 0 then
  (some ((-2 : Int32), u1.2))
  else
  (if x2 = (0 : Int32) then
  (if tf_inb x1 80 = true then
  (some ((u1.2 9 (x1).toNatClampNeg), u1.2))
  else none)
  else
  (if x2 = (1 : Int32) then
  (if tf_inb x1 80 = true then
  (some ((u1.2 10 (x1).toNatClampNeg), u1.2))
  else none)
  else
  (if x2 = (2 : Int32) then
  (if tf_inb x1 80 = true then
  (some ((u1.2 11 (x1).toNatClampNeg), u1.2))
  else none)
  else
  (if x2 = (3 : Int32) then
  ((fX4_isClosed u1.2 x1).bind fun u11 =>
  if u11.1 = 0 then
  (some ((0 : Int32), u11.2))
  else
  (some ((1 : Int32), u11.2)))
  else
  (some ((-2 : Int32), u1.2))))))

def fX6_count (σ : tf_S) (x1 : Int32) : Option (Int32 × tf_S) :=
  if x1 = (0 : Int32) then
  (some ((σ 1 0), σ))
  else
  (if x1 = (1 : Int32) then
  (some ((σ 1 3), σ))
  else
  (if x1 = (2 : Int32) then
  (some ((σ 2 0), σ))
  else
  (if x1 = (3 : Int32) then
  (some ((σ 3 0), σ))
  else
  (if x1 = (4 : Int32) then
  (some ((σ 4 0), σ))
  else
  (if x1 = (5 : Int32) then
  ((fX2_howManyRisky σ).bind fun u7 =>
  some (u7.1, u7.2))
  else
  (some ((-2 : Int32), σ)))))))
end
section
set_option maxHeartbeats 4000000 in
set_option maxRecDepth 100000 in
theorem kX_X0_has (l : Launch) (D : va_G) (ad : Nat → Nat) (cI cZ : ClassId) (σ : tf_S) (x1 : Int32) (z : Int32 × tf_S) (h : fX0_has σ x1 = some z) : tf_C l D (tf_wx ad cI cZ) [(cI, .int), (cZ, .boolean)] tf_nest yX0_has wsX0_has ({ frames := 0, cells := 0, slots := 0, locals := 0 }) [.ref (ad 3), .int x1] σ z := by
  intro sz
  refine Met.ofW (cc := cX0_has) (maxL := 2) (ret := (some .boolean)) (by decide) rfl ?_
  intro p e s m args below meth c s₁ B hml hv
  obtain ⟨rfl, hsz, hP, hK, hN, hD0⟩ := hv
  have hx := B.exec
  have hb := B.bytes
  have hr := B.returns
  have hts := atoms_spec (ws := wsX0_has) B.pre
  have hown : s.vm.findClass RX0 = some m.cls := findClass_of_methodNamed B.named
  have hlocks := B.notSynchronized
  subst hsz
  have hI := tf_start (D := D) (tf_x_ad ad cI cZ) hP hD0
  have hl := lv_entry ([.ref (ad 3), .int x1]) (n := 2) (Nat.le_of_ble_eq_true rfl)
  rw [lg_entry_eq]
  generalize (lg_sl ([.ref (ad 3), .int x1]) ++ List.replicate (2 - (lg_sl ([.ref (ad 3), .int x1])).length) Slot.unset).toArray = ls at hl ⊢
  have hl : lv_has ls 2 [(0, .ref (ad 3)), (1, .int x1)] := hl
  have hn_X0 : ∀ w ∈ u_ws RX0 TX0 5, w ∈ wsX0_has := by decide +kernel
  have hf_9 := hts (.fieldLink RX0 9 "TypeFlow$Functions" "size" "I") (by decide +kernel)
  unfold fX0_has at h
  refine lv_iload_n hx hb dX0_has_0 rfl (lv_at hl 1 rfl) ?_
  refine lv_if_lt (tgt := 16) hx hb dX0_has_1 (by decide) (fun c1 => ?_) (fun c1 => ?_)
  · replace h := tf_pos c1 h
    refine lv_iconst (v := 0) hx hb dX0_has_16 (by decide +kernel) ?_
    exact tf_zret hx hb hr (Or.inl rfl) hI h dX0_has_17 hlocks
  replace h := tf_neg c1 h
  refine lv_iload_n hx hb dX0_has_4 rfl (lv_at hl 1 rfl) ?_
  refine lv_aload_n hx hb dX0_has_5 rfl (lv_at hl 0 rfl) ?_
  refine tf_get (C := RX0) (T := TX0) (N := 5) hx hb hts hn_X0 hown hK hI 3 (tf_xat_3 ad cI cZ _) rfl 0 (by decide) hf_9 rfl rfl dX0_has_6 ?_
  refine lv_icmp_ge (tgt := 16) hx hb dX0_has_9 (by decide) (fun c2 => ?_) (fun c2 => ?_)
  · replace h := tf_pos c2 h
    refine lv_iconst (v := 0) hx hb dX0_has_16 (by decide +kernel) ?_
    exact tf_zret hx hb hr (Or.inl rfl) hI h dX0_has_17 hlocks
  replace h := tf_neg c2 h
  refine lv_iconst (v := 1) hx hb dX0_has_12 (by decide +kernel) ?_
  refine lv_goto (tgt := 17) hx hb dX0_has_13 (by decide) ?_
  exact tf_zret hx hb hr (Or.inr rfl) hI h dX0_has_17 hlocks

set_option maxHeartbeats 4000000 in
set_option maxRecDepth 100000 in
theorem kX_X0_hasWith (l : Launch) (D : va_G) (ad : Nat → Nat) (cI cZ : ClassId) (σ : tf_S) (x1 x2 : Int32) (z : Int32 × tf_S) (h : fX0_hasWith σ x1 x2 = some z) : tf_C l D (tf_wx ad cI cZ) [(cI, .int), (cZ, .boolean)] tf_nest yX0_hasWith wsX0_hasWith ({ frames := 1, cells := 0, slots := 0, locals := 21 }) [.ref (ad 3), .int x1, .int x2] σ z := by
  intro sz
  refine Met.ofW (cc := cX0_hasWith) (maxL := 3) (ret := (some .boolean)) (by decide) rfl ?_
  intro p e s m args below meth c s₁ B hml hv
  obtain ⟨rfl, hsz, hP, hK, hN, hD0⟩ := hv
  have hx := B.exec
  have hb := B.bytes
  have hr := B.returns
  have hts := atoms_spec (ws := wsX0_hasWith) B.pre
  have hown : s.vm.findClass RX0 = some m.cls := findClass_of_methodNamed B.named
  have hlocks := B.notSynchronized
  subst hsz
  have hI := tf_start (D := D) (tf_x_ad ad cI cZ) hP hD0
  have hl := lv_entry ([.ref (ad 3), .int x1, .int x2]) (n := 3) (Nat.le_of_ble_eq_true rfl)
  rw [lg_entry_eq]
  generalize (lg_sl ([.ref (ad 3), .int x1, .int x2]) ++ List.replicate (3 - (lg_sl ([.ref (ad 3), .int x1, .int x2])).length) Slot.unset).toArray = ls at hl ⊢
  have hl : lv_has ls 3 [(0, .ref (ad 3)), (1, .int x1), (2, .int x2)] := hl
  have hn_X0 : ∀ w ∈ u_ws RX0 TX0 5, w ∈ wsX0_hasWith := by decide +kernel
  have hf_19 := hts (.fieldLink RX0 19 "TypeFlow$Functions" "second" "[I") (by decide +kernel)
  unfold fX0_hasWith at h
  refine lv_aload_n hx hb dX0_hasWith_0 rfl (lv_at hl 0 rfl) ?_
  refine lv_iload_n hx hb dX0_hasWith_1 rfl (lv_at hl 1 rfl) ?_
  obtain ⟨u1, q2, h⟩ := tf_gbind h
  refine tf_callV (rest := []) ⟨hx, hb, hml, hown, hts⟩ hK hN hI (kX_X0_has l D ad cI cZ _ _ _ q2) (cwV 1 hts gX0_hasWith_X0_has rfl rfl rfl (by decide +kernel) ⟨Nat.le_of_ble_eq_true rfl, Nat.le_of_ble_eq_true rfl⟩) 3 0 (tf_xat_3 ad cI cZ _) rfl rfl hl.1 rfl (Nat.le_of_ble_eq_true rfl) dX0_hasWith_2 (fun H locs hI => ?_)
  refine lv_if_eq (tgt := 31) hx hb dX0_hasWith_5 (by decide) (fun c3 => ?_) (fun c3 => ?_)
  · replace h := tf_pos c3 h
    refine lv_iconst (v := 0) hx hb dX0_hasWith_31 (by decide +kernel) ?_
    exact tf_zret hx hb hr (Or.inl rfl) hI h dX0_hasWith_32 hlocks
  replace h := tf_neg c3 h
  refine lv_aload_n hx hb dX0_hasWith_8 rfl (lv_at hl 0 rfl) ?_
  refine tf_get (C := RX0) (T := TX0) (N := 5) hx hb hts hn_X0 hown hK hI 3 (tf_xat_3 ad cI cZ _) rfl 2 (by decide) hf_19 rfl rfl dX0_hasWith_9 ?_
  refine lv_iload_n hx hb dX0_hasWith_12 rfl (lv_at hl 1 rfl) ?_
  obtain ⟨b4, h⟩ := tf_gin h
  refine va_iald hx hb hK hI.1 18 0 (tf_xat_18 ad cI cZ _) rfl b4 dX0_hasWith_13 ?_
  refine lv_iconst (v := -1) hx hb dX0_hasWith_14 (by decide +kernel) ?_
  refine lv_icmp_ne (tgt := 22) hx hb dX0_hasWith_15 (by decide) (fun c5 => ?_) (fun c5 => ?_)
  · replace h := tf_neg c5 h
    refine lv_iconst (v := 2) hx hb dX0_hasWith_22 (by decide +kernel) ?_
    refine lv_iload_n hx hb dX0_hasWith_23 rfl (lv_at hl 2 rfl) ?_
    refine lv_icmp_ne (tgt := 31) hx hb dX0_hasWith_24 (by decide) (fun c6 => ?_) (fun c6 => ?_)
    · replace h := tf_neg c6 h
      refine lv_iconst (v := 0) hx hb dX0_hasWith_31 (by decide +kernel) ?_
      exact tf_zret hx hb hr (Or.inl rfl) hI h dX0_hasWith_32 hlocks
    replace h := tf_pos c6 h
    refine lv_iconst (v := 1) hx hb dX0_hasWith_27 (by decide +kernel) ?_
    refine lv_goto (tgt := 32) hx hb dX0_hasWith_28 (by decide) ?_
    exact tf_zret hx hb hr (Or.inr rfl) hI h dX0_hasWith_32 hlocks
  replace h := tf_pos c5 h
  refine lv_iconst (v := 1) hx hb dX0_hasWith_18 (by decide +kernel) ?_
  refine lv_goto (tgt := 23) hx hb dX0_hasWith_19 (by decide) ?_
  refine lv_iload_n hx hb dX0_hasWith_23 rfl (lv_at hl 2 rfl) ?_
  refine lv_icmp_ne (tgt := 31) hx hb dX0_hasWith_24 (by decide) (fun c7 => ?_) (fun c7 => ?_)
  · replace h := tf_neg c7 h
    refine lv_iconst (v := 0) hx hb dX0_hasWith_31 (by decide +kernel) ?_
    exact tf_zret hx hb hr (Or.inl rfl) hI h dX0_hasWith_32 hlocks
  replace h := tf_pos c7 h
  refine lv_iconst (v := 1) hx hb dX0_hasWith_27 (by decide +kernel) ?_
  refine lv_goto (tgt := 32) hx hb dX0_hasWith_28 (by decide) ?_
  exact tf_zret hx hb hr (Or.inr rfl) hI h dX0_hasWith_32 hlocks

set_option maxHeartbeats 4000000 in
set_option maxRecDepth 100000 in
theorem kX_X0_add (l : Launch) (D : va_G) (ad : Nat → Nat) (cI cZ : ClassId) (σ : tf_S) (x1 x2 x3 : Int32) (z : Int32 × tf_S) (h : fX0_add σ x1 x2 x3 = some z) : tf_C l D (tf_wx ad cI cZ) [(cI, .int), (cZ, .boolean)] tf_nest yX0_add wsX0_add ({ frames := 0, cells := 0, slots := 0, locals := 0 }) [.ref (ad 3), .int x1, .int x2, .int x3] σ z := by
  intro sz
  refine Met.ofW (cc := cX0_add) (maxL := 5) (ret := (some .int)) (by decide) rfl ?_
  intro p e s m args below meth c s₁ B hml hv
  obtain ⟨rfl, hsz, hP, hK, hN, hD0⟩ := hv
  have hx := B.exec
  have hb := B.bytes
  have hr := B.returns
  have hts := atoms_spec (ws := wsX0_add) B.pre
  have hown : s.vm.findClass RX0 = some m.cls := findClass_of_methodNamed B.named
  have hlocks := B.notSynchronized
  subst hsz
  have hI := tf_start (D := D) (tf_x_ad ad cI cZ) hP hD0
  have hl := lv_entry ([.ref (ad 3), .int x1, .int x2, .int x3]) (n := 5) (Nat.le_of_ble_eq_true rfl)
  rw [lg_entry_eq]
  generalize (lg_sl ([.ref (ad 3), .int x1, .int x2, .int x3]) ++ List.replicate (5 - (lg_sl ([.ref (ad 3), .int x1, .int x2, .int x3])).length) Slot.unset).toArray = ls at hl ⊢
  have hl : lv_has ls 5 [(0, .ref (ad 3)), (1, .int x1), (2, .int x2), (3, .int x3)] := hl
  have hn_X0 : ∀ w ∈ u_ws RX0 TX0 5, w ∈ wsX0_add := by decide +kernel
  have hf_9 := hts (.fieldLink RX0 9 "TypeFlow$Functions" "size" "I") (by decide +kernel)
  have hf_15 := hts (.fieldLink RX0 15 "TypeFlow$Functions" "first" "[I") (by decide +kernel)
  have hf_19 := hts (.fieldLink RX0 19 "TypeFlow$Functions" "second" "[I") (by decide +kernel)
  have hf_22 := hts (.fieldLink RX0 22 "TypeFlow$Functions" "result" "[I") (by decide +kernel)
  have hf_25 := hts (.fieldLink RX0 25 "TypeFlow$Functions" "bounds" "[I") (by decide +kernel)
  have j45 : ∀ n : Nat, ∀ (σ : tf_S) (y4 : Int32) (H : Heap) (locs : List Loc) (ls : Array Slot), fX0_add_45 x1 x2 x3 n σ y4 = some z → tf_I D (tf_wx ad cI cZ) s.heap σ H locs → lv_has ls 5 [(0, .ref (ad 3)), (4, .int y4)] → W p l e (headSpec wsX0_add ({ frames := 0, cells := 0, slots := 0, locals := 0 })).room s m ([.ref (ad 3), .int x1, .int x2, .int x3] : List Value).toArray below meth c H locs 0 0 (tf_Q below D (tf_wx ad cI cZ) z ([.ref (ad 3), .int x1, .int x2, .int x3] : List Value).toArray s) (F0 m 45 ls []) := by
    intro n
    induction n with
    | zero =>
      intro σ y4 H locs ls h
      rw [fX0_add_45] at h
      cases h
    | succ n ih =>
      intro σ y4 H locs ls h hI hl
      rw [fX0_add_45] at h
      refine lv_iload hx hb dX0_add_45 (lv_at hl 1 rfl) ?_
      refine lv_iconst (v := 2) hx hb dX0_add_47 (by decide +kernel) ?_
      refine lv_icmp_ge (tgt := 72) hx hb dX0_add_48 (by decide) (fun c8 => ?_) (fun c8 => ?_)
      · replace h := tf_pos c8 h
        refine lv_aload_n hx hb dX0_add_72 rfl (lv_at hl 0 rfl) ?_
        refine lv_dup hx hb dX0_add_73 rfl ?_
        refine tf_get (C := RX0) (T := TX0) (N := 5) hx hb hts hn_X0 hown hK hI 3 (tf_xat_3 ad cI cZ _) rfl 0 (by decide) hf_9 rfl rfl dX0_add_74 ?_
        refine lv_dup_x1 hx hb dX0_add_77 rfl rfl ?_
        refine lv_iconst (v := 1) hx hb dX0_add_78 (by decide +kernel) ?_
        refine lv_iadd hx hb dX0_add_79 ?_
        obtain ⟨s9, es9, h⟩ := tf_glet h
        refine tf_put (C := RX0) (T := TX0) (N := 5) (ty := .int) hx hb hts hn_X0 tyX0 tyX0_ok nmX0 hown hK hI 3 (tf_xat_3 ad cI cZ _) rfl 0 (by decide) hf_9 rfl rfl (by decide +kernel) rfl rfl (Nat.le_of_ble_eq_true rfl) (tf_xput_3_0 ad cI cZ _ _) es9 dX0_add_80 (fun H locs hI => ?_)
        exact tf_iret hx hb hr hI h dX0_add_83 hlocks
      replace h := tf_neg c8 h
      refine lv_aload_n hx hb dX0_add_51 rfl (lv_at hl 0 rfl) ?_
      refine tf_get (C := RX0) (T := TX0) (N := 5) hx hb hts hn_X0 hown hK hI 3 (tf_xat_3 ad cI cZ _) rfl 4 (by decide) hf_25 rfl rfl dX0_add_52 ?_
      refine lv_aload_n hx hb dX0_add_55 rfl (lv_at hl 0 rfl) ?_
      refine tf_get (C := RX0) (T := TX0) (N := 5) hx hb hts hn_X0 hown hK hI 3 (tf_xat_3 ad cI cZ _) rfl 0 (by decide) hf_9 rfl rfl dX0_add_56 ?_
      refine lv_iconst (v := 2) hx hb dX0_add_59 (by decide +kernel) ?_
      refine lv_imul hx hb dX0_add_60 ?_
      refine lv_iload hx hb dX0_add_61 (lv_at hl 1 rfl) ?_
      refine lv_iadd hx hb dX0_add_63 ?_
      refine lv_iconst (v := -1) hx hb dX0_add_64 (by decide +kernel) ?_
      obtain ⟨b10, h⟩ := tf_gin h
      obtain ⟨s11, es11, h⟩ := tf_glet h
      refine tf_iast hx hb hK hI 20 0 (tf_xat_20 ad cI cZ _) (tf_xset_20 ad cI cZ _) rfl b10 es11 dX0_add_65 (fun H locs hI => ?_)
      obtain ⟨v12, ev12, h⟩ := tf_glet h
      refine lv_iinc (v := v12) (lv' := [(4, .int v12), (0, .ref (ad 3))]) hx hb dX0_add_66 hl (k := 1) rfl (by rw [ev12]; rfl) (by decide) rfl (fun ls hl => ?_)
      refine lv_goto (tgt := 45) hx hb dX0_add_69 (by decide) ?_
      exact ih _ _ _ _ _ h hI (lv_sub hl [1, 0] rfl)
  unfold fX0_add at h
  refine lv_aload_n hx hb dX0_add_0 rfl (lv_at hl 0 rfl) ?_
  refine tf_get (C := RX0) (T := TX0) (N := 5) hx hb hts hn_X0 hown hK hI 3 (tf_xat_3 ad cI cZ _) rfl 0 (by decide) hf_9 rfl rfl dX0_add_1 ?_
  refine lv_bipush (v := 16) hx hb dX0_add_4 (by decide +kernel) ?_
  refine lv_icmp_lt (tgt := 12) hx hb dX0_add_6 (by decide) (fun c1 => ?_) (fun c1 => ?_)
  · replace h := tf_pos c1 h
    refine lv_aload_n hx hb dX0_add_12 rfl (lv_at hl 0 rfl) ?_
    refine tf_get (C := RX0) (T := TX0) (N := 5) hx hb hts hn_X0 hown hK hI 3 (tf_xat_3 ad cI cZ _) rfl 1 (by decide) hf_15 rfl rfl dX0_add_13 ?_
    refine lv_aload_n hx hb dX0_add_16 rfl (lv_at hl 0 rfl) ?_
    refine tf_get (C := RX0) (T := TX0) (N := 5) hx hb hts hn_X0 hown hK hI 3 (tf_xat_3 ad cI cZ _) rfl 0 (by decide) hf_9 rfl rfl dX0_add_17 ?_
    refine lv_iload_n hx hb dX0_add_20 rfl (lv_at hl 1 rfl) ?_
    obtain ⟨b2, h⟩ := tf_gin h
    obtain ⟨s3, es3, h⟩ := tf_glet h
    refine tf_iast hx hb hK hI 17 0 (tf_xat_17 ad cI cZ _) (tf_xset_17 ad cI cZ _) rfl b2 es3 dX0_add_21 (fun H locs hI => ?_)
    refine lv_aload_n hx hb dX0_add_22 rfl (lv_at hl 0 rfl) ?_
    refine tf_get (C := RX0) (T := TX0) (N := 5) hx hb hts hn_X0 hown hK hI 3 (tf_xat_3 ad cI cZ _) rfl 2 (by decide) hf_19 rfl rfl dX0_add_23 ?_
    refine lv_aload_n hx hb dX0_add_26 rfl (lv_at hl 0 rfl) ?_
    refine tf_get (C := RX0) (T := TX0) (N := 5) hx hb hts hn_X0 hown hK hI 3 (tf_xat_3 ad cI cZ _) rfl 0 (by decide) hf_9 rfl rfl dX0_add_27 ?_
    refine lv_iload_n hx hb dX0_add_30 rfl (lv_at hl 2 rfl) ?_
    obtain ⟨b4, h⟩ := tf_gin h
    obtain ⟨s5, es5, h⟩ := tf_glet h
    refine tf_iast hx hb hK hI 18 0 (tf_xat_18 ad cI cZ _) (tf_xset_18 ad cI cZ _) rfl b4 es5 dX0_add_31 (fun H locs hI => ?_)
    refine lv_aload_n hx hb dX0_add_32 rfl (lv_at hl 0 rfl) ?_
    refine tf_get (C := RX0) (T := TX0) (N := 5) hx hb hts hn_X0 hown hK hI 3 (tf_xat_3 ad cI cZ _) rfl 3 (by decide) hf_22 rfl rfl dX0_add_33 ?_
    refine lv_aload_n hx hb dX0_add_36 rfl (lv_at hl 0 rfl) ?_
    refine tf_get (C := RX0) (T := TX0) (N := 5) hx hb hts hn_X0 hown hK hI 3 (tf_xat_3 ad cI cZ _) rfl 0 (by decide) hf_9 rfl rfl dX0_add_37 ?_
    refine lv_iload_n hx hb dX0_add_40 rfl (lv_at hl 3 rfl) ?_
    obtain ⟨b6, h⟩ := tf_gin h
    obtain ⟨s7, es7, h⟩ := tf_glet h
    refine tf_iast hx hb hK hI 19 0 (tf_xat_19 ad cI cZ _) (tf_xset_19 ad cI cZ _) rfl b6 es7 dX0_add_41 (fun H locs hI => ?_)
    refine lv_iconst (v := 0) hx hb dX0_add_42 (by decide +kernel) ?_
    refine lv_istore (lv' := [(4, .int (0 : Int32)), (0, .ref (ad 3)), (1, .int x1), (2, .int x2), (3, .int x3)]) hx hb dX0_add_43 hl (by decide) rfl (fun ls hl => ?_)
    exact j45  _ _ _ _ _ _ h hI (lv_sub hl [1, 0] rfl)
  replace h := tf_neg c1 h
  refine lv_bipush (v := -3) hx hb dX0_add_9 (by decide +kernel) ?_
  exact tf_iret hx hb hr hI h dX0_add_11 hlocks

set_option maxHeartbeats 4000000 in
set_option maxRecDepth 100000 in
theorem kX_X1_has (l : Launch) (D : va_G) (ad : Nat → Nat) (cI cZ : ClassId) (σ : tf_S) (x1 : Int32) (z : Int32 × tf_S) (h : fX1_has σ x1 = some z) : tf_C l D (tf_wx ad cI cZ) [(cI, .int), (cZ, .boolean)] tf_nest yX1_has wsX1_has ({ frames := 0, cells := 0, slots := 0, locals := 0 }) [.ref (ad 2), .int x1] σ z := by
  intro sz
  refine Met.ofW (cc := cX1_has) (maxL := 2) (ret := (some .boolean)) (by decide) rfl ?_
  intro p e s m args below meth c s₁ B hml hv
  obtain ⟨rfl, hsz, hP, hK, hN, hD0⟩ := hv
  have hx := B.exec
  have hb := B.bytes
  have hr := B.returns
  have hts := atoms_spec (ws := wsX1_has) B.pre
  have hown : s.vm.findClass RX1 = some m.cls := findClass_of_methodNamed B.named
  have hlocks := B.notSynchronized
  subst hsz
  have hI := tf_start (D := D) (tf_x_ad ad cI cZ) hP hD0
  have hl := lv_entry ([.ref (ad 2), .int x1]) (n := 2) (Nat.le_of_ble_eq_true rfl)
  rw [lg_entry_eq]
  generalize (lg_sl ([.ref (ad 2), .int x1]) ++ List.replicate (2 - (lg_sl ([.ref (ad 2), .int x1])).length) Slot.unset).toArray = ls at hl ⊢
  have hl : lv_has ls 2 [(0, .ref (ad 2)), (1, .int x1)] := hl
  have hn_X1 : ∀ w ∈ u_ws RX1 TX1 3, w ∈ wsX1_has := by decide +kernel
  have hf_9 := hts (.fieldLink RX1 9 "TypeFlow$Members" "size" "I") (by decide +kernel)
  unfold fX1_has at h
  refine lv_iload_n hx hb dX1_has_0 rfl (lv_at hl 1 rfl) ?_
  refine lv_if_lt (tgt := 16) hx hb dX1_has_1 (by decide) (fun c1 => ?_) (fun c1 => ?_)
  · replace h := tf_pos c1 h
    refine lv_iconst (v := 0) hx hb dX1_has_16 (by decide +kernel) ?_
    exact tf_zret hx hb hr (Or.inl rfl) hI h dX1_has_17 hlocks
  replace h := tf_neg c1 h
  refine lv_iload_n hx hb dX1_has_4 rfl (lv_at hl 1 rfl) ?_
  refine lv_aload_n hx hb dX1_has_5 rfl (lv_at hl 0 rfl) ?_
  refine tf_get (C := RX1) (T := TX1) (N := 3) hx hb hts hn_X1 hown hK hI 2 (tf_xat_2 ad cI cZ _) rfl 0 (by decide) hf_9 rfl rfl dX1_has_6 ?_
  refine lv_icmp_ge (tgt := 16) hx hb dX1_has_9 (by decide) (fun c2 => ?_) (fun c2 => ?_)
  · replace h := tf_pos c2 h
    refine lv_iconst (v := 0) hx hb dX1_has_16 (by decide +kernel) ?_
    exact tf_zret hx hb hr (Or.inl rfl) hI h dX1_has_17 hlocks
  replace h := tf_neg c2 h
  refine lv_iconst (v := 1) hx hb dX1_has_12 (by decide +kernel) ?_
  refine lv_goto (tgt := 17) hx hb dX1_has_13 (by decide) ?_
  exact tf_zret hx hb hr (Or.inr rfl) hI h dX1_has_17 hlocks

set_option maxHeartbeats 4000000 in
set_option maxRecDepth 100000 in
theorem kX_X1_add (l : Launch) (D : va_G) (ad : Nat → Nat) (cI cZ : ClassId) (σ : tf_S) (x1 x2 : Int32) (z : Int32 × tf_S) (h : fX1_add σ x1 x2 = some z) : tf_C l D (tf_wx ad cI cZ) [(cI, .int), (cZ, .boolean)] tf_nest yX1_add wsX1_add ({ frames := 0, cells := 0, slots := 0, locals := 0 }) [.ref (ad 2), .int x1, .int x2] σ z := by
  intro sz
  refine Met.ofW (cc := cX1_add) (maxL := 3) (ret := (some .int)) (by decide) rfl ?_
  intro p e s m args below meth c s₁ B hml hv
  obtain ⟨rfl, hsz, hP, hK, hN, hD0⟩ := hv
  have hx := B.exec
  have hb := B.bytes
  have hr := B.returns
  have hts := atoms_spec (ws := wsX1_add) B.pre
  have hown : s.vm.findClass RX1 = some m.cls := findClass_of_methodNamed B.named
  have hlocks := B.notSynchronized
  subst hsz
  have hI := tf_start (D := D) (tf_x_ad ad cI cZ) hP hD0
  have hl := lv_entry ([.ref (ad 2), .int x1, .int x2]) (n := 3) (Nat.le_of_ble_eq_true rfl)
  rw [lg_entry_eq]
  generalize (lg_sl ([.ref (ad 2), .int x1, .int x2]) ++ List.replicate (3 - (lg_sl ([.ref (ad 2), .int x1, .int x2])).length) Slot.unset).toArray = ls at hl ⊢
  have hl : lv_has ls 3 [(0, .ref (ad 2)), (1, .int x1), (2, .int x2)] := hl
  have hn_X1 : ∀ w ∈ u_ws RX1 TX1 3, w ∈ wsX1_add := by decide +kernel
  have hf_9 := hts (.fieldLink RX1 9 "TypeFlow$Members" "size" "I") (by decide +kernel)
  have hf_15 := hts (.fieldLink RX1 15 "TypeFlow$Members" "ofClass" "[I") (by decide +kernel)
  have hf_19 := hts (.fieldLink RX1 19 "TypeFlow$Members" "type" "[I") (by decide +kernel)
  unfold fX1_add at h
  refine lv_aload_n hx hb dX1_add_0 rfl (lv_at hl 0 rfl) ?_
  refine tf_get (C := RX1) (T := TX1) (N := 3) hx hb hts hn_X1 hown hK hI 2 (tf_xat_2 ad cI cZ _) rfl 0 (by decide) hf_9 rfl rfl dX1_add_1 ?_
  refine lv_bipush (v := 24) hx hb dX1_add_4 (by decide +kernel) ?_
  refine lv_icmp_lt (tgt := 12) hx hb dX1_add_6 (by decide) (fun c1 => ?_) (fun c1 => ?_)
  · replace h := tf_pos c1 h
    refine lv_aload_n hx hb dX1_add_12 rfl (lv_at hl 0 rfl) ?_
    refine tf_get (C := RX1) (T := TX1) (N := 3) hx hb hts hn_X1 hown hK hI 2 (tf_xat_2 ad cI cZ _) rfl 1 (by decide) hf_15 rfl rfl dX1_add_13 ?_
    refine lv_aload_n hx hb dX1_add_16 rfl (lv_at hl 0 rfl) ?_
    refine tf_get (C := RX1) (T := TX1) (N := 3) hx hb hts hn_X1 hown hK hI 2 (tf_xat_2 ad cI cZ _) rfl 0 (by decide) hf_9 rfl rfl dX1_add_17 ?_
    refine lv_iload_n hx hb dX1_add_20 rfl (lv_at hl 1 rfl) ?_
    obtain ⟨b2, h⟩ := tf_gin h
    obtain ⟨s3, es3, h⟩ := tf_glet h
    refine tf_iast hx hb hK hI 15 0 (tf_xat_15 ad cI cZ _) (tf_xset_15 ad cI cZ _) rfl b2 es3 dX1_add_21 (fun H locs hI => ?_)
    refine lv_aload_n hx hb dX1_add_22 rfl (lv_at hl 0 rfl) ?_
    refine tf_get (C := RX1) (T := TX1) (N := 3) hx hb hts hn_X1 hown hK hI 2 (tf_xat_2 ad cI cZ _) rfl 2 (by decide) hf_19 rfl rfl dX1_add_23 ?_
    refine lv_aload_n hx hb dX1_add_26 rfl (lv_at hl 0 rfl) ?_
    refine tf_get (C := RX1) (T := TX1) (N := 3) hx hb hts hn_X1 hown hK hI 2 (tf_xat_2 ad cI cZ _) rfl 0 (by decide) hf_9 rfl rfl dX1_add_27 ?_
    refine lv_iload_n hx hb dX1_add_30 rfl (lv_at hl 2 rfl) ?_
    obtain ⟨b4, h⟩ := tf_gin h
    obtain ⟨s5, es5, h⟩ := tf_glet h
    refine tf_iast hx hb hK hI 16 0 (tf_xat_16 ad cI cZ _) (tf_xset_16 ad cI cZ _) rfl b4 es5 dX1_add_31 (fun H locs hI => ?_)
    refine lv_aload_n hx hb dX1_add_32 rfl (lv_at hl 0 rfl) ?_
    refine lv_dup hx hb dX1_add_33 rfl ?_
    refine tf_get (C := RX1) (T := TX1) (N := 3) hx hb hts hn_X1 hown hK hI 2 (tf_xat_2 ad cI cZ _) rfl 0 (by decide) hf_9 rfl rfl dX1_add_34 ?_
    refine lv_dup_x1 hx hb dX1_add_37 rfl rfl ?_
    refine lv_iconst (v := 1) hx hb dX1_add_38 (by decide +kernel) ?_
    refine lv_iadd hx hb dX1_add_39 ?_
    obtain ⟨s6, es6, h⟩ := tf_glet h
    refine tf_put (C := RX1) (T := TX1) (N := 3) (ty := .int) hx hb hts hn_X1 tyX1 tyX1_ok nmX1 hown hK hI 2 (tf_xat_2 ad cI cZ _) rfl 0 (by decide) hf_9 rfl rfl (by decide +kernel) rfl rfl (Nat.le_of_ble_eq_true rfl) (tf_xput_2_0 ad cI cZ _ _) es6 dX1_add_40 (fun H locs hI => ?_)
    exact tf_iret hx hb hr hI h dX1_add_43 hlocks
  replace h := tf_neg c1 h
  refine lv_bipush (v := -3) hx hb dX1_add_9 (by decide +kernel) ?_
  exact tf_iret hx hb hr hI h dX1_add_11 hlocks

set_option maxHeartbeats 4000000 in
set_option maxRecDepth 100000 in
theorem kX_X2_has (l : Launch) (D : va_G) (ad : Nat → Nat) (cI cZ : ClassId) (σ : tf_S) (x1 : Int32) (z : Int32 × tf_S) (h : fX2_has σ x1 = some z) : tf_C l D (tf_wx ad cI cZ) [(cI, .int), (cZ, .boolean)] tf_nest yX2_has wsX2_has ({ frames := 0, cells := 0, slots := 0, locals := 0 }) [.ref (ad 4), .int x1] σ z := by
  intro sz
  refine Met.ofW (cc := cX2_has) (maxL := 2) (ret := (some .boolean)) (by decide) rfl ?_
  intro p e s m args below meth c s₁ B hml hv
  obtain ⟨rfl, hsz, hP, hK, hN, hD0⟩ := hv
  have hx := B.exec
  have hb := B.bytes
  have hr := B.returns
  have hts := atoms_spec (ws := wsX2_has) B.pre
  have hown : s.vm.findClass RX2 = some m.cls := findClass_of_methodNamed B.named
  have hlocks := B.notSynchronized
  subst hsz
  have hI := tf_start (D := D) (tf_x_ad ad cI cZ) hP hD0
  have hl := lv_entry ([.ref (ad 4), .int x1]) (n := 2) (Nat.le_of_ble_eq_true rfl)
  rw [lg_entry_eq]
  generalize (lg_sl ([.ref (ad 4), .int x1]) ++ List.replicate (2 - (lg_sl ([.ref (ad 4), .int x1])).length) Slot.unset).toArray = ls at hl ⊢
  have hl : lv_has ls 2 [(0, .ref (ad 4)), (1, .int x1)] := hl
  have hn_X2 : ∀ w ∈ u_ws RX2 TX2 11, w ∈ wsX2_has := by decide +kernel
  have hf_9 := hts (.fieldLink RX2 9 "TypeFlow$Operators" "size" "I") (by decide +kernel)
  unfold fX2_has at h
  refine lv_iload_n hx hb dX2_has_0 rfl (lv_at hl 1 rfl) ?_
  refine lv_if_lt (tgt := 16) hx hb dX2_has_1 (by decide) (fun c1 => ?_) (fun c1 => ?_)
  · replace h := tf_pos c1 h
    refine lv_iconst (v := 0) hx hb dX2_has_16 (by decide +kernel) ?_
    exact tf_zret hx hb hr (Or.inl rfl) hI h dX2_has_17 hlocks
  replace h := tf_neg c1 h
  refine lv_iload_n hx hb dX2_has_4 rfl (lv_at hl 1 rfl) ?_
  refine lv_aload_n hx hb dX2_has_5 rfl (lv_at hl 0 rfl) ?_
  refine tf_get (C := RX2) (T := TX2) (N := 11) hx hb hts hn_X2 hown hK hI 4 (tf_xat_4 ad cI cZ _) rfl 0 (by decide) hf_9 rfl rfl dX2_has_6 ?_
  refine lv_icmp_ge (tgt := 16) hx hb dX2_has_9 (by decide) (fun c2 => ?_) (fun c2 => ?_)
  · replace h := tf_pos c2 h
    refine lv_iconst (v := 0) hx hb dX2_has_16 (by decide +kernel) ?_
    exact tf_zret hx hb hr (Or.inl rfl) hI h dX2_has_17 hlocks
  replace h := tf_neg c2 h
  refine lv_iconst (v := 1) hx hb dX2_has_12 (by decide +kernel) ?_
  refine lv_goto (tgt := 17) hx hb dX2_has_13 (by decide) ?_
  exact tf_zret hx hb hr (Or.inr rfl) hI h dX2_has_17 hlocks

set_option maxHeartbeats 4000000 in
set_option maxRecDepth 100000 in
theorem kX_X2_tell (l : Launch) (D : va_G) (ad : Nat → Nat) (cI cZ : ClassId) (σ : tf_S) (x1 x2 x3 x4 : Int32) (z : tf_S) (h : fX2_tell σ x1 x2 x3 x4 = some z) : tf_Cv l D (tf_wx ad cI cZ) [(cI, .int), (cZ, .boolean)] tf_nest yX2_tell wsX2_tell ({ frames := 0, cells := 0, slots := 0, locals := 0 }) [.ref (ad 4), .int x1, .int x2, .int x3, .int x4] σ z := by
  intro sz
  refine Met.ofW (cc := cX2_tell) (maxL := 5) (ret := none) (by decide) rfl ?_
  intro p e s m args below meth c s₁ B hml hv
  obtain ⟨rfl, hsz, hP, hK, hN, hD0⟩ := hv
  have hx := B.exec
  have hb := B.bytes
  have hr := B.returns
  have hts := atoms_spec (ws := wsX2_tell) B.pre
  have hown : s.vm.findClass RX2 = some m.cls := findClass_of_methodNamed B.named
  have hlocks := B.notSynchronized
  subst hsz
  have hI := tf_start (D := D) (tf_x_ad ad cI cZ) hP hD0
  have hl := lv_entry ([.ref (ad 4), .int x1, .int x2, .int x3, .int x4]) (n := 5) (Nat.le_of_ble_eq_true rfl)
  rw [lg_entry_eq]
  generalize (lg_sl ([.ref (ad 4), .int x1, .int x2, .int x3, .int x4]) ++ List.replicate (5 - (lg_sl ([.ref (ad 4), .int x1, .int x2, .int x3, .int x4])).length) Slot.unset).toArray = ls at hl ⊢
  have hl : lv_has ls 5 [(0, .ref (ad 4)), (1, .int x1), (2, .int x2), (3, .int x3), (4, .int x4)] := hl
  have hn_X2 : ∀ w ∈ u_ws RX2 TX2 11, w ∈ wsX2_tell := by decide +kernel
  have hf_34 := hts (.fieldLink RX2 34 "TypeFlow$Operators" "type" "[I") (by decide +kernel)
  have hf_37 := hts (.fieldLink RX2 37 "TypeFlow$Operators" "fault" "[I") (by decide +kernel)
  have hf_40 := hts (.fieldLink RX2 40 "TypeFlow$Operators" "risky" "[Z") (by decide +kernel)
  unfold fX2_tell at h
  refine lv_aload_n hx hb dX2_tell_0 rfl (lv_at hl 0 rfl) ?_
  refine tf_get (C := RX2) (T := TX2) (N := 11) hx hb hts hn_X2 hown hK hI 4 (tf_xat_4 ad cI cZ _) rfl 7 (by decide) hf_34 rfl rfl dX2_tell_1 ?_
  refine lv_iload_n hx hb dX2_tell_4 rfl (lv_at hl 1 rfl) ?_
  refine lv_iload_n hx hb dX2_tell_5 rfl (lv_at hl 2 rfl) ?_
  obtain ⟨b1, h⟩ := tf_gin h
  obtain ⟨s2, es2, h⟩ := tf_glet h
  refine tf_iast hx hb hK hI 27 0 (tf_xat_27 ad cI cZ _) (tf_xset_27 ad cI cZ _) rfl b1 es2 dX2_tell_6 (fun H locs hI => ?_)
  refine lv_aload_n hx hb dX2_tell_7 rfl (lv_at hl 0 rfl) ?_
  refine tf_get (C := RX2) (T := TX2) (N := 11) hx hb hts hn_X2 hown hK hI 4 (tf_xat_4 ad cI cZ _) rfl 8 (by decide) hf_37 rfl rfl dX2_tell_8 ?_
  refine lv_iload_n hx hb dX2_tell_11 rfl (lv_at hl 1 rfl) ?_
  refine lv_iload_n hx hb dX2_tell_12 rfl (lv_at hl 3 rfl) ?_
  obtain ⟨b3, h⟩ := tf_gin h
  obtain ⟨s4, es4, h⟩ := tf_glet h
  refine tf_iast hx hb hK hI 28 0 (tf_xat_28 ad cI cZ _) (tf_xset_28 ad cI cZ _) rfl b3 es4 dX2_tell_13 (fun H locs hI => ?_)
  refine lv_aload_n hx hb dX2_tell_14 rfl (lv_at hl 0 rfl) ?_
  refine tf_get (C := RX2) (T := TX2) (N := 11) hx hb hts hn_X2 hown hK hI 4 (tf_xat_4 ad cI cZ _) rfl 9 (by decide) hf_40 rfl rfl dX2_tell_15 ?_
  refine lv_iload_n hx hb dX2_tell_18 rfl (lv_at hl 1 rfl) ?_
  refine lv_iload hx hb dX2_tell_19 (lv_at hl 4 rfl) ?_
  obtain ⟨b5, h⟩ := tf_gin h
  obtain ⟨b7, h⟩ := tf_gbz h
  obtain ⟨s6, es6, h⟩ := tf_glet h
  refine tf_zast hx hb hK hI 29 1 (tf_xat_29 ad cI cZ _) (tf_xset_29 ad cI cZ _) rfl b5 b7 es6 dX2_tell_21 (fun H locs hI => ?_)
  exact tf_vret hx hb hr hI h dX2_tell_22 hlocks

set_option maxHeartbeats 4000000 in
set_option maxRecDepth 100000 in
theorem kX_X2_bind (l : Launch) (D : va_G) (ad : Nat → Nat) (cI cZ : ClassId) (σ : tf_S) (x1 x2 x3 : Int32) (z : tf_S) (h : fX2_bind σ x1 x2 x3 = some z) : tf_Cv l D (tf_wx ad cI cZ) [(cI, .int), (cZ, .boolean)] tf_nest yX2_bind wsX2_bind ({ frames := 0, cells := 0, slots := 0, locals := 0 }) [.ref (ad 4), .int x1, .int x2, .int x3] σ z := by
  intro sz
  refine Met.ofW (cc := cX2_bind) (maxL := 4) (ret := none) (by decide) rfl ?_
  intro p e s m args below meth c s₁ B hml hv
  obtain ⟨rfl, hsz, hP, hK, hN, hD0⟩ := hv
  have hx := B.exec
  have hb := B.bytes
  have hr := B.returns
  have hts := atoms_spec (ws := wsX2_bind) B.pre
  have hown : s.vm.findClass RX2 = some m.cls := findClass_of_methodNamed B.named
  have hlocks := B.notSynchronized
  subst hsz
  have hI := tf_start (D := D) (tf_x_ad ad cI cZ) hP hD0
  have hl := lv_entry ([.ref (ad 4), .int x1, .int x2, .int x3]) (n := 4) (Nat.le_of_ble_eq_true rfl)
  rw [lg_entry_eq]
  generalize (lg_sl ([.ref (ad 4), .int x1, .int x2, .int x3]) ++ List.replicate (4 - (lg_sl ([.ref (ad 4), .int x1, .int x2, .int x3])).length) Slot.unset).toArray = ls at hl ⊢
  have hl : lv_has ls 4 [(0, .ref (ad 4)), (1, .int x1), (2, .int x2), (3, .int x3)] := hl
  have hn_X2 : ∀ w ∈ u_ws RX2 TX2 11, w ∈ wsX2_bind := by decide +kernel
  have hf_44 := hts (.fieldLink RX2 44 "TypeFlow$Operators" "bindings" "[I") (by decide +kernel)
  unfold fX2_bind at h
  refine lv_aload_n hx hb dX2_bind_0 rfl (lv_at hl 0 rfl) ?_
  refine tf_get (C := RX2) (T := TX2) (N := 11) hx hb hts hn_X2 hown hK hI 4 (tf_xat_4 ad cI cZ _) rfl 10 (by decide) hf_44 rfl rfl dX2_bind_1 ?_
  refine lv_iload_n hx hb dX2_bind_4 rfl (lv_at hl 1 rfl) ?_
  refine lv_iconst (v := 2) hx hb dX2_bind_5 (by decide +kernel) ?_
  refine lv_imul hx hb dX2_bind_6 ?_
  refine lv_iload_n hx hb dX2_bind_7 rfl (lv_at hl 2 rfl) ?_
  obtain ⟨b1, h⟩ := tf_gin h
  obtain ⟨s2, es2, h⟩ := tf_glet h
  refine tf_iast hx hb hK hI 30 0 (tf_xat_30 ad cI cZ _) (tf_xset_30 ad cI cZ _) rfl b1 es2 dX2_bind_8 (fun H locs hI => ?_)
  refine lv_aload_n hx hb dX2_bind_9 rfl (lv_at hl 0 rfl) ?_
  refine tf_get (C := RX2) (T := TX2) (N := 11) hx hb hts hn_X2 hown hK hI 4 (tf_xat_4 ad cI cZ _) rfl 10 (by decide) hf_44 rfl rfl dX2_bind_10 ?_
  refine lv_iload_n hx hb dX2_bind_13 rfl (lv_at hl 1 rfl) ?_
  refine lv_iconst (v := 2) hx hb dX2_bind_14 (by decide +kernel) ?_
  refine lv_imul hx hb dX2_bind_15 ?_
  refine lv_iconst (v := 1) hx hb dX2_bind_16 (by decide +kernel) ?_
  refine lv_iadd hx hb dX2_bind_17 ?_
  refine lv_iload_n hx hb dX2_bind_18 rfl (lv_at hl 3 rfl) ?_
  obtain ⟨b3, h⟩ := tf_gin h
  obtain ⟨s4, es4, h⟩ := tf_glet h
  refine tf_iast hx hb hK hI 30 0 (tf_xat_30 ad cI cZ _) (tf_xset_30 ad cI cZ _) rfl b3 es4 dX2_bind_19 (fun H locs hI => ?_)
  exact tf_vret hx hb hr hI h dX2_bind_20 hlocks

set_option maxHeartbeats 4000000 in
set_option maxRecDepth 100000 in
theorem kX_X2_add (l : Launch) (D : va_G) (ad : Nat → Nat) (cI cZ : ClassId) (σ : tf_S) (x1 x2 x3 x4 x5 x6 : Int32) (z : Int32 × tf_S) (h : fX2_add σ x1 x2 x3 x4 x5 x6 = some z) : tf_C l D (tf_wx ad cI cZ) [(cI, .int), (cZ, .boolean)] tf_nest yX2_add wsX2_add ({ frames := 1, cells := 0, slots := 0, locals := 24 }) [.ref (ad 4), .int x1, .int x2, .int x3, .int x4, .int x5, .int x6] σ z := by
  intro sz
  refine Met.ofW (cc := cX2_add) (maxL := 7) (ret := (some .int)) (by decide) rfl ?_
  intro p e s m args below meth c s₁ B hml hv
  obtain ⟨rfl, hsz, hP, hK, hN, hD0⟩ := hv
  have hx := B.exec
  have hb := B.bytes
  have hr := B.returns
  have hts := atoms_spec (ws := wsX2_add) B.pre
  have hown : s.vm.findClass RX2 = some m.cls := findClass_of_methodNamed B.named
  have hlocks := B.notSynchronized
  subst hsz
  have hI := tf_start (D := D) (tf_x_ad ad cI cZ) hP hD0
  have hl := lv_entry ([.ref (ad 4), .int x1, .int x2, .int x3, .int x4, .int x5, .int x6]) (n := 7) (Nat.le_of_ble_eq_true rfl)
  rw [lg_entry_eq]
  generalize (lg_sl ([.ref (ad 4), .int x1, .int x2, .int x3, .int x4, .int x5, .int x6]) ++ List.replicate (7 - (lg_sl ([.ref (ad 4), .int x1, .int x2, .int x3, .int x4, .int x5, .int x6])).length) Slot.unset).toArray = ls at hl ⊢
  have hl : lv_has ls 7 [(0, .ref (ad 4)), (1, .int x1), (2, .int x2), (3, .int x3), (4, .int x4), (5, .int x5), (6, .int x6)] := hl
  have hn_X2 : ∀ w ∈ u_ws RX2 TX2 11, w ∈ wsX2_add := by decide +kernel
  have hf_9 := hts (.fieldLink RX2 9 "TypeFlow$Operators" "size" "I") (by decide +kernel)
  have hf_15 := hts (.fieldLink RX2 15 "TypeFlow$Operators" "kind" "[I") (by decide +kernel)
  have hf_19 := hts (.fieldLink RX2 19 "TypeFlow$Operators" "a" "[I") (by decide +kernel)
  have hf_22 := hts (.fieldLink RX2 22 "TypeFlow$Operators" "b" "[I") (by decide +kernel)
  have hf_25 := hts (.fieldLink RX2 25 "TypeFlow$Operators" "f" "[I") (by decide +kernel)
  have hf_28 := hts (.fieldLink RX2 28 "TypeFlow$Operators" "g" "[I") (by decide +kernel)
  have hf_31 := hts (.fieldLink RX2 31 "TypeFlow$Operators" "c" "[I") (by decide +kernel)
  unfold fX2_add at h
  refine lv_aload_n hx hb dX2_add_0 rfl (lv_at hl 0 rfl) ?_
  refine tf_get (C := RX2) (T := TX2) (N := 11) hx hb hts hn_X2 hown hK hI 4 (tf_xat_4 ad cI cZ _) rfl 0 (by decide) hf_9 rfl rfl dX2_add_1 ?_
  refine lv_bipush (v := 24) hx hb dX2_add_4 (by decide +kernel) ?_
  refine lv_icmp_lt (tgt := 12) hx hb dX2_add_6 (by decide) (fun c1 => ?_) (fun c1 => ?_)
  · replace h := tf_pos c1 h
    refine lv_aload_n hx hb dX2_add_12 rfl (lv_at hl 0 rfl) ?_
    refine tf_get (C := RX2) (T := TX2) (N := 11) hx hb hts hn_X2 hown hK hI 4 (tf_xat_4 ad cI cZ _) rfl 1 (by decide) hf_15 rfl rfl dX2_add_13 ?_
    refine lv_aload_n hx hb dX2_add_16 rfl (lv_at hl 0 rfl) ?_
    refine tf_get (C := RX2) (T := TX2) (N := 11) hx hb hts hn_X2 hown hK hI 4 (tf_xat_4 ad cI cZ _) rfl 0 (by decide) hf_9 rfl rfl dX2_add_17 ?_
    refine lv_iload_n hx hb dX2_add_20 rfl (lv_at hl 1 rfl) ?_
    obtain ⟨b2, h⟩ := tf_gin h
    obtain ⟨s3, es3, h⟩ := tf_glet h
    refine tf_iast hx hb hK hI 21 0 (tf_xat_21 ad cI cZ _) (tf_xset_21 ad cI cZ _) rfl b2 es3 dX2_add_21 (fun H locs hI => ?_)
    refine lv_aload_n hx hb dX2_add_22 rfl (lv_at hl 0 rfl) ?_
    refine tf_get (C := RX2) (T := TX2) (N := 11) hx hb hts hn_X2 hown hK hI 4 (tf_xat_4 ad cI cZ _) rfl 2 (by decide) hf_19 rfl rfl dX2_add_23 ?_
    refine lv_aload_n hx hb dX2_add_26 rfl (lv_at hl 0 rfl) ?_
    refine tf_get (C := RX2) (T := TX2) (N := 11) hx hb hts hn_X2 hown hK hI 4 (tf_xat_4 ad cI cZ _) rfl 0 (by decide) hf_9 rfl rfl dX2_add_27 ?_
    refine lv_iload_n hx hb dX2_add_30 rfl (lv_at hl 2 rfl) ?_
    obtain ⟨b4, h⟩ := tf_gin h
    obtain ⟨s5, es5, h⟩ := tf_glet h
    refine tf_iast hx hb hK hI 22 0 (tf_xat_22 ad cI cZ _) (tf_xset_22 ad cI cZ _) rfl b4 es5 dX2_add_31 (fun H locs hI => ?_)
    refine lv_aload_n hx hb dX2_add_32 rfl (lv_at hl 0 rfl) ?_
    refine tf_get (C := RX2) (T := TX2) (N := 11) hx hb hts hn_X2 hown hK hI 4 (tf_xat_4 ad cI cZ _) rfl 3 (by decide) hf_22 rfl rfl dX2_add_33 ?_
    refine lv_aload_n hx hb dX2_add_36 rfl (lv_at hl 0 rfl) ?_
    refine tf_get (C := RX2) (T := TX2) (N := 11) hx hb hts hn_X2 hown hK hI 4 (tf_xat_4 ad cI cZ _) rfl 0 (by decide) hf_9 rfl rfl dX2_add_37 ?_
    refine lv_iload_n hx hb dX2_add_40 rfl (lv_at hl 3 rfl) ?_
    obtain ⟨b6, h⟩ := tf_gin h
    obtain ⟨s7, es7, h⟩ := tf_glet h
    refine tf_iast hx hb hK hI 23 0 (tf_xat_23 ad cI cZ _) (tf_xset_23 ad cI cZ _) rfl b6 es7 dX2_add_41 (fun H locs hI => ?_)
    refine lv_aload_n hx hb dX2_add_42 rfl (lv_at hl 0 rfl) ?_
    refine tf_get (C := RX2) (T := TX2) (N := 11) hx hb hts hn_X2 hown hK hI 4 (tf_xat_4 ad cI cZ _) rfl 4 (by decide) hf_25 rfl rfl dX2_add_43 ?_
    refine lv_aload_n hx hb dX2_add_46 rfl (lv_at hl 0 rfl) ?_
    refine tf_get (C := RX2) (T := TX2) (N := 11) hx hb hts hn_X2 hown hK hI 4 (tf_xat_4 ad cI cZ _) rfl 0 (by decide) hf_9 rfl rfl dX2_add_47 ?_
    refine lv_iload hx hb dX2_add_50 (lv_at hl 4 rfl) ?_
    obtain ⟨b8, h⟩ := tf_gin h
    obtain ⟨s9, es9, h⟩ := tf_glet h
    refine tf_iast hx hb hK hI 24 0 (tf_xat_24 ad cI cZ _) (tf_xset_24 ad cI cZ _) rfl b8 es9 dX2_add_52 (fun H locs hI => ?_)
    refine lv_aload_n hx hb dX2_add_53 rfl (lv_at hl 0 rfl) ?_
    refine tf_get (C := RX2) (T := TX2) (N := 11) hx hb hts hn_X2 hown hK hI 4 (tf_xat_4 ad cI cZ _) rfl 5 (by decide) hf_28 rfl rfl dX2_add_54 ?_
    refine lv_aload_n hx hb dX2_add_57 rfl (lv_at hl 0 rfl) ?_
    refine tf_get (C := RX2) (T := TX2) (N := 11) hx hb hts hn_X2 hown hK hI 4 (tf_xat_4 ad cI cZ _) rfl 0 (by decide) hf_9 rfl rfl dX2_add_58 ?_
    refine lv_iload hx hb dX2_add_61 (lv_at hl 5 rfl) ?_
    obtain ⟨b10, h⟩ := tf_gin h
    obtain ⟨s11, es11, h⟩ := tf_glet h
    refine tf_iast hx hb hK hI 25 0 (tf_xat_25 ad cI cZ _) (tf_xset_25 ad cI cZ _) rfl b10 es11 dX2_add_63 (fun H locs hI => ?_)
    refine lv_aload_n hx hb dX2_add_64 rfl (lv_at hl 0 rfl) ?_
    refine tf_get (C := RX2) (T := TX2) (N := 11) hx hb hts hn_X2 hown hK hI 4 (tf_xat_4 ad cI cZ _) rfl 6 (by decide) hf_31 rfl rfl dX2_add_65 ?_
    refine lv_aload_n hx hb dX2_add_68 rfl (lv_at hl 0 rfl) ?_
    refine tf_get (C := RX2) (T := TX2) (N := 11) hx hb hts hn_X2 hown hK hI 4 (tf_xat_4 ad cI cZ _) rfl 0 (by decide) hf_9 rfl rfl dX2_add_69 ?_
    refine lv_iload hx hb dX2_add_72 (lv_at hl 6 rfl) ?_
    obtain ⟨b12, h⟩ := tf_gin h
    obtain ⟨s13, es13, h⟩ := tf_glet h
    refine tf_iast hx hb hK hI 26 0 (tf_xat_26 ad cI cZ _) (tf_xset_26 ad cI cZ _) rfl b12 es13 dX2_add_74 (fun H locs hI => ?_)
    refine lv_aload_n hx hb dX2_add_75 rfl (lv_at hl 0 rfl) ?_
    refine lv_aload_n hx hb dX2_add_76 rfl (lv_at hl 0 rfl) ?_
    refine tf_get (C := RX2) (T := TX2) (N := 11) hx hb hts hn_X2 hown hK hI 4 (tf_xat_4 ad cI cZ _) rfl 0 (by decide) hf_9 rfl rfl dX2_add_77 ?_
    refine lv_iconst (v := -1) hx hb dX2_add_80 (by decide +kernel) ?_
    refine lv_iconst (v := 0) hx hb dX2_add_81 (by decide +kernel) ?_
    refine lv_iconst (v := 0) hx hb dX2_add_82 (by decide +kernel) ?_
    obtain ⟨u14, q15, h⟩ := tf_gbind h
    refine tf_callVv (rest := []) ⟨hx, hb, hml, hown, hts⟩ hK hN hI (kX_X2_tell l D ad cI cZ _ _ _ _ _ _ q15) (cwV 4 hts gX2_add_X2_tell rfl rfl rfl (by decide +kernel) ⟨Nat.le_of_ble_eq_true rfl, Nat.le_of_ble_eq_true rfl⟩) 4 2 (tf_xat_4 ad cI cZ _) rfl rfl hl.1 rfl (Nat.le_of_ble_eq_true rfl) dX2_add_83 (fun H locs hI => ?_)
    refine lv_aload_n hx hb dX2_add_86 rfl (lv_at hl 0 rfl) ?_
    refine lv_aload_n hx hb dX2_add_87 rfl (lv_at hl 0 rfl) ?_
    refine tf_get (C := RX2) (T := TX2) (N := 11) hx hb hts hn_X2 hown hK hI 4 (tf_xat_4 ad cI cZ _) rfl 0 (by decide) hf_9 rfl rfl dX2_add_88 ?_
    refine lv_iconst (v := -1) hx hb dX2_add_91 (by decide +kernel) ?_
    refine lv_iconst (v := -1) hx hb dX2_add_92 (by decide +kernel) ?_
    obtain ⟨u16, q17, h⟩ := tf_gbind h
    refine tf_callVv (rest := []) ⟨hx, hb, hml, hown, hts⟩ hK hN hI (kX_X2_bind l D ad cI cZ _ _ _ _ _ q17) (cwV 3 hts gX2_add_X2_bind rfl rfl rfl (by decide +kernel) ⟨Nat.le_of_ble_eq_true rfl, Nat.le_of_ble_eq_true rfl⟩) 4 2 (tf_xat_4 ad cI cZ _) rfl rfl hl.1 rfl (Nat.le_of_ble_eq_true rfl) dX2_add_93 (fun H locs hI => ?_)
    refine lv_aload_n hx hb dX2_add_96 rfl (lv_at hl 0 rfl) ?_
    refine lv_dup hx hb dX2_add_97 rfl ?_
    refine tf_get (C := RX2) (T := TX2) (N := 11) hx hb hts hn_X2 hown hK hI 4 (tf_xat_4 ad cI cZ _) rfl 0 (by decide) hf_9 rfl rfl dX2_add_98 ?_
    refine lv_dup_x1 hx hb dX2_add_101 rfl rfl ?_
    refine lv_iconst (v := 1) hx hb dX2_add_102 (by decide +kernel) ?_
    refine lv_iadd hx hb dX2_add_103 ?_
    obtain ⟨s18, es18, h⟩ := tf_glet h
    refine tf_put (C := RX2) (T := TX2) (N := 11) (ty := .int) hx hb hts hn_X2 tyX2 tyX2_ok nmX2 hown hK hI 4 (tf_xat_4 ad cI cZ _) rfl 0 (by decide) hf_9 rfl rfl (by decide +kernel) rfl rfl (Nat.le_of_ble_eq_true rfl) (tf_xput_4_0 ad cI cZ _ _) es18 dX2_add_104 (fun H locs hI => ?_)
    exact tf_iret hx hb hr hI h dX2_add_107 hlocks
  replace h := tf_neg c1 h
  refine lv_bipush (v := -3) hx hb dX2_add_9 (by decide +kernel) ?_
  exact tf_iret hx hb hr hI h dX2_add_11 hlocks

set_option maxHeartbeats 4000000 in
set_option maxRecDepth 100000 in
theorem kX_X2_hasTwoInputs (l : Launch) (D : va_G) (ad : Nat → Nat) (cI cZ : ClassId) (σ : tf_S) (x1 : Int32) (z : Int32 × tf_S) (h : fX2_hasTwoInputs σ x1 = some z) : tf_C l D (tf_wx ad cI cZ) [(cI, .int), (cZ, .boolean)] tf_nest yX2_hasTwoInputs wsX2_hasTwoInputs ({ frames := 0, cells := 0, slots := 0, locals := 0 }) [.ref (ad 4), .int x1] σ z := by
  intro sz
  refine Met.ofW (cc := cX2_hasTwoInputs) (maxL := 2) (ret := (some .boolean)) (by decide) rfl ?_
  intro p e s m args below meth c s₁ B hml hv
  obtain ⟨rfl, hsz, hP, hK, hN, hD0⟩ := hv
  have hx := B.exec
  have hb := B.bytes
  have hr := B.returns
  have hts := atoms_spec (ws := wsX2_hasTwoInputs) B.pre
  have hown : s.vm.findClass RX2 = some m.cls := findClass_of_methodNamed B.named
  have hlocks := B.notSynchronized
  subst hsz
  have hI := tf_start (D := D) (tf_x_ad ad cI cZ) hP hD0
  have hl := lv_entry ([.ref (ad 4), .int x1]) (n := 2) (Nat.le_of_ble_eq_true rfl)
  rw [lg_entry_eq]
  generalize (lg_sl ([.ref (ad 4), .int x1]) ++ List.replicate (2 - (lg_sl ([.ref (ad 4), .int x1])).length) Slot.unset).toArray = ls at hl ⊢
  have hl : lv_has ls 2 [(0, .ref (ad 4)), (1, .int x1)] := hl
  have hn_X2 : ∀ w ∈ u_ws RX2 TX2 11, w ∈ wsX2_hasTwoInputs := by decide +kernel
  have hf_15 := hts (.fieldLink RX2 15 "TypeFlow$Operators" "kind" "[I") (by decide +kernel)
  unfold fX2_hasTwoInputs at h
  refine lv_aload_n hx hb dX2_hasTwoInputs_0 rfl (lv_at hl 0 rfl) ?_
  refine tf_get (C := RX2) (T := TX2) (N := 11) hx hb hts hn_X2 hown hK hI 4 (tf_xat_4 ad cI cZ _) rfl 1 (by decide) hf_15 rfl rfl dX2_hasTwoInputs_1 ?_
  refine lv_iload_n hx hb dX2_hasTwoInputs_4 rfl (lv_at hl 1 rfl) ?_
  obtain ⟨b1, h⟩ := tf_gin h
  refine va_iald hx hb hK hI.1 21 0 (tf_xat_21 ad cI cZ _) rfl b1 dX2_hasTwoInputs_5 ?_
  refine lv_iconst (v := 4) hx hb dX2_hasTwoInputs_6 (by decide +kernel) ?_
  refine lv_icmp_eq (tgt := 31) hx hb dX2_hasTwoInputs_7 (by decide) (fun c2 => ?_) (fun c2 => ?_)
  · replace h := tf_pos c2 h
    refine lv_iconst (v := 1) hx hb dX2_hasTwoInputs_31 (by decide +kernel) ?_
    refine lv_goto (tgt := 36) hx hb dX2_hasTwoInputs_32 (by decide) ?_
    exact tf_zret hx hb hr (Or.inr rfl) hI h dX2_hasTwoInputs_36 hlocks
  replace h := tf_neg c2 h
  refine lv_aload_n hx hb dX2_hasTwoInputs_10 rfl (lv_at hl 0 rfl) ?_
  refine tf_get (C := RX2) (T := TX2) (N := 11) hx hb hts hn_X2 hown hK hI 4 (tf_xat_4 ad cI cZ _) rfl 1 (by decide) hf_15 rfl rfl dX2_hasTwoInputs_11 ?_
  refine lv_iload_n hx hb dX2_hasTwoInputs_14 rfl (lv_at hl 1 rfl) ?_
  obtain ⟨b3, h⟩ := tf_gin h
  refine va_iald hx hb hK hI.1 21 0 (tf_xat_21 ad cI cZ _) rfl b3 dX2_hasTwoInputs_15 ?_
  refine lv_iconst (v := 5) hx hb dX2_hasTwoInputs_16 (by decide +kernel) ?_
  refine lv_icmp_eq (tgt := 31) hx hb dX2_hasTwoInputs_17 (by decide) (fun c4 => ?_) (fun c4 => ?_)
  · replace h := tf_pos c4 h
    refine lv_iconst (v := 1) hx hb dX2_hasTwoInputs_31 (by decide +kernel) ?_
    refine lv_goto (tgt := 36) hx hb dX2_hasTwoInputs_32 (by decide) ?_
    exact tf_zret hx hb hr (Or.inr rfl) hI h dX2_hasTwoInputs_36 hlocks
  replace h := tf_neg c4 h
  refine lv_aload_n hx hb dX2_hasTwoInputs_20 rfl (lv_at hl 0 rfl) ?_
  refine tf_get (C := RX2) (T := TX2) (N := 11) hx hb hts hn_X2 hown hK hI 4 (tf_xat_4 ad cI cZ _) rfl 1 (by decide) hf_15 rfl rfl dX2_hasTwoInputs_21 ?_
  refine lv_iload_n hx hb dX2_hasTwoInputs_24 rfl (lv_at hl 1 rfl) ?_
  obtain ⟨b5, h⟩ := tf_gin h
  refine va_iald hx hb hK hI.1 21 0 (tf_xat_21 ad cI cZ _) rfl b5 dX2_hasTwoInputs_25 ?_
  refine lv_bipush (v := 6) hx hb dX2_hasTwoInputs_26 (by decide +kernel) ?_
  refine lv_icmp_ne (tgt := 35) hx hb dX2_hasTwoInputs_28 (by decide) (fun c6 => ?_) (fun c6 => ?_)
  · replace h := tf_neg c6 h
    refine lv_iconst (v := 0) hx hb dX2_hasTwoInputs_35 (by decide +kernel) ?_
    exact tf_zret hx hb hr (Or.inl rfl) hI h dX2_hasTwoInputs_36 hlocks
  replace h := tf_pos c6 h
  refine lv_iconst (v := 1) hx hb dX2_hasTwoInputs_31 (by decide +kernel) ?_
  refine lv_goto (tgt := 36) hx hb dX2_hasTwoInputs_32 (by decide) ?_
  exact tf_zret hx hb hr (Or.inr rfl) hI h dX2_hasTwoInputs_36 hlocks

set_option maxHeartbeats 4000000 in
set_option maxRecDepth 100000 in
theorem kX_X2_howManyRisky (l : Launch) (D : va_G) (ad : Nat → Nat) (cI cZ : ClassId) (σ : tf_S) (z : Int32 × tf_S) (h : fX2_howManyRisky σ = some z) : tf_C l D (tf_wx ad cI cZ) [(cI, .int), (cZ, .boolean)] tf_nest yX2_howManyRisky wsX2_howManyRisky ({ frames := 0, cells := 0, slots := 0, locals := 0 }) [.ref (ad 4)] σ z := by
  intro sz
  refine Met.ofW (cc := cX2_howManyRisky) (maxL := 3) (ret := (some .int)) (by decide) rfl ?_
  intro p e s m args below meth c s₁ B hml hv
  obtain ⟨rfl, hsz, hP, hK, hN, hD0⟩ := hv
  have hx := B.exec
  have hb := B.bytes
  have hr := B.returns
  have hts := atoms_spec (ws := wsX2_howManyRisky) B.pre
  have hown : s.vm.findClass RX2 = some m.cls := findClass_of_methodNamed B.named
  have hlocks := B.notSynchronized
  subst hsz
  have hI := tf_start (D := D) (tf_x_ad ad cI cZ) hP hD0
  have hl := lv_entry ([.ref (ad 4)]) (n := 3) (Nat.le_of_ble_eq_true rfl)
  rw [lg_entry_eq]
  generalize (lg_sl ([.ref (ad 4)]) ++ List.replicate (3 - (lg_sl ([.ref (ad 4)])).length) Slot.unset).toArray = ls at hl ⊢
  have hl : lv_has ls 3 [(0, .ref (ad 4))] := hl
  have hn_X2 : ∀ w ∈ u_ws RX2 TX2 11, w ∈ wsX2_howManyRisky := by decide +kernel
  have hf_9 := hts (.fieldLink RX2 9 "TypeFlow$Operators" "size" "I") (by decide +kernel)
  have hf_40 := hts (.fieldLink RX2 40 "TypeFlow$Operators" "risky" "[Z") (by decide +kernel)
  have j4 : ∀ n : Nat, ∀ (σ : tf_S) (y1 y2 : Int32) (H : Heap) (locs : List Loc) (ls : Array Slot), fX2_howManyRisky_4 n σ y1 y2 = some z → tf_I D (tf_wx ad cI cZ) s.heap σ H locs → lv_has ls 3 [(0, .ref (ad 4)), (1, .int y1), (2, .int y2)] → W p l e (headSpec wsX2_howManyRisky ({ frames := 0, cells := 0, slots := 0, locals := 0 })).room s m ([.ref (ad 4)] : List Value).toArray below meth c H locs 0 0 (tf_Q below D (tf_wx ad cI cZ) z ([.ref (ad 4)] : List Value).toArray s) (F0 m 4 ls []) := by
    intro n
    induction n with
    | zero =>
      intro σ y1 y2 H locs ls h
      rw [fX2_howManyRisky_4] at h
      cases h
    | succ n ih =>
      intro σ y1 y2 H locs ls h hI hl
      rw [fX2_howManyRisky_4] at h
      refine lv_iload_n hx hb dX2_howManyRisky_4 rfl (lv_at hl 2 rfl) ?_
      refine lv_aload_n hx hb dX2_howManyRisky_5 rfl (lv_at hl 0 rfl) ?_
      refine tf_get (C := RX2) (T := TX2) (N := 11) hx hb hts hn_X2 hown hK hI 4 (tf_xat_4 ad cI cZ _) rfl 0 (by decide) hf_9 rfl rfl dX2_howManyRisky_6 ?_
      refine lv_icmp_ge (tgt := 30) hx hb dX2_howManyRisky_9 (by decide) (fun c1 => ?_) (fun c1 => ?_)
      · replace h := tf_pos c1 h
        refine lv_iload_n hx hb dX2_howManyRisky_30 rfl (lv_at hl 1 rfl) ?_
        exact tf_iret hx hb hr hI h dX2_howManyRisky_31 hlocks
      replace h := tf_neg c1 h
      refine lv_aload_n hx hb dX2_howManyRisky_12 rfl (lv_at hl 0 rfl) ?_
      refine tf_get (C := RX2) (T := TX2) (N := 11) hx hb hts hn_X2 hown hK hI 4 (tf_xat_4 ad cI cZ _) rfl 9 (by decide) hf_40 rfl rfl dX2_howManyRisky_13 ?_
      refine lv_iload_n hx hb dX2_howManyRisky_16 rfl (lv_at hl 2 rfl) ?_
      obtain ⟨b2, h⟩ := tf_gin h
      refine va_zald hx hb hK hI.1 29 1 (tf_xat_29 ad cI cZ _) rfl b2 dX2_howManyRisky_17 ?_
      refine lv_if_eq (tgt := 24) hx hb dX2_howManyRisky_18 (by decide) (fun c3 => ?_) (fun c3 => ?_)
      · replace h := tf_pos c3 h
        obtain ⟨v4, ev4, h⟩ := tf_glet h
        refine lv_iinc (v := v4) (lv' := [(2, .int v4), (0, .ref (ad 4)), (1, .int y1)]) hx hb dX2_howManyRisky_24 hl (k := 2) rfl (by rw [ev4]; rfl) (by decide) rfl (fun ls hl => ?_)
        refine lv_goto (tgt := 4) hx hb dX2_howManyRisky_27 (by decide) ?_
        exact ih _ _ _ _ _ _ h hI (lv_sub hl [1, 2, 0] rfl)
      replace h := tf_neg c3 h
      obtain ⟨v5, ev5, h⟩ := tf_glet h
      refine lv_iinc (v := v5) (lv' := [(1, .int v5), (0, .ref (ad 4)), (2, .int y2)]) hx hb dX2_howManyRisky_21 hl (k := 1) rfl (by rw [ev5]; rfl) (by decide) rfl (fun ls hl => ?_)
      obtain ⟨v6, ev6, h⟩ := tf_glet h
      refine lv_iinc (v := v6) (lv' := [(2, .int v6), (1, .int v5), (0, .ref (ad 4))]) hx hb dX2_howManyRisky_24 hl (k := 2) rfl (by rw [ev6]; rfl) (by decide) rfl (fun ls hl => ?_)
      refine lv_goto (tgt := 4) hx hb dX2_howManyRisky_27 (by decide) ?_
      exact ih _ _ _ _ _ _ h hI (lv_sub hl [2, 1, 0] rfl)
  unfold fX2_howManyRisky at h
  refine lv_iconst (v := 0) hx hb dX2_howManyRisky_0 (by decide +kernel) ?_
  refine lv_istore_n (lv' := [(1, .int (0 : Int32)), (0, .ref (ad 4))]) hx hb dX2_howManyRisky_1 rfl hl (by decide) rfl (fun ls hl => ?_)
  refine lv_iconst (v := 0) hx hb dX2_howManyRisky_2 (by decide +kernel) ?_
  refine lv_istore_n (lv' := [(2, .int (0 : Int32)), (1, .int (0 : Int32)), (0, .ref (ad 4))]) hx hb dX2_howManyRisky_3 rfl hl (by decide) rfl (fun ls hl => ?_)
  exact j4  _ _ _ _ _ _ _ h hI (lv_sub hl [2, 1, 0] rfl)

set_option maxHeartbeats 4000000 in
set_option maxRecDepth 100000 in
theorem kX_X6_isPrimitive (l : Launch) (D : va_G) (ad : Nat → Nat) (cI cZ : ClassId) (σ : tf_S) (x0 : Int32) (z : Int32 × tf_S) (h : fX6_isPrimitive σ x0 = some z) : tf_C l D (tf_wx ad cI cZ) [(cI, .int), (cZ, .boolean)] tf_nest yX6_isPrimitive wsX6_isPrimitive ({ frames := 0, cells := 0, slots := 0, locals := 0 }) [.int x0] σ z := by
  intro sz
  refine Met.ofW (cc := cX6_isPrimitive) (maxL := 1) (ret := (some .boolean)) (by decide) rfl ?_
  intro p e s m args below meth c s₁ B hml hv
  obtain ⟨rfl, hsz, hP, hK, hN, hD0⟩ := hv
  have hx := B.exec
  have hb := B.bytes
  have hr := B.returns
  have hts := atoms_spec (ws := wsX6_isPrimitive) B.pre
  have hown : s.vm.findClass RX6 = some m.cls := findClass_of_methodNamed B.named
  have hlocks := B.notSynchronized
  subst hsz
  have hI := tf_start (D := D) (tf_x_ad ad cI cZ) hP hD0
  have hl := lv_entry ([.int x0]) (n := 1) (Nat.le_of_ble_eq_true rfl)
  rw [lg_entry_eq]
  generalize (lg_sl ([.int x0]) ++ List.replicate (1 - (lg_sl ([.int x0])).length) Slot.unset).toArray = ls at hl ⊢
  have hl : lv_has ls 1 [(0, .int x0)] := hl
  unfold fX6_isPrimitive at h
  refine lv_iload_n hx hb dX6_isPrimitive_0 rfl (lv_at hl 0 rfl) ?_
  refine lv_if_lt (tgt := 13) hx hb dX6_isPrimitive_1 (by decide) (fun c1 => ?_) (fun c1 => ?_)
  · replace h := tf_pos c1 h
    refine lv_iconst (v := 0) hx hb dX6_isPrimitive_13 (by decide +kernel) ?_
    exact tf_zret hx hb hr (Or.inl rfl) hI h dX6_isPrimitive_14 hlocks
  replace h := tf_neg c1 h
  refine lv_iload_n hx hb dX6_isPrimitive_4 rfl (lv_at hl 0 rfl) ?_
  refine lv_iconst (v := 3) hx hb dX6_isPrimitive_5 (by decide +kernel) ?_
  refine lv_icmp_gt (tgt := 13) hx hb dX6_isPrimitive_6 (by decide) (fun c2 => ?_) (fun c2 => ?_)
  · replace h := tf_pos c2 h
    refine lv_iconst (v := 0) hx hb dX6_isPrimitive_13 (by decide +kernel) ?_
    exact tf_zret hx hb hr (Or.inl rfl) hI h dX6_isPrimitive_14 hlocks
  replace h := tf_neg c2 h
  refine lv_iconst (v := 1) hx hb dX6_isPrimitive_9 (by decide +kernel) ?_
  refine lv_goto (tgt := 14) hx hb dX6_isPrimitive_10 (by decide) ?_
  exact tf_zret hx hb hr (Or.inr rfl) hI h dX6_isPrimitive_14 hlocks

set_option maxHeartbeats 4000000 in
set_option maxRecDepth 100000 in
theorem kX_X6_widens (l : Launch) (D : va_G) (ad : Nat → Nat) (cI cZ : ClassId) (σ : tf_S) (x0 x1 : Int32) (z : Int32 × tf_S) (h : fX6_widens σ x0 x1 = some z) : tf_C l D (tf_wx ad cI cZ) [(cI, .int), (cZ, .boolean)] tf_nest yX6_widens wsX6_widens ({ frames := 0, cells := 0, slots := 0, locals := 0 }) [.int x0, .int x1] σ z := by
  intro sz
  refine Met.ofW (cc := cX6_widens) (maxL := 2) (ret := (some .boolean)) (by decide) rfl ?_
  intro p e s m args below meth c s₁ B hml hv
  obtain ⟨rfl, hsz, hP, hK, hN, hD0⟩ := hv
  have hx := B.exec
  have hb := B.bytes
  have hr := B.returns
  have hts := atoms_spec (ws := wsX6_widens) B.pre
  have hown : s.vm.findClass RX6 = some m.cls := findClass_of_methodNamed B.named
  have hlocks := B.notSynchronized
  subst hsz
  have hI := tf_start (D := D) (tf_x_ad ad cI cZ) hP hD0
  have hl := lv_entry ([.int x0, .int x1]) (n := 2) (Nat.le_of_ble_eq_true rfl)
  rw [lg_entry_eq]
  generalize (lg_sl ([.int x0, .int x1]) ++ List.replicate (2 - (lg_sl ([.int x0, .int x1])).length) Slot.unset).toArray = ls at hl ⊢
  have hl : lv_has ls 2 [(0, .int x0), (1, .int x1)] := hl
  unfold fX6_widens at h
  refine lv_iload_n hx hb dX6_widens_0 rfl (lv_at hl 0 rfl) ?_
  refine lv_iconst (v := 1) hx hb dX6_widens_1 (by decide +kernel) ?_
  refine lv_icmp_ne (tgt := 19) hx hb dX6_widens_2 (by decide) (fun c1 => ?_) (fun c1 => ?_)
  · replace h := tf_neg c1 h
    refine lv_iconst (v := 0) hx hb dX6_widens_19 (by decide +kernel) ?_
    exact tf_zret hx hb hr (Or.inl rfl) hI h dX6_widens_20 hlocks
  replace h := tf_pos c1 h
  refine lv_iload_n hx hb dX6_widens_5 rfl (lv_at hl 1 rfl) ?_
  refine lv_iconst (v := 2) hx hb dX6_widens_6 (by decide +kernel) ?_
  refine lv_icmp_eq (tgt := 15) hx hb dX6_widens_7 (by decide) (fun c2 => ?_) (fun c2 => ?_)
  · replace h := tf_pos c2 h
    refine lv_iconst (v := 1) hx hb dX6_widens_15 (by decide +kernel) ?_
    refine lv_goto (tgt := 20) hx hb dX6_widens_16 (by decide) ?_
    exact tf_zret hx hb hr (Or.inr rfl) hI h dX6_widens_20 hlocks
  replace h := tf_neg c2 h
  refine lv_iload_n hx hb dX6_widens_10 rfl (lv_at hl 1 rfl) ?_
  refine lv_iconst (v := 3) hx hb dX6_widens_11 (by decide +kernel) ?_
  refine lv_icmp_ne (tgt := 19) hx hb dX6_widens_12 (by decide) (fun c3 => ?_) (fun c3 => ?_)
  · replace h := tf_neg c3 h
    refine lv_iconst (v := 0) hx hb dX6_widens_19 (by decide +kernel) ?_
    exact tf_zret hx hb hr (Or.inl rfl) hI h dX6_widens_20 hlocks
  replace h := tf_pos c3 h
  refine lv_iconst (v := 1) hx hb dX6_widens_15 (by decide +kernel) ?_
  refine lv_goto (tgt := 20) hx hb dX6_widens_16 (by decide) ?_
  exact tf_zret hx hb hr (Or.inr rfl) hI h dX6_widens_20 hlocks

set_option maxHeartbeats 4000000 in
set_option maxRecDepth 100000 in
theorem kX_X6_isVariable (l : Launch) (D : va_G) (ad : Nat → Nat) (cI cZ : ClassId) (σ : tf_S) (x0 : Int32) (z : Int32 × tf_S) (h : fX6_isVariable σ x0 = some z) : tf_C l D (tf_wx ad cI cZ) [(cI, .int), (cZ, .boolean)] tf_nest yX6_isVariable wsX6_isVariable ({ frames := 0, cells := 0, slots := 0, locals := 0 }) [.int x0] σ z := by
  intro sz
  refine Met.ofW (cc := cX6_isVariable) (maxL := 1) (ret := (some .boolean)) (by decide) rfl ?_
  intro p e s m args below meth c s₁ B hml hv
  obtain ⟨rfl, hsz, hP, hK, hN, hD0⟩ := hv
  have hx := B.exec
  have hb := B.bytes
  have hr := B.returns
  have hts := atoms_spec (ws := wsX6_isVariable) B.pre
  have hown : s.vm.findClass RX6 = some m.cls := findClass_of_methodNamed B.named
  have hlocks := B.notSynchronized
  subst hsz
  have hI := tf_start (D := D) (tf_x_ad ad cI cZ) hP hD0
  have hl := lv_entry ([.int x0]) (n := 1) (Nat.le_of_ble_eq_true rfl)
  rw [lg_entry_eq]
  generalize (lg_sl ([.int x0]) ++ List.replicate (1 - (lg_sl ([.int x0])).length) Slot.unset).toArray = ls at hl ⊢
  have hl : lv_has ls 1 [(0, .int x0)] := hl
  unfold fX6_isVariable at h
  refine lv_iload_n hx hb dX6_isVariable_0 rfl (lv_at hl 0 rfl) ?_
  refine lv_iconst (v := 4) hx hb dX6_isVariable_1 (by decide +kernel) ?_
  refine lv_icmp_eq (tgt := 10) hx hb dX6_isVariable_2 (by decide) (fun c1 => ?_) (fun c1 => ?_)
  · replace h := tf_pos c1 h
    refine lv_iconst (v := 1) hx hb dX6_isVariable_10 (by decide +kernel) ?_
    refine lv_goto (tgt := 15) hx hb dX6_isVariable_11 (by decide) ?_
    exact tf_zret hx hb hr (Or.inr rfl) hI h dX6_isVariable_15 hlocks
  replace h := tf_neg c1 h
  refine lv_iload_n hx hb dX6_isVariable_5 rfl (lv_at hl 0 rfl) ?_
  refine lv_iconst (v := 5) hx hb dX6_isVariable_6 (by decide +kernel) ?_
  refine lv_icmp_ne (tgt := 14) hx hb dX6_isVariable_7 (by decide) (fun c2 => ?_) (fun c2 => ?_)
  · replace h := tf_neg c2 h
    refine lv_iconst (v := 0) hx hb dX6_isVariable_14 (by decide +kernel) ?_
    exact tf_zret hx hb hr (Or.inl rfl) hI h dX6_isVariable_15 hlocks
  replace h := tf_pos c2 h
  refine lv_iconst (v := 1) hx hb dX6_isVariable_10 (by decide +kernel) ?_
  refine lv_goto (tgt := 15) hx hb dX6_isVariable_11 (by decide) ?_
  exact tf_zret hx hb hr (Or.inr rfl) hI h dX6_isVariable_15 hlocks

set_option maxHeartbeats 4000000 in
set_option maxRecDepth 100000 in
theorem kX_X3_bindTo (l : Launch) (D : va_G) (ad : Nat → Nat) (cI cZ : ClassId) (σ : tf_S) (x1 x2 : Int32) (z : Int32 × tf_S) (h : fX3_bindTo σ x1 x2 = some z) : tf_C l D (tf_wx ad cI cZ) [(cI, .int), (cZ, .boolean)] tf_nest yX3_bindTo wsX3_bindTo ({ frames := 0, cells := 0, slots := 0, locals := 0 }) [.ref (ad 6), .int x1, .int x2] σ z := by
  intro sz
  refine Met.ofW (cc := cX3_bindTo) (maxL := 4) (ret := (some .int)) (by decide) rfl ?_
  intro p e s m args below meth c s₁ B hml hv
  obtain ⟨rfl, hsz, hP, hK, hN, hD0⟩ := hv
  have hx := B.exec
  have hb := B.bytes
  have hr := B.returns
  have hts := atoms_spec (ws := wsX3_bindTo) B.pre
  have hown : s.vm.findClass RX3 = some m.cls := findClass_of_methodNamed B.named
  have hlocks := B.notSynchronized
  subst hsz
  have hI := tf_start (D := D) (tf_x_ad ad cI cZ) hP hD0
  have hl := lv_entry ([.ref (ad 6), .int x1, .int x2]) (n := 4) (Nat.le_of_ble_eq_true rfl)
  rw [lg_entry_eq]
  generalize (lg_sl ([.ref (ad 6), .int x1, .int x2]) ++ List.replicate (4 - (lg_sl ([.ref (ad 6), .int x1, .int x2])).length) Slot.unset).toArray = ls at hl ⊢
  have hl : lv_has ls 4 [(0, .ref (ad 6)), (1, .int x1), (2, .int x2)] := hl
  have hn_X3 : ∀ w ∈ u_ws RX3 TX3 7, w ∈ wsX3_bindTo := by decide +kernel
  have hf_9 := hts (.fieldLink RX3 9 "TypeFlow$Putting" "bound" "[I") (by decide +kernel)
  unfold fX3_bindTo at h
  refine lv_iload_n hx hb dX3_bindTo_0 rfl (lv_at hl 1 rfl) ?_
  refine lv_iconst (v := 4) hx hb dX3_bindTo_1 (by decide +kernel) ?_
  refine lv_isub hx hb dX3_bindTo_2 ?_
  obtain ⟨v1, ev1, h⟩ := tf_glet h
  refine tf_top ev1 ?_
  refine lv_istore_n (lv' := [(3, .int v1), (0, .ref (ad 6)), (1, .int x1), (2, .int x2)]) hx hb dX3_bindTo_3 rfl hl (by decide) rfl (fun ls hl => ?_)
  refine lv_aload_n hx hb dX3_bindTo_4 rfl (lv_at hl 1 rfl) ?_
  refine tf_get (C := RX3) (T := TX3) (N := 7) hx hb hts hn_X3 hown hK hI 6 (tf_xat_6 ad cI cZ _) rfl 2 (by decide) hf_9 rfl rfl dX3_bindTo_5 ?_
  refine lv_iload_n hx hb dX3_bindTo_8 rfl (lv_at hl 0 rfl) ?_
  obtain ⟨b2, h⟩ := tf_gin h
  refine va_iald hx hb hK hI.1 31 0 (tf_xat_31 ad cI cZ _) rfl b2 dX3_bindTo_9 ?_
  refine lv_iconst (v := -1) hx hb dX3_bindTo_10 (by decide +kernel) ?_
  refine lv_icmp_ne (tgt := 21) hx hb dX3_bindTo_11 (by decide) (fun c3 => ?_) (fun c3 => ?_)
  · replace h := tf_neg c3 h
    refine lv_aload_n hx hb dX3_bindTo_21 rfl (lv_at hl 1 rfl) ?_
    refine tf_get (C := RX3) (T := TX3) (N := 7) hx hb hts hn_X3 hown hK hI 6 (tf_xat_6 ad cI cZ _) rfl 2 (by decide) hf_9 rfl rfl dX3_bindTo_22 ?_
    refine lv_iload_n hx hb dX3_bindTo_25 rfl (lv_at hl 0 rfl) ?_
    obtain ⟨b4, h⟩ := tf_gin h
    refine va_iald hx hb hK hI.1 31 0 (tf_xat_31 ad cI cZ _) rfl b4 dX3_bindTo_26 ?_
    refine lv_iload_n hx hb dX3_bindTo_27 rfl (lv_at hl 3 rfl) ?_
    refine lv_icmp_ne (tgt := 35) hx hb dX3_bindTo_28 (by decide) (fun c5 => ?_) (fun c5 => ?_)
    · replace h := tf_neg c5 h
      refine lv_iconst (v := 2) hx hb dX3_bindTo_35 (by decide +kernel) ?_
      exact tf_iret hx hb hr hI h dX3_bindTo_36 hlocks
    replace h := tf_pos c5 h
    refine lv_iconst (v := 0) hx hb dX3_bindTo_31 (by decide +kernel) ?_
    refine lv_goto (tgt := 36) hx hb dX3_bindTo_32 (by decide) ?_
    exact tf_iret hx hb hr hI h dX3_bindTo_36 hlocks
  replace h := tf_pos c3 h
  refine lv_aload_n hx hb dX3_bindTo_14 rfl (lv_at hl 1 rfl) ?_
  refine tf_get (C := RX3) (T := TX3) (N := 7) hx hb hts hn_X3 hown hK hI 6 (tf_xat_6 ad cI cZ _) rfl 2 (by decide) hf_9 rfl rfl dX3_bindTo_15 ?_
  refine lv_iload_n hx hb dX3_bindTo_18 rfl (lv_at hl 0 rfl) ?_
  refine lv_iload_n hx hb dX3_bindTo_19 rfl (lv_at hl 3 rfl) ?_
  obtain ⟨b6, h⟩ := tf_gin h
  obtain ⟨s7, es7, h⟩ := tf_glet h
  refine tf_iast hx hb hK hI 31 0 (tf_xat_31 ad cI cZ _) (tf_xset_31 ad cI cZ _) rfl b6 es7 dX3_bindTo_20 (fun H locs hI => ?_)
  refine lv_aload_n hx hb dX3_bindTo_21 rfl (lv_at hl 1 rfl) ?_
  refine tf_get (C := RX3) (T := TX3) (N := 7) hx hb hts hn_X3 hown hK hI 6 (tf_xat_6 ad cI cZ _) rfl 2 (by decide) hf_9 rfl rfl dX3_bindTo_22 ?_
  refine lv_iload_n hx hb dX3_bindTo_25 rfl (lv_at hl 0 rfl) ?_
  obtain ⟨b8, h⟩ := tf_gin h
  refine va_iald hx hb hK hI.1 31 0 (tf_xat_31 ad cI cZ _) rfl b8 dX3_bindTo_26 ?_
  refine lv_iload_n hx hb dX3_bindTo_27 rfl (lv_at hl 3 rfl) ?_
  refine lv_icmp_ne (tgt := 35) hx hb dX3_bindTo_28 (by decide) (fun c9 => ?_) (fun c9 => ?_)
  · replace h := tf_neg c9 h
    refine lv_iconst (v := 2) hx hb dX3_bindTo_35 (by decide +kernel) ?_
    exact tf_iret hx hb hr hI h dX3_bindTo_36 hlocks
  replace h := tf_pos c9 h
  refine lv_iconst (v := 0) hx hb dX3_bindTo_31 (by decide +kernel) ?_
  refine lv_goto (tgt := 36) hx hb dX3_bindTo_32 (by decide) ?_
  exact tf_iret hx hb hr hI h dX3_bindTo_36 hlocks

set_option maxHeartbeats 4000000 in
set_option maxRecDepth 100000 in
theorem kX_X4_classAbove (l : Launch) (D : va_G) (ad : Nat → Nat) (cI cZ : ClassId) (σ : tf_S) (x1 : Int32) (z : Int32 × tf_S) (h : fX4_classAbove σ x1 = some z) : tf_C l D (tf_wx ad cI cZ) [(cI, .int), (cZ, .boolean)] tf_nest yX4_classAbove wsX4_classAbove ({ frames := 0, cells := 0, slots := 0, locals := 0 }) [.ref (ad 1), .int x1] σ z := by
  intro sz
  refine Met.ofW (cc := cX4_classAbove) (maxL := 2) (ret := (some .int)) (by decide) rfl ?_
  intro p e s m args below meth c s₁ B hml hv
  obtain ⟨rfl, hsz, hP, hK, hN, hD0⟩ := hv
  have hx := B.exec
  have hb := B.bytes
  have hr := B.returns
  have hts := atoms_spec (ws := wsX4_classAbove) B.pre
  have hown : s.vm.findClass RX4 = some m.cls := findClass_of_methodNamed B.named
  have hlocks := B.notSynchronized
  subst hsz
  have hI := tf_start (D := D) (tf_x_ad ad cI cZ) hP hD0
  have hl := lv_entry ([.ref (ad 1), .int x1]) (n := 2) (Nat.le_of_ble_eq_true rfl)
  rw [lg_entry_eq]
  generalize (lg_sl ([.ref (ad 1), .int x1]) ++ List.replicate (2 - (lg_sl ([.ref (ad 1), .int x1])).length) Slot.unset).toArray = ls at hl ⊢
  have hl : lv_has ls 2 [(0, .ref (ad 1)), (1, .int x1)] := hl
  have hn_X4 : ∀ w ∈ u_ws RX4 TX4 10, w ∈ wsX4_classAbove := by decide +kernel
  have hf_19 := hts (.fieldLink RX4 19 "TypeFlow$Types" "parent" "[I") (by decide +kernel)
  have hf_25 := hts (.fieldLink RX4 25 "TypeFlow$Types" "ofClass" "[I") (by decide +kernel)
  unfold fX4_classAbove at h
  refine lv_iload_n hx hb dX4_classAbove_0 rfl (lv_at hl 1 rfl) ?_
  refine lv_if_ne (tgt := 8) hx hb dX4_classAbove_1 (by decide) (fun c1 => ?_) (fun c1 => ?_)
  · replace h := tf_neg c1 h
    refine lv_aload_n hx hb dX4_classAbove_8 rfl (lv_at hl 0 rfl) ?_
    refine tf_get (C := RX4) (T := TX4) (N := 10) hx hb hts hn_X4 hown hK hI 1 (tf_xat_1 ad cI cZ _) rfl 4 (by decide) hf_25 rfl rfl dX4_classAbove_9 ?_
    refine lv_aload_n hx hb dX4_classAbove_12 rfl (lv_at hl 0 rfl) ?_
    refine tf_get (C := RX4) (T := TX4) (N := 10) hx hb hts hn_X4 hown hK hI 1 (tf_xat_1 ad cI cZ _) rfl 2 (by decide) hf_19 rfl rfl dX4_classAbove_13 ?_
    refine lv_iload_n hx hb dX4_classAbove_16 rfl (lv_at hl 1 rfl) ?_
    obtain ⟨b2, h⟩ := tf_gin h
    refine va_iald hx hb hK hI.1 8 0 (tf_xat_8 ad cI cZ _) rfl b2 dX4_classAbove_17 ?_
    obtain ⟨b3, h⟩ := tf_gin h
    refine va_iald hx hb hK hI.1 9 0 (tf_xat_9 ad cI cZ _) rfl b3 dX4_classAbove_18 ?_
    exact tf_iret hx hb hr hI h dX4_classAbove_19 hlocks
  replace h := tf_pos c1 h
  refine lv_iconst (v := -1) hx hb dX4_classAbove_4 (by decide +kernel) ?_
  refine lv_goto (tgt := 19) hx hb dX4_classAbove_5 (by decide) ?_
  exact tf_iret hx hb hr hI h dX4_classAbove_19 hlocks

set_option maxHeartbeats 4000000 in
set_option maxRecDepth 100000 in
theorem kX_X4_isFrom (l : Launch) (D : va_G) (ad : Nat → Nat) (cI cZ : ClassId) (σ : tf_S) (x1 x2 : Int32) (z : Int32 × tf_S) (h : fX4_isFrom σ x1 x2 = some z) : tf_C l D (tf_wx ad cI cZ) [(cI, .int), (cZ, .boolean)] tf_nest yX4_isFrom wsX4_isFrom ({ frames := 1, cells := 0, slots := 0, locals := 21 }) [.ref (ad 1), .int x1, .int x2] σ z := by
  intro sz
  refine Met.ofW (cc := cX4_isFrom) (maxL := 5) (ret := (some .boolean)) (by decide) rfl ?_
  intro p e s m args below meth c s₁ B hml hv
  obtain ⟨rfl, hsz, hP, hK, hN, hD0⟩ := hv
  have hx := B.exec
  have hb := B.bytes
  have hr := B.returns
  have hts := atoms_spec (ws := wsX4_isFrom) B.pre
  have hown : s.vm.findClass RX4 = some m.cls := findClass_of_methodNamed B.named
  have hlocks := B.notSynchronized
  subst hsz
  have hI := tf_start (D := D) (tf_x_ad ad cI cZ) hP hD0
  have hl := lv_entry ([.ref (ad 1), .int x1, .int x2]) (n := 5) (Nat.le_of_ble_eq_true rfl)
  rw [lg_entry_eq]
  generalize (lg_sl ([.ref (ad 1), .int x1, .int x2]) ++ List.replicate (5 - (lg_sl ([.ref (ad 1), .int x1, .int x2])).length) Slot.unset).toArray = ls at hl ⊢
  have hl : lv_has ls 5 [(0, .ref (ad 1)), (1, .int x1), (2, .int x2)] := hl
  have j5 : ∀ n : Nat, ∀ (σ : tf_S) (y3 y4 : Int32) (H : Heap) (locs : List Loc) (ls : Array Slot), fX4_isFrom_5 x1 x2 n σ y3 y4 = some z → tf_I D (tf_wx ad cI cZ) s.heap σ H locs → lv_has ls 5 [(0, .ref (ad 1)), (2, .int x2), (3, .int y3), (4, .int y4)] → W p l e (headSpec wsX4_isFrom ({ frames := 1, cells := 0, slots := 0, locals := 21 })).room s m ([.ref (ad 1), .int x1, .int x2] : List Value).toArray below meth c H locs 0 0 (tf_Q below D (tf_wx ad cI cZ) z ([.ref (ad 1), .int x1, .int x2] : List Value).toArray s) (F0 m 5 ls []) := by
    intro n
    induction n with
    | zero =>
      intro σ y3 y4 H locs ls h
      rw [fX4_isFrom_5] at h
      cases h
    | succ n ih =>
      intro σ y3 y4 H locs ls h hI hl
      rw [fX4_isFrom_5] at h
      refine lv_iload_n hx hb dX4_isFrom_5 rfl (lv_at hl 2 rfl) ?_
      refine lv_iload_n hx hb dX4_isFrom_6 rfl (lv_at hl 1 rfl) ?_
      refine lv_icmp_le (tgt := 29) hx hb dX4_isFrom_7 (by decide) (fun c1 => ?_) (fun c1 => ?_)
      · replace h := tf_pos c1 h
        refine lv_iload_n hx hb dX4_isFrom_29 rfl (lv_at hl 2 rfl) ?_
        refine lv_iload_n hx hb dX4_isFrom_30 rfl (lv_at hl 1 rfl) ?_
        refine lv_icmp_ne (tgt := 38) hx hb dX4_isFrom_31 (by decide) (fun c2 => ?_) (fun c2 => ?_)
        · replace h := tf_neg c2 h
          refine lv_iconst (v := 0) hx hb dX4_isFrom_38 (by decide +kernel) ?_
          exact tf_zret hx hb hr (Or.inl rfl) hI h dX4_isFrom_39 hlocks
        replace h := tf_pos c2 h
        refine lv_iconst (v := 1) hx hb dX4_isFrom_34 (by decide +kernel) ?_
        refine lv_goto (tgt := 39) hx hb dX4_isFrom_35 (by decide) ?_
        exact tf_zret hx hb hr (Or.inr rfl) hI h dX4_isFrom_39 hlocks
      replace h := tf_neg c1 h
      refine lv_iload hx hb dX4_isFrom_10 (lv_at hl 3 rfl) ?_
      refine lv_bipush (v := 12) hx hb dX4_isFrom_12 (by decide +kernel) ?_
      refine lv_icmp_ge (tgt := 29) hx hb dX4_isFrom_14 (by decide) (fun c3 => ?_) (fun c3 => ?_)
      · replace h := tf_pos c3 h
        refine lv_iload_n hx hb dX4_isFrom_29 rfl (lv_at hl 2 rfl) ?_
        refine lv_iload_n hx hb dX4_isFrom_30 rfl (lv_at hl 1 rfl) ?_
        refine lv_icmp_ne (tgt := 38) hx hb dX4_isFrom_31 (by decide) (fun c4 => ?_) (fun c4 => ?_)
        · replace h := tf_neg c4 h
          refine lv_iconst (v := 0) hx hb dX4_isFrom_38 (by decide +kernel) ?_
          exact tf_zret hx hb hr (Or.inl rfl) hI h dX4_isFrom_39 hlocks
        replace h := tf_pos c4 h
        refine lv_iconst (v := 1) hx hb dX4_isFrom_34 (by decide +kernel) ?_
        refine lv_goto (tgt := 39) hx hb dX4_isFrom_35 (by decide) ?_
        exact tf_zret hx hb hr (Or.inr rfl) hI h dX4_isFrom_39 hlocks
      replace h := tf_neg c3 h
      refine lv_aload_n hx hb dX4_isFrom_17 rfl (lv_at hl 0 rfl) ?_
      refine lv_iload_n hx hb dX4_isFrom_18 rfl (lv_at hl 2 rfl) ?_
      obtain ⟨u5, q6, h⟩ := tf_gbind h
      refine tf_callV (rest := []) ⟨hx, hb, hml, hown, hts⟩ hK hN hI (kX_X4_classAbove l D ad cI cZ _ _ _ q6) (cwV 1 hts gX4_isFrom_X4_classAbove rfl rfl rfl (by decide +kernel) ⟨Nat.le_of_ble_eq_true rfl, Nat.le_of_ble_eq_true rfl⟩) 1 4 (tf_xat_1 ad cI cZ _) rfl rfl hl.1 rfl (Nat.le_of_ble_eq_true rfl) dX4_isFrom_19 (fun H locs hI => ?_)
      obtain ⟨v7, ev7, h⟩ := tf_glet h
      refine tf_top ev7 ?_
      refine lv_istore_n (lv' := [(3, .int v7), (0, .ref (ad 1)), (2, .int x2), (4, .int y4)]) hx hb dX4_isFrom_22 rfl hl (by decide) rfl (fun ls hl => ?_)
      obtain ⟨v8, ev8, h⟩ := tf_glet h
      refine lv_iinc (v := v8) (lv' := [(4, .int v8), (3, .int v7), (0, .ref (ad 1)), (2, .int x2)]) hx hb dX4_isFrom_23 hl (k := 3) rfl (by rw [ev8]; rfl) (by decide) rfl (fun ls hl => ?_)
      refine lv_goto (tgt := 5) hx hb dX4_isFrom_26 (by decide) ?_
      exact ih _ _ _ _ _ _ h hI (lv_sub hl [2, 3, 1, 0] rfl)
  unfold fX4_isFrom at h
  refine lv_iload_n hx hb dX4_isFrom_0 rfl (lv_at hl 1 rfl) ?_
  refine lv_istore_n (lv' := [(3, .int x1), (0, .ref (ad 1)), (1, .int x1), (2, .int x2)]) hx hb dX4_isFrom_1 rfl hl (by decide) rfl (fun ls hl => ?_)
  refine lv_iconst (v := 0) hx hb dX4_isFrom_2 (by decide +kernel) ?_
  refine lv_istore (lv' := [(4, .int (0 : Int32)), (3, .int x1), (0, .ref (ad 1)), (1, .int x1), (2, .int x2)]) hx hb dX4_isFrom_3 hl (by decide) rfl (fun ls hl => ?_)
  exact j5  _ _ _ _ _ _ _ h hI (lv_sub hl [2, 4, 1, 0] rfl)

set_option maxHeartbeats 4000000 in
set_option maxRecDepth 100000 in
theorem kX_X4_argumentWithoutImage (l : Launch) (D : va_G) (ad : Nat → Nat) (cI cZ : ClassId) (σ : tf_S) (x1 : Int32) (z : Int32 × tf_S) (h : fX4_argumentWithoutImage σ x1 = some z) : tf_C l D (tf_wx ad cI cZ) [(cI, .int), (cZ, .boolean)] tf_nest yX4_argumentWithoutImage wsX4_argumentWithoutImage ({ frames := 0, cells := 0, slots := 0, locals := 0 }) [.ref (ad 1), .int x1] σ z := by
  intro sz
  refine Met.ofW (cc := cX4_argumentWithoutImage) (maxL := 2) (ret := (some .int)) (by decide) rfl ?_
  intro p e s m args below meth c s₁ B hml hv
  obtain ⟨rfl, hsz, hP, hK, hN, hD0⟩ := hv
  have hx := B.exec
  have hb := B.bytes
  have hr := B.returns
  have hts := atoms_spec (ws := wsX4_argumentWithoutImage) B.pre
  have hown : s.vm.findClass RX4 = some m.cls := findClass_of_methodNamed B.named
  have hlocks := B.notSynchronized
  subst hsz
  have hI := tf_start (D := D) (tf_x_ad ad cI cZ) hP hD0
  have hl := lv_entry ([.ref (ad 1), .int x1]) (n := 2) (Nat.le_of_ble_eq_true rfl)
  rw [lg_entry_eq]
  generalize (lg_sl ([.ref (ad 1), .int x1]) ++ List.replicate (2 - (lg_sl ([.ref (ad 1), .int x1])).length) Slot.unset).toArray = ls at hl ⊢
  have hl : lv_has ls 2 [(0, .ref (ad 1)), (1, .int x1)] := hl
  have hn_X4 : ∀ w ∈ u_ws RX4 TX4 10, w ∈ wsX4_argumentWithoutImage := by decide +kernel
  have hf_28 := hts (.fieldLink RX4 28 "TypeFlow$Types" "first" "[I") (by decide +kernel)
  have hf_31 := hts (.fieldLink RX4 31 "TypeFlow$Types" "second" "[I") (by decide +kernel)
  have hf_37 := hts (.fieldLink RX4 37 "TypeFlow$Types" "image" "[I") (by decide +kernel)
  have j33 : ∀ (σ : tf_S) (H : Heap) (locs : List Loc) (ls : Array Slot), fX4_argumentWithoutImage_33 x1 σ = some z → tf_I D (tf_wx ad cI cZ) s.heap σ H locs → lv_has ls 2 [(0, .ref (ad 1)), (1, .int x1)] → W p l e (headSpec wsX4_argumentWithoutImage ({ frames := 0, cells := 0, slots := 0, locals := 0 })).room s m ([.ref (ad 1), .int x1] : List Value).toArray below meth c H locs 0 0 (tf_Q below D (tf_wx ad cI cZ) z ([.ref (ad 1), .int x1] : List Value).toArray s) (F0 m 33 ls []) := by
    intro σ H locs ls h hI hl
    unfold fX4_argumentWithoutImage_33 at h
    refine lv_aload_n hx hb dX4_argumentWithoutImage_33 rfl (lv_at hl 0 rfl) ?_
    refine tf_get (C := RX4) (T := TX4) (N := 10) hx hb hts hn_X4 hown hK hI 1 (tf_xat_1 ad cI cZ _) rfl 6 (by decide) hf_31 rfl rfl dX4_argumentWithoutImage_34 ?_
    refine lv_iload_n hx hb dX4_argumentWithoutImage_37 rfl (lv_at hl 1 rfl) ?_
    obtain ⟨b3, h⟩ := tf_gin h
    refine va_iald hx hb hK hI.1 11 0 (tf_xat_11 ad cI cZ _) rfl b3 dX4_argumentWithoutImage_38 ?_
    refine lv_bipush (v := 6) hx hb dX4_argumentWithoutImage_39 (by decide +kernel) ?_
    refine lv_icmp_lt (tgt := 66) hx hb dX4_argumentWithoutImage_41 (by decide) (fun c4 => ?_) (fun c4 => ?_)
    · replace h := tf_pos c4 h
      refine lv_iconst (v := -1) hx hb dX4_argumentWithoutImage_66 (by decide +kernel) ?_
      exact tf_iret hx hb hr hI h dX4_argumentWithoutImage_67 hlocks
    replace h := tf_neg c4 h
    refine lv_aload_n hx hb dX4_argumentWithoutImage_44 rfl (lv_at hl 0 rfl) ?_
    refine tf_get (C := RX4) (T := TX4) (N := 10) hx hb hts hn_X4 hown hK hI 1 (tf_xat_1 ad cI cZ _) rfl 8 (by decide) hf_37 rfl rfl dX4_argumentWithoutImage_45 ?_
    refine lv_aload_n hx hb dX4_argumentWithoutImage_48 rfl (lv_at hl 0 rfl) ?_
    refine tf_get (C := RX4) (T := TX4) (N := 10) hx hb hts hn_X4 hown hK hI 1 (tf_xat_1 ad cI cZ _) rfl 6 (by decide) hf_31 rfl rfl dX4_argumentWithoutImage_49 ?_
    refine lv_iload_n hx hb dX4_argumentWithoutImage_52 rfl (lv_at hl 1 rfl) ?_
    obtain ⟨b5, h⟩ := tf_gin h
    refine va_iald hx hb hK hI.1 11 0 (tf_xat_11 ad cI cZ _) rfl b5 dX4_argumentWithoutImage_53 ?_
    obtain ⟨b6, h⟩ := tf_gin h
    refine va_iald hx hb hK hI.1 13 0 (tf_xat_13 ad cI cZ _) rfl b6 dX4_argumentWithoutImage_54 ?_
    refine lv_iconst (v := -1) hx hb dX4_argumentWithoutImage_55 (by decide +kernel) ?_
    refine lv_icmp_ne (tgt := 66) hx hb dX4_argumentWithoutImage_56 (by decide) (fun c7 => ?_) (fun c7 => ?_)
    · replace h := tf_neg c7 h
      refine lv_iconst (v := -1) hx hb dX4_argumentWithoutImage_66 (by decide +kernel) ?_
      exact tf_iret hx hb hr hI h dX4_argumentWithoutImage_67 hlocks
    replace h := tf_pos c7 h
    refine lv_aload_n hx hb dX4_argumentWithoutImage_59 rfl (lv_at hl 0 rfl) ?_
    refine tf_get (C := RX4) (T := TX4) (N := 10) hx hb hts hn_X4 hown hK hI 1 (tf_xat_1 ad cI cZ _) rfl 6 (by decide) hf_31 rfl rfl dX4_argumentWithoutImage_60 ?_
    refine lv_iload_n hx hb dX4_argumentWithoutImage_63 rfl (lv_at hl 1 rfl) ?_
    obtain ⟨b8, h⟩ := tf_gin h
    refine va_iald hx hb hK hI.1 11 0 (tf_xat_11 ad cI cZ _) rfl b8 dX4_argumentWithoutImage_64 ?_
    exact tf_iret hx hb hr hI h dX4_argumentWithoutImage_65 hlocks
  unfold fX4_argumentWithoutImage at h
  refine lv_aload_n hx hb dX4_argumentWithoutImage_0 rfl (lv_at hl 0 rfl) ?_
  refine tf_get (C := RX4) (T := TX4) (N := 10) hx hb hts hn_X4 hown hK hI 1 (tf_xat_1 ad cI cZ _) rfl 5 (by decide) hf_28 rfl rfl dX4_argumentWithoutImage_1 ?_
  refine lv_iload_n hx hb dX4_argumentWithoutImage_4 rfl (lv_at hl 1 rfl) ?_
  obtain ⟨b1, h⟩ := tf_gin h
  refine va_iald hx hb hK hI.1 10 0 (tf_xat_10 ad cI cZ _) rfl b1 dX4_argumentWithoutImage_5 ?_
  refine lv_bipush (v := 6) hx hb dX4_argumentWithoutImage_6 (by decide +kernel) ?_
  refine lv_icmp_lt (tgt := 33) hx hb dX4_argumentWithoutImage_8 (by decide) (fun c2 => ?_) (fun c2 => ?_)
  · replace h := tf_pos c2 h
    exact j33  _ _ _ _ h hI (lv_sub hl [0, 1] rfl)
  replace h := tf_neg c2 h
  refine lv_aload_n hx hb dX4_argumentWithoutImage_11 rfl (lv_at hl 0 rfl) ?_
  refine tf_get (C := RX4) (T := TX4) (N := 10) hx hb hts hn_X4 hown hK hI 1 (tf_xat_1 ad cI cZ _) rfl 8 (by decide) hf_37 rfl rfl dX4_argumentWithoutImage_12 ?_
  refine lv_aload_n hx hb dX4_argumentWithoutImage_15 rfl (lv_at hl 0 rfl) ?_
  refine tf_get (C := RX4) (T := TX4) (N := 10) hx hb hts hn_X4 hown hK hI 1 (tf_xat_1 ad cI cZ _) rfl 5 (by decide) hf_28 rfl rfl dX4_argumentWithoutImage_16 ?_
  refine lv_iload_n hx hb dX4_argumentWithoutImage_19 rfl (lv_at hl 1 rfl) ?_
  obtain ⟨b9, h⟩ := tf_gin h
  refine va_iald hx hb hK hI.1 10 0 (tf_xat_10 ad cI cZ _) rfl b9 dX4_argumentWithoutImage_20 ?_
  obtain ⟨b10, h⟩ := tf_gin h
  refine va_iald hx hb hK hI.1 13 0 (tf_xat_13 ad cI cZ _) rfl b10 dX4_argumentWithoutImage_21 ?_
  refine lv_iconst (v := -1) hx hb dX4_argumentWithoutImage_22 (by decide +kernel) ?_
  refine lv_icmp_ne (tgt := 33) hx hb dX4_argumentWithoutImage_23 (by decide) (fun c11 => ?_) (fun c11 => ?_)
  · replace h := tf_neg c11 h
    exact j33  _ _ _ _ h hI (lv_sub hl [0, 1] rfl)
  replace h := tf_pos c11 h
  refine lv_aload_n hx hb dX4_argumentWithoutImage_26 rfl (lv_at hl 0 rfl) ?_
  refine tf_get (C := RX4) (T := TX4) (N := 10) hx hb hts hn_X4 hown hK hI 1 (tf_xat_1 ad cI cZ _) rfl 5 (by decide) hf_28 rfl rfl dX4_argumentWithoutImage_27 ?_
  refine lv_iload_n hx hb dX4_argumentWithoutImage_30 rfl (lv_at hl 1 rfl) ?_
  obtain ⟨b12, h⟩ := tf_gin h
  refine va_iald hx hb hK hI.1 10 0 (tf_xat_10 ad cI cZ _) rfl b12 dX4_argumentWithoutImage_31 ?_
  exact tf_iret hx hb hr hI h dX4_argumentWithoutImage_32 hlocks

set_option maxHeartbeats 4000000 in
set_option maxRecDepth 100000 in
theorem kX_X4_imageOf (l : Launch) (D : va_G) (ad : Nat → Nat) (cI cZ : ClassId) (σ : tf_S) (x1 : Int32) (z : Int32 × tf_S) (h : fX4_imageOf σ x1 = some z) : tf_C l D (tf_wx ad cI cZ) [(cI, .int), (cZ, .boolean)] tf_nest yX4_imageOf wsX4_imageOf ({ frames := 0, cells := 0, slots := 0, locals := 0 }) [.ref (ad 1), .int x1] σ z := by
  intro sz
  refine Met.ofW (cc := cX4_imageOf) (maxL := 2) (ret := (some .int)) (by decide) rfl ?_
  intro p e s m args below meth c s₁ B hml hv
  obtain ⟨rfl, hsz, hP, hK, hN, hD0⟩ := hv
  have hx := B.exec
  have hb := B.bytes
  have hr := B.returns
  have hts := atoms_spec (ws := wsX4_imageOf) B.pre
  have hown : s.vm.findClass RX4 = some m.cls := findClass_of_methodNamed B.named
  have hlocks := B.notSynchronized
  subst hsz
  have hI := tf_start (D := D) (tf_x_ad ad cI cZ) hP hD0
  have hl := lv_entry ([.ref (ad 1), .int x1]) (n := 2) (Nat.le_of_ble_eq_true rfl)
  rw [lg_entry_eq]
  generalize (lg_sl ([.ref (ad 1), .int x1]) ++ List.replicate (2 - (lg_sl ([.ref (ad 1), .int x1])).length) Slot.unset).toArray = ls at hl ⊢
  have hl : lv_has ls 2 [(0, .ref (ad 1)), (1, .int x1)] := hl
  have hn_X4 : ∀ w ∈ u_ws RX4 TX4 10, w ∈ wsX4_imageOf := by decide +kernel
  have hf_37 := hts (.fieldLink RX4 37 "TypeFlow$Types" "image" "[I") (by decide +kernel)
  unfold fX4_imageOf at h
  refine lv_iload_n hx hb dX4_imageOf_0 rfl (lv_at hl 1 rfl) ?_
  refine lv_iconst (v := -1) hx hb dX4_imageOf_1 (by decide +kernel) ?_
  refine lv_icmp_ne (tgt := 9) hx hb dX4_imageOf_2 (by decide) (fun c1 => ?_) (fun c1 => ?_)
  · replace h := tf_neg c1 h
    refine lv_aload_n hx hb dX4_imageOf_9 rfl (lv_at hl 0 rfl) ?_
    refine tf_get (C := RX4) (T := TX4) (N := 10) hx hb hts hn_X4 hown hK hI 1 (tf_xat_1 ad cI cZ _) rfl 8 (by decide) hf_37 rfl rfl dX4_imageOf_10 ?_
    refine lv_iload_n hx hb dX4_imageOf_13 rfl (lv_at hl 1 rfl) ?_
    obtain ⟨b2, h⟩ := tf_gin h
    refine va_iald hx hb hK hI.1 13 0 (tf_xat_13 ad cI cZ _) rfl b2 dX4_imageOf_14 ?_
    exact tf_iret hx hb hr hI h dX4_imageOf_15 hlocks
  replace h := tf_pos c1 h
  refine lv_iconst (v := -1) hx hb dX4_imageOf_5 (by decide +kernel) ?_
  refine lv_goto (tgt := 15) hx hb dX4_imageOf_6 (by decide) ?_
  exact tf_iret hx hb hr hI h dX4_imageOf_15 hlocks
end
section
set_option maxHeartbeats 4000000 in
set_option maxRecDepth 100000 in
theorem kX_X4_make (l : Launch) (D : va_G) (ad : Nat → Nat) (cI cZ : ClassId) (σ : tf_S) (x1 x2 x3 : Int32) (z : Int32 × tf_S) (h : fX4_make σ x1 x2 x3 = some z) : tf_C l D (tf_wx ad cI cZ) [(cI, .int), (cZ, .boolean)] tf_nest yX4_make wsX4_make ({ frames := 0, cells := 0, slots := 0, locals := 0 }) [.ref (ad 1), .int x1, .int x2, .int x3] σ z := by
  intro sz
  refine Met.ofW (cc := cX4_make) (maxL := 5) (ret := (some .int)) (by decide) rfl ?_
  intro p e s m args below meth c s₁ B hml hv
  obtain ⟨rfl, hsz, hP, hK, hN, hD0⟩ := hv
  have hx := B.exec
  have hb := B.bytes
  have hr := B.returns
  have hts := atoms_spec (ws := wsX4_make) B.pre
  have hown : s.vm.findClass RX4 = some m.cls := findClass_of_methodNamed B.named
  have hlocks := B.notSynchronized
  subst hsz
  have hI := tf_start (D := D) (tf_x_ad ad cI cZ) hP hD0
  have hl := lv_entry ([.ref (ad 1), .int x1, .int x2, .int x3]) (n := 5) (Nat.le_of_ble_eq_true rfl)
  rw [lg_entry_eq]
  generalize (lg_sl ([.ref (ad 1), .int x1, .int x2, .int x3]) ++ List.replicate (5 - (lg_sl ([.ref (ad 1), .int x1, .int x2, .int x3])).length) Slot.unset).toArray = ls at hl ⊢
  have hl : lv_has ls 5 [(0, .ref (ad 1)), (1, .int x1), (2, .int x2), (3, .int x3)] := hl
  have hn_X4 : ∀ w ∈ u_ws RX4 TX4 10, w ∈ wsX4_make := by decide +kernel
  have hf_22 := hts (.fieldLink RX4 22 "TypeFlow$Types" "size" "I") (by decide +kernel)
  have hf_25 := hts (.fieldLink RX4 25 "TypeFlow$Types" "ofClass" "[I") (by decide +kernel)
  have hf_28 := hts (.fieldLink RX4 28 "TypeFlow$Types" "first" "[I") (by decide +kernel)
  have hf_31 := hts (.fieldLink RX4 31 "TypeFlow$Types" "second" "[I") (by decide +kernel)
  have hf_34 := hts (.fieldLink RX4 34 "TypeFlow$Types" "within" "[I") (by decide +kernel)
  have j119 : ∀ (σ : tf_S) (t0 t1 : Int32) (H : Heap) (locs : List Loc) (ls : Array Slot), fX4_make_119 x1 x2 x3 σ t0 t1 = some z → tf_I D (tf_wx ad cI cZ) s.heap σ H locs → lv_has ls 5 [(0, .ref (ad 1)), (3, .int x3)] → W p l e (headSpec wsX4_make ({ frames := 0, cells := 0, slots := 0, locals := 0 })).room s m ([.ref (ad 1), .int x1, .int x2, .int x3] : List Value).toArray below meth c H locs 0 0 (tf_Q below D (tf_wx ad cI cZ) z ([.ref (ad 1), .int x1, .int x2, .int x3] : List Value).toArray s) (F0 m 119 ls [.int t0, .int t1, .ref (ad 12)]) := by
    intro σ t0 t1 H locs ls h hI hl
    unfold fX4_make_119 at h
    refine lv_iload_n hx hb dX4_make_119 rfl (lv_at hl 1 rfl) ?_
    refine lv_if_ge (tgt := 127) hx hb dX4_make_120 (by decide) (fun c11 => ?_) (fun c11 => ?_)
    · replace h := tf_pos c11 h
      refine lv_aload_n hx hb dX4_make_127 rfl (lv_at hl 0 rfl) ?_
      refine tf_get (C := RX4) (T := TX4) (N := 10) hx hb hts hn_X4 hown hK hI 1 (tf_xat_1 ad cI cZ _) rfl 7 (by decide) hf_34 rfl rfl dX4_make_128 ?_
      refine lv_iload_n hx hb dX4_make_131 rfl (lv_at hl 1 rfl) ?_
      obtain ⟨b12, h⟩ := tf_gin h
      refine va_iald hx hb hK hI.1 12 0 (tf_xat_12 ad cI cZ _) rfl b12 dX4_make_132 ?_
      refine lv_ior hx hb dX4_make_133 ?_
      obtain ⟨b13, h⟩ := tf_gin h
      obtain ⟨s14, es14, h⟩ := tf_glet h
      refine tf_iast hx hb hK hI 12 0 (tf_xat_12 ad cI cZ _) (tf_xset_12 ad cI cZ _) rfl b13 es14 dX4_make_134 (fun H locs hI => ?_)
      refine lv_aload_n hx hb dX4_make_135 rfl (lv_at hl 0 rfl) ?_
      refine lv_dup hx hb dX4_make_136 rfl ?_
      refine tf_get (C := RX4) (T := TX4) (N := 10) hx hb hts hn_X4 hown hK hI 1 (tf_xat_1 ad cI cZ _) rfl 3 (by decide) hf_22 rfl rfl dX4_make_137 ?_
      refine lv_dup_x1 hx hb dX4_make_140 rfl rfl ?_
      refine lv_iconst (v := 1) hx hb dX4_make_141 (by decide +kernel) ?_
      refine lv_iadd hx hb dX4_make_142 ?_
      obtain ⟨s15, es15, h⟩ := tf_glet h
      refine tf_put (C := RX4) (T := TX4) (N := 10) (ty := .int) hx hb hts hn_X4 tyX4 tyX4_ok nmX4 hown hK hI 1 (tf_xat_1 ad cI cZ _) rfl 3 (by decide) hf_22 rfl rfl (by decide +kernel) rfl rfl (Nat.le_of_ble_eq_true rfl) (tf_xput_1_3 ad cI cZ _ _) es15 dX4_make_143 (fun H locs hI => ?_)
      exact tf_iret hx hb hr hI h dX4_make_146 hlocks
    replace h := tf_neg c11 h
    refine lv_iconst (v := 0) hx hb dX4_make_123 (by decide +kernel) ?_
    refine lv_goto (tgt := 133) hx hb dX4_make_124 (by decide) ?_
    refine lv_ior hx hb dX4_make_133 ?_
    obtain ⟨b16, h⟩ := tf_gin h
    obtain ⟨s17, es17, h⟩ := tf_glet h
    refine tf_iast hx hb hK hI 12 0 (tf_xat_12 ad cI cZ _) (tf_xset_12 ad cI cZ _) rfl b16 es17 dX4_make_134 (fun H locs hI => ?_)
    refine lv_aload_n hx hb dX4_make_135 rfl (lv_at hl 0 rfl) ?_
    refine lv_dup hx hb dX4_make_136 rfl ?_
    refine tf_get (C := RX4) (T := TX4) (N := 10) hx hb hts hn_X4 hown hK hI 1 (tf_xat_1 ad cI cZ _) rfl 3 (by decide) hf_22 rfl rfl dX4_make_137 ?_
    refine lv_dup_x1 hx hb dX4_make_140 rfl rfl ?_
    refine lv_iconst (v := 1) hx hb dX4_make_141 (by decide +kernel) ?_
    refine lv_iadd hx hb dX4_make_142 ?_
    obtain ⟨s18, es18, h⟩ := tf_glet h
    refine tf_put (C := RX4) (T := TX4) (N := 10) (ty := .int) hx hb hts hn_X4 tyX4 tyX4_ok nmX4 hown hK hI 1 (tf_xat_1 ad cI cZ _) rfl 3 (by decide) hf_22 rfl rfl (by decide +kernel) rfl rfl (Nat.le_of_ble_eq_true rfl) (tf_xput_1_3 ad cI cZ _ _) es18 dX4_make_143 (fun H locs hI => ?_)
    exact tf_iret hx hb hr hI h dX4_make_146 hlocks
  have j4 : ∀ n : Nat, ∀ (σ : tf_S) (y4 : Int32) (H : Heap) (locs : List Loc) (ls : Array Slot), fX4_make_4 x1 x2 x3 n σ y4 = some z → tf_I D (tf_wx ad cI cZ) s.heap σ H locs → lv_has ls 5 [(0, .ref (ad 1)), (1, .int x1), (2, .int x2), (3, .int x3), (4, .int y4)] → W p l e (headSpec wsX4_make ({ frames := 0, cells := 0, slots := 0, locals := 0 })).room s m ([.ref (ad 1), .int x1, .int x2, .int x3] : List Value).toArray below meth c H locs 0 0 (tf_Q below D (tf_wx ad cI cZ) z ([.ref (ad 1), .int x1, .int x2, .int x3] : List Value).toArray s) (F0 m 4 ls []) := by
    intro n
    induction n with
    | zero =>
      intro σ y4 H locs ls h
      rw [fX4_make_4] at h
      cases h
    | succ n ih =>
      intro σ y4 H locs ls h hI hl
      rw [fX4_make_4] at h
      refine lv_iload hx hb dX4_make_4 (lv_at hl 4 rfl) ?_
      refine lv_aload_n hx hb dX4_make_6 rfl (lv_at hl 0 rfl) ?_
      refine tf_get (C := RX4) (T := TX4) (N := 10) hx hb hts hn_X4 hown hK hI 1 (tf_xat_1 ad cI cZ _) rfl 3 (by decide) hf_22 rfl rfl dX4_make_7 ?_
      refine lv_icmp_ge (tgt := 55) hx hb dX4_make_10 (by decide) (fun c1 => ?_) (fun c1 => ?_)
      · replace h := tf_pos c1 h
        refine lv_aload_n hx hb dX4_make_55 rfl (lv_at hl 0 rfl) ?_
        refine tf_get (C := RX4) (T := TX4) (N := 10) hx hb hts hn_X4 hown hK hI 1 (tf_xat_1 ad cI cZ _) rfl 3 (by decide) hf_22 rfl rfl dX4_make_56 ?_
        refine lv_bipush (v := 80) hx hb dX4_make_59 (by decide +kernel) ?_
        refine lv_icmp_lt (tgt := 67) hx hb dX4_make_61 (by decide) (fun c2 => ?_) (fun c2 => ?_)
        · replace h := tf_pos c2 h
          refine lv_aload_n hx hb dX4_make_67 rfl (lv_at hl 0 rfl) ?_
          refine tf_get (C := RX4) (T := TX4) (N := 10) hx hb hts hn_X4 hown hK hI 1 (tf_xat_1 ad cI cZ _) rfl 4 (by decide) hf_25 rfl rfl dX4_make_68 ?_
          refine lv_aload_n hx hb dX4_make_71 rfl (lv_at hl 0 rfl) ?_
          refine tf_get (C := RX4) (T := TX4) (N := 10) hx hb hts hn_X4 hown hK hI 1 (tf_xat_1 ad cI cZ _) rfl 3 (by decide) hf_22 rfl rfl dX4_make_72 ?_
          refine lv_iload_n hx hb dX4_make_75 rfl (lv_at hl 1 rfl) ?_
          obtain ⟨b3, h⟩ := tf_gin h
          obtain ⟨s4, es4, h⟩ := tf_glet h
          refine tf_iast hx hb hK hI 9 0 (tf_xat_9 ad cI cZ _) (tf_xset_9 ad cI cZ _) rfl b3 es4 dX4_make_76 (fun H locs hI => ?_)
          refine lv_aload_n hx hb dX4_make_77 rfl (lv_at hl 0 rfl) ?_
          refine tf_get (C := RX4) (T := TX4) (N := 10) hx hb hts hn_X4 hown hK hI 1 (tf_xat_1 ad cI cZ _) rfl 5 (by decide) hf_28 rfl rfl dX4_make_78 ?_
          refine lv_aload_n hx hb dX4_make_81 rfl (lv_at hl 0 rfl) ?_
          refine tf_get (C := RX4) (T := TX4) (N := 10) hx hb hts hn_X4 hown hK hI 1 (tf_xat_1 ad cI cZ _) rfl 3 (by decide) hf_22 rfl rfl dX4_make_82 ?_
          refine lv_iload_n hx hb dX4_make_85 rfl (lv_at hl 2 rfl) ?_
          obtain ⟨b5, h⟩ := tf_gin h
          obtain ⟨s6, es6, h⟩ := tf_glet h
          refine tf_iast hx hb hK hI 10 0 (tf_xat_10 ad cI cZ _) (tf_xset_10 ad cI cZ _) rfl b5 es6 dX4_make_86 (fun H locs hI => ?_)
          refine lv_aload_n hx hb dX4_make_87 rfl (lv_at hl 0 rfl) ?_
          refine tf_get (C := RX4) (T := TX4) (N := 10) hx hb hts hn_X4 hown hK hI 1 (tf_xat_1 ad cI cZ _) rfl 6 (by decide) hf_31 rfl rfl dX4_make_88 ?_
          refine lv_aload_n hx hb dX4_make_91 rfl (lv_at hl 0 rfl) ?_
          refine tf_get (C := RX4) (T := TX4) (N := 10) hx hb hts hn_X4 hown hK hI 1 (tf_xat_1 ad cI cZ _) rfl 3 (by decide) hf_22 rfl rfl dX4_make_92 ?_
          refine lv_iload_n hx hb dX4_make_95 rfl (lv_at hl 3 rfl) ?_
          obtain ⟨b7, h⟩ := tf_gin h
          obtain ⟨s8, es8, h⟩ := tf_glet h
          refine tf_iast hx hb hK hI 11 0 (tf_xat_11 ad cI cZ _) (tf_xset_11 ad cI cZ _) rfl b7 es8 dX4_make_96 (fun H locs hI => ?_)
          refine lv_aload_n hx hb dX4_make_97 rfl (lv_at hl 0 rfl) ?_
          refine tf_get (C := RX4) (T := TX4) (N := 10) hx hb hts hn_X4 hown hK hI 1 (tf_xat_1 ad cI cZ _) rfl 7 (by decide) hf_34 rfl rfl dX4_make_98 ?_
          refine lv_aload_n hx hb dX4_make_101 rfl (lv_at hl 0 rfl) ?_
          refine tf_get (C := RX4) (T := TX4) (N := 10) hx hb hts hn_X4 hown hK hI 1 (tf_xat_1 ad cI cZ _) rfl 3 (by decide) hf_22 rfl rfl dX4_make_102 ?_
          refine lv_iload_n hx hb dX4_make_105 rfl (lv_at hl 2 rfl) ?_
          refine lv_if_ge (tgt := 113) hx hb dX4_make_106 (by decide) (fun c9 => ?_) (fun c9 => ?_)
          · replace h := tf_pos c9 h
            refine lv_aload_n hx hb dX4_make_113 rfl (lv_at hl 0 rfl) ?_
            refine tf_get (C := RX4) (T := TX4) (N := 10) hx hb hts hn_X4 hown hK hI 1 (tf_xat_1 ad cI cZ _) rfl 7 (by decide) hf_34 rfl rfl dX4_make_114 ?_
            refine lv_iload_n hx hb dX4_make_117 rfl (lv_at hl 2 rfl) ?_
            obtain ⟨b10, h⟩ := tf_gin h
            refine va_iald hx hb hK hI.1 12 0 (tf_xat_12 ad cI cZ _) rfl b10 dX4_make_118 ?_
            exact j119  _ _ _ _ _ _ h hI (lv_sub hl [0, 3] rfl)
          replace h := tf_neg c9 h
          refine lv_iconst (v := 0) hx hb dX4_make_109 (by decide +kernel) ?_
          refine lv_goto (tgt := 119) hx hb dX4_make_110 (by decide) ?_
          exact j119  _ _ _ _ _ _ h hI (lv_sub hl [0, 3] rfl)
        replace h := tf_neg c2 h
        refine lv_bipush (v := -3) hx hb dX4_make_64 (by decide +kernel) ?_
        exact tf_iret hx hb hr hI h dX4_make_66 hlocks
      replace h := tf_neg c1 h
      refine lv_aload_n hx hb dX4_make_13 rfl (lv_at hl 0 rfl) ?_
      refine tf_get (C := RX4) (T := TX4) (N := 10) hx hb hts hn_X4 hown hK hI 1 (tf_xat_1 ad cI cZ _) rfl 4 (by decide) hf_25 rfl rfl dX4_make_14 ?_
      refine lv_iload hx hb dX4_make_17 (lv_at hl 4 rfl) ?_
      obtain ⟨b19, h⟩ := tf_gin h
      refine va_iald hx hb hK hI.1 9 0 (tf_xat_9 ad cI cZ _) rfl b19 dX4_make_19 ?_
      refine lv_iload_n hx hb dX4_make_20 rfl (lv_at hl 1 rfl) ?_
      refine lv_icmp_ne (tgt := 49) hx hb dX4_make_21 (by decide) (fun c20 => ?_) (fun c20 => ?_)
      · replace h := tf_neg c20 h
        obtain ⟨v21, ev21, h⟩ := tf_glet h
        refine lv_iinc (v := v21) (lv' := [(4, .int v21), (0, .ref (ad 1)), (1, .int x1), (2, .int x2), (3, .int x3)]) hx hb dX4_make_49 hl (k := 4) rfl (by rw [ev21]; rfl) (by decide) rfl (fun ls hl => ?_)
        refine lv_goto (tgt := 4) hx hb dX4_make_52 (by decide) ?_
        exact ih _ _ _ _ _ h hI (lv_sub hl [1, 2, 3, 4, 0] rfl)
      replace h := tf_pos c20 h
      refine lv_aload_n hx hb dX4_make_24 rfl (lv_at hl 0 rfl) ?_
      refine tf_get (C := RX4) (T := TX4) (N := 10) hx hb hts hn_X4 hown hK hI 1 (tf_xat_1 ad cI cZ _) rfl 5 (by decide) hf_28 rfl rfl dX4_make_25 ?_
      refine lv_iload hx hb dX4_make_28 (lv_at hl 4 rfl) ?_
      obtain ⟨b22, h⟩ := tf_gin h
      refine va_iald hx hb hK hI.1 10 0 (tf_xat_10 ad cI cZ _) rfl b22 dX4_make_30 ?_
      refine lv_iload_n hx hb dX4_make_31 rfl (lv_at hl 2 rfl) ?_
      refine lv_icmp_ne (tgt := 49) hx hb dX4_make_32 (by decide) (fun c23 => ?_) (fun c23 => ?_)
      · replace h := tf_neg c23 h
        obtain ⟨v24, ev24, h⟩ := tf_glet h
        refine lv_iinc (v := v24) (lv' := [(4, .int v24), (0, .ref (ad 1)), (1, .int x1), (2, .int x2), (3, .int x3)]) hx hb dX4_make_49 hl (k := 4) rfl (by rw [ev24]; rfl) (by decide) rfl (fun ls hl => ?_)
        refine lv_goto (tgt := 4) hx hb dX4_make_52 (by decide) ?_
        exact ih _ _ _ _ _ h hI (lv_sub hl [1, 2, 3, 4, 0] rfl)
      replace h := tf_pos c23 h
      refine lv_aload_n hx hb dX4_make_35 rfl (lv_at hl 0 rfl) ?_
      refine tf_get (C := RX4) (T := TX4) (N := 10) hx hb hts hn_X4 hown hK hI 1 (tf_xat_1 ad cI cZ _) rfl 6 (by decide) hf_31 rfl rfl dX4_make_36 ?_
      refine lv_iload hx hb dX4_make_39 (lv_at hl 4 rfl) ?_
      obtain ⟨b25, h⟩ := tf_gin h
      refine va_iald hx hb hK hI.1 11 0 (tf_xat_11 ad cI cZ _) rfl b25 dX4_make_41 ?_
      refine lv_iload_n hx hb dX4_make_42 rfl (lv_at hl 3 rfl) ?_
      refine lv_icmp_ne (tgt := 49) hx hb dX4_make_43 (by decide) (fun c26 => ?_) (fun c26 => ?_)
      · replace h := tf_neg c26 h
        obtain ⟨v27, ev27, h⟩ := tf_glet h
        refine lv_iinc (v := v27) (lv' := [(4, .int v27), (0, .ref (ad 1)), (1, .int x1), (2, .int x2), (3, .int x3)]) hx hb dX4_make_49 hl (k := 4) rfl (by rw [ev27]; rfl) (by decide) rfl (fun ls hl => ?_)
        refine lv_goto (tgt := 4) hx hb dX4_make_52 (by decide) ?_
        exact ih _ _ _ _ _ h hI (lv_sub hl [1, 2, 3, 4, 0] rfl)
      replace h := tf_pos c26 h
      refine lv_iload hx hb dX4_make_46 (lv_at hl 4 rfl) ?_
      exact tf_iret hx hb hr hI h dX4_make_48 hlocks
  unfold fX4_make at h
  refine lv_bipush (v := 6) hx hb dX4_make_0 (by decide +kernel) ?_
  refine lv_istore (lv' := [(4, .int (6 : Int32)), (0, .ref (ad 1)), (1, .int x1), (2, .int x2), (3, .int x3)]) hx hb dX4_make_2 hl (by decide) rfl (fun ls hl => ?_)
  exact j4  _ _ _ _ _ _ h hI (lv_sub hl [1, 2, 3, 4, 0] rfl)

set_option maxHeartbeats 4000000 in
set_option maxRecDepth 100000 in
theorem kX_X4_putIn (l : Launch) (D : va_G) (ad : Nat → Nat) (cI cZ : ClassId) (σ : tf_S) (x1 x2 x3 : Int32) (z : Int32 × tf_S) (h : fX4_putIn σ x1 x2 x3 = some z) : tf_C l D (tf_wx ad cI cZ) [(cI, .int), (cZ, .boolean)] tf_nest yX4_putIn wsX4_putIn ({ frames := 1, cells := 0, slots := 0, locals := 24 }) [.ref (ad 1), .int x1, .int x2, .int x3] σ z := by
  intro sz
  refine Met.ofW (cc := cX4_putIn) (maxL := 9) (ret := (some .int)) (by decide) rfl ?_
  intro p e s m args below meth c s₁ B hml hv
  obtain ⟨rfl, hsz, hP, hK, hN, hD0⟩ := hv
  have hx := B.exec
  have hb := B.bytes
  have hr := B.returns
  have hts := atoms_spec (ws := wsX4_putIn) B.pre
  have hown : s.vm.findClass RX4 = some m.cls := findClass_of_methodNamed B.named
  have hlocks := B.notSynchronized
  subst hsz
  have hI := tf_start (D := D) (tf_x_ad ad cI cZ) hP hD0
  have hl := lv_entry ([.ref (ad 1), .int x1, .int x2, .int x3]) (n := 9) (Nat.le_of_ble_eq_true rfl)
  rw [lg_entry_eq]
  generalize (lg_sl ([.ref (ad 1), .int x1, .int x2, .int x3]) ++ List.replicate (9 - (lg_sl ([.ref (ad 1), .int x1, .int x2, .int x3])).length) Slot.unset).toArray = ls at hl ⊢
  have hl : lv_has ls 9 [(0, .ref (ad 1)), (1, .int x1), (2, .int x2), (3, .int x3)] := hl
  have hn_X4 : ∀ w ∈ u_ws RX4 TX4 10, w ∈ wsX4_putIn := by decide +kernel
  have hf_22 := hts (.fieldLink RX4 22 "TypeFlow$Types" "size" "I") (by decide +kernel)
  have hf_25 := hts (.fieldLink RX4 25 "TypeFlow$Types" "ofClass" "[I") (by decide +kernel)
  have hf_28 := hts (.fieldLink RX4 28 "TypeFlow$Types" "first" "[I") (by decide +kernel)
  have hf_31 := hts (.fieldLink RX4 31 "TypeFlow$Types" "second" "[I") (by decide +kernel)
  have hf_34 := hts (.fieldLink RX4 34 "TypeFlow$Types" "within" "[I") (by decide +kernel)
  have hf_37 := hts (.fieldLink RX4 37 "TypeFlow$Types" "image" "[I") (by decide +kernel)
  have hf_40 := hts (.fieldLink RX4 40 "TypeFlow$Types" "path" "[I") (by decide +kernel)
  have j142 : ∀ (k82 : tf_S → Int32 → Int32 → Option (Int32 × tf_S)), (∀ (σ : tf_S) (y4 y5 : Int32) (H : Heap) (locs : List Loc) (ls : Array Slot), k82 σ y4 y5 = some z → tf_I D (tf_wx ad cI cZ) s.heap σ H locs → lv_has ls 9 [(0, .ref (ad 1)), (1, .int x1), (4, .int y4), (5, .int y5)] → W p l e (headSpec wsX4_putIn ({ frames := 1, cells := 0, slots := 0, locals := 24 })).room s m ([.ref (ad 1), .int x1, .int x2, .int x3] : List Value).toArray below meth c H locs 0 0 (tf_Q below D (tf_wx ad cI cZ) z ([.ref (ad 1), .int x1, .int x2, .int x3] : List Value).toArray s) (F0 m 82 ls [])) → ∀ (σ : tf_S) (y4 y5 y6 : Int32) (H : Heap) (locs : List Loc) (ls : Array Slot), fX4_putIn_142 x1 x2 x3 k82 σ y4 y5 y6 = some z → tf_I D (tf_wx ad cI cZ) s.heap σ H locs → lv_has ls 9 [(0, .ref (ad 1)), (1, .int x1), (4, .int y4), (5, .int y5), (6, .int y6)] → W p l e (headSpec wsX4_putIn ({ frames := 1, cells := 0, slots := 0, locals := 24 })).room s m ([.ref (ad 1), .int x1, .int x2, .int x3] : List Value).toArray below meth c H locs 0 0 (tf_Q below D (tf_wx ad cI cZ) z ([.ref (ad 1), .int x1, .int x2, .int x3] : List Value).toArray s) (F0 m 142 ls []) := by
    intro k82 hk82 σ y4 y5 y6 H locs ls h hI hl
    unfold fX4_putIn_142 at h
    refine lv_aload_n hx hb dX4_putIn_142 rfl (lv_at hl 0 rfl) ?_
    refine lv_aload_n hx hb dX4_putIn_143 rfl (lv_at hl 0 rfl) ?_
    refine tf_get (C := RX4) (T := TX4) (N := 10) hx hb hts hn_X4 hown hK hI 1 (tf_xat_1 ad cI cZ _) rfl 4 (by decide) hf_25 rfl rfl dX4_putIn_144 ?_
    refine lv_iload hx hb dX4_putIn_147 (lv_at hl 4 rfl) ?_
    obtain ⟨b20, h⟩ := tf_gin h
    refine va_iald hx hb hK hI.1 9 0 (tf_xat_9 ad cI cZ _) rfl b20 dX4_putIn_149 ?_
    refine lv_aload_n hx hb dX4_putIn_150 rfl (lv_at hl 0 rfl) ?_
    refine lv_aload_n hx hb dX4_putIn_151 rfl (lv_at hl 0 rfl) ?_
    refine tf_get (C := RX4) (T := TX4) (N := 10) hx hb hts hn_X4 hown hK hI 1 (tf_xat_1 ad cI cZ _) rfl 5 (by decide) hf_28 rfl rfl dX4_putIn_152 ?_
    refine lv_iload hx hb dX4_putIn_155 (lv_at hl 4 rfl) ?_
    obtain ⟨b21, h⟩ := tf_gin h
    refine va_iald hx hb hK hI.1 10 0 (tf_xat_10 ad cI cZ _) rfl b21 dX4_putIn_157 ?_
    obtain ⟨u22, q23, h⟩ := tf_gbind h
    refine tf_callV (rest := [.int (σ 9 (y6).toNatClampNeg), .ref (ad 1)]) ⟨hx, hb, hml, hown, hts⟩ hK hN hI (kX_X4_imageOf l D ad cI cZ _ _ _ q23) (cwV 1 hts gX4_putIn_X4_imageOf rfl rfl rfl (by decide +kernel) ⟨Nat.le_of_ble_eq_true rfl, Nat.le_of_ble_eq_true rfl⟩) 1 4 (tf_xat_1 ad cI cZ _) rfl rfl hl.1 rfl (Nat.le_of_ble_eq_true rfl) dX4_putIn_158 (fun H locs hI => ?_)
    refine lv_aload_n hx hb dX4_putIn_161 rfl (lv_at hl 0 rfl) ?_
    refine lv_aload_n hx hb dX4_putIn_162 rfl (lv_at hl 0 rfl) ?_
    refine tf_get (C := RX4) (T := TX4) (N := 10) hx hb hts hn_X4 hown hK hI 1 (tf_xat_1 ad cI cZ _) rfl 6 (by decide) hf_31 rfl rfl dX4_putIn_163 ?_
    refine lv_iload hx hb dX4_putIn_166 (lv_at hl 4 rfl) ?_
    obtain ⟨b24, h⟩ := tf_gin h
    refine va_iald hx hb hK hI.1 11 0 (tf_xat_11 ad cI cZ _) rfl b24 dX4_putIn_168 ?_
    obtain ⟨u25, q26, h⟩ := tf_gbind h
    refine tf_callV (rest := [.int u22.1, .int (σ 9 (y6).toNatClampNeg), .ref (ad 1)]) ⟨hx, hb, hml, hown, hts⟩ hK hN hI (kX_X4_imageOf l D ad cI cZ _ _ _ q26) (cwV 1 hts gX4_putIn_X4_imageOf rfl rfl rfl (by decide +kernel) ⟨Nat.le_of_ble_eq_true rfl, Nat.le_of_ble_eq_true rfl⟩) 1 4 (tf_xat_1 ad cI cZ _) rfl rfl hl.1 rfl (Nat.le_of_ble_eq_true rfl) dX4_putIn_169 (fun H locs hI => ?_)
    obtain ⟨u27, q28, h⟩ := tf_gbind h
    refine tf_callV (rest := []) ⟨hx, hb, hml, hown, hts⟩ hK hN hI (kX_X4_make l D ad cI cZ _ _ _ _ _ q28) (cwV 3 hts gX4_putIn_X4_make rfl rfl rfl (by decide +kernel) ⟨Nat.le_of_ble_eq_true rfl, Nat.le_of_ble_eq_true rfl⟩) 1 4 (tf_xat_1 ad cI cZ _) rfl rfl hl.1 rfl (Nat.le_of_ble_eq_true rfl) dX4_putIn_172 (fun H locs hI => ?_)
    obtain ⟨v29, ev29, h⟩ := tf_glet h
    refine tf_top ev29 ?_
    refine lv_istore (lv' := [(8, .int v29), (0, .ref (ad 1)), (1, .int x1), (4, .int y4), (5, .int y5), (6, .int y6)]) hx hb dX4_putIn_175 hl (by decide) rfl (fun ls hl => ?_)
    refine lv_iload hx hb dX4_putIn_177 (lv_at hl 0 rfl) ?_
    refine lv_bipush (v := -3) hx hb dX4_putIn_179 (by decide +kernel) ?_
    refine lv_icmp_ne (tgt := 187) hx hb dX4_putIn_181 (by decide) (fun c30 => ?_) (fun c30 => ?_)
    · replace h := tf_neg c30 h
      refine lv_aload_n hx hb dX4_putIn_187 rfl (lv_at hl 1 rfl) ?_
      refine tf_get (C := RX4) (T := TX4) (N := 10) hx hb hts hn_X4 hown hK hI 1 (tf_xat_1 ad cI cZ _) rfl 8 (by decide) hf_37 rfl rfl dX4_putIn_188 ?_
      refine lv_iload hx hb dX4_putIn_191 (lv_at hl 5 rfl) ?_
      refine lv_iload hx hb dX4_putIn_193 (lv_at hl 0 rfl) ?_
      obtain ⟨b31, h⟩ := tf_gin h
      obtain ⟨s32, es32, h⟩ := tf_glet h
      refine tf_iast hx hb hK hI 13 0 (tf_xat_13 ad cI cZ _) (tf_xset_13 ad cI cZ _) rfl b31 es32 dX4_putIn_195 (fun H locs hI => ?_)
      obtain ⟨v33, ev33, h⟩ := tf_glet h
      refine lv_iinc (v := v33) (lv' := [(4, .int v33), (8, .int v29), (0, .ref (ad 1)), (1, .int x1), (5, .int y5), (6, .int y6)]) hx hb dX4_putIn_196 hl (k := 3) rfl (by rw [ev33]; rfl) (by decide) rfl (fun ls hl => ?_)
      obtain ⟨v34, ev34, h⟩ := tf_glet h
      refine lv_iinc (v := v34) (lv' := [(5, .int v34), (4, .int v33), (8, .int v29), (0, .ref (ad 1)), (1, .int x1), (6, .int y6)]) hx hb dX4_putIn_199 hl (k := 4) rfl (by rw [ev34]; rfl) (by decide) rfl (fun ls hl => ?_)
      refine lv_goto (tgt := 82) hx hb dX4_putIn_202 (by decide) ?_
      exact hk82 _ _ _ _ _ _ h hI (lv_sub hl [3, 4, 1, 0] rfl)
    replace h := tf_pos c30 h
    refine lv_bipush (v := -3) hx hb dX4_putIn_184 (by decide +kernel) ?_
    exact tf_iret hx hb hr hI h dX4_putIn_186 hlocks
  have j82 : ∀ n : Nat, ∀ (σ : tf_S) (y4 y5 : Int32) (H : Heap) (locs : List Loc) (ls : Array Slot), fX4_putIn_82 x1 x2 x3 n σ y4 y5 = some z → tf_I D (tf_wx ad cI cZ) s.heap σ H locs → lv_has ls 9 [(0, .ref (ad 1)), (1, .int x1), (4, .int y4), (5, .int y5)] → W p l e (headSpec wsX4_putIn ({ frames := 1, cells := 0, slots := 0, locals := 24 })).room s m ([.ref (ad 1), .int x1, .int x2, .int x3] : List Value).toArray below meth c H locs 0 0 (tf_Q below D (tf_wx ad cI cZ) z ([.ref (ad 1), .int x1, .int x2, .int x3] : List Value).toArray s) (F0 m 82 ls []) := by
    intro n
    induction n with
    | zero =>
      intro σ y4 y5 H locs ls h
      rw [fX4_putIn_82] at h
      cases h
    | succ n ih =>
      intro σ y4 y5 H locs ls h hI hl
      rw [fX4_putIn_82] at h
      refine lv_iload hx hb dX4_putIn_82 (lv_at hl 2 rfl) ?_
      refine lv_if_le (tgt := 205) hx hb dX4_putIn_84 (by decide) (fun c10 => ?_) (fun c10 => ?_)
      · replace h := tf_pos c10 h
        refine lv_aload_n hx hb dX4_putIn_205 rfl (lv_at hl 0 rfl) ?_
        refine tf_get (C := RX4) (T := TX4) (N := 10) hx hb hts hn_X4 hown hK hI 1 (tf_xat_1 ad cI cZ _) rfl 8 (by decide) hf_37 rfl rfl dX4_putIn_206 ?_
        refine lv_iload_n hx hb dX4_putIn_209 rfl (lv_at hl 1 rfl) ?_
        obtain ⟨b11, h⟩ := tf_gin h
        refine va_iald hx hb hK hI.1 13 0 (tf_xat_13 ad cI cZ _) rfl b11 dX4_putIn_210 ?_
        exact tf_iret hx hb hr hI h dX4_putIn_211 hlocks
      replace h := tf_neg c10 h
      refine lv_iload hx hb dX4_putIn_87 (lv_at hl 3 rfl) ?_
      refine lv_sipush (v := 160) hx hb dX4_putIn_89 (by decide +kernel) ?_
      refine lv_icmp_ge (tgt := 205) hx hb dX4_putIn_92 (by decide) (fun c12 => ?_) (fun c12 => ?_)
      · replace h := tf_pos c12 h
        refine lv_aload_n hx hb dX4_putIn_205 rfl (lv_at hl 0 rfl) ?_
        refine tf_get (C := RX4) (T := TX4) (N := 10) hx hb hts hn_X4 hown hK hI 1 (tf_xat_1 ad cI cZ _) rfl 8 (by decide) hf_37 rfl rfl dX4_putIn_206 ?_
        refine lv_iload_n hx hb dX4_putIn_209 rfl (lv_at hl 1 rfl) ?_
        obtain ⟨b13, h⟩ := tf_gin h
        refine va_iald hx hb hK hI.1 13 0 (tf_xat_13 ad cI cZ _) rfl b13 dX4_putIn_210 ?_
        exact tf_iret hx hb hr hI h dX4_putIn_211 hlocks
      replace h := tf_neg c12 h
      refine lv_aload_n hx hb dX4_putIn_95 rfl (lv_at hl 0 rfl) ?_
      refine tf_get (C := RX4) (T := TX4) (N := 10) hx hb hts hn_X4 hown hK hI 1 (tf_xat_1 ad cI cZ _) rfl 9 (by decide) hf_40 rfl rfl dX4_putIn_96 ?_
      refine lv_iload hx hb dX4_putIn_99 (lv_at hl 2 rfl) ?_
      refine lv_iconst (v := 1) hx hb dX4_putIn_101 (by decide +kernel) ?_
      refine lv_isub hx hb dX4_putIn_102 ?_
      obtain ⟨b14, h⟩ := tf_gin h
      refine va_iald hx hb hK hI.1 14 0 (tf_xat_14 ad cI cZ _) rfl b14 dX4_putIn_103 ?_
      obtain ⟨v15, ev15, h⟩ := tf_glet h
      refine tf_top ev15 ?_
      refine lv_istore (lv' := [(6, .int v15), (0, .ref (ad 1)), (1, .int x1), (4, .int y4), (5, .int y5)]) hx hb dX4_putIn_104 hl (by decide) rfl (fun ls hl => ?_)
      refine lv_aload_n hx hb dX4_putIn_106 rfl (lv_at hl 1 rfl) ?_
      refine lv_iload hx hb dX4_putIn_107 (lv_at hl 0 rfl) ?_
      obtain ⟨u16, q17, h⟩ := tf_gbind h
      refine tf_callV (rest := []) ⟨hx, hb, hml, hown, hts⟩ hK hN hI (kX_X4_argumentWithoutImage l D ad cI cZ _ _ _ q17) (cwV 1 hts gX4_putIn_X4_argumentWithoutImage rfl rfl rfl (by decide +kernel) ⟨Nat.le_of_ble_eq_true rfl, Nat.le_of_ble_eq_true rfl⟩) 1 4 (tf_xat_1 ad cI cZ _) rfl rfl hl.1 rfl (Nat.le_of_ble_eq_true rfl) dX4_putIn_109 (fun H locs hI => ?_)
      obtain ⟨v18, ev18, h⟩ := tf_glet h
      refine tf_top ev18 ?_
      refine lv_istore (lv' := [(7, .int v18), (6, .int v15), (0, .ref (ad 1)), (1, .int x1), (4, .int y4), (5, .int y5)]) hx hb dX4_putIn_112 hl (by decide) rfl (fun ls hl => ?_)
      refine lv_iload hx hb dX4_putIn_114 (lv_at hl 0 rfl) ?_
      refine lv_iconst (v := -1) hx hb dX4_putIn_116 (by decide +kernel) ?_
      refine lv_icmp_eq (tgt := 142) hx hb dX4_putIn_117 (by decide) (fun c19 => ?_) (fun c19 => ?_)
      · replace h := tf_pos c19 h
        exact j142 _ ih _ _ _ _ _ _ _ h hI (lv_sub hl [2, 3, 4, 5, 1] rfl)
      replace h := tf_neg c19 h
      refine lv_iload hx hb dX4_putIn_120 (lv_at hl 4 rfl) ?_
      refine lv_bipush (v := 80) hx hb dX4_putIn_122 (by decide +kernel) ?_
      refine lv_icmp_ge (tgt := 142) hx hb dX4_putIn_124 (by decide) (fun c35 => ?_) (fun c35 => ?_)
      · replace h := tf_pos c35 h
        exact j142 _ ih _ _ _ _ _ _ _ h hI (lv_sub hl [2, 3, 4, 5, 1] rfl)
      replace h := tf_neg c35 h
      refine lv_aload_n hx hb dX4_putIn_127 rfl (lv_at hl 2 rfl) ?_
      refine tf_get (C := RX4) (T := TX4) (N := 10) hx hb hts hn_X4 hown hK hI 1 (tf_xat_1 ad cI cZ _) rfl 9 (by decide) hf_40 rfl rfl dX4_putIn_128 ?_
      refine lv_iload hx hb dX4_putIn_131 (lv_at hl 4 rfl) ?_
      obtain ⟨v36, ev36, h⟩ := tf_glet h
      refine lv_iinc (v := v36) (lv' := [(4, .int v36), (7, .int v18), (6, .int v15), (0, .ref (ad 1)), (1, .int x1), (5, .int y5)]) hx hb dX4_putIn_133 hl (k := 4) rfl (by rw [ev36]; rfl) (by decide) rfl (fun ls hl => ?_)
      refine lv_iload hx hb dX4_putIn_136 (lv_at hl 1 rfl) ?_
      obtain ⟨b37, h⟩ := tf_gin h
      obtain ⟨s38, es38, h⟩ := tf_glet h
      refine tf_iast hx hb hK hI 14 0 (tf_xat_14 ad cI cZ _) (tf_xset_14 ad cI cZ _) rfl b37 es38 dX4_putIn_138 (fun H locs hI => ?_)
      refine lv_goto (tgt := 199) hx hb dX4_putIn_139 (by decide) ?_
      obtain ⟨v39, ev39, h⟩ := tf_glet h
      refine lv_iinc (v := v39) (lv' := [(5, .int v39), (4, .int v36), (7, .int v18), (6, .int v15), (0, .ref (ad 1)), (1, .int x1)]) hx hb dX4_putIn_199 hl (k := 5) rfl (by rw [ev39]; rfl) (by decide) rfl (fun ls hl => ?_)
      refine lv_goto (tgt := 82) hx hb dX4_putIn_202 (by decide) ?_
      exact ih _ _ _ _ _ _ h hI (lv_sub hl [4, 5, 1, 0] rfl)
  have j3 : ∀ n : Nat, ∀ (σ : tf_S) (y4 : Int32) (H : Heap) (locs : List Loc) (ls : Array Slot), fX4_putIn_3 x1 x2 x3 n σ y4 = some z → tf_I D (tf_wx ad cI cZ) s.heap σ H locs → lv_has ls 9 [(0, .ref (ad 1)), (1, .int x1), (2, .int x2), (3, .int x3), (4, .int y4)] → W p l e (headSpec wsX4_putIn ({ frames := 1, cells := 0, slots := 0, locals := 24 })).room s m ([.ref (ad 1), .int x1, .int x2, .int x3] : List Value).toArray below meth c H locs 0 0 (tf_Q below D (tf_wx ad cI cZ) z ([.ref (ad 1), .int x1, .int x2, .int x3] : List Value).toArray s) (F0 m 3 ls []) := by
    intro n
    induction n with
    | zero =>
      intro σ y4 H locs ls h
      rw [fX4_putIn_3] at h
      cases h
    | succ n ih =>
      intro σ y4 H locs ls h hI hl
      rw [fX4_putIn_3] at h
      refine lv_iload hx hb dX4_putIn_3 (lv_at hl 4 rfl) ?_
      refine lv_aload_n hx hb dX4_putIn_5 rfl (lv_at hl 0 rfl) ?_
      refine tf_get (C := RX4) (T := TX4) (N := 10) hx hb hts hn_X4 hown hK hI 1 (tf_xat_1 ad cI cZ _) rfl 3 (by decide) hf_22 rfl rfl dX4_putIn_6 ?_
      refine lv_icmp_ge (tgt := 41) hx hb dX4_putIn_9 (by decide) (fun c1 => ?_) (fun c1 => ?_)
      · replace h := tf_pos c1 h
        refine lv_aload_n hx hb dX4_putIn_41 rfl (lv_at hl 0 rfl) ?_
        refine tf_get (C := RX4) (T := TX4) (N := 10) hx hb hts hn_X4 hown hK hI 1 (tf_xat_1 ad cI cZ _) rfl 8 (by decide) hf_37 rfl rfl dX4_putIn_42 ?_
        refine lv_iconst (v := 4) hx hb dX4_putIn_45 (by decide +kernel) ?_
        refine lv_iload_n hx hb dX4_putIn_46 rfl (lv_at hl 2 rfl) ?_
        obtain ⟨b2, h⟩ := tf_gin h
        obtain ⟨s3, es3, h⟩ := tf_glet h
        refine tf_iast hx hb hK hI 13 0 (tf_xat_13 ad cI cZ _) (tf_xset_13 ad cI cZ _) rfl b2 es3 dX4_putIn_47 (fun H locs hI => ?_)
        refine lv_aload_n hx hb dX4_putIn_48 rfl (lv_at hl 0 rfl) ?_
        refine tf_get (C := RX4) (T := TX4) (N := 10) hx hb hts hn_X4 hown hK hI 1 (tf_xat_1 ad cI cZ _) rfl 8 (by decide) hf_37 rfl rfl dX4_putIn_49 ?_
        refine lv_iconst (v := 5) hx hb dX4_putIn_52 (by decide +kernel) ?_
        refine lv_iload_n hx hb dX4_putIn_53 rfl (lv_at hl 3 rfl) ?_
        obtain ⟨b4, h⟩ := tf_gin h
        obtain ⟨s5, es5, h⟩ := tf_glet h
        refine tf_iast hx hb hK hI 13 0 (tf_xat_13 ad cI cZ _) (tf_xset_13 ad cI cZ _) rfl b4 es5 dX4_putIn_54 (fun H locs hI => ?_)
        refine lv_aload_n hx hb dX4_putIn_55 rfl (lv_at hl 0 rfl) ?_
        refine tf_get (C := RX4) (T := TX4) (N := 10) hx hb hts hn_X4 hown hK hI 1 (tf_xat_1 ad cI cZ _) rfl 9 (by decide) hf_40 rfl rfl dX4_putIn_56 ?_
        refine lv_iconst (v := 0) hx hb dX4_putIn_59 (by decide +kernel) ?_
        refine lv_iload_n hx hb dX4_putIn_60 rfl (lv_at hl 1 rfl) ?_
        obtain ⟨b6, h⟩ := tf_gin h
        obtain ⟨s7, es7, h⟩ := tf_glet h
        refine tf_iast hx hb hK hI 14 0 (tf_xat_14 ad cI cZ _) (tf_xset_14 ad cI cZ _) rfl b6 es7 dX4_putIn_61 (fun H locs hI => ?_)
        refine lv_aload_n hx hb dX4_putIn_62 rfl (lv_at hl 0 rfl) ?_
        refine tf_get (C := RX4) (T := TX4) (N := 10) hx hb hts hn_X4 hown hK hI 1 (tf_xat_1 ad cI cZ _) rfl 8 (by decide) hf_37 rfl rfl dX4_putIn_63 ?_
        refine lv_iload_n hx hb dX4_putIn_66 rfl (lv_at hl 1 rfl) ?_
        obtain ⟨b8, h⟩ := tf_gin h
        refine va_iald hx hb hK hI.1 13 0 (tf_xat_13 ad cI cZ _) rfl b8 dX4_putIn_67 ?_
        refine lv_iconst (v := -1) hx hb dX4_putIn_68 (by decide +kernel) ?_
        refine lv_icmp_ne (tgt := 76) hx hb dX4_putIn_69 (by decide) (fun c9 => ?_) (fun c9 => ?_)
        · replace h := tf_neg c9 h
          refine lv_iconst (v := 0) hx hb dX4_putIn_76 (by decide +kernel) ?_
          refine lv_istore (lv' := [(4, .int (0 : Int32)), (0, .ref (ad 1)), (1, .int x1), (2, .int x2), (3, .int x3)]) hx hb dX4_putIn_77 hl (by decide) rfl (fun ls hl => ?_)
          refine lv_iconst (v := 0) hx hb dX4_putIn_79 (by decide +kernel) ?_
          refine lv_istore (lv' := [(5, .int (0 : Int32)), (4, .int (0 : Int32)), (0, .ref (ad 1)), (1, .int x1), (2, .int x2), (3, .int x3)]) hx hb dX4_putIn_80 hl (by decide) rfl (fun ls hl => ?_)
          exact j82  _ _ _ _ _ _ _ h hI (lv_sub hl [2, 3, 1, 0] rfl)
        replace h := tf_pos c9 h
        refine lv_iconst (v := 1) hx hb dX4_putIn_72 (by decide +kernel) ?_
        refine lv_goto (tgt := 77) hx hb dX4_putIn_73 (by decide) ?_
        refine lv_istore (lv' := [(4, .int (1 : Int32)), (0, .ref (ad 1)), (1, .int x1), (2, .int x2), (3, .int x3)]) hx hb dX4_putIn_77 hl (by decide) rfl (fun ls hl => ?_)
        refine lv_iconst (v := 0) hx hb dX4_putIn_79 (by decide +kernel) ?_
        refine lv_istore (lv' := [(5, .int (0 : Int32)), (4, .int (1 : Int32)), (0, .ref (ad 1)), (1, .int x1), (2, .int x2), (3, .int x3)]) hx hb dX4_putIn_80 hl (by decide) rfl (fun ls hl => ?_)
        exact j82  _ _ _ _ _ _ _ h hI (lv_sub hl [2, 3, 1, 0] rfl)
      replace h := tf_neg c1 h
      refine lv_aload_n hx hb dX4_putIn_12 rfl (lv_at hl 0 rfl) ?_
      refine tf_get (C := RX4) (T := TX4) (N := 10) hx hb hts hn_X4 hown hK hI 1 (tf_xat_1 ad cI cZ _) rfl 8 (by decide) hf_37 rfl rfl dX4_putIn_13 ?_
      refine lv_iload hx hb dX4_putIn_16 (lv_at hl 4 rfl) ?_
      refine lv_aload_n hx hb dX4_putIn_18 rfl (lv_at hl 0 rfl) ?_
      refine tf_get (C := RX4) (T := TX4) (N := 10) hx hb hts hn_X4 hown hK hI 1 (tf_xat_1 ad cI cZ _) rfl 7 (by decide) hf_34 rfl rfl dX4_putIn_19 ?_
      refine lv_iload hx hb dX4_putIn_22 (lv_at hl 4 rfl) ?_
      obtain ⟨b40, h⟩ := tf_gin h
      refine va_iald hx hb hK hI.1 12 0 (tf_xat_12 ad cI cZ _) rfl b40 dX4_putIn_24 ?_
      refine lv_if_ne (tgt := 33) hx hb dX4_putIn_25 (by decide) (fun c41 => ?_) (fun c41 => ?_)
      · replace h := tf_neg c41 h
        refine lv_iconst (v := -1) hx hb dX4_putIn_33 (by decide +kernel) ?_
        obtain ⟨b42, h⟩ := tf_gin h
        obtain ⟨s43, es43, h⟩ := tf_glet h
        refine tf_iast hx hb hK hI 13 0 (tf_xat_13 ad cI cZ _) (tf_xset_13 ad cI cZ _) rfl b42 es43 dX4_putIn_34 (fun H locs hI => ?_)
        obtain ⟨v44, ev44, h⟩ := tf_glet h
        refine lv_iinc (v := v44) (lv' := [(4, .int v44), (0, .ref (ad 1)), (1, .int x1), (2, .int x2), (3, .int x3)]) hx hb dX4_putIn_35 hl (k := 4) rfl (by rw [ev44]; rfl) (by decide) rfl (fun ls hl => ?_)
        refine lv_goto (tgt := 3) hx hb dX4_putIn_38 (by decide) ?_
        exact ih _ _ _ _ _ h hI (lv_sub hl [1, 2, 3, 4, 0] rfl)
      replace h := tf_pos c41 h
      refine lv_iload hx hb dX4_putIn_28 (lv_at hl 4 rfl) ?_
      refine lv_goto (tgt := 34) hx hb dX4_putIn_30 (by decide) ?_
      obtain ⟨b45, h⟩ := tf_gin h
      obtain ⟨s46, es46, h⟩ := tf_glet h
      refine tf_iast hx hb hK hI 13 0 (tf_xat_13 ad cI cZ _) (tf_xset_13 ad cI cZ _) rfl b45 es46 dX4_putIn_34 (fun H locs hI => ?_)
      obtain ⟨v47, ev47, h⟩ := tf_glet h
      refine lv_iinc (v := v47) (lv' := [(4, .int v47), (0, .ref (ad 1)), (1, .int x1), (2, .int x2), (3, .int x3)]) hx hb dX4_putIn_35 hl (k := 4) rfl (by rw [ev47]; rfl) (by decide) rfl (fun ls hl => ?_)
      refine lv_goto (tgt := 3) hx hb dX4_putIn_38 (by decide) ?_
      exact ih _ _ _ _ _ h hI (lv_sub hl [1, 2, 3, 4, 0] rfl)
  unfold fX4_putIn at h
  refine lv_iconst (v := 0) hx hb dX4_putIn_0 (by decide +kernel) ?_
  refine lv_istore (lv' := [(4, .int (0 : Int32)), (0, .ref (ad 1)), (1, .int x1), (2, .int x2), (3, .int x3)]) hx hb dX4_putIn_1 hl (by decide) rfl (fun ls hl => ?_)
  exact j3  _ _ _ _ _ _ h hI (lv_sub hl [1, 2, 3, 4, 0] rfl)

set_option maxHeartbeats 4000000 in
set_option maxRecDepth 100000 in
theorem kX_X4_seenAs (l : Launch) (D : va_G) (ad : Nat → Nat) (cI cZ : ClassId) (σ : tf_S) (x1 x2 : Int32) (z : Int32 × tf_S) (h : fX4_seenAs σ x1 x2 = some z) : tf_C l D (tf_wx ad cI cZ) [(cI, .int), (cZ, .boolean)] tf_nest yX4_seenAs wsX4_seenAs ({ frames := 2, cells := 0, slots := 0, locals := 52 }) [.ref (ad 1), .int x1, .int x2] σ z := by
  intro sz
  refine Met.ofW (cc := cX4_seenAs) (maxL := 5) (ret := (some .int)) (by decide) rfl ?_
  intro p e s m args below meth c s₁ B hml hv
  obtain ⟨rfl, hsz, hP, hK, hN, hD0⟩ := hv
  have hx := B.exec
  have hb := B.bytes
  have hr := B.returns
  have hts := atoms_spec (ws := wsX4_seenAs) B.pre
  have hown : s.vm.findClass RX4 = some m.cls := findClass_of_methodNamed B.named
  have hlocks := B.notSynchronized
  subst hsz
  have hI := tf_start (D := D) (tf_x_ad ad cI cZ) hP hD0
  have hl := lv_entry ([.ref (ad 1), .int x1, .int x2]) (n := 5) (Nat.le_of_ble_eq_true rfl)
  rw [lg_entry_eq]
  generalize (lg_sl ([.ref (ad 1), .int x1, .int x2]) ++ List.replicate (5 - (lg_sl ([.ref (ad 1), .int x1, .int x2])).length) Slot.unset).toArray = ls at hl ⊢
  have hl : lv_has ls 5 [(0, .ref (ad 1)), (1, .int x1), (2, .int x2)] := hl
  have hn_X4 : ∀ w ∈ u_ws RX4 TX4 10, w ∈ wsX4_seenAs := by decide +kernel
  have hf_19 := hts (.fieldLink RX4 19 "TypeFlow$Types" "parent" "[I") (by decide +kernel)
  have hf_25 := hts (.fieldLink RX4 25 "TypeFlow$Types" "ofClass" "[I") (by decide +kernel)
  have hf_28 := hts (.fieldLink RX4 28 "TypeFlow$Types" "first" "[I") (by decide +kernel)
  have hf_31 := hts (.fieldLink RX4 31 "TypeFlow$Types" "second" "[I") (by decide +kernel)
  have j21 : ∀ n : Nat, ∀ (σ : tf_S) (y3 y4 : Int32) (H : Heap) (locs : List Loc) (ls : Array Slot), fX4_seenAs_21 x1 x2 n σ y3 y4 = some z → tf_I D (tf_wx ad cI cZ) s.heap σ H locs → lv_has ls 5 [(0, .ref (ad 1)), (2, .int x2), (3, .int y3), (4, .int y4)] → W p l e (headSpec wsX4_seenAs ({ frames := 2, cells := 0, slots := 0, locals := 52 })).room s m ([.ref (ad 1), .int x1, .int x2] : List Value).toArray below meth c H locs 0 0 (tf_Q below D (tf_wx ad cI cZ) z ([.ref (ad 1), .int x1, .int x2] : List Value).toArray s) (F0 m 21 ls []) := by
    intro n
    induction n with
    | zero =>
      intro σ y3 y4 H locs ls h
      rw [fX4_seenAs_21] at h
      cases h
    | succ n ih =>
      intro σ y3 y4 H locs ls h hI hl
      rw [fX4_seenAs_21] at h
      refine lv_aload_n hx hb dX4_seenAs_21 rfl (lv_at hl 0 rfl) ?_
      refine tf_get (C := RX4) (T := TX4) (N := 10) hx hb hts hn_X4 hown hK hI 1 (tf_xat_1 ad cI cZ _) rfl 4 (by decide) hf_25 rfl rfl dX4_seenAs_22 ?_
      refine lv_iload_n hx hb dX4_seenAs_25 rfl (lv_at hl 2 rfl) ?_
      obtain ⟨b5, h⟩ := tf_gin h
      refine va_iald hx hb hK hI.1 9 0 (tf_xat_9 ad cI cZ _) rfl b5 dX4_seenAs_26 ?_
      refine lv_iload_n hx hb dX4_seenAs_27 rfl (lv_at hl 1 rfl) ?_
      refine lv_icmp_eq (tgt := 81) hx hb dX4_seenAs_28 (by decide) (fun c6 => ?_) (fun c6 => ?_)
      · replace h := tf_pos c6 h
        refine lv_iload_n hx hb dX4_seenAs_81 rfl (lv_at hl 2 rfl) ?_
        exact tf_iret hx hb hr hI h dX4_seenAs_82 hlocks
      replace h := tf_neg c6 h
      refine lv_iload hx hb dX4_seenAs_31 (lv_at hl 3 rfl) ?_
      refine lv_bipush (v := 12) hx hb dX4_seenAs_33 (by decide +kernel) ?_
      refine lv_icmp_ge (tgt := 81) hx hb dX4_seenAs_35 (by decide) (fun c7 => ?_) (fun c7 => ?_)
      · replace h := tf_pos c7 h
        refine lv_iload_n hx hb dX4_seenAs_81 rfl (lv_at hl 2 rfl) ?_
        exact tf_iret hx hb hr hI h dX4_seenAs_82 hlocks
      replace h := tf_neg c7 h
      refine lv_aload_n hx hb dX4_seenAs_38 rfl (lv_at hl 0 rfl) ?_
      refine lv_aload_n hx hb dX4_seenAs_39 rfl (lv_at hl 0 rfl) ?_
      refine tf_get (C := RX4) (T := TX4) (N := 10) hx hb hts hn_X4 hown hK hI 1 (tf_xat_1 ad cI cZ _) rfl 2 (by decide) hf_19 rfl rfl dX4_seenAs_40 ?_
      refine lv_aload_n hx hb dX4_seenAs_43 rfl (lv_at hl 0 rfl) ?_
      refine tf_get (C := RX4) (T := TX4) (N := 10) hx hb hts hn_X4 hown hK hI 1 (tf_xat_1 ad cI cZ _) rfl 4 (by decide) hf_25 rfl rfl dX4_seenAs_44 ?_
      refine lv_iload_n hx hb dX4_seenAs_47 rfl (lv_at hl 2 rfl) ?_
      obtain ⟨b8, h⟩ := tf_gin h
      refine va_iald hx hb hK hI.1 9 0 (tf_xat_9 ad cI cZ _) rfl b8 dX4_seenAs_48 ?_
      obtain ⟨b9, h⟩ := tf_gin h
      refine va_iald hx hb hK hI.1 8 0 (tf_xat_8 ad cI cZ _) rfl b9 dX4_seenAs_49 ?_
      refine lv_aload_n hx hb dX4_seenAs_50 rfl (lv_at hl 0 rfl) ?_
      refine tf_get (C := RX4) (T := TX4) (N := 10) hx hb hts hn_X4 hown hK hI 1 (tf_xat_1 ad cI cZ _) rfl 5 (by decide) hf_28 rfl rfl dX4_seenAs_51 ?_
      refine lv_iload_n hx hb dX4_seenAs_54 rfl (lv_at hl 2 rfl) ?_
      obtain ⟨b10, h⟩ := tf_gin h
      refine va_iald hx hb hK hI.1 10 0 (tf_xat_10 ad cI cZ _) rfl b10 dX4_seenAs_55 ?_
      refine lv_aload_n hx hb dX4_seenAs_56 rfl (lv_at hl 0 rfl) ?_
      refine tf_get (C := RX4) (T := TX4) (N := 10) hx hb hts hn_X4 hown hK hI 1 (tf_xat_1 ad cI cZ _) rfl 6 (by decide) hf_31 rfl rfl dX4_seenAs_57 ?_
      refine lv_iload_n hx hb dX4_seenAs_60 rfl (lv_at hl 2 rfl) ?_
      obtain ⟨b11, h⟩ := tf_gin h
      refine va_iald hx hb hK hI.1 11 0 (tf_xat_11 ad cI cZ _) rfl b11 dX4_seenAs_61 ?_
      obtain ⟨u12, q13, h⟩ := tf_gbind h
      refine tf_callV (rest := []) ⟨hx, hb, hml, hown, hts⟩ hK hN hI (kX_X4_putIn l D ad cI cZ _ _ _ _ _ q13) (cwV 3 hts gX4_seenAs_X4_putIn rfl rfl rfl (by decide +kernel) ⟨Nat.le_of_ble_eq_true rfl, Nat.le_of_ble_eq_true rfl⟩) 1 4 (tf_xat_1 ad cI cZ _) rfl rfl hl.1 rfl (Nat.le_of_ble_eq_true rfl) dX4_seenAs_62 (fun H locs hI => ?_)
      obtain ⟨v14, ev14, h⟩ := tf_glet h
      refine tf_top ev14 ?_
      refine lv_istore_n (lv' := [(3, .int v14), (0, .ref (ad 1)), (2, .int x2), (4, .int y4)]) hx hb dX4_seenAs_65 rfl hl (by decide) rfl (fun ls hl => ?_)
      refine lv_iload_n hx hb dX4_seenAs_66 rfl (lv_at hl 0 rfl) ?_
      refine lv_bipush (v := -3) hx hb dX4_seenAs_67 (by decide +kernel) ?_
      refine lv_icmp_ne (tgt := 75) hx hb dX4_seenAs_69 (by decide) (fun c15 => ?_) (fun c15 => ?_)
      · replace h := tf_neg c15 h
        obtain ⟨v16, ev16, h⟩ := tf_glet h
        refine lv_iinc (v := v16) (lv' := [(4, .int v16), (3, .int v14), (0, .ref (ad 1)), (2, .int x2)]) hx hb dX4_seenAs_75 hl (k := 3) rfl (by rw [ev16]; rfl) (by decide) rfl (fun ls hl => ?_)
        refine lv_goto (tgt := 21) hx hb dX4_seenAs_78 (by decide) ?_
        exact ih _ _ _ _ _ _ h hI (lv_sub hl [2, 3, 1, 0] rfl)
      replace h := tf_pos c15 h
      refine lv_bipush (v := -3) hx hb dX4_seenAs_72 (by decide +kernel) ?_
      exact tf_iret hx hb hr hI h dX4_seenAs_74 hlocks
  unfold fX4_seenAs at h
  refine lv_aload_n hx hb dX4_seenAs_0 rfl (lv_at hl 0 rfl) ?_
  refine lv_aload_n hx hb dX4_seenAs_1 rfl (lv_at hl 0 rfl) ?_
  refine tf_get (C := RX4) (T := TX4) (N := 10) hx hb hts hn_X4 hown hK hI 1 (tf_xat_1 ad cI cZ _) rfl 4 (by decide) hf_25 rfl rfl dX4_seenAs_2 ?_
  refine lv_iload_n hx hb dX4_seenAs_5 rfl (lv_at hl 1 rfl) ?_
  obtain ⟨b1, h⟩ := tf_gin h
  refine va_iald hx hb hK hI.1 9 0 (tf_xat_9 ad cI cZ _) rfl b1 dX4_seenAs_6 ?_
  refine lv_iload_n hx hb dX4_seenAs_7 rfl (lv_at hl 2 rfl) ?_
  obtain ⟨u2, q3, h⟩ := tf_gbind h
  refine tf_callV (rest := []) ⟨hx, hb, hml, hown, hts⟩ hK hN hI (kX_X4_isFrom l D ad cI cZ _ _ _ _ q3) (cwV 2 hts gX4_seenAs_X4_isFrom rfl rfl rfl (by decide +kernel) ⟨Nat.le_of_ble_eq_true rfl, Nat.le_of_ble_eq_true rfl⟩) 1 4 (tf_xat_1 ad cI cZ _) rfl rfl hl.1 rfl (Nat.le_of_ble_eq_true rfl) dX4_seenAs_8 (fun H locs hI => ?_)
  refine lv_if_ne (tgt := 16) hx hb dX4_seenAs_11 (by decide) (fun c4 => ?_) (fun c4 => ?_)
  · replace h := tf_neg c4 h
    refine lv_iload_n hx hb dX4_seenAs_16 rfl (lv_at hl 1 rfl) ?_
    refine lv_istore_n (lv' := [(3, .int x1), (0, .ref (ad 1)), (1, .int x1), (2, .int x2)]) hx hb dX4_seenAs_17 rfl hl (by decide) rfl (fun ls hl => ?_)
    refine lv_iconst (v := 0) hx hb dX4_seenAs_18 (by decide +kernel) ?_
    refine lv_istore (lv' := [(4, .int (0 : Int32)), (3, .int x1), (0, .ref (ad 1)), (1, .int x1), (2, .int x2)]) hx hb dX4_seenAs_19 hl (by decide) rfl (fun ls hl => ?_)
    exact j21  _ _ _ _ _ _ _ h hI (lv_sub hl [2, 4, 1, 0] rfl)
  replace h := tf_pos c4 h
  refine lv_iconst (v := -1) hx hb dX4_seenAs_14 (by decide +kernel) ?_
  exact tf_iret hx hb hr hI h dX4_seenAs_15 hlocks

set_option maxHeartbeats 4000000 in
set_option maxRecDepth 100000 in
theorem kX_X3_await (l : Launch) (D : va_G) (ad : Nat → Nat) (cI cZ : ClassId) (σ : tf_S) (x1 x2 x3 : Int32) (z : Int32 × tf_S) (h : fX3_await σ x1 x2 x3 = some z) : tf_C l D (tf_wx ad cI cZ) [(cI, .int), (cZ, .boolean)] tf_nest yX3_await wsX3_await ({ frames := 0, cells := 0, slots := 0, locals := 0 }) [.ref (ad 6), .int x1, .int x2, .int x3] σ z := by
  intro sz
  refine Met.ofW (cc := cX3_await) (maxL := 4) (ret := (some .int)) (by decide) rfl ?_
  intro p e s m args below meth c s₁ B hml hv
  obtain ⟨rfl, hsz, hP, hK, hN, hD0⟩ := hv
  have hx := B.exec
  have hb := B.bytes
  have hr := B.returns
  have hts := atoms_spec (ws := wsX3_await) B.pre
  have hown : s.vm.findClass RX3 = some m.cls := findClass_of_methodNamed B.named
  have hlocks := B.notSynchronized
  subst hsz
  have hI := tf_start (D := D) (tf_x_ad ad cI cZ) hP hD0
  have hl := lv_entry ([.ref (ad 6), .int x1, .int x2, .int x3]) (n := 4) (Nat.le_of_ble_eq_true rfl)
  rw [lg_entry_eq]
  generalize (lg_sl ([.ref (ad 6), .int x1, .int x2, .int x3]) ++ List.replicate (4 - (lg_sl ([.ref (ad 6), .int x1, .int x2, .int x3])).length) Slot.unset).toArray = ls at hl ⊢
  have hl : lv_has ls 4 [(0, .ref (ad 6)), (1, .int x1), (2, .int x2), (3, .int x3)] := hl
  have hn_X3 : ∀ w ∈ u_ws RX3 TX3 7, w ∈ wsX3_await := by decide +kernel
  have hf_22 := hts (.fieldLink RX3 22 "TypeFlow$Putting" "wanted" "[I") (by decide +kernel)
  have hf_25 := hts (.fieldLink RX3 25 "TypeFlow$Putting" "given" "[I") (by decide +kernel)
  unfold fX3_await at h
  refine lv_iload_n hx hb dX3_await_0 rfl (lv_at hl 1 rfl) ?_
  refine lv_iconst (v := -1) hx hb dX3_await_1 (by decide +kernel) ?_
  refine lv_icmp_eq (tgt := 16) hx hb dX3_await_2 (by decide) (fun c1 => ?_) (fun c1 => ?_)
  · replace h := tf_pos c1 h
    refine lv_iload_n hx hb dX3_await_16 rfl (lv_at hl 3 rfl) ?_
    exact tf_iret hx hb hr hI h dX3_await_17 hlocks
  replace h := tf_neg c1 h
  refine lv_iload_n hx hb dX3_await_5 rfl (lv_at hl 2 rfl) ?_
  refine lv_iconst (v := -1) hx hb dX3_await_6 (by decide +kernel) ?_
  refine lv_icmp_eq (tgt := 16) hx hb dX3_await_7 (by decide) (fun c2 => ?_) (fun c2 => ?_)
  · replace h := tf_pos c2 h
    refine lv_iload_n hx hb dX3_await_16 rfl (lv_at hl 3 rfl) ?_
    exact tf_iret hx hb hr hI h dX3_await_17 hlocks
  replace h := tf_neg c2 h
  refine lv_iload_n hx hb dX3_await_10 rfl (lv_at hl 3 rfl) ?_
  refine lv_bipush (v := 82) hx hb dX3_await_11 (by decide +kernel) ?_
  refine lv_icmp_lt (tgt := 18) hx hb dX3_await_13 (by decide) (fun c3 => ?_) (fun c3 => ?_)
  · replace h := tf_pos c3 h
    refine lv_aload_n hx hb dX3_await_18 rfl (lv_at hl 0 rfl) ?_
    refine tf_get (C := RX3) (T := TX3) (N := 7) hx hb hts hn_X3 hown hK hI 6 (tf_xat_6 ad cI cZ _) rfl 5 (by decide) hf_22 rfl rfl dX3_await_19 ?_
    refine lv_iload_n hx hb dX3_await_22 rfl (lv_at hl 3 rfl) ?_
    refine lv_iload_n hx hb dX3_await_23 rfl (lv_at hl 1 rfl) ?_
    obtain ⟨b4, h⟩ := tf_gin h
    obtain ⟨s5, es5, h⟩ := tf_glet h
    refine tf_iast hx hb hK hI 33 0 (tf_xat_33 ad cI cZ _) (tf_xset_33 ad cI cZ _) rfl b4 es5 dX3_await_24 (fun H locs hI => ?_)
    refine lv_aload_n hx hb dX3_await_25 rfl (lv_at hl 0 rfl) ?_
    refine tf_get (C := RX3) (T := TX3) (N := 7) hx hb hts hn_X3 hown hK hI 6 (tf_xat_6 ad cI cZ _) rfl 6 (by decide) hf_25 rfl rfl dX3_await_26 ?_
    refine lv_iload_n hx hb dX3_await_29 rfl (lv_at hl 3 rfl) ?_
    refine lv_iload_n hx hb dX3_await_30 rfl (lv_at hl 2 rfl) ?_
    obtain ⟨b6, h⟩ := tf_gin h
    obtain ⟨s7, es7, h⟩ := tf_glet h
    refine tf_iast hx hb hK hI 34 0 (tf_xat_34 ad cI cZ _) (tf_xset_34 ad cI cZ _) rfl b6 es7 dX3_await_31 (fun H locs hI => ?_)
    refine lv_iload_n hx hb dX3_await_32 rfl (lv_at hl 3 rfl) ?_
    refine lv_iconst (v := 1) hx hb dX3_await_33 (by decide +kernel) ?_
    refine lv_iadd hx hb dX3_await_34 ?_
    exact tf_iret hx hb hr hI h dX3_await_35 hlocks
  replace h := tf_neg c3 h
  refine lv_iload_n hx hb dX3_await_16 rfl (lv_at hl 3 rfl) ?_
  exact tf_iret hx hb hr hI h dX3_await_17 hlocks

set_option maxHeartbeats 4000000 in
set_option maxRecDepth 100000 in
theorem kX_X3_match (l : Launch) (D : va_G) (ad : Nat → Nat) (cI cZ : ClassId) (σ : tf_S) (x1 x2 : Int32) (z : Int32 × tf_S) (h : fX3_match σ x1 x2 = some z) : tf_C l D (tf_wx ad cI cZ) [(cI, .int), (cZ, .boolean)] tf_nest yX3_match wsX3_match ({ frames := 1, cells := 0, slots := 0, locals := 23 }) [.ref (ad 6), .int x1, .int x2] σ z := by
  intro sz
  refine Met.ofW (cc := cX3_match) (maxL := 8) (ret := (some .int)) (by decide) rfl ?_
  intro p e s m args below meth c s₁ B hml hv
  obtain ⟨rfl, hsz, hP, hK, hN, hD0⟩ := hv
  have hx := B.exec
  have hb := B.bytes
  have hr := B.returns
  have hts := atoms_spec (ws := wsX3_match) B.pre
  have hown : s.vm.findClass RX3 = some m.cls := findClass_of_methodNamed B.named
  have hlocks := B.notSynchronized
  subst hsz
  have hI := tf_start (D := D) (tf_x_ad ad cI cZ) hP hD0
  have hl := lv_entry ([.ref (ad 6), .int x1, .int x2]) (n := 8) (Nat.le_of_ble_eq_true rfl)
  rw [lg_entry_eq]
  generalize (lg_sl ([.ref (ad 6), .int x1, .int x2]) ++ List.replicate (8 - (lg_sl ([.ref (ad 6), .int x1, .int x2])).length) Slot.unset).toArray = ls at hl ⊢
  have hl : lv_has ls 8 [(0, .ref (ad 6)), (1, .int x1), (2, .int x2)] := hl
  have hn_X3 : ∀ w ∈ u_ws RX3 TX3 7, w ∈ wsX3_match := by decide +kernel
  have hn_X4 : ∀ w ∈ u_ws RX4 TX4 10, w ∈ wsX3_match := by decide +kernel
  have hf_19 := hts (.fieldLink RX3 19 "TypeFlow$Putting" "alike" "[I") (by decide +kernel)
  have hf_22 := hts (.fieldLink RX3 22 "TypeFlow$Putting" "wanted" "[I") (by decide +kernel)
  have hf_25 := hts (.fieldLink RX3 25 "TypeFlow$Putting" "given" "[I") (by decide +kernel)
  have hf_28 := hts (.fieldLink RX3 28 "TypeFlow$Putting" "types" "LTypeFlow$Types;") (by decide +kernel)
  have hf_84 := hts (.fieldLink RX3 84 "TypeFlow$Types" "ofClass" "[I") (by decide +kernel)
  have hf_93 := hts (.fieldLink RX3 93 "TypeFlow$Types" "second" "[I") (by decide +kernel)
  have hf_97 := hts (.fieldLink RX3 97 "TypeFlow$Types" "first" "[I") (by decide +kernel)
  have j22 : ∀ n : Nat, ∀ (σ : tf_S) (y3 y4 y5 : Int32) (H : Heap) (locs : List Loc) (ls : Array Slot), fX3_match_22 x1 x2 n σ y3 y4 y5 = some z → tf_I D (tf_wx ad cI cZ) s.heap σ H locs → lv_has ls 8 [(0, .ref (ad 6)), (3, .int y3), (4, .int y4), (5, .int y5)] → W p l e (headSpec wsX3_match ({ frames := 1, cells := 0, slots := 0, locals := 23 })).room s m ([.ref (ad 6), .int x1, .int x2] : List Value).toArray below meth c H locs 0 0 (tf_Q below D (tf_wx ad cI cZ) z ([.ref (ad 6), .int x1, .int x2] : List Value).toArray s) (F0 m 22 ls []) := by
    intro n
    induction n with
    | zero =>
      intro σ y3 y4 y5 H locs ls h
      rw [fX3_match_22] at h
      cases h
    | succ n ih =>
      intro σ y3 y4 y5 H locs ls h hI hl
      rw [fX3_match_22] at h
      refine lv_iload_n hx hb dX3_match_22 rfl (lv_at hl 1 rfl) ?_
      refine lv_if_le (tgt := 190) hx hb dX3_match_23 (by decide) (fun c5 => ?_) (fun c5 => ?_)
      · replace h := tf_pos c5 h
        refine lv_iconst (v := 0) hx hb dX3_match_190 (by decide +kernel) ?_
        exact tf_iret hx hb hr hI h dX3_match_191 hlocks
      replace h := tf_neg c5 h
      refine lv_iload hx hb dX3_match_26 (lv_at hl 3 rfl) ?_
      refine lv_sipush (v := 6400) hx hb dX3_match_28 (by decide +kernel) ?_
      refine lv_icmp_ge (tgt := 190) hx hb dX3_match_31 (by decide) (fun c6 => ?_) (fun c6 => ?_)
      · replace h := tf_pos c6 h
        refine lv_iconst (v := 0) hx hb dX3_match_190 (by decide +kernel) ?_
        exact tf_iret hx hb hr hI h dX3_match_191 hlocks
      replace h := tf_neg c6 h
      obtain ⟨v7, ev7, h⟩ := tf_glet h
      refine lv_iinc (v := v7) (lv' := [(3, .int v7), (0, .ref (ad 6)), (4, .int y4), (5, .int y5)]) hx hb dX3_match_34 hl (k := 1) rfl (by rw [ev7]; rfl) (by decide) rfl (fun ls hl => ?_)
      refine lv_aload_n hx hb dX3_match_37 rfl (lv_at hl 1 rfl) ?_
      refine tf_get (C := RX3) (T := TX3) (N := 7) hx hb hts hn_X3 hown hK hI 6 (tf_xat_6 ad cI cZ _) rfl 5 (by decide) hf_22 rfl rfl dX3_match_38 ?_
      refine lv_iload_n hx hb dX3_match_41 rfl (lv_at hl 0 rfl) ?_
      obtain ⟨b8, h⟩ := tf_gin h
      refine va_iald hx hb hK hI.1 33 0 (tf_xat_33 ad cI cZ _) rfl b8 dX3_match_42 ?_
      obtain ⟨v9, ev9, h⟩ := tf_glet h
      refine tf_top ev9 ?_
      refine lv_istore (lv' := [(6, .int v9), (3, .int v7), (0, .ref (ad 6)), (4, .int y4), (5, .int y5)]) hx hb dX3_match_43 hl (by decide) rfl (fun ls hl => ?_)
      refine lv_aload_n hx hb dX3_match_45 rfl (lv_at hl 2 rfl) ?_
      refine tf_get (C := RX3) (T := TX3) (N := 7) hx hb hts hn_X3 hown hK hI 6 (tf_xat_6 ad cI cZ _) rfl 6 (by decide) hf_25 rfl rfl dX3_match_46 ?_
      refine lv_iload_n hx hb dX3_match_49 rfl (lv_at hl 1 rfl) ?_
      obtain ⟨b10, h⟩ := tf_gin h
      refine va_iald hx hb hK hI.1 34 0 (tf_xat_34 ad cI cZ _) rfl b10 dX3_match_50 ?_
      obtain ⟨v11, ev11, h⟩ := tf_glet h
      refine tf_top ev11 ?_
      refine lv_istore (lv' := [(7, .int v11), (6, .int v9), (3, .int v7), (0, .ref (ad 6)), (4, .int y4), (5, .int y5)]) hx hb dX3_match_51 hl (by decide) rfl (fun ls hl => ?_)
      refine lv_iload hx hb dX3_match_53 (lv_at hl 1 rfl) ?_
      obtain ⟨u12, q13, h⟩ := tf_gbind h
      refine tf_callSN (rest := []) ⟨hx, hb, hml, hown, hts⟩ hK hN hI (kX_X6_isVariable l D ad cI cZ _ _ _ q13) ⟨va_cnB 1 hts gX3_match_X6_isVariable_n78 rfl rfl rfl (hN (RX3, 78, yX6_isVariable, "TypeFlow") (by decide +kernel)) (hts (.initialized RX6) (by decide +kernel)) (by decide +kernel) ⟨Nat.le_of_ble_eq_true rfl, Nat.le_of_ble_eq_true rfl⟩, hts (.static yX6_isVariable) (by decide +kernel), trivial⟩ rfl hl.1 rfl (Nat.le_of_ble_eq_true rfl) dX3_match_55 (fun H locs hI => ?_)
      refine lv_if_eq (tgt := 74) hx hb dX3_match_58 (by decide) (fun c14 => ?_) (fun c14 => ?_)
      · replace h := tf_pos c14 h
        refine lv_aload_n hx hb dX3_match_74 rfl (lv_at hl 3 rfl) ?_
        refine tf_get (C := RX3) (T := TX3) (N := 7) hx hb hts hn_X3 hown hK hI 6 (tf_xat_6 ad cI cZ _) rfl 0 (by decide) hf_28 rfl rfl dX3_match_75 ?_
        refine tf_get (C := RX4) (T := TX4) (N := 10) hx hb hts hn_X4 hown hK hI 1 (tf_xat_1 ad cI cZ _) rfl 4 (by decide) hf_84 rfl rfl dX3_match_78 ?_
        refine lv_iload hx hb dX3_match_81 (lv_at hl 1 rfl) ?_
        obtain ⟨b15, h⟩ := tf_gin h
        refine va_iald hx hb hK hI.1 9 0 (tf_xat_9 ad cI cZ _) rfl b15 dX3_match_83 ?_
        refine lv_aload_n hx hb dX3_match_84 rfl (lv_at hl 3 rfl) ?_
        refine tf_get (C := RX3) (T := TX3) (N := 7) hx hb hts hn_X3 hown hK hI 6 (tf_xat_6 ad cI cZ _) rfl 0 (by decide) hf_28 rfl rfl dX3_match_85 ?_
        refine tf_get (C := RX4) (T := TX4) (N := 10) hx hb hts hn_X4 hown hK hI 1 (tf_xat_1 ad cI cZ _) rfl 4 (by decide) hf_84 rfl rfl dX3_match_88 ?_
        refine lv_iload hx hb dX3_match_91 (lv_at hl 0 rfl) ?_
        obtain ⟨b16, h⟩ := tf_gin h
        refine va_iald hx hb hK hI.1 9 0 (tf_xat_9 ad cI cZ _) rfl b16 dX3_match_93 ?_
        refine lv_icmp_eq (tgt := 103) hx hb dX3_match_94 (by decide) (fun c17 => ?_) (fun c17 => ?_)
        · replace h := tf_pos c17 h
          refine lv_aload_n hx hb dX3_match_103 rfl (lv_at hl 3 rfl) ?_
          refine tf_get (C := RX3) (T := TX3) (N := 7) hx hb hts hn_X3 hown hK hI 6 (tf_xat_6 ad cI cZ _) rfl 4 (by decide) hf_19 rfl rfl dX3_match_104 ?_
          refine lv_iload hx hb dX3_match_107 (lv_at hl 1 rfl) ?_
          obtain ⟨b18, h⟩ := tf_gin h
          refine va_iald hx hb hK hI.1 32 0 (tf_xat_32 ad cI cZ _) rfl b18 dX3_match_109 ?_
          refine lv_iload hx hb dX3_match_110 (lv_at hl 0 rfl) ?_
          refine lv_icmp_eq (tgt := 176) hx hb dX3_match_112 (by decide) (fun c19 => ?_) (fun c19 => ?_)
          · replace h := tf_pos c19 h
            refine lv_iload hx hb dX3_match_176 (lv_at hl 4 rfl) ?_
            refine lv_if_eq (tgt := 184) hx hb dX3_match_178 (by decide) (fun c20 => ?_) (fun c20 => ?_)
            · replace h := tf_pos c20 h
              obtain ⟨v21, ev21, h⟩ := tf_glet h
              refine lv_iinc (v := v21) (lv' := [(5, .int v21), (7, .int v11), (6, .int v9), (3, .int v7), (0, .ref (ad 6)), (4, .int y4)]) hx hb dX3_match_184 hl (k := 5) rfl (by rw [ev21]; rfl) (by decide) rfl (fun ls hl => ?_)
              refine lv_goto (tgt := 22) hx hb dX3_match_187 (by decide) ?_
              exact ih _ _ _ _ _ _ _ h hI (lv_sub hl [4, 3, 5, 0] rfl)
            replace h := tf_neg c20 h
            refine lv_iload hx hb dX3_match_181 (lv_at hl 4 rfl) ?_
            exact tf_iret hx hb hr hI h dX3_match_183 hlocks
          replace h := tf_neg c19 h
          refine lv_aload_n hx hb dX3_match_115 rfl (lv_at hl 3 rfl) ?_
          refine tf_get (C := RX3) (T := TX3) (N := 7) hx hb hts hn_X3 hown hK hI 6 (tf_xat_6 ad cI cZ _) rfl 4 (by decide) hf_19 rfl rfl dX3_match_116 ?_
          refine lv_iload hx hb dX3_match_119 (lv_at hl 1 rfl) ?_
          refine lv_iload hx hb dX3_match_121 (lv_at hl 0 rfl) ?_
          obtain ⟨b22, h⟩ := tf_gin h
          obtain ⟨s23, es23, h⟩ := tf_glet h
          refine tf_iast hx hb hK hI 32 0 (tf_xat_32 ad cI cZ _) (tf_xset_32 ad cI cZ _) rfl b22 es23 dX3_match_123 (fun H locs hI => ?_)
          refine lv_aload_n hx hb dX3_match_124 rfl (lv_at hl 3 rfl) ?_
          refine lv_aload_n hx hb dX3_match_125 rfl (lv_at hl 3 rfl) ?_
          refine tf_get (C := RX3) (T := TX3) (N := 7) hx hb hts hn_X3 hown hK hI 6 (tf_xat_6 ad cI cZ _) rfl 0 (by decide) hf_28 rfl rfl dX3_match_126 ?_
          refine tf_get (C := RX4) (T := TX4) (N := 10) hx hb hts hn_X4 hown hK hI 1 (tf_xat_1 ad cI cZ _) rfl 6 (by decide) hf_93 rfl rfl dX3_match_129 ?_
          refine lv_iload hx hb dX3_match_132 (lv_at hl 1 rfl) ?_
          obtain ⟨b24, h⟩ := tf_gin h
          refine va_iald hx hb hK hI.1 11 0 (tf_xat_11 ad cI cZ _) rfl b24 dX3_match_134 ?_
          refine lv_aload_n hx hb dX3_match_135 rfl (lv_at hl 3 rfl) ?_
          refine tf_get (C := RX3) (T := TX3) (N := 7) hx hb hts hn_X3 hown hK hI 6 (tf_xat_6 ad cI cZ _) rfl 0 (by decide) hf_28 rfl rfl dX3_match_136 ?_
          refine tf_get (C := RX4) (T := TX4) (N := 10) hx hb hts hn_X4 hown hK hI 1 (tf_xat_1 ad cI cZ _) rfl 6 (by decide) hf_93 rfl rfl dX3_match_139 ?_
          refine lv_iload hx hb dX3_match_142 (lv_at hl 0 rfl) ?_
          obtain ⟨b25, h⟩ := tf_gin h
          refine va_iald hx hb hK hI.1 11 0 (tf_xat_11 ad cI cZ _) rfl b25 dX3_match_144 ?_
          refine lv_iload_n hx hb dX3_match_145 rfl (lv_at hl 2 rfl) ?_
          obtain ⟨u26, q27, h⟩ := tf_gbind h
          refine tf_callV (rest := []) ⟨hx, hb, hml, hown, hts⟩ hK hN hI (kX_X3_await l D ad cI cZ _ _ _ _ _ q27) (cwV 3 hts gX3_match_X3_await rfl rfl rfl (by decide +kernel) ⟨Nat.le_of_ble_eq_true rfl, Nat.le_of_ble_eq_true rfl⟩) 6 3 (tf_xat_6 ad cI cZ _) rfl rfl hl.1 rfl (Nat.le_of_ble_eq_true rfl) dX3_match_146 (fun H locs hI => ?_)
          obtain ⟨v28, ev28, h⟩ := tf_glet h
          refine tf_top ev28 ?_
          refine lv_istore_n (lv' := [(3, .int v28), (7, .int v11), (6, .int v9), (0, .ref (ad 6)), (4, .int y4), (5, .int y5)]) hx hb dX3_match_149 rfl hl (by decide) rfl (fun ls hl => ?_)
          refine lv_aload_n hx hb dX3_match_150 rfl (lv_at hl 3 rfl) ?_
          refine lv_aload_n hx hb dX3_match_151 rfl (lv_at hl 3 rfl) ?_
          refine tf_get (C := RX3) (T := TX3) (N := 7) hx hb hts hn_X3 hown hK hI 6 (tf_xat_6 ad cI cZ _) rfl 0 (by decide) hf_28 rfl rfl dX3_match_152 ?_
          refine tf_get (C := RX4) (T := TX4) (N := 10) hx hb hts hn_X4 hown hK hI 1 (tf_xat_1 ad cI cZ _) rfl 5 (by decide) hf_97 rfl rfl dX3_match_155 ?_
          refine lv_iload hx hb dX3_match_158 (lv_at hl 2 rfl) ?_
          obtain ⟨b29, h⟩ := tf_gin h
          refine va_iald hx hb hK hI.1 10 0 (tf_xat_10 ad cI cZ _) rfl b29 dX3_match_160 ?_
          refine lv_aload_n hx hb dX3_match_161 rfl (lv_at hl 3 rfl) ?_
          refine tf_get (C := RX3) (T := TX3) (N := 7) hx hb hts hn_X3 hown hK hI 6 (tf_xat_6 ad cI cZ _) rfl 0 (by decide) hf_28 rfl rfl dX3_match_162 ?_
          refine tf_get (C := RX4) (T := TX4) (N := 10) hx hb hts hn_X4 hown hK hI 1 (tf_xat_1 ad cI cZ _) rfl 5 (by decide) hf_97 rfl rfl dX3_match_165 ?_
          refine lv_iload hx hb dX3_match_168 (lv_at hl 1 rfl) ?_
          obtain ⟨b30, h⟩ := tf_gin h
          refine va_iald hx hb hK hI.1 10 0 (tf_xat_10 ad cI cZ _) rfl b30 dX3_match_170 ?_
          refine lv_iload_n hx hb dX3_match_171 rfl (lv_at hl 0 rfl) ?_
          obtain ⟨u31, q32, h⟩ := tf_gbind h
          refine tf_callV (rest := []) ⟨hx, hb, hml, hown, hts⟩ hK hN hI (kX_X3_await l D ad cI cZ _ _ _ _ _ q32) (cwV 3 hts gX3_match_X3_await rfl rfl rfl (by decide +kernel) ⟨Nat.le_of_ble_eq_true rfl, Nat.le_of_ble_eq_true rfl⟩) 6 3 (tf_xat_6 ad cI cZ _) rfl rfl hl.1 rfl (Nat.le_of_ble_eq_true rfl) dX3_match_172 (fun H locs hI => ?_)
          obtain ⟨v33, ev33, h⟩ := tf_glet h
          refine tf_top ev33 ?_
          refine lv_istore_n (lv' := [(3, .int v33), (7, .int v11), (6, .int v9), (0, .ref (ad 6)), (4, .int y4), (5, .int y5)]) hx hb dX3_match_175 rfl hl (by decide) rfl (fun ls hl => ?_)
          refine lv_iload hx hb dX3_match_176 (lv_at hl 4 rfl) ?_
          refine lv_if_eq (tgt := 184) hx hb dX3_match_178 (by decide) (fun c34 => ?_) (fun c34 => ?_)
          · replace h := tf_pos c34 h
            obtain ⟨v35, ev35, h⟩ := tf_glet h
            refine lv_iinc (v := v35) (lv' := [(5, .int v35), (3, .int v33), (7, .int v11), (6, .int v9), (0, .ref (ad 6)), (4, .int y4)]) hx hb dX3_match_184 hl (k := 5) rfl (by rw [ev35]; rfl) (by decide) rfl (fun ls hl => ?_)
            refine lv_goto (tgt := 22) hx hb dX3_match_187 (by decide) ?_
            exact ih _ _ _ _ _ _ _ h hI (lv_sub hl [4, 1, 5, 0] rfl)
          replace h := tf_neg c34 h
          refine lv_iload hx hb dX3_match_181 (lv_at hl 4 rfl) ?_
          exact tf_iret hx hb hr hI h dX3_match_183 hlocks
        replace h := tf_neg c17 h
        refine lv_iconst (v := 1) hx hb dX3_match_97 (by decide +kernel) ?_
        refine lv_istore (lv' := [(4, .int (1 : Int32)), (7, .int v11), (6, .int v9), (3, .int v7), (0, .ref (ad 6)), (5, .int y5)]) hx hb dX3_match_98 hl (by decide) rfl (fun ls hl => ?_)
        refine lv_goto (tgt := 176) hx hb dX3_match_100 (by decide) ?_
        refine lv_iload hx hb dX3_match_176 (lv_at hl 0 rfl) ?_
        refine lv_if_eq (tgt := 184) hx hb dX3_match_178 (by decide) (fun c36 => ?_) (fun c36 => ?_)
        · replace h := tf_pos c36 h
          obtain ⟨v37, ev37, h⟩ := tf_glet h
          refine lv_iinc (v := v37) (lv' := [(5, .int v37), (4, .int (1 : Int32)), (7, .int v11), (6, .int v9), (3, .int v7), (0, .ref (ad 6))]) hx hb dX3_match_184 hl (k := 5) rfl (by rw [ev37]; rfl) (by decide) rfl (fun ls hl => ?_)
          refine lv_goto (tgt := 22) hx hb dX3_match_187 (by decide) ?_
          exact ih _ _ _ _ _ _ _ h hI (lv_sub hl [5, 4, 1, 0] rfl)
        replace h := tf_neg c36 h
        refine lv_iload hx hb dX3_match_181 (lv_at hl 0 rfl) ?_
        exact tf_iret hx hb hr hI h dX3_match_183 hlocks
      replace h := tf_neg c14 h
      refine lv_aload_n hx hb dX3_match_61 rfl (lv_at hl 3 rfl) ?_
      refine lv_iload hx hb dX3_match_62 (lv_at hl 1 rfl) ?_
      refine lv_iload hx hb dX3_match_64 (lv_at hl 0 rfl) ?_
      obtain ⟨u38, q39, h⟩ := tf_gbind h
      refine tf_callV (rest := []) ⟨hx, hb, hml, hown, hts⟩ hK hN hI (kX_X3_bindTo l D ad cI cZ _ _ _ _ q39) (cwV 2 hts gX3_match_X3_bindTo rfl rfl rfl (by decide +kernel) ⟨Nat.le_of_ble_eq_true rfl, Nat.le_of_ble_eq_true rfl⟩) 6 3 (tf_xat_6 ad cI cZ _) rfl rfl hl.1 rfl (Nat.le_of_ble_eq_true rfl) dX3_match_66 (fun H locs hI => ?_)
      obtain ⟨v40, ev40, h⟩ := tf_glet h
      refine tf_top ev40 ?_
      refine lv_istore (lv' := [(4, .int v40), (7, .int v11), (6, .int v9), (3, .int v7), (0, .ref (ad 6)), (5, .int y5)]) hx hb dX3_match_69 hl (by decide) rfl (fun ls hl => ?_)
      refine lv_goto (tgt := 176) hx hb dX3_match_71 (by decide) ?_
      refine lv_iload hx hb dX3_match_176 (lv_at hl 0 rfl) ?_
      refine lv_if_eq (tgt := 184) hx hb dX3_match_178 (by decide) (fun c41 => ?_) (fun c41 => ?_)
      · replace h := tf_pos c41 h
        obtain ⟨v42, ev42, h⟩ := tf_glet h
        refine lv_iinc (v := v42) (lv' := [(5, .int v42), (4, .int v40), (7, .int v11), (6, .int v9), (3, .int v7), (0, .ref (ad 6))]) hx hb dX3_match_184 hl (k := 5) rfl (by rw [ev42]; rfl) (by decide) rfl (fun ls hl => ?_)
        refine lv_goto (tgt := 22) hx hb dX3_match_187 (by decide) ?_
        exact ih _ _ _ _ _ _ _ h hI (lv_sub hl [5, 4, 1, 0] rfl)
      replace h := tf_neg c41 h
      refine lv_iload hx hb dX3_match_181 (lv_at hl 0 rfl) ?_
      exact tf_iret hx hb hr hI h dX3_match_183 hlocks
  unfold fX3_match at h
  refine lv_aload_n hx hb dX3_match_0 rfl (lv_at hl 0 rfl) ?_
  refine tf_get (C := RX3) (T := TX3) (N := 7) hx hb hts hn_X3 hown hK hI 6 (tf_xat_6 ad cI cZ _) rfl 5 (by decide) hf_22 rfl rfl dX3_match_1 ?_
  refine lv_iconst (v := 0) hx hb dX3_match_4 (by decide +kernel) ?_
  refine lv_iload_n hx hb dX3_match_5 rfl (lv_at hl 1 rfl) ?_
  obtain ⟨b1, h⟩ := tf_gin h
  obtain ⟨s2, es2, h⟩ := tf_glet h
  refine tf_iast hx hb hK hI 33 0 (tf_xat_33 ad cI cZ _) (tf_xset_33 ad cI cZ _) rfl b1 es2 dX3_match_6 (fun H locs hI => ?_)
  refine lv_aload_n hx hb dX3_match_7 rfl (lv_at hl 0 rfl) ?_
  refine tf_get (C := RX3) (T := TX3) (N := 7) hx hb hts hn_X3 hown hK hI 6 (tf_xat_6 ad cI cZ _) rfl 6 (by decide) hf_25 rfl rfl dX3_match_8 ?_
  refine lv_iconst (v := 0) hx hb dX3_match_11 (by decide +kernel) ?_
  refine lv_iload_n hx hb dX3_match_12 rfl (lv_at hl 2 rfl) ?_
  obtain ⟨b3, h⟩ := tf_gin h
  obtain ⟨s4, es4, h⟩ := tf_glet h
  refine tf_iast hx hb hK hI 34 0 (tf_xat_34 ad cI cZ _) (tf_xset_34 ad cI cZ _) rfl b3 es4 dX3_match_13 (fun H locs hI => ?_)
  refine lv_iconst (v := 1) hx hb dX3_match_14 (by decide +kernel) ?_
  refine lv_istore_n (lv' := [(3, .int (1 : Int32)), (0, .ref (ad 6)), (1, .int x1), (2, .int x2)]) hx hb dX3_match_15 rfl hl (by decide) rfl (fun ls hl => ?_)
  refine lv_iconst (v := 0) hx hb dX3_match_16 (by decide +kernel) ?_
  refine lv_istore (lv' := [(4, .int (0 : Int32)), (3, .int (1 : Int32)), (0, .ref (ad 6)), (1, .int x1), (2, .int x2)]) hx hb dX3_match_17 hl (by decide) rfl (fun ls hl => ?_)
  refine lv_iconst (v := 0) hx hb dX3_match_19 (by decide +kernel) ?_
  refine lv_istore (lv' := [(5, .int (0 : Int32)), (4, .int (0 : Int32)), (3, .int (1 : Int32)), (0, .ref (ad 6)), (1, .int x1), (2, .int x2)]) hx hb dX3_match_20 hl (by decide) rfl (fun ls hl => ?_)
  exact j22  _ _ _ _ _ _ _ _ h hI (lv_sub hl [3, 2, 1, 0] rfl)

set_option maxHeartbeats 4000000 in
set_option maxRecDepth 100000 in
theorem kX_X3_take (l : Launch) (D : va_G) (ad : Nat → Nat) (cI cZ : ClassId) (σ : tf_S) (x1 x2 : Int32) (z : Int32 × tf_S) (h : fX3_take σ x1 x2 = some z) : tf_C l D (tf_wx ad cI cZ) [(cI, .int), (cZ, .boolean)] tf_nest yX3_take wsX3_take ({ frames := 3, cells := 0, slots := 0, locals := 76 }) [.ref (ad 6), .int x1, .int x2] σ z := by
  intro sz
  refine Met.ofW (cc := cX3_take) (maxL := 4) (ret := (some .int)) (by decide) rfl ?_
  intro p e s m args below meth c s₁ B hml hv
  obtain ⟨rfl, hsz, hP, hK, hN, hD0⟩ := hv
  have hx := B.exec
  have hb := B.bytes
  have hr := B.returns
  have hts := atoms_spec (ws := wsX3_take) B.pre
  have hown : s.vm.findClass RX3 = some m.cls := findClass_of_methodNamed B.named
  have hlocks := B.notSynchronized
  subst hsz
  have hI := tf_start (D := D) (tf_x_ad ad cI cZ) hP hD0
  have hl := lv_entry ([.ref (ad 6), .int x1, .int x2]) (n := 4) (Nat.le_of_ble_eq_true rfl)
  rw [lg_entry_eq]
  generalize (lg_sl ([.ref (ad 6), .int x1, .int x2]) ++ List.replicate (4 - (lg_sl ([.ref (ad 6), .int x1, .int x2])).length) Slot.unset).toArray = ls at hl ⊢
  have hl : lv_has ls 4 [(0, .ref (ad 6)), (1, .int x1), (2, .int x2)] := hl
  have hn_X3 : ∀ w ∈ u_ws RX3 TX3 7, w ∈ wsX3_take := by decide +kernel
  have hn_X4 : ∀ w ∈ u_ws RX4 TX4 10, w ∈ wsX3_take := by decide +kernel
  have hf_28 := hts (.fieldLink RX3 28 "TypeFlow$Putting" "types" "LTypeFlow$Types;") (by decide +kernel)
  have hf_84 := hts (.fieldLink RX3 84 "TypeFlow$Types" "ofClass" "[I") (by decide +kernel)
  unfold fX3_take at h
  refine lv_iload_n hx hb dX3_take_0 rfl (lv_at hl 1 rfl) ?_
  obtain ⟨u1, q2, h⟩ := tf_gbind h
  refine tf_callSN (rest := []) ⟨hx, hb, hml, hown, hts⟩ hK hN hI (kX_X6_isPrimitive l D ad cI cZ _ _ _ q2) ⟨va_cnB 1 hts gX3_take_X6_isPrimitive_n71 rfl rfl rfl (hN (RX3, 71, yX6_isPrimitive, "TypeFlow") (by decide +kernel)) (hts (.initialized RX6) (by decide +kernel)) (by decide +kernel) ⟨Nat.le_of_ble_eq_true rfl, Nat.le_of_ble_eq_true rfl⟩, hts (.static yX6_isPrimitive) (by decide +kernel), trivial⟩ rfl hl.1 rfl (Nat.le_of_ble_eq_true rfl) dX3_take_1 (fun H locs hI => ?_)
  refine lv_if_eq (tgt := 26) hx hb dX3_take_4 (by decide) (fun c3 => ?_) (fun c3 => ?_)
  · replace h := tf_pos c3 h
    refine lv_iload_n hx hb dX3_take_26 rfl (lv_at hl 2 rfl) ?_
    obtain ⟨u4, q5, h⟩ := tf_gbind h
    refine tf_callSN (rest := []) ⟨hx, hb, hml, hown, hts⟩ hK hN hI (kX_X6_isPrimitive l D ad cI cZ _ _ _ q5) ⟨va_cnB 1 hts gX3_take_X6_isPrimitive_n71 rfl rfl rfl (hN (RX3, 71, yX6_isPrimitive, "TypeFlow") (by decide +kernel)) (hts (.initialized RX6) (by decide +kernel)) (by decide +kernel) ⟨Nat.le_of_ble_eq_true rfl, Nat.le_of_ble_eq_true rfl⟩, hts (.static yX6_isPrimitive) (by decide +kernel), trivial⟩ rfl hl.1 rfl (Nat.le_of_ble_eq_true rfl) dX3_take_27 (fun H locs hI => ?_)
    refine lv_if_eq (tgt := 35) hx hb dX3_take_30 (by decide) (fun c6 => ?_) (fun c6 => ?_)
    · replace h := tf_pos c6 h
      refine lv_iload_n hx hb dX3_take_35 rfl (lv_at hl 1 rfl) ?_
      obtain ⟨u7, q8, h⟩ := tf_gbind h
      refine tf_callSN (rest := []) ⟨hx, hb, hml, hown, hts⟩ hK hN hI (kX_X6_isVariable l D ad cI cZ _ _ _ q8) ⟨va_cnB 1 hts gX3_take_X6_isVariable_n78 rfl rfl rfl (hN (RX3, 78, yX6_isVariable, "TypeFlow") (by decide +kernel)) (hts (.initialized RX6) (by decide +kernel)) (by decide +kernel) ⟨Nat.le_of_ble_eq_true rfl, Nat.le_of_ble_eq_true rfl⟩, hts (.static yX6_isVariable) (by decide +kernel), trivial⟩ rfl hl.1 rfl (Nat.le_of_ble_eq_true rfl) dX3_take_36 (fun H locs hI => ?_)
      refine lv_if_eq (tgt := 49) hx hb dX3_take_39 (by decide) (fun c9 => ?_) (fun c9 => ?_)
      · replace h := tf_pos c9 h
        refine lv_aload_n hx hb dX3_take_49 rfl (lv_at hl 0 rfl) ?_
        refine tf_get (C := RX3) (T := TX3) (N := 7) hx hb hts hn_X3 hown hK hI 6 (tf_xat_6 ad cI cZ _) rfl 0 (by decide) hf_28 rfl rfl dX3_take_50 ?_
        refine lv_iload_n hx hb dX3_take_53 rfl (lv_at hl 2 rfl) ?_
        refine lv_aload_n hx hb dX3_take_54 rfl (lv_at hl 0 rfl) ?_
        refine tf_get (C := RX3) (T := TX3) (N := 7) hx hb hts hn_X3 hown hK hI 6 (tf_xat_6 ad cI cZ _) rfl 0 (by decide) hf_28 rfl rfl dX3_take_55 ?_
        refine tf_get (C := RX4) (T := TX4) (N := 10) hx hb hts hn_X4 hown hK hI 1 (tf_xat_1 ad cI cZ _) rfl 4 (by decide) hf_84 rfl rfl dX3_take_58 ?_
        refine lv_iload_n hx hb dX3_take_61 rfl (lv_at hl 1 rfl) ?_
        obtain ⟨b10, h⟩ := tf_gin h
        refine va_iald hx hb hK hI.1 9 0 (tf_xat_9 ad cI cZ _) rfl b10 dX3_take_62 ?_
        obtain ⟨u11, q12, h⟩ := tf_gbind h
        refine tf_callV (rest := []) ⟨hx, hb, hml, hown, hts⟩ hK hN hI (kX_X4_seenAs l D ad cI cZ _ _ _ _ q12) (cwV 2 hts gX3_take_X4_seenAs rfl rfl rfl (by decide +kernel) ⟨Nat.le_of_ble_eq_true rfl, Nat.le_of_ble_eq_true rfl⟩) 1 4 (tf_xat_1 ad cI cZ _) rfl rfl hl.1 rfl (Nat.le_of_ble_eq_true rfl) dX3_take_63 (fun H locs hI => ?_)
        obtain ⟨v13, ev13, h⟩ := tf_glet h
        refine tf_top ev13 ?_
        refine lv_istore_n (lv' := [(3, .int v13), (0, .ref (ad 6)), (1, .int x1), (2, .int x2)]) hx hb dX3_take_66 rfl hl (by decide) rfl (fun ls hl => ?_)
        refine lv_iload_n hx hb dX3_take_67 rfl (lv_at hl 0 rfl) ?_
        refine lv_bipush (v := -3) hx hb dX3_take_68 (by decide +kernel) ?_
        refine lv_icmp_ne (tgt := 76) hx hb dX3_take_70 (by decide) (fun c14 => ?_) (fun c14 => ?_)
        · replace h := tf_neg c14 h
          refine lv_iload_n hx hb dX3_take_76 rfl (lv_at hl 0 rfl) ?_
          refine lv_iconst (v := -1) hx hb dX3_take_77 (by decide +kernel) ?_
          refine lv_icmp_ne (tgt := 85) hx hb dX3_take_78 (by decide) (fun c15 => ?_) (fun c15 => ?_)
          · replace h := tf_neg c15 h
            refine lv_aload_n hx hb dX3_take_85 rfl (lv_at hl 1 rfl) ?_
            refine lv_iload_n hx hb dX3_take_86 rfl (lv_at hl 2 rfl) ?_
            refine lv_iload_n hx hb dX3_take_87 rfl (lv_at hl 0 rfl) ?_
            obtain ⟨u16, q17, h⟩ := tf_gbind h
            refine tf_callV (rest := []) ⟨hx, hb, hml, hown, hts⟩ hK hN hI (kX_X3_match l D ad cI cZ _ _ _ _ q17) (cwV 2 hts gX3_take_X3_match rfl rfl rfl (by decide +kernel) ⟨Nat.le_of_ble_eq_true rfl, Nat.le_of_ble_eq_true rfl⟩) 6 3 (tf_xat_6 ad cI cZ _) rfl rfl hl.1 rfl (Nat.le_of_ble_eq_true rfl) dX3_take_88 (fun H locs hI => ?_)
            exact tf_iret hx hb hr hI h dX3_take_91 hlocks
          replace h := tf_pos c15 h
          refine lv_iconst (v := 1) hx hb dX3_take_81 (by decide +kernel) ?_
          refine lv_goto (tgt := 91) hx hb dX3_take_82 (by decide) ?_
          exact tf_iret hx hb hr hI h dX3_take_91 hlocks
        replace h := tf_pos c14 h
        refine lv_bipush (v := 8) hx hb dX3_take_73 (by decide +kernel) ?_
        exact tf_iret hx hb hr hI h dX3_take_75 hlocks
      replace h := tf_neg c9 h
      refine lv_aload_n hx hb dX3_take_42 rfl (lv_at hl 0 rfl) ?_
      refine lv_iload_n hx hb dX3_take_43 rfl (lv_at hl 1 rfl) ?_
      refine lv_iload_n hx hb dX3_take_44 rfl (lv_at hl 2 rfl) ?_
      obtain ⟨u18, q19, h⟩ := tf_gbind h
      refine tf_callV (rest := []) ⟨hx, hb, hml, hown, hts⟩ hK hN hI (kX_X3_bindTo l D ad cI cZ _ _ _ _ q19) (cwV 2 hts gX3_take_X3_bindTo rfl rfl rfl (by decide +kernel) ⟨Nat.le_of_ble_eq_true rfl, Nat.le_of_ble_eq_true rfl⟩) 6 3 (tf_xat_6 ad cI cZ _) rfl rfl hl.1 rfl (Nat.le_of_ble_eq_true rfl) dX3_take_45 (fun H locs hI => ?_)
      exact tf_iret hx hb hr hI h dX3_take_48 hlocks
    replace h := tf_neg c6 h
    refine lv_iconst (v := 1) hx hb dX3_take_33 (by decide +kernel) ?_
    exact tf_iret hx hb hr hI h dX3_take_34 hlocks
  replace h := tf_neg c3 h
  refine lv_iload_n hx hb dX3_take_7 rfl (lv_at hl 2 rfl) ?_
  refine lv_iload_n hx hb dX3_take_8 rfl (lv_at hl 1 rfl) ?_
  refine lv_icmp_eq (tgt := 20) hx hb dX3_take_9 (by decide) (fun c20 => ?_) (fun c20 => ?_)
  · replace h := tf_pos c20 h
    refine lv_iconst (v := 0) hx hb dX3_take_20 (by decide +kernel) ?_
    refine lv_goto (tgt := 25) hx hb dX3_take_21 (by decide) ?_
    exact tf_iret hx hb hr hI h dX3_take_25 hlocks
  replace h := tf_neg c20 h
  refine lv_iload_n hx hb dX3_take_12 rfl (lv_at hl 2 rfl) ?_
  refine lv_iload_n hx hb dX3_take_13 rfl (lv_at hl 1 rfl) ?_
  obtain ⟨u21, q22, h⟩ := tf_gbind h
  refine tf_callSN (rest := []) ⟨hx, hb, hml, hown, hts⟩ hK hN hI (kX_X6_widens l D ad cI cZ _ _ _ _ q22) ⟨va_cnB 2 hts gX3_take_X6_widens_n74 rfl rfl rfl (hN (RX3, 74, yX6_widens, "TypeFlow") (by decide +kernel)) (hts (.initialized RX6) (by decide +kernel)) (by decide +kernel) ⟨Nat.le_of_ble_eq_true rfl, Nat.le_of_ble_eq_true rfl⟩, hts (.static yX6_widens) (by decide +kernel), trivial⟩ rfl hl.1 rfl (Nat.le_of_ble_eq_true rfl) dX3_take_14 (fun H locs hI => ?_)
  refine lv_if_eq (tgt := 24) hx hb dX3_take_17 (by decide) (fun c23 => ?_) (fun c23 => ?_)
  · replace h := tf_pos c23 h
    refine lv_iconst (v := 1) hx hb dX3_take_24 (by decide +kernel) ?_
    exact tf_iret hx hb hr hI h dX3_take_25 hlocks
  replace h := tf_neg c23 h
  refine lv_iconst (v := 0) hx hb dX3_take_20 (by decide +kernel) ?_
  refine lv_goto (tgt := 25) hx hb dX3_take_21 (by decide) ?_
  exact tf_iret hx hb hr hI h dX3_take_25 hlocks

set_option maxHeartbeats 4000000 in
set_option maxRecDepth 100000 in
theorem kX_X4_goesFor (l : Launch) (D : va_G) (ad : Nat → Nat) (cI cZ : ClassId) (σ : tf_S) (x1 x2 : Int32) (z : Int32 × tf_S) (h : fX4_goesFor σ x1 x2 = some z) : tf_C l D (tf_wx ad cI cZ) [(cI, .int), (cZ, .boolean)] tf_nest yX4_goesFor wsX4_goesFor ({ frames := 3, cells := 0, slots := 0, locals := 76 }) [.ref (ad 1), .int x1, .int x2] σ z := by
  intro sz
  refine Met.ofW (cc := cX4_goesFor) (maxL := 4) (ret := (some .int)) (by decide) rfl ?_
  intro p e s m args below meth c s₁ B hml hv
  obtain ⟨rfl, hsz, hP, hK, hN, hD0⟩ := hv
  have hx := B.exec
  have hb := B.bytes
  have hr := B.returns
  have hts := atoms_spec (ws := wsX4_goesFor) B.pre
  have hown : s.vm.findClass RX4 = some m.cls := findClass_of_methodNamed B.named
  have hlocks := B.notSynchronized
  subst hsz
  have hI := tf_start (D := D) (tf_x_ad ad cI cZ) hP hD0
  have hl := lv_entry ([.ref (ad 1), .int x1, .int x2]) (n := 4) (Nat.le_of_ble_eq_true rfl)
  rw [lg_entry_eq]
  generalize (lg_sl ([.ref (ad 1), .int x1, .int x2]) ++ List.replicate (4 - (lg_sl ([.ref (ad 1), .int x1, .int x2])).length) Slot.unset).toArray = ls at hl ⊢
  have hl : lv_has ls 4 [(0, .ref (ad 1)), (1, .int x1), (2, .int x2)] := hl
  have hn_X4 : ∀ w ∈ u_ws RX4 TX4 10, w ∈ wsX4_goesFor := by decide +kernel
  have hf_25 := hts (.fieldLink RX4 25 "TypeFlow$Types" "ofClass" "[I") (by decide +kernel)
  unfold fX4_goesFor at h
  refine lv_iload_n hx hb dX4_goesFor_0 rfl (lv_at hl 1 rfl) ?_
  refine lv_iload_n hx hb dX4_goesFor_1 rfl (lv_at hl 2 rfl) ?_
  refine lv_icmp_eq (tgt := 13) hx hb dX4_goesFor_2 (by decide) (fun c1 => ?_) (fun c1 => ?_)
  · replace h := tf_pos c1 h
    refine lv_iconst (v := 1) hx hb dX4_goesFor_13 (by decide +kernel) ?_
    exact tf_iret hx hb hr hI h dX4_goesFor_14 hlocks
  replace h := tf_neg c1 h
  refine lv_iload_n hx hb dX4_goesFor_5 rfl (lv_at hl 1 rfl) ?_
  refine lv_iload_n hx hb dX4_goesFor_6 rfl (lv_at hl 2 rfl) ?_
  obtain ⟨u2, q3, h⟩ := tf_gbind h
  refine tf_callSN (rest := []) ⟨hx, hb, hml, hown, hts⟩ hK hN hI (kX_X6_widens l D ad cI cZ _ _ _ _ q3) ⟨va_cnB 2 hts gX4_goesFor_X6_widens_n78 rfl rfl rfl (hN (RX4, 78, yX6_widens, "TypeFlow") (by decide +kernel)) (hts (.initialized RX6) (by decide +kernel)) (by decide +kernel) ⟨Nat.le_of_ble_eq_true rfl, Nat.le_of_ble_eq_true rfl⟩, hts (.static yX6_widens) (by decide +kernel), trivial⟩ rfl hl.1 rfl (Nat.le_of_ble_eq_true rfl) dX4_goesFor_7 (fun H locs hI => ?_)
  refine lv_if_eq (tgt := 15) hx hb dX4_goesFor_10 (by decide) (fun c4 => ?_) (fun c4 => ?_)
  · replace h := tf_pos c4 h
    refine lv_iload_n hx hb dX4_goesFor_15 rfl (lv_at hl 1 rfl) ?_
    obtain ⟨u5, q6, h⟩ := tf_gbind h
    refine tf_callSN (rest := []) ⟨hx, hb, hml, hown, hts⟩ hK hN hI (kX_X6_isPrimitive l D ad cI cZ _ _ _ q6) ⟨va_cnB 1 hts gX4_goesFor_X6_isPrimitive_n81 rfl rfl rfl (hN (RX4, 81, yX6_isPrimitive, "TypeFlow") (by decide +kernel)) (hts (.initialized RX6) (by decide +kernel)) (by decide +kernel) ⟨Nat.le_of_ble_eq_true rfl, Nat.le_of_ble_eq_true rfl⟩, hts (.static yX6_isPrimitive) (by decide +kernel), trivial⟩ rfl hl.1 rfl (Nat.le_of_ble_eq_true rfl) dX4_goesFor_16 (fun H locs hI => ?_)
    refine lv_if_ne (tgt := 29) hx hb dX4_goesFor_19 (by decide) (fun c7 => ?_) (fun c7 => ?_)
    · replace h := tf_neg c7 h
      refine lv_iconst (v := 0) hx hb dX4_goesFor_29 (by decide +kernel) ?_
      exact tf_iret hx hb hr hI h dX4_goesFor_30 hlocks
    replace h := tf_pos c7 h
    refine lv_iload_n hx hb dX4_goesFor_22 rfl (lv_at hl 2 rfl) ?_
    obtain ⟨u8, q9, h⟩ := tf_gbind h
    refine tf_callSN (rest := []) ⟨hx, hb, hml, hown, hts⟩ hK hN hI (kX_X6_isPrimitive l D ad cI cZ _ _ _ q9) ⟨va_cnB 1 hts gX4_goesFor_X6_isPrimitive_n81 rfl rfl rfl (hN (RX4, 81, yX6_isPrimitive, "TypeFlow") (by decide +kernel)) (hts (.initialized RX6) (by decide +kernel)) (by decide +kernel) ⟨Nat.le_of_ble_eq_true rfl, Nat.le_of_ble_eq_true rfl⟩, hts (.static yX6_isPrimitive) (by decide +kernel), trivial⟩ rfl hl.1 rfl (Nat.le_of_ble_eq_true rfl) dX4_goesFor_23 (fun H locs hI => ?_)
    refine lv_if_eq (tgt := 31) hx hb dX4_goesFor_26 (by decide) (fun c10 => ?_) (fun c10 => ?_)
    · replace h := tf_pos c10 h
      refine lv_aload_n hx hb dX4_goesFor_31 rfl (lv_at hl 0 rfl) ?_
      refine lv_iload_n hx hb dX4_goesFor_32 rfl (lv_at hl 1 rfl) ?_
      refine lv_aload_n hx hb dX4_goesFor_33 rfl (lv_at hl 0 rfl) ?_
      refine tf_get (C := RX4) (T := TX4) (N := 10) hx hb hts hn_X4 hown hK hI 1 (tf_xat_1 ad cI cZ _) rfl 4 (by decide) hf_25 rfl rfl dX4_goesFor_34 ?_
      refine lv_iload_n hx hb dX4_goesFor_37 rfl (lv_at hl 2 rfl) ?_
      obtain ⟨b11, h⟩ := tf_gin h
      refine va_iald hx hb hK hI.1 9 0 (tf_xat_9 ad cI cZ _) rfl b11 dX4_goesFor_38 ?_
      obtain ⟨u12, q13, h⟩ := tf_gbind h
      refine tf_callV (rest := []) ⟨hx, hb, hml, hown, hts⟩ hK hN hI (kX_X4_seenAs l D ad cI cZ _ _ _ _ q13) (cwV 2 hts gX4_goesFor_X4_seenAs rfl rfl rfl (by decide +kernel) ⟨Nat.le_of_ble_eq_true rfl, Nat.le_of_ble_eq_true rfl⟩) 1 4 (tf_xat_1 ad cI cZ _) rfl rfl hl.1 rfl (Nat.le_of_ble_eq_true rfl) dX4_goesFor_39 (fun H locs hI => ?_)
      obtain ⟨v14, ev14, h⟩ := tf_glet h
      refine tf_top ev14 ?_
      refine lv_istore_n (lv' := [(3, .int v14), (0, .ref (ad 1)), (1, .int x1), (2, .int x2)]) hx hb dX4_goesFor_42 rfl hl (by decide) rfl (fun ls hl => ?_)
      refine lv_iload_n hx hb dX4_goesFor_43 rfl (lv_at hl 0 rfl) ?_
      refine lv_bipush (v := -3) hx hb dX4_goesFor_44 (by decide +kernel) ?_
      refine lv_icmp_ne (tgt := 52) hx hb dX4_goesFor_46 (by decide) (fun c15 => ?_) (fun c15 => ?_)
      · replace h := tf_neg c15 h
        refine lv_iload_n hx hb dX4_goesFor_52 rfl (lv_at hl 0 rfl) ?_
        refine lv_iload_n hx hb dX4_goesFor_53 rfl (lv_at hl 3 rfl) ?_
        refine lv_icmp_ne (tgt := 61) hx hb dX4_goesFor_54 (by decide) (fun c16 => ?_) (fun c16 => ?_)
        · replace h := tf_neg c16 h
          refine lv_iconst (v := 0) hx hb dX4_goesFor_61 (by decide +kernel) ?_
          exact tf_iret hx hb hr hI h dX4_goesFor_62 hlocks
        replace h := tf_pos c16 h
        refine lv_iconst (v := 1) hx hb dX4_goesFor_57 (by decide +kernel) ?_
        refine lv_goto (tgt := 62) hx hb dX4_goesFor_58 (by decide) ?_
        exact tf_iret hx hb hr hI h dX4_goesFor_62 hlocks
      replace h := tf_pos c15 h
      refine lv_bipush (v := -3) hx hb dX4_goesFor_49 (by decide +kernel) ?_
      exact tf_iret hx hb hr hI h dX4_goesFor_51 hlocks
    replace h := tf_neg c10 h
    refine lv_iconst (v := 0) hx hb dX4_goesFor_29 (by decide +kernel) ?_
    exact tf_iret hx hb hr hI h dX4_goesFor_30 hlocks
  replace h := tf_neg c4 h
  refine lv_iconst (v := 1) hx hb dX4_goesFor_13 (by decide +kernel) ?_
  exact tf_iret hx hb hr hI h dX4_goesFor_14 hlocks
end
section
set_option maxHeartbeats 4000000 in
set_option maxRecDepth 100000 in
theorem kX_X3_lookAtBounds (l : Launch) (D : va_G) (ad : Nat → Nat) (cI cZ : ClassId) (σ : tf_S) (x1 : Int32) (z : Int32 × tf_S) (h : fX3_lookAtBounds σ x1 = some z) : tf_C l D (tf_wx ad cI cZ) [(cI, .int), (cZ, .boolean)] tf_nest yX3_lookAtBounds wsX3_lookAtBounds ({ frames := 4, cells := 0, slots := 0, locals := 99 }) [.ref (ad 6), .int x1] σ z := by
  intro sz
  refine Met.ofW (cc := cX3_lookAtBounds) (maxL := 5) (ret := (some .int)) (by decide) rfl ?_
  intro p e s m args below meth c s₁ B hml hv
  obtain ⟨rfl, hsz, hP, hK, hN, hD0⟩ := hv
  have hx := B.exec
  have hb := B.bytes
  have hr := B.returns
  have hts := atoms_spec (ws := wsX3_lookAtBounds) B.pre
  have hown : s.vm.findClass RX3 = some m.cls := findClass_of_methodNamed B.named
  have hlocks := B.notSynchronized
  subst hsz
  have hI := tf_start (D := D) (tf_x_ad ad cI cZ) hP hD0
  have hl := lv_entry ([.ref (ad 6), .int x1]) (n := 5) (Nat.le_of_ble_eq_true rfl)
  rw [lg_entry_eq]
  generalize (lg_sl ([.ref (ad 6), .int x1]) ++ List.replicate (5 - (lg_sl ([.ref (ad 6), .int x1])).length) Slot.unset).toArray = ls at hl ⊢
  have hl : lv_has ls 5 [(0, .ref (ad 6)), (1, .int x1)] := hl
  have hn_X0 : ∀ w ∈ u_ws RX0 TX0 5, w ∈ wsX3_lookAtBounds := by decide +kernel
  have hn_X3 : ∀ w ∈ u_ws RX3 TX3 7, w ∈ wsX3_lookAtBounds := by decide +kernel
  have hf_9 := hts (.fieldLink RX3 9 "TypeFlow$Putting" "bound" "[I") (by decide +kernel)
  have hf_28 := hts (.fieldLink RX3 28 "TypeFlow$Putting" "types" "LTypeFlow$Types;") (by decide +kernel)
  have hf_32 := hts (.fieldLink RX3 32 "TypeFlow$Putting" "functions" "LTypeFlow$Functions;") (by decide +kernel)
  have hf_98 := hts (.fieldLink RX3 98 "TypeFlow$Functions" "bounds" "[I") (by decide +kernel)
  have j2 : ∀ n : Nat, ∀ (σ : tf_S) (y2 : Int32) (H : Heap) (locs : List Loc) (ls : Array Slot), fX3_lookAtBounds_2 x1 n σ y2 = some z → tf_I D (tf_wx ad cI cZ) s.heap σ H locs → lv_has ls 5 [(0, .ref (ad 6)), (1, .int x1), (2, .int y2)] → W p l e (headSpec wsX3_lookAtBounds ({ frames := 4, cells := 0, slots := 0, locals := 99 })).room s m ([.ref (ad 6), .int x1] : List Value).toArray below meth c H locs 0 0 (tf_Q below D (tf_wx ad cI cZ) z ([.ref (ad 6), .int x1] : List Value).toArray s) (F0 m 2 ls []) := by
    intro n
    induction n with
    | zero =>
      intro σ y2 H locs ls h
      rw [fX3_lookAtBounds_2] at h
      cases h
    | succ n ih =>
      intro σ y2 H locs ls h hI hl
      rw [fX3_lookAtBounds_2] at h
      refine lv_iload_n hx hb dX3_lookAtBounds_2 rfl (lv_at hl 2 rfl) ?_
      refine lv_iconst (v := 2) hx hb dX3_lookAtBounds_3 (by decide +kernel) ?_
      refine lv_icmp_ge (tgt := 78) hx hb dX3_lookAtBounds_4 (by decide) (fun c1 => ?_) (fun c1 => ?_)
      · replace h := tf_pos c1 h
        refine lv_iconst (v := 0) hx hb dX3_lookAtBounds_78 (by decide +kernel) ?_
        exact tf_iret hx hb hr hI h dX3_lookAtBounds_79 hlocks
      replace h := tf_neg c1 h
      refine lv_aload_n hx hb dX3_lookAtBounds_7 rfl (lv_at hl 0 rfl) ?_
      refine tf_get (C := RX3) (T := TX3) (N := 7) hx hb hts hn_X3 hown hK hI 6 (tf_xat_6 ad cI cZ _) rfl 1 (by decide) hf_32 rfl rfl dX3_lookAtBounds_8 ?_
      refine tf_get (C := RX0) (T := TX0) (N := 5) hx hb hts hn_X0 hown hK hI 3 (tf_xat_3 ad cI cZ _) rfl 4 (by decide) hf_98 rfl rfl dX3_lookAtBounds_11 ?_
      refine lv_iload_n hx hb dX3_lookAtBounds_14 rfl (lv_at hl 1 rfl) ?_
      refine lv_iconst (v := 2) hx hb dX3_lookAtBounds_15 (by decide +kernel) ?_
      refine lv_imul hx hb dX3_lookAtBounds_16 ?_
      refine lv_iload_n hx hb dX3_lookAtBounds_17 rfl (lv_at hl 2 rfl) ?_
      refine lv_iadd hx hb dX3_lookAtBounds_18 ?_
      obtain ⟨b2, h⟩ := tf_gin h
      refine va_iald hx hb hK hI.1 20 0 (tf_xat_20 ad cI cZ _) rfl b2 dX3_lookAtBounds_19 ?_
      obtain ⟨v3, ev3, h⟩ := tf_glet h
      refine tf_top ev3 ?_
      refine lv_istore_n (lv' := [(3, .int v3), (0, .ref (ad 6)), (1, .int x1), (2, .int y2)]) hx hb dX3_lookAtBounds_20 rfl hl (by decide) rfl (fun ls hl => ?_)
      refine lv_aload_n hx hb dX3_lookAtBounds_21 rfl (lv_at hl 1 rfl) ?_
      refine tf_get (C := RX3) (T := TX3) (N := 7) hx hb hts hn_X3 hown hK hI 6 (tf_xat_6 ad cI cZ _) rfl 2 (by decide) hf_9 rfl rfl dX3_lookAtBounds_22 ?_
      refine lv_iload_n hx hb dX3_lookAtBounds_25 rfl (lv_at hl 3 rfl) ?_
      obtain ⟨b4, h⟩ := tf_gin h
      refine va_iald hx hb hK hI.1 31 0 (tf_xat_31 ad cI cZ _) rfl b4 dX3_lookAtBounds_26 ?_
      refine lv_iconst (v := -1) hx hb dX3_lookAtBounds_27 (by decide +kernel) ?_
      refine lv_icmp_eq (tgt := 72) hx hb dX3_lookAtBounds_28 (by decide) (fun c5 => ?_) (fun c5 => ?_)
      · replace h := tf_pos c5 h
        obtain ⟨v6, ev6, h⟩ := tf_glet h
        refine lv_iinc (v := v6) (lv' := [(2, .int v6), (3, .int v3), (0, .ref (ad 6)), (1, .int x1)]) hx hb dX3_lookAtBounds_72 hl (k := 3) rfl (by rw [ev6]; rfl) (by decide) rfl (fun ls hl => ?_)
        refine lv_goto (tgt := 2) hx hb dX3_lookAtBounds_75 (by decide) ?_
        exact ih _ _ _ _ _ h hI (lv_sub hl [2, 3, 0] rfl)
      replace h := tf_neg c5 h
      refine lv_iload_n hx hb dX3_lookAtBounds_31 rfl (lv_at hl 0 rfl) ?_
      refine lv_iconst (v := -1) hx hb dX3_lookAtBounds_32 (by decide +kernel) ?_
      refine lv_icmp_eq (tgt := 72) hx hb dX3_lookAtBounds_33 (by decide) (fun c7 => ?_) (fun c7 => ?_)
      · replace h := tf_pos c7 h
        obtain ⟨v8, ev8, h⟩ := tf_glet h
        refine lv_iinc (v := v8) (lv' := [(2, .int v8), (3, .int v3), (0, .ref (ad 6)), (1, .int x1)]) hx hb dX3_lookAtBounds_72 hl (k := 3) rfl (by rw [ev8]; rfl) (by decide) rfl (fun ls hl => ?_)
        refine lv_goto (tgt := 2) hx hb dX3_lookAtBounds_75 (by decide) ?_
        exact ih _ _ _ _ _ h hI (lv_sub hl [2, 3, 0] rfl)
      replace h := tf_neg c7 h
      refine lv_aload_n hx hb dX3_lookAtBounds_36 rfl (lv_at hl 1 rfl) ?_
      refine tf_get (C := RX3) (T := TX3) (N := 7) hx hb hts hn_X3 hown hK hI 6 (tf_xat_6 ad cI cZ _) rfl 0 (by decide) hf_28 rfl rfl dX3_lookAtBounds_37 ?_
      refine lv_aload_n hx hb dX3_lookAtBounds_40 rfl (lv_at hl 1 rfl) ?_
      refine tf_get (C := RX3) (T := TX3) (N := 7) hx hb hts hn_X3 hown hK hI 6 (tf_xat_6 ad cI cZ _) rfl 2 (by decide) hf_9 rfl rfl dX3_lookAtBounds_41 ?_
      refine lv_iload_n hx hb dX3_lookAtBounds_44 rfl (lv_at hl 3 rfl) ?_
      obtain ⟨b9, h⟩ := tf_gin h
      refine va_iald hx hb hK hI.1 31 0 (tf_xat_31 ad cI cZ _) rfl b9 dX3_lookAtBounds_45 ?_
      refine lv_iload_n hx hb dX3_lookAtBounds_46 rfl (lv_at hl 0 rfl) ?_
      obtain ⟨u10, q11, h⟩ := tf_gbind h
      refine tf_callV (rest := []) ⟨hx, hb, hml, hown, hts⟩ hK hN hI (kX_X4_goesFor l D ad cI cZ _ _ _ _ q11) (cwV 2 hts gX3_lookAtBounds_X4_goesFor rfl rfl rfl (by decide +kernel) ⟨Nat.le_of_ble_eq_true rfl, Nat.le_of_ble_eq_true rfl⟩) 1 4 (tf_xat_1 ad cI cZ _) rfl rfl hl.1 rfl (Nat.le_of_ble_eq_true rfl) dX3_lookAtBounds_47 (fun H locs hI => ?_)
      obtain ⟨v12, ev12, h⟩ := tf_glet h
      refine tf_top ev12 ?_
      refine lv_istore (lv' := [(4, .int v12), (3, .int v3), (0, .ref (ad 6)), (1, .int x1), (2, .int y2)]) hx hb dX3_lookAtBounds_50 hl (by decide) rfl (fun ls hl => ?_)
      refine lv_iload hx hb dX3_lookAtBounds_52 (lv_at hl 0 rfl) ?_
      refine lv_iconst (v := 1) hx hb dX3_lookAtBounds_54 (by decide +kernel) ?_
      refine lv_icmp_eq (tgt := 72) hx hb dX3_lookAtBounds_55 (by decide) (fun c13 => ?_) (fun c13 => ?_)
      · replace h := tf_pos c13 h
        obtain ⟨v14, ev14, h⟩ := tf_glet h
        refine lv_iinc (v := v14) (lv' := [(2, .int v14), (4, .int v12), (3, .int v3), (0, .ref (ad 6)), (1, .int x1)]) hx hb dX3_lookAtBounds_72 hl (k := 4) rfl (by rw [ev14]; rfl) (by decide) rfl (fun ls hl => ?_)
        refine lv_goto (tgt := 2) hx hb dX3_lookAtBounds_75 (by decide) ?_
        exact ih _ _ _ _ _ h hI (lv_sub hl [3, 4, 0] rfl)
      replace h := tf_neg c13 h
      refine lv_iload hx hb dX3_lookAtBounds_58 (lv_at hl 0 rfl) ?_
      refine lv_bipush (v := -3) hx hb dX3_lookAtBounds_60 (by decide +kernel) ?_
      refine lv_icmp_ne (tgt := 70) hx hb dX3_lookAtBounds_62 (by decide) (fun c15 => ?_) (fun c15 => ?_)
      · replace h := tf_neg c15 h
        refine lv_iconst (v := 3) hx hb dX3_lookAtBounds_70 (by decide +kernel) ?_
        exact tf_iret hx hb hr hI h dX3_lookAtBounds_71 hlocks
      replace h := tf_pos c15 h
      refine lv_bipush (v := 8) hx hb dX3_lookAtBounds_65 (by decide +kernel) ?_
      refine lv_goto (tgt := 71) hx hb dX3_lookAtBounds_67 (by decide) ?_
      exact tf_iret hx hb hr hI h dX3_lookAtBounds_71 hlocks
  unfold fX3_lookAtBounds at h
  refine lv_iconst (v := 0) hx hb dX3_lookAtBounds_0 (by decide +kernel) ?_
  refine lv_istore_n (lv' := [(2, .int (0 : Int32)), (0, .ref (ad 6)), (1, .int x1)]) hx hb dX3_lookAtBounds_1 rfl hl (by decide) rfl (fun ls hl => ?_)
  exact j2  _ _ _ _ _ _ h hI (lv_sub hl [1, 2, 0] rfl)

set_option maxHeartbeats 4000000 in
set_option maxRecDepth 100000 in
theorem kX_X3_isBoundWithin (l : Launch) (D : va_G) (ad : Nat → Nat) (cI cZ : ClassId) (σ : tf_S) (x1 : Int32) (z : Int32 × tf_S) (h : fX3_isBoundWithin σ x1 = some z) : tf_C l D (tf_wx ad cI cZ) [(cI, .int), (cZ, .boolean)] tf_nest yX3_isBoundWithin wsX3_isBoundWithin ({ frames := 0, cells := 0, slots := 0, locals := 0 }) [.ref (ad 6), .int x1] σ z := by
  intro sz
  refine Met.ofW (cc := cX3_isBoundWithin) (maxL := 3) (ret := (some .boolean)) (by decide) rfl ?_
  intro p e s m args below meth c s₁ B hml hv
  obtain ⟨rfl, hsz, hP, hK, hN, hD0⟩ := hv
  have hx := B.exec
  have hb := B.bytes
  have hr := B.returns
  have hts := atoms_spec (ws := wsX3_isBoundWithin) B.pre
  have hown : s.vm.findClass RX3 = some m.cls := findClass_of_methodNamed B.named
  have hlocks := B.notSynchronized
  subst hsz
  have hI := tf_start (D := D) (tf_x_ad ad cI cZ) hP hD0
  have hl := lv_entry ([.ref (ad 6), .int x1]) (n := 3) (Nat.le_of_ble_eq_true rfl)
  rw [lg_entry_eq]
  generalize (lg_sl ([.ref (ad 6), .int x1]) ++ List.replicate (3 - (lg_sl ([.ref (ad 6), .int x1])).length) Slot.unset).toArray = ls at hl ⊢
  have hl : lv_has ls 3 [(0, .ref (ad 6)), (1, .int x1)] := hl
  have hn_X3 : ∀ w ∈ u_ws RX3 TX3 7, w ∈ wsX3_isBoundWithin := by decide +kernel
  have hn_X4 : ∀ w ∈ u_ws RX4 TX4 10, w ∈ wsX3_isBoundWithin := by decide +kernel
  have hf_9 := hts (.fieldLink RX3 9 "TypeFlow$Putting" "bound" "[I") (by decide +kernel)
  have hf_28 := hts (.fieldLink RX3 28 "TypeFlow$Putting" "types" "LTypeFlow$Types;") (by decide +kernel)
  have hf_104 := hts (.fieldLink RX3 104 "TypeFlow$Types" "within" "[I") (by decide +kernel)
  have j30 : ∀ (σ : tf_S) (t0 t1 : Int32) (H : Heap) (locs : List Loc) (ls : Array Slot), fX3_isBoundWithin_30 x1 σ t0 t1 = some z → tf_I D (tf_wx ad cI cZ) s.heap σ H locs → lv_has ls 3 [(0, .ref (ad 6)), (1, .int x1)] → W p l e (headSpec wsX3_isBoundWithin ({ frames := 0, cells := 0, slots := 0, locals := 0 })).room s m ([.ref (ad 6), .int x1] : List Value).toArray below meth c H locs 0 0 (tf_Q below D (tf_wx ad cI cZ) z ([.ref (ad 6), .int x1] : List Value).toArray s) (F0 m 30 ls [.int t0, .int t1]) := by
    intro σ t0 t1 H locs ls h hI hl
    unfold fX3_isBoundWithin_30 at h
    refine lv_ior hx hb dX3_isBoundWithin_30 ?_
    obtain ⟨v5, ev5, h⟩ := tf_glet h
    refine tf_top ev5 ?_
    refine lv_istore_n (lv' := [(2, .int v5), (0, .ref (ad 6)), (1, .int x1)]) hx hb dX3_isBoundWithin_31 rfl hl (by decide) rfl (fun ls hl => ?_)
    refine lv_aload_n hx hb dX3_isBoundWithin_32 rfl (lv_at hl 1 rfl) ?_
    refine tf_get (C := RX3) (T := TX3) (N := 7) hx hb hts hn_X3 hown hK hI 6 (tf_xat_6 ad cI cZ _) rfl 0 (by decide) hf_28 rfl rfl dX3_isBoundWithin_33 ?_
    refine tf_get (C := RX4) (T := TX4) (N := 10) hx hb hts hn_X4 hown hK hI 1 (tf_xat_1 ad cI cZ _) rfl 7 (by decide) hf_104 rfl rfl dX3_isBoundWithin_36 ?_
    refine lv_iload_n hx hb dX3_isBoundWithin_39 rfl (lv_at hl 2 rfl) ?_
    obtain ⟨b6, h⟩ := tf_gin h
    refine va_iald hx hb hK hI.1 12 0 (tf_xat_12 ad cI cZ _) rfl b6 dX3_isBoundWithin_40 ?_
    refine lv_iload_n hx hb dX3_isBoundWithin_41 rfl (lv_at hl 0 rfl) ?_
    refine lv_iconst (v := -1) hx hb dX3_isBoundWithin_42 (by decide +kernel) ?_
    refine lv_ixor hx hb dX3_isBoundWithin_43 ?_
    refine lv_iand hx hb dX3_isBoundWithin_44 ?_
    refine lv_if_ne (tgt := 52) hx hb dX3_isBoundWithin_45 (by decide) (fun c7 => ?_) (fun c7 => ?_)
    · replace h := tf_neg c7 h
      refine lv_iconst (v := 0) hx hb dX3_isBoundWithin_52 (by decide +kernel) ?_
      exact tf_zret hx hb hr (Or.inl rfl) hI h dX3_isBoundWithin_53 hlocks
    replace h := tf_pos c7 h
    refine lv_iconst (v := 1) hx hb dX3_isBoundWithin_48 (by decide +kernel) ?_
    refine lv_goto (tgt := 53) hx hb dX3_isBoundWithin_49 (by decide) ?_
    exact tf_zret hx hb hr (Or.inr rfl) hI h dX3_isBoundWithin_53 hlocks
  unfold fX3_isBoundWithin at h
  refine lv_aload_n hx hb dX3_isBoundWithin_0 rfl (lv_at hl 0 rfl) ?_
  refine tf_get (C := RX3) (T := TX3) (N := 7) hx hb hts hn_X3 hown hK hI 6 (tf_xat_6 ad cI cZ _) rfl 2 (by decide) hf_9 rfl rfl dX3_isBoundWithin_1 ?_
  refine lv_iconst (v := 0) hx hb dX3_isBoundWithin_4 (by decide +kernel) ?_
  obtain ⟨b1, h⟩ := tf_gin h
  refine va_iald hx hb hK hI.1 31 0 (tf_xat_31 ad cI cZ _) rfl b1 dX3_isBoundWithin_5 ?_
  refine lv_iconst (v := -1) hx hb dX3_isBoundWithin_6 (by decide +kernel) ?_
  refine lv_icmp_ne (tgt := 14) hx hb dX3_isBoundWithin_7 (by decide) (fun c2 => ?_) (fun c2 => ?_)
  · replace h := tf_neg c2 h
    refine lv_iconst (v := 1) hx hb dX3_isBoundWithin_14 (by decide +kernel) ?_
    refine lv_aload_n hx hb dX3_isBoundWithin_15 rfl (lv_at hl 0 rfl) ?_
    refine tf_get (C := RX3) (T := TX3) (N := 7) hx hb hts hn_X3 hown hK hI 6 (tf_xat_6 ad cI cZ _) rfl 2 (by decide) hf_9 rfl rfl dX3_isBoundWithin_16 ?_
    refine lv_iconst (v := 1) hx hb dX3_isBoundWithin_19 (by decide +kernel) ?_
    obtain ⟨b3, h⟩ := tf_gin h
    refine va_iald hx hb hK hI.1 31 0 (tf_xat_31 ad cI cZ _) rfl b3 dX3_isBoundWithin_20 ?_
    refine lv_iconst (v := -1) hx hb dX3_isBoundWithin_21 (by decide +kernel) ?_
    refine lv_icmp_ne (tgt := 29) hx hb dX3_isBoundWithin_22 (by decide) (fun c4 => ?_) (fun c4 => ?_)
    · replace h := tf_neg c4 h
      refine lv_iconst (v := 2) hx hb dX3_isBoundWithin_29 (by decide +kernel) ?_
      exact j30  _ _ _ _ _ _ h hI (lv_sub hl [0, 1] rfl)
    replace h := tf_pos c4 h
    refine lv_iconst (v := 0) hx hb dX3_isBoundWithin_25 (by decide +kernel) ?_
    refine lv_goto (tgt := 30) hx hb dX3_isBoundWithin_26 (by decide) ?_
    exact j30  _ _ _ _ _ _ h hI (lv_sub hl [0, 1] rfl)
  replace h := tf_pos c2 h
  refine lv_iconst (v := 0) hx hb dX3_isBoundWithin_10 (by decide +kernel) ?_
  refine lv_goto (tgt := 15) hx hb dX3_isBoundWithin_11 (by decide) ?_
  refine lv_aload_n hx hb dX3_isBoundWithin_15 rfl (lv_at hl 0 rfl) ?_
  refine tf_get (C := RX3) (T := TX3) (N := 7) hx hb hts hn_X3 hown hK hI 6 (tf_xat_6 ad cI cZ _) rfl 2 (by decide) hf_9 rfl rfl dX3_isBoundWithin_16 ?_
  refine lv_iconst (v := 1) hx hb dX3_isBoundWithin_19 (by decide +kernel) ?_
  obtain ⟨b8, h⟩ := tf_gin h
  refine va_iald hx hb hK hI.1 31 0 (tf_xat_31 ad cI cZ _) rfl b8 dX3_isBoundWithin_20 ?_
  refine lv_iconst (v := -1) hx hb dX3_isBoundWithin_21 (by decide +kernel) ?_
  refine lv_icmp_ne (tgt := 29) hx hb dX3_isBoundWithin_22 (by decide) (fun c9 => ?_) (fun c9 => ?_)
  · replace h := tf_neg c9 h
    refine lv_iconst (v := 2) hx hb dX3_isBoundWithin_29 (by decide +kernel) ?_
    exact j30  _ _ _ _ _ _ h hI (lv_sub hl [0, 1] rfl)
  replace h := tf_pos c9 h
  refine lv_iconst (v := 0) hx hb dX3_isBoundWithin_25 (by decide +kernel) ?_
  refine lv_goto (tgt := 30) hx hb dX3_isBoundWithin_26 (by decide) ?_
  exact j30  _ _ _ _ _ _ h hI (lv_sub hl [0, 1] rfl)

set_option maxHeartbeats 4000000 in
set_option maxRecDepth 100000 in
theorem kX_X3_putTo (l : Launch) (D : va_G) (ad : Nat → Nat) (cI cZ : ClassId) (σ : tf_S) (x1 x2 x3 : Int32) (z : Int32 × tf_S) (h : fX3_putTo σ x1 x2 x3 = some z) : tf_C l D (tf_wx ad cI cZ) [(cI, .int), (cZ, .boolean)] tf_nest yX3_putTo wsX3_putTo ({ frames := 5, cells := 0, slots := 0, locals := 123 }) [.ref (ad 6), .int x1, .int x2, .int x3] σ z := by
  intro sz
  refine Met.ofW (cc := cX3_putTo) (maxL := 6) (ret := (some .int)) (by decide) rfl ?_
  intro p e s m args below meth c s₁ B hml hv
  obtain ⟨rfl, hsz, hP, hK, hN, hD0⟩ := hv
  have hx := B.exec
  have hb := B.bytes
  have hr := B.returns
  have hts := atoms_spec (ws := wsX3_putTo) B.pre
  have hown : s.vm.findClass RX3 = some m.cls := findClass_of_methodNamed B.named
  have hlocks := B.notSynchronized
  subst hsz
  have hI := tf_start (D := D) (tf_x_ad ad cI cZ) hP hD0
  have hl := lv_entry ([.ref (ad 6), .int x1, .int x2, .int x3]) (n := 6) (Nat.le_of_ble_eq_true rfl)
  rw [lg_entry_eq]
  generalize (lg_sl ([.ref (ad 6), .int x1, .int x2, .int x3]) ++ List.replicate (6 - (lg_sl ([.ref (ad 6), .int x1, .int x2, .int x3])).length) Slot.unset).toArray = ls at hl ⊢
  have hl : lv_has ls 6 [(0, .ref (ad 6)), (1, .int x1), (2, .int x2), (3, .int x3)] := hl
  have hn_X0 : ∀ w ∈ u_ws RX0 TX0 5, w ∈ wsX3_putTo := by decide +kernel
  have hn_X3 : ∀ w ∈ u_ws RX3 TX3 7, w ∈ wsX3_putTo := by decide +kernel
  have hf_9 := hts (.fieldLink RX3 9 "TypeFlow$Putting" "bound" "[I") (by decide +kernel)
  have hf_15 := hts (.fieldLink RX3 15 "TypeFlow$Putting" "fault" "I") (by decide +kernel)
  have hf_19 := hts (.fieldLink RX3 19 "TypeFlow$Putting" "alike" "[I") (by decide +kernel)
  have hf_28 := hts (.fieldLink RX3 28 "TypeFlow$Putting" "types" "LTypeFlow$Types;") (by decide +kernel)
  have hf_32 := hts (.fieldLink RX3 32 "TypeFlow$Putting" "functions" "LTypeFlow$Functions;") (by decide +kernel)
  have hf_42 := hts (.fieldLink RX3 42 "TypeFlow$Functions" "first" "[I") (by decide +kernel)
  have hf_51 := hts (.fieldLink RX3 51 "TypeFlow$Functions" "second" "[I") (by decide +kernel)
  have hf_58 := hts (.fieldLink RX3 58 "TypeFlow$Functions" "result" "[I") (by decide +kernel)
  have j112 : ∀ (σ : tf_S) (y4 : Int32) (H : Heap) (locs : List Loc) (ls : Array Slot), fX3_putTo_112 x1 x2 x3 σ y4 = some z → tf_I D (tf_wx ad cI cZ) s.heap σ H locs → lv_has ls 6 [(0, .ref (ad 6)), (4, .int y4)] → W p l e (headSpec wsX3_putTo ({ frames := 5, cells := 0, slots := 0, locals := 123 })).room s m ([.ref (ad 6), .int x1, .int x2, .int x3] : List Value).toArray below meth c H locs 0 0 (tf_Q below D (tf_wx ad cI cZ) z ([.ref (ad 6), .int x1, .int x2, .int x3] : List Value).toArray s) (F0 m 112 ls []) := by
    intro σ y4 H locs ls h hI hl
    unfold fX3_putTo_112 at h
    refine lv_aload_n hx hb dX3_putTo_112 rfl (lv_at hl 0 rfl) ?_
    refine tf_get (C := RX3) (T := TX3) (N := 7) hx hb hts hn_X3 hown hK hI 6 (tf_xat_6 ad cI cZ _) rfl 3 (by decide) hf_15 rfl rfl dX3_putTo_113 ?_
    refine lv_if_eq (tgt := 121) hx hb dX3_putTo_116 (by decide) (fun c12 => ?_) (fun c12 => ?_)
    · replace h := tf_pos c12 h
      refine lv_aload_n hx hb dX3_putTo_121 rfl (lv_at hl 0 rfl) ?_
      refine tf_get (C := RX3) (T := TX3) (N := 7) hx hb hts hn_X3 hown hK hI 6 (tf_xat_6 ad cI cZ _) rfl 0 (by decide) hf_28 rfl rfl dX3_putTo_122 ?_
      refine lv_iload hx hb dX3_putTo_125 (lv_at hl 1 rfl) ?_
      refine lv_aload_n hx hb dX3_putTo_127 rfl (lv_at hl 0 rfl) ?_
      refine tf_get (C := RX3) (T := TX3) (N := 7) hx hb hts hn_X3 hown hK hI 6 (tf_xat_6 ad cI cZ _) rfl 2 (by decide) hf_9 rfl rfl dX3_putTo_128 ?_
      refine lv_iconst (v := 0) hx hb dX3_putTo_131 (by decide +kernel) ?_
      obtain ⟨b13, h⟩ := tf_gin h
      refine va_iald hx hb hK hI.1 31 0 (tf_xat_31 ad cI cZ _) rfl b13 dX3_putTo_132 ?_
      refine lv_aload_n hx hb dX3_putTo_133 rfl (lv_at hl 0 rfl) ?_
      refine tf_get (C := RX3) (T := TX3) (N := 7) hx hb hts hn_X3 hown hK hI 6 (tf_xat_6 ad cI cZ _) rfl 2 (by decide) hf_9 rfl rfl dX3_putTo_134 ?_
      refine lv_iconst (v := 1) hx hb dX3_putTo_137 (by decide +kernel) ?_
      obtain ⟨b14, h⟩ := tf_gin h
      refine va_iald hx hb hK hI.1 31 0 (tf_xat_31 ad cI cZ _) rfl b14 dX3_putTo_138 ?_
      obtain ⟨u15, q16, h⟩ := tf_gbind h
      refine tf_callV (rest := []) ⟨hx, hb, hml, hown, hts⟩ hK hN hI (kX_X4_putIn l D ad cI cZ _ _ _ _ _ q16) (cwV 3 hts gX3_putTo_X4_putIn rfl rfl rfl (by decide +kernel) ⟨Nat.le_of_ble_eq_true rfl, Nat.le_of_ble_eq_true rfl⟩) 1 4 (tf_xat_1 ad cI cZ _) rfl rfl hl.1 rfl (Nat.le_of_ble_eq_true rfl) dX3_putTo_139 (fun H locs hI => ?_)
      obtain ⟨v17, ev17, h⟩ := tf_glet h
      refine tf_top ev17 ?_
      refine lv_istore (lv' := [(5, .int v17), (0, .ref (ad 6)), (4, .int y4)]) hx hb dX3_putTo_142 hl (by decide) rfl (fun ls hl => ?_)
      refine lv_aload_n hx hb dX3_putTo_144 rfl (lv_at hl 1 rfl) ?_
      refine lv_iload hx hb dX3_putTo_145 (lv_at hl 0 rfl) ?_
      refine lv_bipush (v := -3) hx hb dX3_putTo_147 (by decide +kernel) ?_
      refine lv_icmp_ne (tgt := 157) hx hb dX3_putTo_149 (by decide) (fun c18 => ?_) (fun c18 => ?_)
      · replace h := tf_neg c18 h
        refine lv_iconst (v := 0) hx hb dX3_putTo_157 (by decide +kernel) ?_
        obtain ⟨s19, es19, h⟩ := tf_glet h
        refine tf_put (C := RX3) (T := TX3) (N := 7) (ty := .int) hx hb hts hn_X3 tyX3 tyX3_ok nmX3 hown hK hI 6 (tf_xat_6 ad cI cZ _) rfl 3 (by decide) hf_15 rfl rfl (by decide +kernel) rfl rfl (Nat.le_of_ble_eq_true rfl) (tf_xput_6_3 ad cI cZ _ _) es19 dX3_putTo_158 (fun H locs hI => ?_)
        refine lv_iload hx hb dX3_putTo_161 (lv_at hl 0 rfl) ?_
        refine lv_bipush (v := -3) hx hb dX3_putTo_163 (by decide +kernel) ?_
        refine lv_icmp_ne (tgt := 172) hx hb dX3_putTo_165 (by decide) (fun c20 => ?_) (fun c20 => ?_)
        · replace h := tf_neg c20 h
          refine lv_iload hx hb dX3_putTo_172 (lv_at hl 0 rfl) ?_
          exact tf_iret hx hb hr hI h dX3_putTo_174 hlocks
        replace h := tf_pos c20 h
        refine lv_iconst (v := -1) hx hb dX3_putTo_168 (by decide +kernel) ?_
        refine lv_goto (tgt := 174) hx hb dX3_putTo_169 (by decide) ?_
        exact tf_iret hx hb hr hI h dX3_putTo_174 hlocks
      replace h := tf_pos c18 h
      refine lv_bipush (v := 8) hx hb dX3_putTo_152 (by decide +kernel) ?_
      refine lv_goto (tgt := 158) hx hb dX3_putTo_154 (by decide) ?_
      obtain ⟨s21, es21, h⟩ := tf_glet h
      refine tf_put (C := RX3) (T := TX3) (N := 7) (ty := .int) hx hb hts hn_X3 tyX3 tyX3_ok nmX3 hown hK hI 6 (tf_xat_6 ad cI cZ _) rfl 3 (by decide) hf_15 rfl rfl (by decide +kernel) rfl rfl (Nat.le_of_ble_eq_true rfl) (tf_xput_6_3 ad cI cZ _ _) es21 dX3_putTo_158 (fun H locs hI => ?_)
      refine lv_iload hx hb dX3_putTo_161 (lv_at hl 0 rfl) ?_
      refine lv_bipush (v := -3) hx hb dX3_putTo_163 (by decide +kernel) ?_
      refine lv_icmp_ne (tgt := 172) hx hb dX3_putTo_165 (by decide) (fun c22 => ?_) (fun c22 => ?_)
      · replace h := tf_neg c22 h
        refine lv_iload hx hb dX3_putTo_172 (lv_at hl 0 rfl) ?_
        exact tf_iret hx hb hr hI h dX3_putTo_174 hlocks
      replace h := tf_pos c22 h
      refine lv_iconst (v := -1) hx hb dX3_putTo_168 (by decide +kernel) ?_
      refine lv_goto (tgt := 174) hx hb dX3_putTo_169 (by decide) ?_
      exact tf_iret hx hb hr hI h dX3_putTo_174 hlocks
    replace h := tf_neg c12 h
    refine lv_iconst (v := -1) hx hb dX3_putTo_119 (by decide +kernel) ?_
    exact tf_iret hx hb hr hI h dX3_putTo_120 hlocks
  have j80 : ∀ (σ : tf_S) (H : Heap) (locs : List Loc) (ls : Array Slot), fX3_putTo_80 x1 x2 x3 σ = some z → tf_I D (tf_wx ad cI cZ) s.heap σ H locs → lv_has ls 6 [(0, .ref (ad 6)), (1, .int x1)] → W p l e (headSpec wsX3_putTo ({ frames := 5, cells := 0, slots := 0, locals := 123 })).room s m ([.ref (ad 6), .int x1, .int x2, .int x3] : List Value).toArray below meth c H locs 0 0 (tf_Q below D (tf_wx ad cI cZ) z ([.ref (ad 6), .int x1, .int x2, .int x3] : List Value).toArray s) (F0 m 80 ls []) := by
    intro σ H locs ls h hI hl
    unfold fX3_putTo_80 at h
    refine lv_aload_n hx hb dX3_putTo_80 rfl (lv_at hl 0 rfl) ?_
    refine tf_get (C := RX3) (T := TX3) (N := 7) hx hb hts hn_X3 hown hK hI 6 (tf_xat_6 ad cI cZ _) rfl 1 (by decide) hf_32 rfl rfl dX3_putTo_81 ?_
    refine tf_get (C := RX0) (T := TX0) (N := 5) hx hb hts hn_X0 hown hK hI 3 (tf_xat_3 ad cI cZ _) rfl 3 (by decide) hf_58 rfl rfl dX3_putTo_84 ?_
    refine lv_iload_n hx hb dX3_putTo_87 rfl (lv_at hl 1 rfl) ?_
    obtain ⟨b9, h⟩ := tf_gin h
    refine va_iald hx hb hK hI.1 19 0 (tf_xat_19 ad cI cZ _) rfl b9 dX3_putTo_88 ?_
    obtain ⟨v10, ev10, h⟩ := tf_glet h
    refine tf_top ev10 ?_
    refine lv_istore (lv' := [(4, .int v10), (0, .ref (ad 6)), (1, .int x1)]) hx hb dX3_putTo_89 hl (by decide) rfl (fun ls hl => ?_)
    refine lv_aload_n hx hb dX3_putTo_91 rfl (lv_at hl 1 rfl) ?_
    refine tf_get (C := RX3) (T := TX3) (N := 7) hx hb hts hn_X3 hown hK hI 6 (tf_xat_6 ad cI cZ _) rfl 3 (by decide) hf_15 rfl rfl dX3_putTo_92 ?_
    refine lv_if_ne (tgt := 112) hx hb dX3_putTo_95 (by decide) (fun c11 => ?_) (fun c11 => ?_)
    · replace h := tf_neg c11 h
      exact j112  _ _ _ _ _ h hI (lv_sub hl [1, 0] rfl)
    replace h := tf_pos c11 h
    refine lv_aload_n hx hb dX3_putTo_98 rfl (lv_at hl 1 rfl) ?_
    refine lv_iload hx hb dX3_putTo_99 (lv_at hl 0 rfl) ?_
    obtain ⟨u23, q24, h⟩ := tf_gbind h
    refine tf_callV (rest := []) ⟨hx, hb, hml, hown, hts⟩ hK hN hI (kX_X3_isBoundWithin l D ad cI cZ _ _ _ q24) (cwV 1 hts gX3_putTo_X3_isBoundWithin rfl rfl rfl (by decide +kernel) ⟨Nat.le_of_ble_eq_true rfl, Nat.le_of_ble_eq_true rfl⟩) 6 3 (tf_xat_6 ad cI cZ _) rfl rfl hl.1 rfl (Nat.le_of_ble_eq_true rfl) dX3_putTo_101 (fun H locs hI => ?_)
    refine lv_if_ne (tgt := 112) hx hb dX3_putTo_104 (by decide) (fun c25 => ?_) (fun c25 => ?_)
    · replace h := tf_neg c25 h
      exact j112  _ _ _ _ _ h hI (lv_sub hl [1, 0] rfl)
    replace h := tf_pos c25 h
    refine lv_aload_n hx hb dX3_putTo_107 rfl (lv_at hl 1 rfl) ?_
    refine lv_iconst (v := 4) hx hb dX3_putTo_108 (by decide +kernel) ?_
    obtain ⟨s26, es26, h⟩ := tf_glet h
    refine tf_put (C := RX3) (T := TX3) (N := 7) (ty := .int) hx hb hts hn_X3 tyX3 tyX3_ok nmX3 hown hK hI 6 (tf_xat_6 ad cI cZ _) rfl 3 (by decide) hf_15 rfl rfl (by decide +kernel) rfl rfl (Nat.le_of_ble_eq_true rfl) (tf_xput_6_3 ad cI cZ _ _) es26 dX3_putTo_109 (fun H locs hI => ?_)
    exact j112  _ _ _ _ _ h hI (lv_sub hl [1, 0] rfl)
  unfold fX3_putTo at h
  refine lv_aload_n hx hb dX3_putTo_0 rfl (lv_at hl 0 rfl) ?_
  refine tf_get (C := RX3) (T := TX3) (N := 7) hx hb hts hn_X3 hown hK hI 6 (tf_xat_6 ad cI cZ _) rfl 4 (by decide) hf_19 rfl rfl dX3_putTo_1 ?_
  refine lv_iconst (v := -1) hx hb dX3_putTo_4 (by decide +kernel) ?_
  obtain ⟨s1, es1, h⟩ := tf_glet h
  refine tf_fill (rest := []) ⟨hx, hb, hml, hown, hts⟩ hK hI 32 0 (tf_xat_32 ad cI cZ _) (tf_xset_32 ad cI cZ _) rfl (va_cwS 2 hts gX3_putTo_J7_fill_53178 rfl rfl rfl (by decide +kernel) ⟨Nat.le_of_ble_eq_true rfl, Nat.le_of_ble_eq_true rfl⟩) hl.1 (by decide) (Nat.le_of_ble_eq_true rfl) es1 dX3_putTo_5 (fun H locs hI => ?_)
  refine lv_aload_n hx hb dX3_putTo_8 rfl (lv_at hl 0 rfl) ?_
  refine tf_get (C := RX3) (T := TX3) (N := 7) hx hb hts hn_X3 hown hK hI 6 (tf_xat_6 ad cI cZ _) rfl 2 (by decide) hf_9 rfl rfl dX3_putTo_9 ?_
  refine lv_iconst (v := -1) hx hb dX3_putTo_12 (by decide +kernel) ?_
  obtain ⟨s2, es2, h⟩ := tf_glet h
  refine tf_fill (rest := []) ⟨hx, hb, hml, hown, hts⟩ hK hI 31 0 (tf_xat_31 ad cI cZ _) (tf_xset_31 ad cI cZ _) rfl (va_cwS 2 hts gX3_putTo_J7_fill_53178 rfl rfl rfl (by decide +kernel) ⟨Nat.le_of_ble_eq_true rfl, Nat.le_of_ble_eq_true rfl⟩) hl.1 (by decide) (Nat.le_of_ble_eq_true rfl) es2 dX3_putTo_13 (fun H locs hI => ?_)
  refine lv_aload_n hx hb dX3_putTo_16 rfl (lv_at hl 0 rfl) ?_
  refine lv_aload_n hx hb dX3_putTo_17 rfl (lv_at hl 0 rfl) ?_
  refine lv_aload_n hx hb dX3_putTo_18 rfl (lv_at hl 0 rfl) ?_
  refine tf_get (C := RX3) (T := TX3) (N := 7) hx hb hts hn_X3 hown hK hI 6 (tf_xat_6 ad cI cZ _) rfl 1 (by decide) hf_32 rfl rfl dX3_putTo_19 ?_
  refine tf_get (C := RX0) (T := TX0) (N := 5) hx hb hts hn_X0 hown hK hI 3 (tf_xat_3 ad cI cZ _) rfl 1 (by decide) hf_42 rfl rfl dX3_putTo_22 ?_
  refine lv_iload_n hx hb dX3_putTo_25 rfl (lv_at hl 1 rfl) ?_
  obtain ⟨b3, h⟩ := tf_gin h
  refine va_iald hx hb hK hI.1 17 0 (tf_xat_17 ad cI cZ _) rfl b3 dX3_putTo_26 ?_
  refine lv_iload_n hx hb dX3_putTo_27 rfl (lv_at hl 2 rfl) ?_
  obtain ⟨u4, q5, h⟩ := tf_gbind h
  refine tf_callV (rest := [.ref (ad 6)]) ⟨hx, hb, hml, hown, hts⟩ hK hN hI (kX_X3_take l D ad cI cZ _ _ _ _ q5) (cwV 2 hts gX3_putTo_X3_take rfl rfl rfl (by decide +kernel) ⟨Nat.le_of_ble_eq_true rfl, Nat.le_of_ble_eq_true rfl⟩) 6 3 (tf_xat_6 ad cI cZ _) rfl rfl hl.1 rfl (Nat.le_of_ble_eq_true rfl) dX3_putTo_28 (fun H locs hI => ?_)
  obtain ⟨s6, es6, h⟩ := tf_glet h
  refine tf_put (C := RX3) (T := TX3) (N := 7) (ty := .int) hx hb hts hn_X3 tyX3 tyX3_ok nmX3 hown hK hI 6 (tf_xat_6 ad cI cZ _) rfl 3 (by decide) hf_15 rfl rfl (by decide +kernel) rfl rfl (Nat.le_of_ble_eq_true rfl) (tf_xput_6_3 ad cI cZ _ _) es6 dX3_putTo_31 (fun H locs hI => ?_)
  refine lv_aload_n hx hb dX3_putTo_34 rfl (lv_at hl 0 rfl) ?_
  refine tf_get (C := RX3) (T := TX3) (N := 7) hx hb hts hn_X3 hown hK hI 6 (tf_xat_6 ad cI cZ _) rfl 3 (by decide) hf_15 rfl rfl dX3_putTo_35 ?_
  refine lv_if_ne (tgt := 64) hx hb dX3_putTo_38 (by decide) (fun c7 => ?_) (fun c7 => ?_)
  · replace h := tf_neg c7 h
    refine lv_aload_n hx hb dX3_putTo_64 rfl (lv_at hl 0 rfl) ?_
    refine tf_get (C := RX3) (T := TX3) (N := 7) hx hb hts hn_X3 hown hK hI 6 (tf_xat_6 ad cI cZ _) rfl 3 (by decide) hf_15 rfl rfl dX3_putTo_65 ?_
    refine lv_if_ne (tgt := 80) hx hb dX3_putTo_68 (by decide) (fun c8 => ?_) (fun c8 => ?_)
    · replace h := tf_neg c8 h
      exact j80  _ _ _ _ h hI (lv_sub hl [0, 1] rfl)
    replace h := tf_pos c8 h
    refine lv_aload_n hx hb dX3_putTo_71 rfl (lv_at hl 0 rfl) ?_
    refine lv_aload_n hx hb dX3_putTo_72 rfl (lv_at hl 0 rfl) ?_
    refine lv_iload_n hx hb dX3_putTo_73 rfl (lv_at hl 1 rfl) ?_
    obtain ⟨u27, q28, h⟩ := tf_gbind h
    refine tf_callV (rest := [.ref (ad 6)]) ⟨hx, hb, hml, hown, hts⟩ hK hN hI (kX_X3_lookAtBounds l D ad cI cZ _ _ _ q28) (cwV 1 hts gX3_putTo_X3_lookAtBounds rfl rfl rfl (by decide +kernel) ⟨Nat.le_of_ble_eq_true rfl, Nat.le_of_ble_eq_true rfl⟩) 6 3 (tf_xat_6 ad cI cZ _) rfl rfl hl.1 rfl (Nat.le_of_ble_eq_true rfl) dX3_putTo_74 (fun H locs hI => ?_)
    obtain ⟨s29, es29, h⟩ := tf_glet h
    refine tf_put (C := RX3) (T := TX3) (N := 7) (ty := .int) hx hb hts hn_X3 tyX3 tyX3_ok nmX3 hown hK hI 6 (tf_xat_6 ad cI cZ _) rfl 3 (by decide) hf_15 rfl rfl (by decide +kernel) rfl rfl (Nat.le_of_ble_eq_true rfl) (tf_xput_6_3 ad cI cZ _ _) es29 dX3_putTo_77 (fun H locs hI => ?_)
    exact j80  _ _ _ _ h hI (lv_sub hl [0, 1] rfl)
  replace h := tf_pos c7 h
  refine lv_iload_n hx hb dX3_putTo_41 rfl (lv_at hl 3 rfl) ?_
  refine lv_iconst (v := -1) hx hb dX3_putTo_42 (by decide +kernel) ?_
  refine lv_icmp_eq (tgt := 64) hx hb dX3_putTo_43 (by decide) (fun c30 => ?_) (fun c30 => ?_)
  · replace h := tf_pos c30 h
    refine lv_aload_n hx hb dX3_putTo_64 rfl (lv_at hl 0 rfl) ?_
    refine tf_get (C := RX3) (T := TX3) (N := 7) hx hb hts hn_X3 hown hK hI 6 (tf_xat_6 ad cI cZ _) rfl 3 (by decide) hf_15 rfl rfl dX3_putTo_65 ?_
    refine lv_if_ne (tgt := 80) hx hb dX3_putTo_68 (by decide) (fun c31 => ?_) (fun c31 => ?_)
    · replace h := tf_neg c31 h
      exact j80  _ _ _ _ h hI (lv_sub hl [0, 1] rfl)
    replace h := tf_pos c31 h
    refine lv_aload_n hx hb dX3_putTo_71 rfl (lv_at hl 0 rfl) ?_
    refine lv_aload_n hx hb dX3_putTo_72 rfl (lv_at hl 0 rfl) ?_
    refine lv_iload_n hx hb dX3_putTo_73 rfl (lv_at hl 1 rfl) ?_
    obtain ⟨u32, q33, h⟩ := tf_gbind h
    refine tf_callV (rest := [.ref (ad 6)]) ⟨hx, hb, hml, hown, hts⟩ hK hN hI (kX_X3_lookAtBounds l D ad cI cZ _ _ _ q33) (cwV 1 hts gX3_putTo_X3_lookAtBounds rfl rfl rfl (by decide +kernel) ⟨Nat.le_of_ble_eq_true rfl, Nat.le_of_ble_eq_true rfl⟩) 6 3 (tf_xat_6 ad cI cZ _) rfl rfl hl.1 rfl (Nat.le_of_ble_eq_true rfl) dX3_putTo_74 (fun H locs hI => ?_)
    obtain ⟨s34, es34, h⟩ := tf_glet h
    refine tf_put (C := RX3) (T := TX3) (N := 7) (ty := .int) hx hb hts hn_X3 tyX3 tyX3_ok nmX3 hown hK hI 6 (tf_xat_6 ad cI cZ _) rfl 3 (by decide) hf_15 rfl rfl (by decide +kernel) rfl rfl (Nat.le_of_ble_eq_true rfl) (tf_xput_6_3 ad cI cZ _ _) es34 dX3_putTo_77 (fun H locs hI => ?_)
    exact j80  _ _ _ _ h hI (lv_sub hl [0, 1] rfl)
  replace h := tf_neg c30 h
  refine lv_aload_n hx hb dX3_putTo_46 rfl (lv_at hl 0 rfl) ?_
  refine lv_aload_n hx hb dX3_putTo_47 rfl (lv_at hl 0 rfl) ?_
  refine lv_aload_n hx hb dX3_putTo_48 rfl (lv_at hl 0 rfl) ?_
  refine tf_get (C := RX3) (T := TX3) (N := 7) hx hb hts hn_X3 hown hK hI 6 (tf_xat_6 ad cI cZ _) rfl 1 (by decide) hf_32 rfl rfl dX3_putTo_49 ?_
  refine tf_get (C := RX0) (T := TX0) (N := 5) hx hb hts hn_X0 hown hK hI 3 (tf_xat_3 ad cI cZ _) rfl 2 (by decide) hf_51 rfl rfl dX3_putTo_52 ?_
  refine lv_iload_n hx hb dX3_putTo_55 rfl (lv_at hl 1 rfl) ?_
  obtain ⟨b35, h⟩ := tf_gin h
  refine va_iald hx hb hK hI.1 18 0 (tf_xat_18 ad cI cZ _) rfl b35 dX3_putTo_56 ?_
  refine lv_iload_n hx hb dX3_putTo_57 rfl (lv_at hl 3 rfl) ?_
  obtain ⟨u36, q37, h⟩ := tf_gbind h
  refine tf_callV (rest := [.ref (ad 6)]) ⟨hx, hb, hml, hown, hts⟩ hK hN hI (kX_X3_take l D ad cI cZ _ _ _ _ q37) (cwV 2 hts gX3_putTo_X3_take rfl rfl rfl (by decide +kernel) ⟨Nat.le_of_ble_eq_true rfl, Nat.le_of_ble_eq_true rfl⟩) 6 3 (tf_xat_6 ad cI cZ _) rfl rfl hl.1 rfl (Nat.le_of_ble_eq_true rfl) dX3_putTo_58 (fun H locs hI => ?_)
  obtain ⟨s38, es38, h⟩ := tf_glet h
  refine tf_put (C := RX3) (T := TX3) (N := 7) (ty := .int) hx hb hts hn_X3 tyX3 tyX3_ok nmX3 hown hK hI 6 (tf_xat_6 ad cI cZ _) rfl 3 (by decide) hf_15 rfl rfl (by decide +kernel) rfl rfl (Nat.le_of_ble_eq_true rfl) (tf_xput_6_3 ad cI cZ _ _) es38 dX3_putTo_61 (fun H locs hI => ?_)
  refine lv_aload_n hx hb dX3_putTo_64 rfl (lv_at hl 0 rfl) ?_
  refine tf_get (C := RX3) (T := TX3) (N := 7) hx hb hts hn_X3 hown hK hI 6 (tf_xat_6 ad cI cZ _) rfl 3 (by decide) hf_15 rfl rfl dX3_putTo_65 ?_
  refine lv_if_ne (tgt := 80) hx hb dX3_putTo_68 (by decide) (fun c39 => ?_) (fun c39 => ?_)
  · replace h := tf_neg c39 h
    exact j80  _ _ _ _ h hI (lv_sub hl [0, 1] rfl)
  replace h := tf_pos c39 h
  refine lv_aload_n hx hb dX3_putTo_71 rfl (lv_at hl 0 rfl) ?_
  refine lv_aload_n hx hb dX3_putTo_72 rfl (lv_at hl 0 rfl) ?_
  refine lv_iload_n hx hb dX3_putTo_73 rfl (lv_at hl 1 rfl) ?_
  obtain ⟨u40, q41, h⟩ := tf_gbind h
  refine tf_callV (rest := [.ref (ad 6)]) ⟨hx, hb, hml, hown, hts⟩ hK hN hI (kX_X3_lookAtBounds l D ad cI cZ _ _ _ q41) (cwV 1 hts gX3_putTo_X3_lookAtBounds rfl rfl rfl (by decide +kernel) ⟨Nat.le_of_ble_eq_true rfl, Nat.le_of_ble_eq_true rfl⟩) 6 3 (tf_xat_6 ad cI cZ _) rfl rfl hl.1 rfl (Nat.le_of_ble_eq_true rfl) dX3_putTo_74 (fun H locs hI => ?_)
  obtain ⟨s42, es42, h⟩ := tf_glet h
  refine tf_put (C := RX3) (T := TX3) (N := 7) (ty := .int) hx hb hts hn_X3 tyX3 tyX3_ok nmX3 hown hK hI 6 (tf_xat_6 ad cI cZ _) rfl 3 (by decide) hf_15 rfl rfl (by decide +kernel) rfl rfl (Nat.le_of_ble_eq_true rfl) (tf_xput_6_3 ad cI cZ _ _) es42 dX3_putTo_77 (fun H locs hI => ?_)
  exact j80  _ _ _ _ h hI (lv_sub hl [0, 1] rfl)

set_option maxHeartbeats 4000000 in
set_option maxRecDepth 100000 in
theorem kX_X4_isClass (l : Launch) (D : va_G) (ad : Nat → Nat) (cI cZ : ClassId) (σ : tf_S) (x1 : Int32) (z : Int32 × tf_S) (h : fX4_isClass σ x1 = some z) : tf_C l D (tf_wx ad cI cZ) [(cI, .int), (cZ, .boolean)] tf_nest yX4_isClass wsX4_isClass ({ frames := 0, cells := 0, slots := 0, locals := 0 }) [.ref (ad 1), .int x1] σ z := by
  intro sz
  refine Met.ofW (cc := cX4_isClass) (maxL := 2) (ret := (some .boolean)) (by decide) rfl ?_
  intro p e s m args below meth c s₁ B hml hv
  obtain ⟨rfl, hsz, hP, hK, hN, hD0⟩ := hv
  have hx := B.exec
  have hb := B.bytes
  have hr := B.returns
  have hts := atoms_spec (ws := wsX4_isClass) B.pre
  have hown : s.vm.findClass RX4 = some m.cls := findClass_of_methodNamed B.named
  have hlocks := B.notSynchronized
  subst hsz
  have hI := tf_start (D := D) (tf_x_ad ad cI cZ) hP hD0
  have hl := lv_entry ([.ref (ad 1), .int x1]) (n := 2) (Nat.le_of_ble_eq_true rfl)
  rw [lg_entry_eq]
  generalize (lg_sl ([.ref (ad 1), .int x1]) ++ List.replicate (2 - (lg_sl ([.ref (ad 1), .int x1])).length) Slot.unset).toArray = ls at hl ⊢
  have hl : lv_has ls 2 [(0, .ref (ad 1)), (1, .int x1)] := hl
  have hn_X4 : ∀ w ∈ u_ws RX4 TX4 10, w ∈ wsX4_isClass := by decide +kernel
  have hf_9 := hts (.fieldLink RX4 9 "TypeFlow$Types" "classes" "I") (by decide +kernel)
  unfold fX4_isClass at h
  refine lv_iload_n hx hb dX4_isClass_0 rfl (lv_at hl 1 rfl) ?_
  refine lv_if_lt (tgt := 16) hx hb dX4_isClass_1 (by decide) (fun c1 => ?_) (fun c1 => ?_)
  · replace h := tf_pos c1 h
    refine lv_iconst (v := 0) hx hb dX4_isClass_16 (by decide +kernel) ?_
    exact tf_zret hx hb hr (Or.inl rfl) hI h dX4_isClass_17 hlocks
  replace h := tf_neg c1 h
  refine lv_iload_n hx hb dX4_isClass_4 rfl (lv_at hl 1 rfl) ?_
  refine lv_aload_n hx hb dX4_isClass_5 rfl (lv_at hl 0 rfl) ?_
  refine tf_get (C := RX4) (T := TX4) (N := 10) hx hb hts hn_X4 hown hK hI 1 (tf_xat_1 ad cI cZ _) rfl 0 (by decide) hf_9 rfl rfl dX4_isClass_6 ?_
  refine lv_icmp_ge (tgt := 16) hx hb dX4_isClass_9 (by decide) (fun c2 => ?_) (fun c2 => ?_)
  · replace h := tf_pos c2 h
    refine lv_iconst (v := 0) hx hb dX4_isClass_16 (by decide +kernel) ?_
    exact tf_zret hx hb hr (Or.inl rfl) hI h dX4_isClass_17 hlocks
  replace h := tf_neg c2 h
  refine lv_iconst (v := 1) hx hb dX4_isClass_12 (by decide +kernel) ?_
  refine lv_goto (tgt := 17) hx hb dX4_isClass_13 (by decide) ?_
  exact tf_zret hx hb hr (Or.inr rfl) hI h dX4_isClass_17 hlocks

set_option maxHeartbeats 4000000 in
set_option maxRecDepth 100000 in
theorem kX_X4_isType (l : Launch) (D : va_G) (ad : Nat → Nat) (cI cZ : ClassId) (σ : tf_S) (x1 : Int32) (z : Int32 × tf_S) (h : fX4_isType σ x1 = some z) : tf_C l D (tf_wx ad cI cZ) [(cI, .int), (cZ, .boolean)] tf_nest yX4_isType wsX4_isType ({ frames := 0, cells := 0, slots := 0, locals := 0 }) [.ref (ad 1), .int x1] σ z := by
  intro sz
  refine Met.ofW (cc := cX4_isType) (maxL := 2) (ret := (some .boolean)) (by decide) rfl ?_
  intro p e s m args below meth c s₁ B hml hv
  obtain ⟨rfl, hsz, hP, hK, hN, hD0⟩ := hv
  have hx := B.exec
  have hb := B.bytes
  have hr := B.returns
  have hts := atoms_spec (ws := wsX4_isType) B.pre
  have hown : s.vm.findClass RX4 = some m.cls := findClass_of_methodNamed B.named
  have hlocks := B.notSynchronized
  subst hsz
  have hI := tf_start (D := D) (tf_x_ad ad cI cZ) hP hD0
  have hl := lv_entry ([.ref (ad 1), .int x1]) (n := 2) (Nat.le_of_ble_eq_true rfl)
  rw [lg_entry_eq]
  generalize (lg_sl ([.ref (ad 1), .int x1]) ++ List.replicate (2 - (lg_sl ([.ref (ad 1), .int x1])).length) Slot.unset).toArray = ls at hl ⊢
  have hl : lv_has ls 2 [(0, .ref (ad 1)), (1, .int x1)] := hl
  have hn_X4 : ∀ w ∈ u_ws RX4 TX4 10, w ∈ wsX4_isType := by decide +kernel
  have hf_22 := hts (.fieldLink RX4 22 "TypeFlow$Types" "size" "I") (by decide +kernel)
  unfold fX4_isType at h
  refine lv_iload_n hx hb dX4_isType_0 rfl (lv_at hl 1 rfl) ?_
  refine lv_if_lt (tgt := 16) hx hb dX4_isType_1 (by decide) (fun c1 => ?_) (fun c1 => ?_)
  · replace h := tf_pos c1 h
    refine lv_iconst (v := 0) hx hb dX4_isType_16 (by decide +kernel) ?_
    exact tf_zret hx hb hr (Or.inl rfl) hI h dX4_isType_17 hlocks
  replace h := tf_neg c1 h
  refine lv_iload_n hx hb dX4_isType_4 rfl (lv_at hl 1 rfl) ?_
  refine lv_aload_n hx hb dX4_isType_5 rfl (lv_at hl 0 rfl) ?_
  refine tf_get (C := RX4) (T := TX4) (N := 10) hx hb hts hn_X4 hown hK hI 1 (tf_xat_1 ad cI cZ _) rfl 3 (by decide) hf_22 rfl rfl dX4_isType_6 ?_
  refine lv_icmp_ge (tgt := 16) hx hb dX4_isType_9 (by decide) (fun c2 => ?_) (fun c2 => ?_)
  · replace h := tf_pos c2 h
    refine lv_iconst (v := 0) hx hb dX4_isType_16 (by decide +kernel) ?_
    exact tf_zret hx hb hr (Or.inl rfl) hI h dX4_isType_17 hlocks
  replace h := tf_neg c2 h
  refine lv_iconst (v := 1) hx hb dX4_isType_12 (by decide +kernel) ?_
  refine lv_goto (tgt := 17) hx hb dX4_isType_13 (by decide) ?_
  exact tf_zret hx hb hr (Or.inr rfl) hI h dX4_isType_17 hlocks

set_option maxHeartbeats 4000000 in
set_option maxRecDepth 100000 in
theorem kX_X4_isClassType (l : Launch) (D : va_G) (ad : Nat → Nat) (cI cZ : ClassId) (σ : tf_S) (x1 : Int32) (z : Int32 × tf_S) (h : fX4_isClassType σ x1 = some z) : tf_C l D (tf_wx ad cI cZ) [(cI, .int), (cZ, .boolean)] tf_nest yX4_isClassType wsX4_isClassType ({ frames := 0, cells := 0, slots := 0, locals := 0 }) [.ref (ad 1), .int x1] σ z := by
  intro sz
  refine Met.ofW (cc := cX4_isClassType) (maxL := 2) (ret := (some .boolean)) (by decide) rfl ?_
  intro p e s m args below meth c s₁ B hml hv
  obtain ⟨rfl, hsz, hP, hK, hN, hD0⟩ := hv
  have hx := B.exec
  have hb := B.bytes
  have hr := B.returns
  have hts := atoms_spec (ws := wsX4_isClassType) B.pre
  have hown : s.vm.findClass RX4 = some m.cls := findClass_of_methodNamed B.named
  have hlocks := B.notSynchronized
  subst hsz
  have hI := tf_start (D := D) (tf_x_ad ad cI cZ) hP hD0
  have hl := lv_entry ([.ref (ad 1), .int x1]) (n := 2) (Nat.le_of_ble_eq_true rfl)
  rw [lg_entry_eq]
  generalize (lg_sl ([.ref (ad 1), .int x1]) ++ List.replicate (2 - (lg_sl ([.ref (ad 1), .int x1])).length) Slot.unset).toArray = ls at hl ⊢
  have hl : lv_has ls 2 [(0, .ref (ad 1)), (1, .int x1)] := hl
  have hn_X4 : ∀ w ∈ u_ws RX4 TX4 10, w ∈ wsX4_isClassType := by decide +kernel
  have hf_22 := hts (.fieldLink RX4 22 "TypeFlow$Types" "size" "I") (by decide +kernel)
  unfold fX4_isClassType at h
  refine lv_iload_n hx hb dX4_isClassType_0 rfl (lv_at hl 1 rfl) ?_
  refine lv_bipush (v := 6) hx hb dX4_isClassType_1 (by decide +kernel) ?_
  refine lv_icmp_lt (tgt := 18) hx hb dX4_isClassType_3 (by decide) (fun c1 => ?_) (fun c1 => ?_)
  · replace h := tf_pos c1 h
    refine lv_iconst (v := 0) hx hb dX4_isClassType_18 (by decide +kernel) ?_
    exact tf_zret hx hb hr (Or.inl rfl) hI h dX4_isClassType_19 hlocks
  replace h := tf_neg c1 h
  refine lv_iload_n hx hb dX4_isClassType_6 rfl (lv_at hl 1 rfl) ?_
  refine lv_aload_n hx hb dX4_isClassType_7 rfl (lv_at hl 0 rfl) ?_
  refine tf_get (C := RX4) (T := TX4) (N := 10) hx hb hts hn_X4 hown hK hI 1 (tf_xat_1 ad cI cZ _) rfl 3 (by decide) hf_22 rfl rfl dX4_isClassType_8 ?_
  refine lv_icmp_ge (tgt := 18) hx hb dX4_isClassType_11 (by decide) (fun c2 => ?_) (fun c2 => ?_)
  · replace h := tf_pos c2 h
    refine lv_iconst (v := 0) hx hb dX4_isClassType_18 (by decide +kernel) ?_
    exact tf_zret hx hb hr (Or.inl rfl) hI h dX4_isClassType_19 hlocks
  replace h := tf_neg c2 h
  refine lv_iconst (v := 1) hx hb dX4_isClassType_14 (by decide +kernel) ?_
  refine lv_goto (tgt := 19) hx hb dX4_isClassType_15 (by decide) ?_
  exact tf_zret hx hb hr (Or.inr rfl) hI h dX4_isClassType_19 hlocks

set_option maxHeartbeats 4000000 in
set_option maxRecDepth 100000 in
theorem kX_X4_isArgument (l : Launch) (D : va_G) (ad : Nat → Nat) (cI cZ : ClassId) (σ : tf_S) (x1 : Int32) (z : Int32 × tf_S) (h : fX4_isArgument σ x1 = some z) : tf_C l D (tf_wx ad cI cZ) [(cI, .int), (cZ, .boolean)] tf_nest yX4_isArgument wsX4_isArgument ({ frames := 0, cells := 0, slots := 0, locals := 0 }) [.ref (ad 1), .int x1] σ z := by
  intro sz
  refine Met.ofW (cc := cX4_isArgument) (maxL := 2) (ret := (some .boolean)) (by decide) rfl ?_
  intro p e s m args below meth c s₁ B hml hv
  obtain ⟨rfl, hsz, hP, hK, hN, hD0⟩ := hv
  have hx := B.exec
  have hb := B.bytes
  have hr := B.returns
  have hts := atoms_spec (ws := wsX4_isArgument) B.pre
  have hown : s.vm.findClass RX4 = some m.cls := findClass_of_methodNamed B.named
  have hlocks := B.notSynchronized
  subst hsz
  have hI := tf_start (D := D) (tf_x_ad ad cI cZ) hP hD0
  have hl := lv_entry ([.ref (ad 1), .int x1]) (n := 2) (Nat.le_of_ble_eq_true rfl)
  rw [lg_entry_eq]
  generalize (lg_sl ([.ref (ad 1), .int x1]) ++ List.replicate (2 - (lg_sl ([.ref (ad 1), .int x1])).length) Slot.unset).toArray = ls at hl ⊢
  have hl : lv_has ls 2 [(0, .ref (ad 1)), (1, .int x1)] := hl
  have hn_X4 : ∀ w ∈ u_ws RX4 TX4 10, w ∈ wsX4_isArgument := by decide +kernel
  have hf_22 := hts (.fieldLink RX4 22 "TypeFlow$Types" "size" "I") (by decide +kernel)
  unfold fX4_isArgument at h
  refine lv_iload_n hx hb dX4_isArgument_0 rfl (lv_at hl 1 rfl) ?_
  refine lv_iconst (v := 4) hx hb dX4_isArgument_1 (by decide +kernel) ?_
  refine lv_icmp_lt (tgt := 17) hx hb dX4_isArgument_2 (by decide) (fun c1 => ?_) (fun c1 => ?_)
  · replace h := tf_pos c1 h
    refine lv_iconst (v := 0) hx hb dX4_isArgument_17 (by decide +kernel) ?_
    exact tf_zret hx hb hr (Or.inl rfl) hI h dX4_isArgument_18 hlocks
  replace h := tf_neg c1 h
  refine lv_iload_n hx hb dX4_isArgument_5 rfl (lv_at hl 1 rfl) ?_
  refine lv_aload_n hx hb dX4_isArgument_6 rfl (lv_at hl 0 rfl) ?_
  refine tf_get (C := RX4) (T := TX4) (N := 10) hx hb hts hn_X4 hown hK hI 1 (tf_xat_1 ad cI cZ _) rfl 3 (by decide) hf_22 rfl rfl dX4_isArgument_7 ?_
  refine lv_icmp_ge (tgt := 17) hx hb dX4_isArgument_10 (by decide) (fun c2 => ?_) (fun c2 => ?_)
  · replace h := tf_pos c2 h
    refine lv_iconst (v := 0) hx hb dX4_isArgument_17 (by decide +kernel) ?_
    exact tf_zret hx hb hr (Or.inl rfl) hI h dX4_isArgument_18 hlocks
  replace h := tf_neg c2 h
  refine lv_iconst (v := 1) hx hb dX4_isArgument_13 (by decide +kernel) ?_
  refine lv_goto (tgt := 18) hx hb dX4_isArgument_14 (by decide) ?_
  exact tf_zret hx hb hr (Or.inr rfl) hI h dX4_isArgument_18 hlocks

set_option maxHeartbeats 4000000 in
set_option maxRecDepth 100000 in
theorem kX_X4_isClosed (l : Launch) (D : va_G) (ad : Nat → Nat) (cI cZ : ClassId) (σ : tf_S) (x1 : Int32) (z : Int32 × tf_S) (h : fX4_isClosed σ x1 = some z) : tf_C l D (tf_wx ad cI cZ) [(cI, .int), (cZ, .boolean)] tf_nest yX4_isClosed wsX4_isClosed ({ frames := 1, cells := 0, slots := 0, locals := 21 }) [.ref (ad 1), .int x1] σ z := by
  intro sz
  refine Met.ofW (cc := cX4_isClosed) (maxL := 2) (ret := (some .boolean)) (by decide) rfl ?_
  intro p e s m args below meth c s₁ B hml hv
  obtain ⟨rfl, hsz, hP, hK, hN, hD0⟩ := hv
  have hx := B.exec
  have hb := B.bytes
  have hr := B.returns
  have hts := atoms_spec (ws := wsX4_isClosed) B.pre
  have hown : s.vm.findClass RX4 = some m.cls := findClass_of_methodNamed B.named
  have hlocks := B.notSynchronized
  subst hsz
  have hI := tf_start (D := D) (tf_x_ad ad cI cZ) hP hD0
  have hl := lv_entry ([.ref (ad 1), .int x1]) (n := 2) (Nat.le_of_ble_eq_true rfl)
  rw [lg_entry_eq]
  generalize (lg_sl ([.ref (ad 1), .int x1]) ++ List.replicate (2 - (lg_sl ([.ref (ad 1), .int x1])).length) Slot.unset).toArray = ls at hl ⊢
  have hl : lv_has ls 2 [(0, .ref (ad 1)), (1, .int x1)] := hl
  have hn_X4 : ∀ w ∈ u_ws RX4 TX4 10, w ∈ wsX4_isClosed := by decide +kernel
  have hf_34 := hts (.fieldLink RX4 34 "TypeFlow$Types" "within" "[I") (by decide +kernel)
  unfold fX4_isClosed at h
  refine lv_aload_n hx hb dX4_isClosed_0 rfl (lv_at hl 0 rfl) ?_
  refine lv_iload_n hx hb dX4_isClosed_1 rfl (lv_at hl 1 rfl) ?_
  obtain ⟨u1, q2, h⟩ := tf_gbind h
  refine tf_callV (rest := []) ⟨hx, hb, hml, hown, hts⟩ hK hN hI (kX_X4_isType l D ad cI cZ _ _ _ q2) (cwV 1 hts gX4_isClosed_X4_isType rfl rfl rfl (by decide +kernel) ⟨Nat.le_of_ble_eq_true rfl, Nat.le_of_ble_eq_true rfl⟩) 1 4 (tf_xat_1 ad cI cZ _) rfl rfl hl.1 rfl (Nat.le_of_ble_eq_true rfl) dX4_isClosed_2 (fun H locs hI => ?_)
  refine lv_if_eq (tgt := 21) hx hb dX4_isClosed_5 (by decide) (fun c3 => ?_) (fun c3 => ?_)
  · replace h := tf_pos c3 h
    refine lv_iconst (v := 0) hx hb dX4_isClosed_21 (by decide +kernel) ?_
    exact tf_zret hx hb hr (Or.inl rfl) hI h dX4_isClosed_22 hlocks
  replace h := tf_neg c3 h
  refine lv_aload_n hx hb dX4_isClosed_8 rfl (lv_at hl 0 rfl) ?_
  refine tf_get (C := RX4) (T := TX4) (N := 10) hx hb hts hn_X4 hown hK hI 1 (tf_xat_1 ad cI cZ _) rfl 7 (by decide) hf_34 rfl rfl dX4_isClosed_9 ?_
  refine lv_iload_n hx hb dX4_isClosed_12 rfl (lv_at hl 1 rfl) ?_
  obtain ⟨b4, h⟩ := tf_gin h
  refine va_iald hx hb hK hI.1 12 0 (tf_xat_12 ad cI cZ _) rfl b4 dX4_isClosed_13 ?_
  refine lv_if_ne (tgt := 21) hx hb dX4_isClosed_14 (by decide) (fun c5 => ?_) (fun c5 => ?_)
  · replace h := tf_neg c5 h
    refine lv_iconst (v := 0) hx hb dX4_isClosed_21 (by decide +kernel) ?_
    exact tf_zret hx hb hr (Or.inl rfl) hI h dX4_isClosed_22 hlocks
  replace h := tf_pos c5 h
  refine lv_iconst (v := 1) hx hb dX4_isClosed_17 (by decide +kernel) ?_
  refine lv_goto (tgt := 22) hx hb dX4_isClosed_18 (by decide) ?_
  exact tf_zret hx hb hr (Or.inr rfl) hI h dX4_isClosed_22 hlocks

set_option maxHeartbeats 4000000 in
set_option maxRecDepth 100000 in
theorem kX_X4_hasOnly (l : Launch) (D : va_G) (ad : Nat → Nat) (cI cZ : ClassId) (σ : tf_S) (x1 x2 : Int32) (z : Int32 × tf_S) (h : fX4_hasOnly σ x1 x2 = some z) : tf_C l D (tf_wx ad cI cZ) [(cI, .int), (cZ, .boolean)] tf_nest yX4_hasOnly wsX4_hasOnly ({ frames := 0, cells := 0, slots := 0, locals := 0 }) [.ref (ad 1), .int x1, .int x2] σ z := by
  intro sz
  refine Met.ofW (cc := cX4_hasOnly) (maxL := 3) (ret := (some .boolean)) (by decide) rfl ?_
  intro p e s m args below meth c s₁ B hml hv
  obtain ⟨rfl, hsz, hP, hK, hN, hD0⟩ := hv
  have hx := B.exec
  have hb := B.bytes
  have hr := B.returns
  have hts := atoms_spec (ws := wsX4_hasOnly) B.pre
  have hown : s.vm.findClass RX4 = some m.cls := findClass_of_methodNamed B.named
  have hlocks := B.notSynchronized
  subst hsz
  have hI := tf_start (D := D) (tf_x_ad ad cI cZ) hP hD0
  have hl := lv_entry ([.ref (ad 1), .int x1, .int x2]) (n := 3) (Nat.le_of_ble_eq_true rfl)
  rw [lg_entry_eq]
  generalize (lg_sl ([.ref (ad 1), .int x1, .int x2]) ++ List.replicate (3 - (lg_sl ([.ref (ad 1), .int x1, .int x2])).length) Slot.unset).toArray = ls at hl ⊢
  have hl : lv_has ls 3 [(0, .ref (ad 1)), (1, .int x1), (2, .int x2)] := hl
  have hn_X4 : ∀ w ∈ u_ws RX4 TX4 10, w ∈ wsX4_hasOnly := by decide +kernel
  have hf_34 := hts (.fieldLink RX4 34 "TypeFlow$Types" "within" "[I") (by decide +kernel)
  unfold fX4_hasOnly at h
  refine lv_aload_n hx hb dX4_hasOnly_0 rfl (lv_at hl 0 rfl) ?_
  refine tf_get (C := RX4) (T := TX4) (N := 10) hx hb hts hn_X4 hown hK hI 1 (tf_xat_1 ad cI cZ _) rfl 7 (by decide) hf_34 rfl rfl dX4_hasOnly_1 ?_
  refine lv_iload_n hx hb dX4_hasOnly_4 rfl (lv_at hl 1 rfl) ?_
  obtain ⟨b1, h⟩ := tf_gin h
  refine va_iald hx hb hK hI.1 12 0 (tf_xat_12 ad cI cZ _) rfl b1 dX4_hasOnly_5 ?_
  refine lv_iload_n hx hb dX4_hasOnly_6 rfl (lv_at hl 2 rfl) ?_
  refine lv_ishr hx hb dX4_hasOnly_7 ?_
  refine lv_if_ne (tgt := 15) hx hb dX4_hasOnly_8 (by decide) (fun c2 => ?_) (fun c2 => ?_)
  · replace h := tf_neg c2 h
    refine lv_iconst (v := 0) hx hb dX4_hasOnly_15 (by decide +kernel) ?_
    exact tf_zret hx hb hr (Or.inl rfl) hI h dX4_hasOnly_16 hlocks
  replace h := tf_pos c2 h
  refine lv_iconst (v := 1) hx hb dX4_hasOnly_11 (by decide +kernel) ?_
  refine lv_goto (tgt := 16) hx hb dX4_hasOnly_12 (by decide) ?_
  exact tf_zret hx hb hr (Or.inr rfl) hI h dX4_hasOnly_16 hlocks

set_option maxHeartbeats 4000000 in
set_option maxRecDepth 100000 in
theorem kX_X4_addClass (l : Launch) (D : va_G) (ad : Nat → Nat) (cI cZ : ClassId) (σ : tf_S) (x1 x2 : Int32) (z : Int32 × tf_S) (h : fX4_addClass σ x1 x2 = some z) : tf_C l D (tf_wx ad cI cZ) [(cI, .int), (cZ, .boolean)] tf_nest yX4_addClass wsX4_addClass ({ frames := 0, cells := 0, slots := 0, locals := 0 }) [.ref (ad 1), .int x1, .int x2] σ z := by
  intro sz
  refine Met.ofW (cc := cX4_addClass) (maxL := 3) (ret := (some .int)) (by decide) rfl ?_
  intro p e s m args below meth c s₁ B hml hv
  obtain ⟨rfl, hsz, hP, hK, hN, hD0⟩ := hv
  have hx := B.exec
  have hb := B.bytes
  have hr := B.returns
  have hts := atoms_spec (ws := wsX4_addClass) B.pre
  have hown : s.vm.findClass RX4 = some m.cls := findClass_of_methodNamed B.named
  have hlocks := B.notSynchronized
  subst hsz
  have hI := tf_start (D := D) (tf_x_ad ad cI cZ) hP hD0
  have hl := lv_entry ([.ref (ad 1), .int x1, .int x2]) (n := 3) (Nat.le_of_ble_eq_true rfl)
  rw [lg_entry_eq]
  generalize (lg_sl ([.ref (ad 1), .int x1, .int x2]) ++ List.replicate (3 - (lg_sl ([.ref (ad 1), .int x1, .int x2])).length) Slot.unset).toArray = ls at hl ⊢
  have hl : lv_has ls 3 [(0, .ref (ad 1)), (1, .int x1), (2, .int x2)] := hl
  have hn_X4 : ∀ w ∈ u_ws RX4 TX4 10, w ∈ wsX4_addClass := by decide +kernel
  have hf_9 := hts (.fieldLink RX4 9 "TypeFlow$Types" "classes" "I") (by decide +kernel)
  have hf_15 := hts (.fieldLink RX4 15 "TypeFlow$Types" "variables" "[I") (by decide +kernel)
  have hf_19 := hts (.fieldLink RX4 19 "TypeFlow$Types" "parent" "[I") (by decide +kernel)
  unfold fX4_addClass at h
  refine lv_aload_n hx hb dX4_addClass_0 rfl (lv_at hl 0 rfl) ?_
  refine tf_get (C := RX4) (T := TX4) (N := 10) hx hb hts hn_X4 hown hK hI 1 (tf_xat_1 ad cI cZ _) rfl 0 (by decide) hf_9 rfl rfl dX4_addClass_1 ?_
  refine lv_bipush (v := 12) hx hb dX4_addClass_4 (by decide +kernel) ?_
  refine lv_icmp_lt (tgt := 12) hx hb dX4_addClass_6 (by decide) (fun c1 => ?_) (fun c1 => ?_)
  · replace h := tf_pos c1 h
    refine lv_aload_n hx hb dX4_addClass_12 rfl (lv_at hl 0 rfl) ?_
    refine tf_get (C := RX4) (T := TX4) (N := 10) hx hb hts hn_X4 hown hK hI 1 (tf_xat_1 ad cI cZ _) rfl 1 (by decide) hf_15 rfl rfl dX4_addClass_13 ?_
    refine lv_aload_n hx hb dX4_addClass_16 rfl (lv_at hl 0 rfl) ?_
    refine tf_get (C := RX4) (T := TX4) (N := 10) hx hb hts hn_X4 hown hK hI 1 (tf_xat_1 ad cI cZ _) rfl 0 (by decide) hf_9 rfl rfl dX4_addClass_17 ?_
    refine lv_iload_n hx hb dX4_addClass_20 rfl (lv_at hl 1 rfl) ?_
    obtain ⟨b2, h⟩ := tf_gin h
    obtain ⟨s3, es3, h⟩ := tf_glet h
    refine tf_iast hx hb hK hI 7 0 (tf_xat_7 ad cI cZ _) (tf_xset_7 ad cI cZ _) rfl b2 es3 dX4_addClass_21 (fun H locs hI => ?_)
    refine lv_aload_n hx hb dX4_addClass_22 rfl (lv_at hl 0 rfl) ?_
    refine tf_get (C := RX4) (T := TX4) (N := 10) hx hb hts hn_X4 hown hK hI 1 (tf_xat_1 ad cI cZ _) rfl 2 (by decide) hf_19 rfl rfl dX4_addClass_23 ?_
    refine lv_aload_n hx hb dX4_addClass_26 rfl (lv_at hl 0 rfl) ?_
    refine tf_get (C := RX4) (T := TX4) (N := 10) hx hb hts hn_X4 hown hK hI 1 (tf_xat_1 ad cI cZ _) rfl 0 (by decide) hf_9 rfl rfl dX4_addClass_27 ?_
    refine lv_iload_n hx hb dX4_addClass_30 rfl (lv_at hl 2 rfl) ?_
    obtain ⟨b4, h⟩ := tf_gin h
    obtain ⟨s5, es5, h⟩ := tf_glet h
    refine tf_iast hx hb hK hI 8 0 (tf_xat_8 ad cI cZ _) (tf_xset_8 ad cI cZ _) rfl b4 es5 dX4_addClass_31 (fun H locs hI => ?_)
    refine lv_aload_n hx hb dX4_addClass_32 rfl (lv_at hl 0 rfl) ?_
    refine lv_dup hx hb dX4_addClass_33 rfl ?_
    refine tf_get (C := RX4) (T := TX4) (N := 10) hx hb hts hn_X4 hown hK hI 1 (tf_xat_1 ad cI cZ _) rfl 0 (by decide) hf_9 rfl rfl dX4_addClass_34 ?_
    refine lv_dup_x1 hx hb dX4_addClass_37 rfl rfl ?_
    refine lv_iconst (v := 1) hx hb dX4_addClass_38 (by decide +kernel) ?_
    refine lv_iadd hx hb dX4_addClass_39 ?_
    obtain ⟨s6, es6, h⟩ := tf_glet h
    refine tf_put (C := RX4) (T := TX4) (N := 10) (ty := .int) hx hb hts hn_X4 tyX4 tyX4_ok nmX4 hown hK hI 1 (tf_xat_1 ad cI cZ _) rfl 0 (by decide) hf_9 rfl rfl (by decide +kernel) rfl rfl (Nat.le_of_ble_eq_true rfl) (tf_xput_1_0 ad cI cZ _ _) es6 dX4_addClass_40 (fun H locs hI => ?_)
    exact tf_iret hx hb hr hI h dX4_addClass_43 hlocks
  replace h := tf_neg c1 h
  refine lv_bipush (v := -3) hx hb dX4_addClass_9 (by decide +kernel) ?_
  exact tf_iret hx hb hr hI h dX4_addClass_11 hlocks

set_option maxHeartbeats 4000000 in
set_option maxRecDepth 100000 in
theorem kX_X4_commonOf (l : Launch) (D : va_G) (ad : Nat → Nat) (cI cZ : ClassId) (σ : tf_S) (x1 x2 : Int32) (z : Int32 × tf_S) (h : fX4_commonOf σ x1 x2 = some z) : tf_C l D (tf_wx ad cI cZ) [(cI, .int), (cZ, .boolean)] tf_nest yX4_commonOf wsX4_commonOf ({ frames := 3, cells := 0, slots := 0, locals := 76 }) [.ref (ad 1), .int x1, .int x2] σ z := by
  intro sz
  refine Met.ofW (cc := cX4_commonOf) (maxL := 7) (ret := (some .int)) (by decide) rfl ?_
  intro p e s m args below meth c s₁ B hml hv
  obtain ⟨rfl, hsz, hP, hK, hN, hD0⟩ := hv
  have hx := B.exec
  have hb := B.bytes
  have hr := B.returns
  have hts := atoms_spec (ws := wsX4_commonOf) B.pre
  have hown : s.vm.findClass RX4 = some m.cls := findClass_of_methodNamed B.named
  have hlocks := B.notSynchronized
  subst hsz
  have hI := tf_start (D := D) (tf_x_ad ad cI cZ) hP hD0
  have hl := lv_entry ([.ref (ad 1), .int x1, .int x2]) (n := 7) (Nat.le_of_ble_eq_true rfl)
  rw [lg_entry_eq]
  generalize (lg_sl ([.ref (ad 1), .int x1, .int x2]) ++ List.replicate (7 - (lg_sl ([.ref (ad 1), .int x1, .int x2])).length) Slot.unset).toArray = ls at hl ⊢
  have hl : lv_has ls 7 [(0, .ref (ad 1)), (1, .int x1), (2, .int x2)] := hl
  have hn_X4 : ∀ w ∈ u_ws RX4 TX4 10, w ∈ wsX4_commonOf := by decide +kernel
  have hf_25 := hts (.fieldLink RX4 25 "TypeFlow$Types" "ofClass" "[I") (by decide +kernel)
  have j51 : ∀ n : Nat, ∀ (σ : tf_S) (y3 y4 : Int32) (H : Heap) (locs : List Loc) (ls : Array Slot), fX4_commonOf_51 x1 x2 n σ y3 y4 = some z → tf_I D (tf_wx ad cI cZ) s.heap σ H locs → lv_has ls 7 [(0, .ref (ad 1)), (1, .int x1), (2, .int x2), (3, .int y3), (4, .int y4)] → W p l e (headSpec wsX4_commonOf ({ frames := 3, cells := 0, slots := 0, locals := 76 })).room s m ([.ref (ad 1), .int x1, .int x2] : List Value).toArray below meth c H locs 0 0 (tf_Q below D (tf_wx ad cI cZ) z ([.ref (ad 1), .int x1, .int x2] : List Value).toArray s) (F0 m 51 ls []) := by
    intro n
    induction n with
    | zero =>
      intro σ y3 y4 H locs ls h
      rw [fX4_commonOf_51] at h
      cases h
    | succ n ih =>
      intro σ y3 y4 H locs ls h hI hl
      rw [fX4_commonOf_51] at h
      refine lv_iload_n hx hb dX4_commonOf_51 rfl (lv_at hl 3 rfl) ?_
      refine lv_iconst (v := -1) hx hb dX4_commonOf_52 (by decide +kernel) ?_
      refine lv_icmp_eq (tgt := 132) hx hb dX4_commonOf_53 (by decide) (fun c16 => ?_) (fun c16 => ?_)
      · replace h := tf_pos c16 h
        refine lv_iconst (v := -1) hx hb dX4_commonOf_132 (by decide +kernel) ?_
        exact tf_iret hx hb hr hI h dX4_commonOf_133 hlocks
      replace h := tf_neg c16 h
      refine lv_iload hx hb dX4_commonOf_56 (lv_at hl 4 rfl) ?_
      refine lv_bipush (v := 12) hx hb dX4_commonOf_58 (by decide +kernel) ?_
      refine lv_icmp_ge (tgt := 132) hx hb dX4_commonOf_60 (by decide) (fun c17 => ?_) (fun c17 => ?_)
      · replace h := tf_pos c17 h
        refine lv_iconst (v := -1) hx hb dX4_commonOf_132 (by decide +kernel) ?_
        exact tf_iret hx hb hr hI h dX4_commonOf_133 hlocks
      replace h := tf_neg c17 h
      refine lv_aload_n hx hb dX4_commonOf_63 rfl (lv_at hl 0 rfl) ?_
      refine lv_aload_n hx hb dX4_commonOf_64 rfl (lv_at hl 0 rfl) ?_
      refine tf_get (C := RX4) (T := TX4) (N := 10) hx hb hts hn_X4 hown hK hI 1 (tf_xat_1 ad cI cZ _) rfl 4 (by decide) hf_25 rfl rfl dX4_commonOf_65 ?_
      refine lv_iload_n hx hb dX4_commonOf_68 rfl (lv_at hl 2 rfl) ?_
      obtain ⟨b18, h⟩ := tf_gin h
      refine va_iald hx hb hK hI.1 9 0 (tf_xat_9 ad cI cZ _) rfl b18 dX4_commonOf_69 ?_
      refine lv_iload_n hx hb dX4_commonOf_70 rfl (lv_at hl 3 rfl) ?_
      obtain ⟨u19, q20, h⟩ := tf_gbind h
      refine tf_callV (rest := []) ⟨hx, hb, hml, hown, hts⟩ hK hN hI (kX_X4_isFrom l D ad cI cZ _ _ _ _ q20) (cwV 2 hts gX4_commonOf_X4_isFrom rfl rfl rfl (by decide +kernel) ⟨Nat.le_of_ble_eq_true rfl, Nat.le_of_ble_eq_true rfl⟩) 1 4 (tf_xat_1 ad cI cZ _) rfl rfl hl.1 rfl (Nat.le_of_ble_eq_true rfl) dX4_commonOf_71 (fun H locs hI => ?_)
      refine lv_if_eq (tgt := 120) hx hb dX4_commonOf_74 (by decide) (fun c21 => ?_) (fun c21 => ?_)
      · replace h := tf_pos c21 h
        refine lv_aload_n hx hb dX4_commonOf_120 rfl (lv_at hl 0 rfl) ?_
        refine lv_iload_n hx hb dX4_commonOf_121 rfl (lv_at hl 3 rfl) ?_
        obtain ⟨u22, q23, h⟩ := tf_gbind h
        refine tf_callV (rest := []) ⟨hx, hb, hml, hown, hts⟩ hK hN hI (kX_X4_classAbove l D ad cI cZ _ _ _ q23) (cwV 1 hts gX4_commonOf_X4_classAbove rfl rfl rfl (by decide +kernel) ⟨Nat.le_of_ble_eq_true rfl, Nat.le_of_ble_eq_true rfl⟩) 1 4 (tf_xat_1 ad cI cZ _) rfl rfl hl.1 rfl (Nat.le_of_ble_eq_true rfl) dX4_commonOf_122 (fun H locs hI => ?_)
        obtain ⟨v24, ev24, h⟩ := tf_glet h
        refine tf_top ev24 ?_
        refine lv_istore_n (lv' := [(3, .int v24), (0, .ref (ad 1)), (1, .int x1), (2, .int x2), (4, .int y4)]) hx hb dX4_commonOf_125 rfl hl (by decide) rfl (fun ls hl => ?_)
        obtain ⟨v25, ev25, h⟩ := tf_glet h
        refine lv_iinc (v := v25) (lv' := [(4, .int v25), (3, .int v24), (0, .ref (ad 1)), (1, .int x1), (2, .int x2)]) hx hb dX4_commonOf_126 hl (k := 4) rfl (by rw [ev25]; rfl) (by decide) rfl (fun ls hl => ?_)
        refine lv_goto (tgt := 51) hx hb dX4_commonOf_129 (by decide) ?_
        exact ih _ _ _ _ _ _ h hI (lv_sub hl [2, 3, 4, 1, 0] rfl)
      replace h := tf_neg c21 h
      refine lv_aload_n hx hb dX4_commonOf_77 rfl (lv_at hl 0 rfl) ?_
      refine lv_iload_n hx hb dX4_commonOf_78 rfl (lv_at hl 1 rfl) ?_
      refine lv_iload_n hx hb dX4_commonOf_79 rfl (lv_at hl 3 rfl) ?_
      obtain ⟨u26, q27, h⟩ := tf_gbind h
      refine tf_callV (rest := []) ⟨hx, hb, hml, hown, hts⟩ hK hN hI (kX_X4_seenAs l D ad cI cZ _ _ _ _ q27) (cwV 2 hts gX4_commonOf_X4_seenAs rfl rfl rfl (by decide +kernel) ⟨Nat.le_of_ble_eq_true rfl, Nat.le_of_ble_eq_true rfl⟩) 1 4 (tf_xat_1 ad cI cZ _) rfl rfl hl.1 rfl (Nat.le_of_ble_eq_true rfl) dX4_commonOf_80 (fun H locs hI => ?_)
      obtain ⟨v28, ev28, h⟩ := tf_glet h
      refine tf_top ev28 ?_
      refine lv_istore (lv' := [(5, .int v28), (0, .ref (ad 1)), (1, .int x1), (2, .int x2), (3, .int y3), (4, .int y4)]) hx hb dX4_commonOf_83 hl (by decide) rfl (fun ls hl => ?_)
      refine lv_iload hx hb dX4_commonOf_85 (lv_at hl 0 rfl) ?_
      refine lv_bipush (v := -3) hx hb dX4_commonOf_87 (by decide +kernel) ?_
      refine lv_icmp_ne (tgt := 95) hx hb dX4_commonOf_89 (by decide) (fun c29 => ?_) (fun c29 => ?_)
      · replace h := tf_neg c29 h
        refine lv_aload_n hx hb dX4_commonOf_95 rfl (lv_at hl 1 rfl) ?_
        refine lv_iload_n hx hb dX4_commonOf_96 rfl (lv_at hl 3 rfl) ?_
        refine lv_iload_n hx hb dX4_commonOf_97 rfl (lv_at hl 4 rfl) ?_
        obtain ⟨u30, q31, h⟩ := tf_gbind h
        refine tf_callV (rest := []) ⟨hx, hb, hml, hown, hts⟩ hK hN hI (kX_X4_seenAs l D ad cI cZ _ _ _ _ q31) (cwV 2 hts gX4_commonOf_X4_seenAs rfl rfl rfl (by decide +kernel) ⟨Nat.le_of_ble_eq_true rfl, Nat.le_of_ble_eq_true rfl⟩) 1 4 (tf_xat_1 ad cI cZ _) rfl rfl hl.1 rfl (Nat.le_of_ble_eq_true rfl) dX4_commonOf_98 (fun H locs hI => ?_)
        obtain ⟨v32, ev32, h⟩ := tf_glet h
        refine tf_top ev32 ?_
        refine lv_istore (lv' := [(6, .int v32), (5, .int v28), (0, .ref (ad 1)), (1, .int x1), (2, .int x2), (3, .int y3), (4, .int y4)]) hx hb dX4_commonOf_101 hl (by decide) rfl (fun ls hl => ?_)
        refine lv_iload hx hb dX4_commonOf_103 (lv_at hl 0 rfl) ?_
        refine lv_bipush (v := -3) hx hb dX4_commonOf_105 (by decide +kernel) ?_
        refine lv_icmp_eq (tgt := 117) hx hb dX4_commonOf_107 (by decide) (fun c33 => ?_) (fun c33 => ?_)
        · replace h := tf_pos c33 h
          refine lv_iload hx hb dX4_commonOf_117 (lv_at hl 0 rfl) ?_
          exact tf_iret hx hb hr hI h dX4_commonOf_119 hlocks
        replace h := tf_neg c33 h
        refine lv_iload hx hb dX4_commonOf_110 (lv_at hl 0 rfl) ?_
        refine lv_iload hx hb dX4_commonOf_112 (lv_at hl 1 rfl) ?_
        refine lv_icmp_ne (tgt := 120) hx hb dX4_commonOf_114 (by decide) (fun c34 => ?_) (fun c34 => ?_)
        · replace h := tf_neg c34 h
          refine lv_aload_n hx hb dX4_commonOf_120 rfl (lv_at hl 2 rfl) ?_
          refine lv_iload_n hx hb dX4_commonOf_121 rfl (lv_at hl 5 rfl) ?_
          obtain ⟨u35, q36, h⟩ := tf_gbind h
          refine tf_callV (rest := []) ⟨hx, hb, hml, hown, hts⟩ hK hN hI (kX_X4_classAbove l D ad cI cZ _ _ _ q36) (cwV 1 hts gX4_commonOf_X4_classAbove rfl rfl rfl (by decide +kernel) ⟨Nat.le_of_ble_eq_true rfl, Nat.le_of_ble_eq_true rfl⟩) 1 4 (tf_xat_1 ad cI cZ _) rfl rfl hl.1 rfl (Nat.le_of_ble_eq_true rfl) dX4_commonOf_122 (fun H locs hI => ?_)
          obtain ⟨v37, ev37, h⟩ := tf_glet h
          refine tf_top ev37 ?_
          refine lv_istore_n (lv' := [(3, .int v37), (6, .int v32), (5, .int v28), (0, .ref (ad 1)), (1, .int x1), (2, .int x2), (4, .int y4)]) hx hb dX4_commonOf_125 rfl hl (by decide) rfl (fun ls hl => ?_)
          obtain ⟨v38, ev38, h⟩ := tf_glet h
          refine lv_iinc (v := v38) (lv' := [(4, .int v38), (3, .int v37), (6, .int v32), (5, .int v28), (0, .ref (ad 1)), (1, .int x1), (2, .int x2)]) hx hb dX4_commonOf_126 hl (k := 6) rfl (by rw [ev38]; rfl) (by decide) rfl (fun ls hl => ?_)
          refine lv_goto (tgt := 51) hx hb dX4_commonOf_129 (by decide) ?_
          exact ih _ _ _ _ _ _ h hI (lv_sub hl [4, 5, 6, 1, 0] rfl)
        replace h := tf_pos c34 h
        refine lv_iload hx hb dX4_commonOf_117 (lv_at hl 0 rfl) ?_
        exact tf_iret hx hb hr hI h dX4_commonOf_119 hlocks
      replace h := tf_pos c29 h
      refine lv_bipush (v := -3) hx hb dX4_commonOf_92 (by decide +kernel) ?_
      exact tf_iret hx hb hr hI h dX4_commonOf_94 hlocks
  unfold fX4_commonOf at h
  refine lv_iload_n hx hb dX4_commonOf_0 rfl (lv_at hl 1 rfl) ?_
  refine lv_iload_n hx hb dX4_commonOf_1 rfl (lv_at hl 2 rfl) ?_
  refine lv_icmp_eq (tgt := 13) hx hb dX4_commonOf_2 (by decide) (fun c1 => ?_) (fun c1 => ?_)
  · replace h := tf_pos c1 h
    refine lv_iload_n hx hb dX4_commonOf_13 rfl (lv_at hl 1 rfl) ?_
    exact tf_iret hx hb hr hI h dX4_commonOf_14 hlocks
  replace h := tf_neg c1 h
  refine lv_iload_n hx hb dX4_commonOf_5 rfl (lv_at hl 2 rfl) ?_
  refine lv_iload_n hx hb dX4_commonOf_6 rfl (lv_at hl 1 rfl) ?_
  obtain ⟨u2, q3, h⟩ := tf_gbind h
  refine tf_callSN (rest := []) ⟨hx, hb, hml, hown, hts⟩ hK hN hI (kX_X6_widens l D ad cI cZ _ _ _ _ q3) ⟨va_cnB 2 hts gX4_commonOf_X6_widens_n78 rfl rfl rfl (hN (RX4, 78, yX6_widens, "TypeFlow") (by decide +kernel)) (hts (.initialized RX6) (by decide +kernel)) (by decide +kernel) ⟨Nat.le_of_ble_eq_true rfl, Nat.le_of_ble_eq_true rfl⟩, hts (.static yX6_widens) (by decide +kernel), trivial⟩ rfl hl.1 rfl (Nat.le_of_ble_eq_true rfl) dX4_commonOf_7 (fun H locs hI => ?_)
  refine lv_if_eq (tgt := 15) hx hb dX4_commonOf_10 (by decide) (fun c4 => ?_) (fun c4 => ?_)
  · replace h := tf_pos c4 h
    refine lv_iload_n hx hb dX4_commonOf_15 rfl (lv_at hl 1 rfl) ?_
    refine lv_iload_n hx hb dX4_commonOf_16 rfl (lv_at hl 2 rfl) ?_
    obtain ⟨u5, q6, h⟩ := tf_gbind h
    refine tf_callSN (rest := []) ⟨hx, hb, hml, hown, hts⟩ hK hN hI (kX_X6_widens l D ad cI cZ _ _ _ _ q6) ⟨va_cnB 2 hts gX4_commonOf_X6_widens_n78 rfl rfl rfl (hN (RX4, 78, yX6_widens, "TypeFlow") (by decide +kernel)) (hts (.initialized RX6) (by decide +kernel)) (by decide +kernel) ⟨Nat.le_of_ble_eq_true rfl, Nat.le_of_ble_eq_true rfl⟩, hts (.static yX6_widens) (by decide +kernel), trivial⟩ rfl hl.1 rfl (Nat.le_of_ble_eq_true rfl) dX4_commonOf_17 (fun H locs hI => ?_)
    refine lv_if_eq (tgt := 25) hx hb dX4_commonOf_20 (by decide) (fun c7 => ?_) (fun c7 => ?_)
    · replace h := tf_pos c7 h
      refine lv_iload_n hx hb dX4_commonOf_25 rfl (lv_at hl 1 rfl) ?_
      obtain ⟨u8, q9, h⟩ := tf_gbind h
      refine tf_callSN (rest := []) ⟨hx, hb, hml, hown, hts⟩ hK hN hI (kX_X6_isPrimitive l D ad cI cZ _ _ _ q9) ⟨va_cnB 1 hts gX4_commonOf_X6_isPrimitive_n81 rfl rfl rfl (hN (RX4, 81, yX6_isPrimitive, "TypeFlow") (by decide +kernel)) (hts (.initialized RX6) (by decide +kernel)) (by decide +kernel) ⟨Nat.le_of_ble_eq_true rfl, Nat.le_of_ble_eq_true rfl⟩, hts (.static yX6_isPrimitive) (by decide +kernel), trivial⟩ rfl hl.1 rfl (Nat.le_of_ble_eq_true rfl) dX4_commonOf_26 (fun H locs hI => ?_)
      refine lv_if_ne (tgt := 39) hx hb dX4_commonOf_29 (by decide) (fun c10 => ?_) (fun c10 => ?_)
      · replace h := tf_neg c10 h
        refine lv_iconst (v := -1) hx hb dX4_commonOf_39 (by decide +kernel) ?_
        exact tf_iret hx hb hr hI h dX4_commonOf_40 hlocks
      replace h := tf_pos c10 h
      refine lv_iload_n hx hb dX4_commonOf_32 rfl (lv_at hl 2 rfl) ?_
      obtain ⟨u11, q12, h⟩ := tf_gbind h
      refine tf_callSN (rest := []) ⟨hx, hb, hml, hown, hts⟩ hK hN hI (kX_X6_isPrimitive l D ad cI cZ _ _ _ q12) ⟨va_cnB 1 hts gX4_commonOf_X6_isPrimitive_n81 rfl rfl rfl (hN (RX4, 81, yX6_isPrimitive, "TypeFlow") (by decide +kernel)) (hts (.initialized RX6) (by decide +kernel)) (by decide +kernel) ⟨Nat.le_of_ble_eq_true rfl, Nat.le_of_ble_eq_true rfl⟩, hts (.static yX6_isPrimitive) (by decide +kernel), trivial⟩ rfl hl.1 rfl (Nat.le_of_ble_eq_true rfl) dX4_commonOf_33 (fun H locs hI => ?_)
      refine lv_if_eq (tgt := 41) hx hb dX4_commonOf_36 (by decide) (fun c13 => ?_) (fun c13 => ?_)
      · replace h := tf_pos c13 h
        refine lv_aload_n hx hb dX4_commonOf_41 rfl (lv_at hl 0 rfl) ?_
        refine tf_get (C := RX4) (T := TX4) (N := 10) hx hb hts hn_X4 hown hK hI 1 (tf_xat_1 ad cI cZ _) rfl 4 (by decide) hf_25 rfl rfl dX4_commonOf_42 ?_
        refine lv_iload_n hx hb dX4_commonOf_45 rfl (lv_at hl 1 rfl) ?_
        obtain ⟨b14, h⟩ := tf_gin h
        refine va_iald hx hb hK hI.1 9 0 (tf_xat_9 ad cI cZ _) rfl b14 dX4_commonOf_46 ?_
        obtain ⟨v15, ev15, h⟩ := tf_glet h
        refine tf_top ev15 ?_
        refine lv_istore_n (lv' := [(3, .int v15), (0, .ref (ad 1)), (1, .int x1), (2, .int x2)]) hx hb dX4_commonOf_47 rfl hl (by decide) rfl (fun ls hl => ?_)
        refine lv_iconst (v := 0) hx hb dX4_commonOf_48 (by decide +kernel) ?_
        refine lv_istore (lv' := [(4, .int (0 : Int32)), (3, .int v15), (0, .ref (ad 1)), (1, .int x1), (2, .int x2)]) hx hb dX4_commonOf_49 hl (by decide) rfl (fun ls hl => ?_)
        exact j51  _ _ _ _ _ _ _ h hI (lv_sub hl [2, 3, 4, 1, 0] rfl)
      replace h := tf_neg c13 h
      refine lv_iconst (v := -1) hx hb dX4_commonOf_39 (by decide +kernel) ?_
      exact tf_iret hx hb hr hI h dX4_commonOf_40 hlocks
    replace h := tf_neg c7 h
    refine lv_iload_n hx hb dX4_commonOf_23 rfl (lv_at hl 2 rfl) ?_
    exact tf_iret hx hb hr hI h dX4_commonOf_24 hlocks
  replace h := tf_neg c4 h
  refine lv_iload_n hx hb dX4_commonOf_13 rfl (lv_at hl 1 rfl) ?_
  exact tf_iret hx hb hr hI h dX4_commonOf_14 hlocks

set_option maxHeartbeats 4000000 in
set_option maxRecDepth 100000 in
theorem kX_X5_none (l : Launch) (D : va_G) (ad : Nat → Nat) (cI cZ : ClassId) (σ : tf_S) (x1 : Int32) (z : Int32 × tf_S) (h : fX5_none σ x1 = some z) : tf_C l D (tf_wx ad cI cZ) [(cI, .int), (cZ, .boolean)] tf_nest yX5_none wsX5_none ({ frames := 0, cells := 0, slots := 0, locals := 0 }) [.ref (ad 5), .int x1] σ z := by
  intro sz
  refine Met.ofW (cc := cX5_none) (maxL := 2) (ret := (some .int)) (by decide) rfl ?_
  intro p e s m args below meth c s₁ B hml hv
  obtain ⟨rfl, hsz, hP, hK, hN, hD0⟩ := hv
  have hx := B.exec
  have hb := B.bytes
  have hr := B.returns
  have hts := atoms_spec (ws := wsX5_none) B.pre
  have hown : s.vm.findClass RX5 = some m.cls := findClass_of_methodNamed B.named
  have hlocks := B.notSynchronized
  subst hsz
  have hI := tf_start (D := D) (tf_x_ad ad cI cZ) hP hD0
  have hl := lv_entry ([.ref (ad 5), .int x1]) (n := 2) (Nat.le_of_ble_eq_true rfl)
  rw [lg_entry_eq]
  generalize (lg_sl ([.ref (ad 5), .int x1]) ++ List.replicate (2 - (lg_sl ([.ref (ad 5), .int x1])).length) Slot.unset).toArray = ls at hl ⊢
  have hl : lv_has ls 2 [(0, .ref (ad 5)), (1, .int x1)] := hl
  have hn_X5 : ∀ w ∈ u_ws RX5 TX5 6, w ∈ wsX5_none := by decide +kernel
  have hf_9 := hts (.fieldLink RX5 9 "TypeFlow$Worker" "fault" "I") (by decide +kernel)
  unfold fX5_none at h
  refine lv_aload_n hx hb dX5_none_0 rfl (lv_at hl 0 rfl) ?_
  refine lv_iload_n hx hb dX5_none_1 rfl (lv_at hl 1 rfl) ?_
  obtain ⟨s1, es1, h⟩ := tf_glet h
  refine tf_put (C := RX5) (T := TX5) (N := 6) (ty := .int) hx hb hts hn_X5 tyX5 tyX5_ok nmX5 hown hK hI 5 (tf_xat_5 ad cI cZ _) rfl 4 (by decide) hf_9 rfl rfl (by decide +kernel) rfl rfl (Nat.le_of_ble_eq_true rfl) (tf_xput_5_4 ad cI cZ _ _) es1 dX5_none_2 (fun H locs hI => ?_)
  refine lv_iconst (v := -1) hx hb dX5_none_5 (by decide +kernel) ?_
  exact tf_iret hx hb hr hI h dX5_none_6 hlocks

set_option maxHeartbeats 4000000 in
set_option maxRecDepth 100000 in
theorem kX_X5_orFault (l : Launch) (D : va_G) (ad : Nat → Nat) (cI cZ : ClassId) (σ : tf_S) (x1 x2 : Int32) (z : Int32 × tf_S) (h : fX5_orFault σ x1 x2 = some z) : tf_C l D (tf_wx ad cI cZ) [(cI, .int), (cZ, .boolean)] tf_nest yX5_orFault wsX5_orFault ({ frames := 1, cells := 0, slots := 0, locals := 21 }) [.ref (ad 5), .int x1, .int x2] σ z := by
  intro sz
  refine Met.ofW (cc := cX5_orFault) (maxL := 3) (ret := (some .int)) (by decide) rfl ?_
  intro p e s m args below meth c s₁ B hml hv
  obtain ⟨rfl, hsz, hP, hK, hN, hD0⟩ := hv
  have hx := B.exec
  have hb := B.bytes
  have hr := B.returns
  have hts := atoms_spec (ws := wsX5_orFault) B.pre
  have hown : s.vm.findClass RX5 = some m.cls := findClass_of_methodNamed B.named
  have hlocks := B.notSynchronized
  subst hsz
  have hI := tf_start (D := D) (tf_x_ad ad cI cZ) hP hD0
  have hl := lv_entry ([.ref (ad 5), .int x1, .int x2]) (n := 3) (Nat.le_of_ble_eq_true rfl)
  rw [lg_entry_eq]
  generalize (lg_sl ([.ref (ad 5), .int x1, .int x2]) ++ List.replicate (3 - (lg_sl ([.ref (ad 5), .int x1, .int x2])).length) Slot.unset).toArray = ls at hl ⊢
  have hl : lv_has ls 3 [(0, .ref (ad 5)), (1, .int x1), (2, .int x2)] := hl
  unfold fX5_orFault at h
  refine lv_iload_n hx hb dX5_orFault_0 rfl (lv_at hl 1 rfl) ?_
  refine lv_if_lt (tgt := 6) hx hb dX5_orFault_1 (by decide) (fun c1 => ?_) (fun c1 => ?_)
  · replace h := tf_pos c1 h
    refine lv_aload_n hx hb dX5_orFault_6 rfl (lv_at hl 0 rfl) ?_
    refine lv_iload_n hx hb dX5_orFault_7 rfl (lv_at hl 1 rfl) ?_
    refine lv_bipush (v := -3) hx hb dX5_orFault_8 (by decide +kernel) ?_
    refine lv_icmp_ne (tgt := 18) hx hb dX5_orFault_10 (by decide) (fun c2 => ?_) (fun c2 => ?_)
    · replace h := tf_neg c2 h
      refine lv_iload_n hx hb dX5_orFault_18 rfl (lv_at hl 2 rfl) ?_
      obtain ⟨u3, q4, h⟩ := tf_gbind h
      refine tf_callV (rest := []) ⟨hx, hb, hml, hown, hts⟩ hK hN hI (kX_X5_none l D ad cI cZ _ _ _ q4) (cwV 1 hts gX5_orFault_X5_none rfl rfl rfl (by decide +kernel) ⟨Nat.le_of_ble_eq_true rfl, Nat.le_of_ble_eq_true rfl⟩) 5 5 (tf_xat_5 ad cI cZ _) rfl rfl hl.1 rfl (Nat.le_of_ble_eq_true rfl) dX5_orFault_19 (fun H locs hI => ?_)
      exact tf_iret hx hb hr hI h dX5_orFault_22 hlocks
    replace h := tf_pos c2 h
    refine lv_bipush (v := 8) hx hb dX5_orFault_13 (by decide +kernel) ?_
    refine lv_goto (tgt := 19) hx hb dX5_orFault_15 (by decide) ?_
    obtain ⟨u5, q6, h⟩ := tf_gbind h
    refine tf_callV (rest := []) ⟨hx, hb, hml, hown, hts⟩ hK hN hI (kX_X5_none l D ad cI cZ _ _ _ q6) (cwV 1 hts gX5_orFault_X5_none rfl rfl rfl (by decide +kernel) ⟨Nat.le_of_ble_eq_true rfl, Nat.le_of_ble_eq_true rfl⟩) 5 5 (tf_xat_5 ad cI cZ _) rfl rfl hl.1 rfl (Nat.le_of_ble_eq_true rfl) dX5_orFault_19 (fun H locs hI => ?_)
    exact tf_iret hx hb hr hI h dX5_orFault_22 hlocks
  replace h := tf_neg c1 h
  refine lv_iload_n hx hb dX5_orFault_4 rfl (lv_at hl 1 rfl) ?_
  exact tf_iret hx hb hr hI h dX5_orFault_5 hlocks

set_option maxHeartbeats 4000000 in
set_option maxRecDepth 100000 in
theorem kX_X5_filtered (l : Launch) (D : va_G) (ad : Nat → Nat) (cI cZ : ClassId) (σ : tf_S) (x1 x2 : Int32) (z : Int32 × tf_S) (h : fX5_filtered σ x1 x2 = some z) : tf_C l D (tf_wx ad cI cZ) [(cI, .int), (cZ, .boolean)] tf_nest yX5_filtered wsX5_filtered ({ frames := 1, cells := 0, slots := 0, locals := 21 }) [.ref (ad 5), .int x1, .int x2] σ z := by
  intro sz
  refine Met.ofW (cc := cX5_filtered) (maxL := 3) (ret := (some .int)) (by decide) rfl ?_
  intro p e s m args below meth c s₁ B hml hv
  obtain ⟨rfl, hsz, hP, hK, hN, hD0⟩ := hv
  have hx := B.exec
  have hb := B.bytes
  have hr := B.returns
  have hts := atoms_spec (ws := wsX5_filtered) B.pre
  have hown : s.vm.findClass RX5 = some m.cls := findClass_of_methodNamed B.named
  have hlocks := B.notSynchronized
  subst hsz
  have hI := tf_start (D := D) (tf_x_ad ad cI cZ) hP hD0
  have hl := lv_entry ([.ref (ad 5), .int x1, .int x2]) (n := 3) (Nat.le_of_ble_eq_true rfl)
  rw [lg_entry_eq]
  generalize (lg_sl ([.ref (ad 5), .int x1, .int x2]) ++ List.replicate (3 - (lg_sl ([.ref (ad 5), .int x1, .int x2])).length) Slot.unset).toArray = ls at hl ⊢
  have hl : lv_has ls 3 [(0, .ref (ad 5)), (1, .int x1), (2, .int x2)] := hl
  unfold fX5_filtered at h
  refine lv_iload_n hx hb dX5_filtered_0 rfl (lv_at hl 2 rfl) ?_
  refine lv_iconst (v := -1) hx hb dX5_filtered_1 (by decide +kernel) ?_
  refine lv_icmp_ne (tgt := 7) hx hb dX5_filtered_2 (by decide) (fun c1 => ?_) (fun c1 => ?_)
  · replace h := tf_neg c1 h
    refine lv_iload_n hx hb dX5_filtered_7 rfl (lv_at hl 2 rfl) ?_
    refine lv_if_ne (tgt := 15) hx hb dX5_filtered_8 (by decide) (fun c2 => ?_) (fun c2 => ?_)
    · replace h := tf_neg c2 h
      refine lv_aload_n hx hb dX5_filtered_15 rfl (lv_at hl 0 rfl) ?_
      refine lv_iconst (v := 1) hx hb dX5_filtered_16 (by decide +kernel) ?_
      obtain ⟨u3, q4, h⟩ := tf_gbind h
      refine tf_callV (rest := []) ⟨hx, hb, hml, hown, hts⟩ hK hN hI (kX_X5_none l D ad cI cZ _ _ _ q4) (cwV 1 hts gX5_filtered_X5_none rfl rfl rfl (by decide +kernel) ⟨Nat.le_of_ble_eq_true rfl, Nat.le_of_ble_eq_true rfl⟩) 5 5 (tf_xat_5 ad cI cZ _) rfl rfl hl.1 rfl (Nat.le_of_ble_eq_true rfl) dX5_filtered_17 (fun H locs hI => ?_)
      exact tf_iret hx hb hr hI h dX5_filtered_20 hlocks
    replace h := tf_pos c2 h
    refine lv_iload_n hx hb dX5_filtered_11 rfl (lv_at hl 1 rfl) ?_
    refine lv_goto (tgt := 20) hx hb dX5_filtered_12 (by decide) ?_
    exact tf_iret hx hb hr hI h dX5_filtered_20 hlocks
  replace h := tf_pos c1 h
  refine lv_iconst (v := -1) hx hb dX5_filtered_5 (by decide +kernel) ?_
  exact tf_iret hx hb hr hI h dX5_filtered_6 hlocks

set_option maxHeartbeats 4000000 in
set_option maxRecDepth 100000 in
theorem kX_X5_memberOf (l : Launch) (D : va_G) (ad : Nat → Nat) (cI cZ : ClassId) (σ : tf_S) (x1 x2 : Int32) (z : Int32 × tf_S) (h : fX5_memberOf σ x1 x2 = some z) : tf_C l D (tf_wx ad cI cZ) [(cI, .int), (cZ, .boolean)] tf_nest yX5_memberOf wsX5_memberOf ({ frames := 3, cells := 0, slots := 0, locals := 76 }) [.ref (ad 5), .int x1, .int x2] σ z := by
  intro sz
  refine Met.ofW (cc := cX5_memberOf) (maxL := 5) (ret := (some .int)) (by decide) rfl ?_
  intro p e s m args below meth c s₁ B hml hv
  obtain ⟨rfl, hsz, hP, hK, hN, hD0⟩ := hv
  have hx := B.exec
  have hb := B.bytes
  have hr := B.returns
  have hts := atoms_spec (ws := wsX5_memberOf) B.pre
  have hown : s.vm.findClass RX5 = some m.cls := findClass_of_methodNamed B.named
  have hlocks := B.notSynchronized
  subst hsz
  have hI := tf_start (D := D) (tf_x_ad ad cI cZ) hP hD0
  have hl := lv_entry ([.ref (ad 5), .int x1, .int x2]) (n := 5) (Nat.le_of_ble_eq_true rfl)
  rw [lg_entry_eq]
  generalize (lg_sl ([.ref (ad 5), .int x1, .int x2]) ++ List.replicate (5 - (lg_sl ([.ref (ad 5), .int x1, .int x2])).length) Slot.unset).toArray = ls at hl ⊢
  have hl : lv_has ls 5 [(0, .ref (ad 5)), (1, .int x1), (2, .int x2)] := hl
  have hn_X1 : ∀ w ∈ u_ws RX1 TX1 3, w ∈ wsX5_memberOf := by decide +kernel
  have hn_X4 : ∀ w ∈ u_ws RX4 TX4 10, w ∈ wsX5_memberOf := by decide +kernel
  have hn_X5 : ∀ w ∈ u_ws RX5 TX5 6, w ∈ wsX5_memberOf := by decide +kernel
  have hf_19 := hts (.fieldLink RX5 19 "TypeFlow$Worker" "types" "LTypeFlow$Types;") (by decide +kernel)
  have hf_23 := hts (.fieldLink RX5 23 "TypeFlow$Worker" "members" "LTypeFlow$Members;") (by decide +kernel)
  have hf_106 := hts (.fieldLink RX5 106 "TypeFlow$Members" "ofClass" "[I") (by decide +kernel)
  have hf_114 := hts (.fieldLink RX5 114 "TypeFlow$Members" "type" "[I") (by decide +kernel)
  have hf_115 := hts (.fieldLink RX5 115 "TypeFlow$Types" "first" "[I") (by decide +kernel)
  have hf_118 := hts (.fieldLink RX5 118 "TypeFlow$Types" "second" "[I") (by decide +kernel)
  unfold fX5_memberOf at h
  refine lv_iload_n hx hb dX5_memberOf_0 rfl (lv_at hl 1 rfl) ?_
  obtain ⟨u1, q2, h⟩ := tf_gbind h
  refine tf_callSN (rest := []) ⟨hx, hb, hml, hown, hts⟩ hK hN hI (kX_X6_isPrimitive l D ad cI cZ _ _ _ q2) ⟨va_cnB 1 hts gX5_memberOf_X6_isPrimitive_n103 rfl rfl rfl (hN (RX5, 103, yX6_isPrimitive, "TypeFlow") (by decide +kernel)) (hts (.initialized RX6) (by decide +kernel)) (by decide +kernel) ⟨Nat.le_of_ble_eq_true rfl, Nat.le_of_ble_eq_true rfl⟩, hts (.static yX6_isPrimitive) (by decide +kernel), trivial⟩ rfl hl.1 rfl (Nat.le_of_ble_eq_true rfl) dX5_memberOf_1 (fun H locs hI => ?_)
  refine lv_if_eq (tgt := 13) hx hb dX5_memberOf_4 (by decide) (fun c3 => ?_) (fun c3 => ?_)
  · replace h := tf_pos c3 h
    refine lv_aload_n hx hb dX5_memberOf_13 rfl (lv_at hl 0 rfl) ?_
    refine lv_aload_n hx hb dX5_memberOf_14 rfl (lv_at hl 0 rfl) ?_
    refine tf_get (C := RX5) (T := TX5) (N := 6) hx hb hts hn_X5 hown hK hI 5 (tf_xat_5 ad cI cZ _) rfl 0 (by decide) hf_19 rfl rfl dX5_memberOf_15 ?_
    refine lv_iload_n hx hb dX5_memberOf_18 rfl (lv_at hl 1 rfl) ?_
    refine lv_aload_n hx hb dX5_memberOf_19 rfl (lv_at hl 0 rfl) ?_
    refine tf_get (C := RX5) (T := TX5) (N := 6) hx hb hts hn_X5 hown hK hI 5 (tf_xat_5 ad cI cZ _) rfl 1 (by decide) hf_23 rfl rfl dX5_memberOf_20 ?_
    refine tf_get (C := RX1) (T := TX1) (N := 3) hx hb hts hn_X1 hown hK hI 2 (tf_xat_2 ad cI cZ _) rfl 1 (by decide) hf_106 rfl rfl dX5_memberOf_23 ?_
    refine lv_iload_n hx hb dX5_memberOf_26 rfl (lv_at hl 2 rfl) ?_
    obtain ⟨b4, h⟩ := tf_gin h
    refine va_iald hx hb hK hI.1 15 0 (tf_xat_15 ad cI cZ _) rfl b4 dX5_memberOf_27 ?_
    obtain ⟨u5, q6, h⟩ := tf_gbind h
    refine tf_callV (rest := [.ref (ad 5)]) ⟨hx, hb, hml, hown, hts⟩ hK hN hI (kX_X4_seenAs l D ad cI cZ _ _ _ _ q6) (cwV 2 hts gX5_memberOf_X4_seenAs rfl rfl rfl (by decide +kernel) ⟨Nat.le_of_ble_eq_true rfl, Nat.le_of_ble_eq_true rfl⟩) 1 4 (tf_xat_1 ad cI cZ _) rfl rfl hl.1 rfl (Nat.le_of_ble_eq_true rfl) dX5_memberOf_28 (fun H locs hI => ?_)
    refine lv_iconst (v := 5) hx hb dX5_memberOf_31 (by decide +kernel) ?_
    obtain ⟨u7, q8, h⟩ := tf_gbind h
    refine tf_callV (rest := []) ⟨hx, hb, hml, hown, hts⟩ hK hN hI (kX_X5_orFault l D ad cI cZ _ _ _ _ q8) (cwV 2 hts gX5_memberOf_X5_orFault rfl rfl rfl (by decide +kernel) ⟨Nat.le_of_ble_eq_true rfl, Nat.le_of_ble_eq_true rfl⟩) 5 5 (tf_xat_5 ad cI cZ _) rfl rfl hl.1 rfl (Nat.le_of_ble_eq_true rfl) dX5_memberOf_32 (fun H locs hI => ?_)
    obtain ⟨v9, ev9, h⟩ := tf_glet h
    refine tf_top ev9 ?_
    refine lv_istore_n (lv' := [(3, .int v9), (0, .ref (ad 5)), (1, .int x1), (2, .int x2)]) hx hb dX5_memberOf_35 rfl hl (by decide) rfl (fun ls hl => ?_)
    refine lv_iload_n hx hb dX5_memberOf_36 rfl (lv_at hl 0 rfl) ?_
    refine lv_iconst (v := -1) hx hb dX5_memberOf_37 (by decide +kernel) ?_
    refine lv_icmp_ne (tgt := 43) hx hb dX5_memberOf_38 (by decide) (fun c10 => ?_) (fun c10 => ?_)
    · replace h := tf_neg c10 h
      refine lv_aload_n hx hb dX5_memberOf_43 rfl (lv_at hl 1 rfl) ?_
      refine tf_get (C := RX5) (T := TX5) (N := 6) hx hb hts hn_X5 hown hK hI 5 (tf_xat_5 ad cI cZ _) rfl 1 (by decide) hf_23 rfl rfl dX5_memberOf_44 ?_
      refine tf_get (C := RX1) (T := TX1) (N := 3) hx hb hts hn_X1 hown hK hI 2 (tf_xat_2 ad cI cZ _) rfl 2 (by decide) hf_114 rfl rfl dX5_memberOf_47 ?_
      refine lv_iload_n hx hb dX5_memberOf_50 rfl (lv_at hl 3 rfl) ?_
      obtain ⟨b11, h⟩ := tf_gin h
      refine va_iald hx hb hK hI.1 16 0 (tf_xat_16 ad cI cZ _) rfl b11 dX5_memberOf_51 ?_
      obtain ⟨v12, ev12, h⟩ := tf_glet h
      refine tf_top ev12 ?_
      refine lv_istore (lv' := [(4, .int v12), (3, .int v9), (0, .ref (ad 5)), (1, .int x1), (2, .int x2)]) hx hb dX5_memberOf_52 hl (by decide) rfl (fun ls hl => ?_)
      refine lv_aload_n hx hb dX5_memberOf_54 rfl (lv_at hl 2 rfl) ?_
      refine lv_aload_n hx hb dX5_memberOf_55 rfl (lv_at hl 2 rfl) ?_
      refine tf_get (C := RX5) (T := TX5) (N := 6) hx hb hts hn_X5 hown hK hI 5 (tf_xat_5 ad cI cZ _) rfl 0 (by decide) hf_19 rfl rfl dX5_memberOf_56 ?_
      refine lv_iload hx hb dX5_memberOf_59 (lv_at hl 0 rfl) ?_
      refine lv_aload_n hx hb dX5_memberOf_61 rfl (lv_at hl 2 rfl) ?_
      refine tf_get (C := RX5) (T := TX5) (N := 6) hx hb hts hn_X5 hown hK hI 5 (tf_xat_5 ad cI cZ _) rfl 0 (by decide) hf_19 rfl rfl dX5_memberOf_62 ?_
      refine tf_get (C := RX4) (T := TX4) (N := 10) hx hb hts hn_X4 hown hK hI 1 (tf_xat_1 ad cI cZ _) rfl 5 (by decide) hf_115 rfl rfl dX5_memberOf_65 ?_
      refine lv_iload_n hx hb dX5_memberOf_68 rfl (lv_at hl 1 rfl) ?_
      obtain ⟨b13, h⟩ := tf_gin h
      refine va_iald hx hb hK hI.1 10 0 (tf_xat_10 ad cI cZ _) rfl b13 dX5_memberOf_69 ?_
      refine lv_aload_n hx hb dX5_memberOf_70 rfl (lv_at hl 2 rfl) ?_
      refine tf_get (C := RX5) (T := TX5) (N := 6) hx hb hts hn_X5 hown hK hI 5 (tf_xat_5 ad cI cZ _) rfl 0 (by decide) hf_19 rfl rfl dX5_memberOf_71 ?_
      refine tf_get (C := RX4) (T := TX4) (N := 10) hx hb hts hn_X4 hown hK hI 1 (tf_xat_1 ad cI cZ _) rfl 6 (by decide) hf_118 rfl rfl dX5_memberOf_74 ?_
      refine lv_iload_n hx hb dX5_memberOf_77 rfl (lv_at hl 1 rfl) ?_
      obtain ⟨b14, h⟩ := tf_gin h
      refine va_iald hx hb hK hI.1 11 0 (tf_xat_11 ad cI cZ _) rfl b14 dX5_memberOf_78 ?_
      obtain ⟨u15, q16, h⟩ := tf_gbind h
      refine tf_callV (rest := [.ref (ad 5)]) ⟨hx, hb, hml, hown, hts⟩ hK hN hI (kX_X4_putIn l D ad cI cZ _ _ _ _ _ q16) (cwV 3 hts gX5_memberOf_X4_putIn rfl rfl rfl (by decide +kernel) ⟨Nat.le_of_ble_eq_true rfl, Nat.le_of_ble_eq_true rfl⟩) 1 4 (tf_xat_1 ad cI cZ _) rfl rfl hl.1 rfl (Nat.le_of_ble_eq_true rfl) dX5_memberOf_79 (fun H locs hI => ?_)
      refine lv_bipush (v := 8) hx hb dX5_memberOf_82 (by decide +kernel) ?_
      obtain ⟨u17, q18, h⟩ := tf_gbind h
      refine tf_callV (rest := []) ⟨hx, hb, hml, hown, hts⟩ hK hN hI (kX_X5_orFault l D ad cI cZ _ _ _ _ q18) (cwV 2 hts gX5_memberOf_X5_orFault rfl rfl rfl (by decide +kernel) ⟨Nat.le_of_ble_eq_true rfl, Nat.le_of_ble_eq_true rfl⟩) 5 5 (tf_xat_5 ad cI cZ _) rfl rfl hl.1 rfl (Nat.le_of_ble_eq_true rfl) dX5_memberOf_84 (fun H locs hI => ?_)
      exact tf_iret hx hb hr hI h dX5_memberOf_87 hlocks
    replace h := tf_pos c10 h
    refine lv_iconst (v := -1) hx hb dX5_memberOf_41 (by decide +kernel) ?_
    exact tf_iret hx hb hr hI h dX5_memberOf_42 hlocks
  replace h := tf_neg c3 h
  refine lv_aload_n hx hb dX5_memberOf_7 rfl (lv_at hl 0 rfl) ?_
  refine lv_iconst (v := 5) hx hb dX5_memberOf_8 (by decide +kernel) ?_
  obtain ⟨u19, q20, h⟩ := tf_gbind h
  refine tf_callV (rest := []) ⟨hx, hb, hml, hown, hts⟩ hK hN hI (kX_X5_none l D ad cI cZ _ _ _ q20) (cwV 1 hts gX5_memberOf_X5_none rfl rfl rfl (by decide +kernel) ⟨Nat.le_of_ble_eq_true rfl, Nat.le_of_ble_eq_true rfl⟩) 5 5 (tf_xat_5 ad cI cZ _) rfl rfl hl.1 rfl (Nat.le_of_ble_eq_true rfl) dX5_memberOf_9 (fun H locs hI => ?_)
  exact tf_iret hx hb hr hI h dX5_memberOf_12 hlocks
end
section
set_option maxHeartbeats 4000000 in
set_option maxRecDepth 100000 in
theorem kX_X5_joined (l : Launch) (D : va_G) (ad : Nat → Nat) (cI cZ : ClassId) (σ : tf_S) (x1 x2 x3 : Int32) (z : Int32 × tf_S) (h : fX5_joined σ x1 x2 x3 = some z) : tf_C l D (tf_wx ad cI cZ) [(cI, .int), (cZ, .boolean)] tf_nest yX5_joined wsX5_joined ({ frames := 4, cells := 0, slots := 0, locals := 100 }) [.ref (ad 5), .int x1, .int x2, .int x3] σ z := by
  intro sz
  refine Met.ofW (cc := cX5_joined) (maxL := 7) (ret := (some .int)) (by decide) rfl ?_
  intro p e s m args below meth c s₁ B hml hv
  obtain ⟨rfl, hsz, hP, hK, hN, hD0⟩ := hv
  have hx := B.exec
  have hb := B.bytes
  have hr := B.returns
  have hts := atoms_spec (ws := wsX5_joined) B.pre
  have hown : s.vm.findClass RX5 = some m.cls := findClass_of_methodNamed B.named
  have hlocks := B.notSynchronized
  subst hsz
  have hI := tf_start (D := D) (tf_x_ad ad cI cZ) hP hD0
  have hl := lv_entry ([.ref (ad 5), .int x1, .int x2, .int x3]) (n := 7) (Nat.le_of_ble_eq_true rfl)
  rw [lg_entry_eq]
  generalize (lg_sl ([.ref (ad 5), .int x1, .int x2, .int x3]) ++ List.replicate (7 - (lg_sl ([.ref (ad 5), .int x1, .int x2, .int x3])).length) Slot.unset).toArray = ls at hl ⊢
  have hl : lv_has ls 7 [(0, .ref (ad 5)), (1, .int x1), (2, .int x2), (3, .int x3)] := hl
  have hn_X2 : ∀ w ∈ u_ws RX2 TX2 11, w ∈ wsX5_joined := by decide +kernel
  have hn_X5 : ∀ w ∈ u_ws RX5 TX5 6, w ∈ wsX5_joined := by decide +kernel
  have hf_19 := hts (.fieldLink RX5 19 "TypeFlow$Worker" "types" "LTypeFlow$Types;") (by decide +kernel)
  have hf_27 := hts (.fieldLink RX5 27 "TypeFlow$Worker" "operators" "LTypeFlow$Operators;") (by decide +kernel)
  have hf_40 := hts (.fieldLink RX5 40 "TypeFlow$Operators" "f" "[I") (by decide +kernel)
  have hf_124 := hts (.fieldLink RX5 124 "TypeFlow$Operators" "g" "[I") (by decide +kernel)
  have hf_130 := hts (.fieldLink RX5 130 "TypeFlow$Operators" "c" "[I") (by decide +kernel)
  have j79 : ∀ (σ : tf_S) (y6 : Int32) (H : Heap) (locs : List Loc) (ls : Array Slot), fX5_joined_79 x1 x2 x3 σ y6 = some z → tf_I D (tf_wx ad cI cZ) s.heap σ H locs → lv_has ls 7 [(0, .ref (ad 5)), (1, .int x1), (2, .int x2), (3, .int x3), (6, .int y6)] → W p l e (headSpec wsX5_joined ({ frames := 4, cells := 0, slots := 0, locals := 100 })).room s m ([.ref (ad 5), .int x1, .int x2, .int x3] : List Value).toArray below meth c H locs 0 0 (tf_Q below D (tf_wx ad cI cZ) z ([.ref (ad 5), .int x1, .int x2, .int x3] : List Value).toArray s) (F0 m 79 ls []) := by
    intro σ y6 H locs ls h hI hl
    unfold fX5_joined_79 at h
    refine lv_iload hx hb dX5_joined_79 (lv_at hl 4 rfl) ?_
    refine lv_iconst (v := 1) hx hb dX5_joined_81 (by decide +kernel) ?_
    refine lv_icmp_eq (tgt := 104) hx hb dX5_joined_82 (by decide) (fun c15 => ?_) (fun c15 => ?_)
    · replace h := tf_pos c15 h
      refine lv_aload_n hx hb dX5_joined_104 rfl (lv_at hl 0 rfl) ?_
      refine lv_aload_n hx hb dX5_joined_105 rfl (lv_at hl 0 rfl) ?_
      refine tf_get (C := RX5) (T := TX5) (N := 6) hx hb hts hn_X5 hown hK hI 5 (tf_xat_5 ad cI cZ _) rfl 0 (by decide) hf_19 rfl rfl dX5_joined_106 ?_
      refine lv_aload_n hx hb dX5_joined_109 rfl (lv_at hl 0 rfl) ?_
      refine tf_get (C := RX5) (T := TX5) (N := 6) hx hb hts hn_X5 hown hK hI 5 (tf_xat_5 ad cI cZ _) rfl 2 (by decide) hf_27 rfl rfl dX5_joined_110 ?_
      refine tf_get (C := RX2) (T := TX2) (N := 11) hx hb hts hn_X2 hown hK hI 4 (tf_xat_4 ad cI cZ _) rfl 6 (by decide) hf_130 rfl rfl dX5_joined_113 ?_
      refine lv_iload_n hx hb dX5_joined_116 rfl (lv_at hl 1 rfl) ?_
      obtain ⟨b16, h⟩ := tf_gin h
      refine va_iald hx hb hK hI.1 26 0 (tf_xat_26 ad cI cZ _) rfl b16 dX5_joined_117 ?_
      refine lv_iload_n hx hb dX5_joined_118 rfl (lv_at hl 2 rfl) ?_
      refine lv_iload_n hx hb dX5_joined_119 rfl (lv_at hl 3 rfl) ?_
      obtain ⟨u17, q18, h⟩ := tf_gbind h
      refine tf_callV (rest := [.ref (ad 5)]) ⟨hx, hb, hml, hown, hts⟩ hK hN hI (kX_X4_make l D ad cI cZ _ _ _ _ _ q18) (cwV 3 hts gX5_joined_X4_make rfl rfl rfl (by decide +kernel) ⟨Nat.le_of_ble_eq_true rfl, Nat.le_of_ble_eq_true rfl⟩) 1 4 (tf_xat_1 ad cI cZ _) rfl rfl hl.1 rfl (Nat.le_of_ble_eq_true rfl) dX5_joined_120 (fun H locs hI => ?_)
      refine lv_bipush (v := 8) hx hb dX5_joined_123 (by decide +kernel) ?_
      obtain ⟨u19, q20, h⟩ := tf_gbind h
      refine tf_callV (rest := []) ⟨hx, hb, hml, hown, hts⟩ hK hN hI (kX_X5_orFault l D ad cI cZ _ _ _ _ q20) (cwV 2 hts gX5_joined_X5_orFault rfl rfl rfl (by decide +kernel) ⟨Nat.le_of_ble_eq_true rfl, Nat.le_of_ble_eq_true rfl⟩) 5 5 (tf_xat_5 ad cI cZ _) rfl rfl hl.1 rfl (Nat.le_of_ble_eq_true rfl) dX5_joined_125 (fun H locs hI => ?_)
      exact tf_iret hx hb hr hI h dX5_joined_128 hlocks
    replace h := tf_neg c15 h
    refine lv_aload_n hx hb dX5_joined_85 rfl (lv_at hl 0 rfl) ?_
    refine lv_iload hx hb dX5_joined_86 (lv_at hl 4 rfl) ?_
    refine lv_bipush (v := -3) hx hb dX5_joined_88 (by decide +kernel) ?_
    refine lv_icmp_ne (tgt := 98) hx hb dX5_joined_90 (by decide) (fun c21 => ?_) (fun c21 => ?_)
    · replace h := tf_neg c21 h
      refine lv_bipush (v := 6) hx hb dX5_joined_98 (by decide +kernel) ?_
      obtain ⟨u22, q23, h⟩ := tf_gbind h
      refine tf_callV (rest := []) ⟨hx, hb, hml, hown, hts⟩ hK hN hI (kX_X5_none l D ad cI cZ _ _ _ q23) (cwV 1 hts gX5_joined_X5_none rfl rfl rfl (by decide +kernel) ⟨Nat.le_of_ble_eq_true rfl, Nat.le_of_ble_eq_true rfl⟩) 5 5 (tf_xat_5 ad cI cZ _) rfl rfl hl.1 rfl (Nat.le_of_ble_eq_true rfl) dX5_joined_100 (fun H locs hI => ?_)
      exact tf_iret hx hb hr hI h dX5_joined_103 hlocks
    replace h := tf_pos c21 h
    refine lv_bipush (v := 8) hx hb dX5_joined_93 (by decide +kernel) ?_
    refine lv_goto (tgt := 100) hx hb dX5_joined_95 (by decide) ?_
    obtain ⟨u24, q25, h⟩ := tf_gbind h
    refine tf_callV (rest := []) ⟨hx, hb, hml, hown, hts⟩ hK hN hI (kX_X5_none l D ad cI cZ _ _ _ q25) (cwV 1 hts gX5_joined_X5_none rfl rfl rfl (by decide +kernel) ⟨Nat.le_of_ble_eq_true rfl, Nat.le_of_ble_eq_true rfl⟩) 5 5 (tf_xat_5 ad cI cZ _) rfl rfl hl.1 rfl (Nat.le_of_ble_eq_true rfl) dX5_joined_100 (fun H locs hI => ?_)
    exact tf_iret hx hb hr hI h dX5_joined_103 hlocks
  unfold fX5_joined at h
  refine lv_aload_n hx hb dX5_joined_0 rfl (lv_at hl 0 rfl) ?_
  refine lv_iload_n hx hb dX5_joined_1 rfl (lv_at hl 2 rfl) ?_
  refine lv_aload_n hx hb dX5_joined_2 rfl (lv_at hl 0 rfl) ?_
  refine tf_get (C := RX5) (T := TX5) (N := 6) hx hb hts hn_X5 hown hK hI 5 (tf_xat_5 ad cI cZ _) rfl 2 (by decide) hf_27 rfl rfl dX5_joined_3 ?_
  refine tf_get (C := RX2) (T := TX2) (N := 11) hx hb hts hn_X2 hown hK hI 4 (tf_xat_4 ad cI cZ _) rfl 4 (by decide) hf_40 rfl rfl dX5_joined_6 ?_
  refine lv_iload_n hx hb dX5_joined_9 rfl (lv_at hl 1 rfl) ?_
  obtain ⟨b1, h⟩ := tf_gin h
  refine va_iald hx hb hK hI.1 24 0 (tf_xat_24 ad cI cZ _) rfl b1 dX5_joined_10 ?_
  obtain ⟨u2, q3, h⟩ := tf_gbind h
  refine tf_callV (rest := []) ⟨hx, hb, hml, hown, hts⟩ hK hN hI (kX_X5_memberOf l D ad cI cZ _ _ _ _ q3) (cwV 2 hts gX5_joined_X5_memberOf rfl rfl rfl (by decide +kernel) ⟨Nat.le_of_ble_eq_true rfl, Nat.le_of_ble_eq_true rfl⟩) 5 5 (tf_xat_5 ad cI cZ _) rfl rfl hl.1 rfl (Nat.le_of_ble_eq_true rfl) dX5_joined_11 (fun H locs hI => ?_)
  obtain ⟨v4, ev4, h⟩ := tf_glet h
  refine tf_top ev4 ?_
  refine lv_istore (lv' := [(4, .int v4), (0, .ref (ad 5)), (1, .int x1), (2, .int x2), (3, .int x3)]) hx hb dX5_joined_14 hl (by decide) rfl (fun ls hl => ?_)
  refine lv_iload hx hb dX5_joined_16 (lv_at hl 0 rfl) ?_
  refine lv_iconst (v := -1) hx hb dX5_joined_18 (by decide +kernel) ?_
  refine lv_icmp_ne (tgt := 24) hx hb dX5_joined_19 (by decide) (fun c5 => ?_) (fun c5 => ?_)
  · replace h := tf_neg c5 h
    refine lv_aload_n hx hb dX5_joined_24 rfl (lv_at hl 1 rfl) ?_
    refine lv_iload_n hx hb dX5_joined_25 rfl (lv_at hl 4 rfl) ?_
    refine lv_aload_n hx hb dX5_joined_26 rfl (lv_at hl 1 rfl) ?_
    refine tf_get (C := RX5) (T := TX5) (N := 6) hx hb hts hn_X5 hown hK hI 5 (tf_xat_5 ad cI cZ _) rfl 2 (by decide) hf_27 rfl rfl dX5_joined_27 ?_
    refine tf_get (C := RX2) (T := TX2) (N := 11) hx hb hts hn_X2 hown hK hI 4 (tf_xat_4 ad cI cZ _) rfl 5 (by decide) hf_124 rfl rfl dX5_joined_30 ?_
    refine lv_iload_n hx hb dX5_joined_33 rfl (lv_at hl 2 rfl) ?_
    obtain ⟨b6, h⟩ := tf_gin h
    refine va_iald hx hb hK hI.1 25 0 (tf_xat_25 ad cI cZ _) rfl b6 dX5_joined_34 ?_
    obtain ⟨u7, q8, h⟩ := tf_gbind h
    refine tf_callV (rest := []) ⟨hx, hb, hml, hown, hts⟩ hK hN hI (kX_X5_memberOf l D ad cI cZ _ _ _ _ q8) (cwV 2 hts gX5_joined_X5_memberOf rfl rfl rfl (by decide +kernel) ⟨Nat.le_of_ble_eq_true rfl, Nat.le_of_ble_eq_true rfl⟩) 5 5 (tf_xat_5 ad cI cZ _) rfl rfl hl.1 rfl (Nat.le_of_ble_eq_true rfl) dX5_joined_35 (fun H locs hI => ?_)
    obtain ⟨v9, ev9, h⟩ := tf_glet h
    refine tf_top ev9 ?_
    refine lv_istore (lv' := [(5, .int v9), (4, .int v4), (0, .ref (ad 5)), (1, .int x1), (2, .int x2), (3, .int x3)]) hx hb dX5_joined_38 hl (by decide) rfl (fun ls hl => ?_)
    refine lv_iload hx hb dX5_joined_40 (lv_at hl 0 rfl) ?_
    refine lv_iconst (v := -1) hx hb dX5_joined_42 (by decide +kernel) ?_
    refine lv_icmp_ne (tgt := 48) hx hb dX5_joined_43 (by decide) (fun c10 => ?_) (fun c10 => ?_)
    · replace h := tf_neg c10 h
      refine lv_aload_n hx hb dX5_joined_48 rfl (lv_at hl 2 rfl) ?_
      refine tf_get (C := RX5) (T := TX5) (N := 6) hx hb hts hn_X5 hown hK hI 5 (tf_xat_5 ad cI cZ _) rfl 0 (by decide) hf_19 rfl rfl dX5_joined_49 ?_
      refine lv_iload hx hb dX5_joined_52 (lv_at hl 1 rfl) ?_
      refine lv_iload hx hb dX5_joined_54 (lv_at hl 0 rfl) ?_
      obtain ⟨u11, q12, h⟩ := tf_gbind h
      refine tf_callV (rest := []) ⟨hx, hb, hml, hown, hts⟩ hK hN hI (kX_X4_goesFor l D ad cI cZ _ _ _ _ q12) (cwV 2 hts gX5_joined_X4_goesFor rfl rfl rfl (by decide +kernel) ⟨Nat.le_of_ble_eq_true rfl, Nat.le_of_ble_eq_true rfl⟩) 1 4 (tf_xat_1 ad cI cZ _) rfl rfl hl.1 rfl (Nat.le_of_ble_eq_true rfl) dX5_joined_56 (fun H locs hI => ?_)
      obtain ⟨v13, ev13, h⟩ := tf_glet h
      refine tf_top ev13 ?_
      refine lv_istore (lv' := [(6, .int v13), (5, .int v9), (4, .int v4), (0, .ref (ad 5)), (1, .int x1), (2, .int x2), (3, .int x3)]) hx hb dX5_joined_59 hl (by decide) rfl (fun ls hl => ?_)
      refine lv_iload hx hb dX5_joined_61 (lv_at hl 0 rfl) ?_
      refine lv_if_ne (tgt := 79) hx hb dX5_joined_63 (by decide) (fun c14 => ?_) (fun c14 => ?_)
      · replace h := tf_neg c14 h
        exact j79  _ _ _ _ _ h hI (lv_sub hl [3, 4, 5, 6, 0] rfl)
      replace h := tf_pos c14 h
      refine lv_aload_n hx hb dX5_joined_66 rfl (lv_at hl 3 rfl) ?_
      refine tf_get (C := RX5) (T := TX5) (N := 6) hx hb hts hn_X5 hown hK hI 5 (tf_xat_5 ad cI cZ _) rfl 0 (by decide) hf_19 rfl rfl dX5_joined_67 ?_
      refine lv_iload hx hb dX5_joined_70 (lv_at hl 1 rfl) ?_
      refine lv_iload hx hb dX5_joined_72 (lv_at hl 2 rfl) ?_
      obtain ⟨u26, q27, h⟩ := tf_gbind h
      refine tf_callV (rest := []) ⟨hx, hb, hml, hown, hts⟩ hK hN hI (kX_X4_goesFor l D ad cI cZ _ _ _ _ q27) (cwV 2 hts gX5_joined_X4_goesFor rfl rfl rfl (by decide +kernel) ⟨Nat.le_of_ble_eq_true rfl, Nat.le_of_ble_eq_true rfl⟩) 1 4 (tf_xat_1 ad cI cZ _) rfl rfl hl.1 rfl (Nat.le_of_ble_eq_true rfl) dX5_joined_74 (fun H locs hI => ?_)
      obtain ⟨v28, ev28, h⟩ := tf_glet h
      refine tf_top ev28 ?_
      refine lv_istore (lv' := [(6, .int v28), (5, .int v9), (4, .int v4), (0, .ref (ad 5)), (1, .int x1), (2, .int x2), (3, .int x3)]) hx hb dX5_joined_77 hl (by decide) rfl (fun ls hl => ?_)
      exact j79  _ _ _ _ _ h hI (lv_sub hl [3, 4, 5, 6, 0] rfl)
    replace h := tf_pos c10 h
    refine lv_iconst (v := -1) hx hb dX5_joined_46 (by decide +kernel) ?_
    exact tf_iret hx hb hr hI h dX5_joined_47 hlocks
  replace h := tf_pos c5 h
  refine lv_iconst (v := -1) hx hb dX5_joined_22 (by decide +kernel) ?_
  exact tf_iret hx hb hr hI h dX5_joined_23 hlocks

set_option maxHeartbeats 4000000 in
set_option maxRecDepth 100000 in
theorem kX_X5_isNumber (l : Launch) (D : va_G) (ad : Nat → Nat) (cI cZ : ClassId) (σ : tf_S) (x0 : Int32) (z : Int32 × tf_S) (h : fX5_isNumber σ x0 = some z) : tf_C l D (tf_wx ad cI cZ) [(cI, .int), (cZ, .boolean)] tf_nest yX5_isNumber wsX5_isNumber ({ frames := 1, cells := 0, slots := 0, locals := 20 }) [.int x0] σ z := by
  intro sz
  refine Met.ofW (cc := cX5_isNumber) (maxL := 1) (ret := (some .boolean)) (by decide) rfl ?_
  intro p e s m args below meth c s₁ B hml hv
  obtain ⟨rfl, hsz, hP, hK, hN, hD0⟩ := hv
  have hx := B.exec
  have hb := B.bytes
  have hr := B.returns
  have hts := atoms_spec (ws := wsX5_isNumber) B.pre
  have hown : s.vm.findClass RX5 = some m.cls := findClass_of_methodNamed B.named
  have hlocks := B.notSynchronized
  subst hsz
  have hI := tf_start (D := D) (tf_x_ad ad cI cZ) hP hD0
  have hl := lv_entry ([.int x0]) (n := 1) (Nat.le_of_ble_eq_true rfl)
  rw [lg_entry_eq]
  generalize (lg_sl ([.int x0]) ++ List.replicate (1 - (lg_sl ([.int x0])).length) Slot.unset).toArray = ls at hl ⊢
  have hl : lv_has ls 1 [(0, .int x0)] := hl
  unfold fX5_isNumber at h
  refine lv_iload_n hx hb dX5_isNumber_0 rfl (lv_at hl 0 rfl) ?_
  obtain ⟨u1, q2, h⟩ := tf_gbind h
  refine tf_callSN (rest := []) ⟨hx, hb, hml, hown, hts⟩ hK hN hI (kX_X6_isPrimitive l D ad cI cZ _ _ _ q2) ⟨va_cnB 1 hts gX5_isNumber_X6_isPrimitive_n103 rfl rfl rfl (hN (RX5, 103, yX6_isPrimitive, "TypeFlow") (by decide +kernel)) (hts (.initialized RX6) (by decide +kernel)) (by decide +kernel) ⟨Nat.le_of_ble_eq_true rfl, Nat.le_of_ble_eq_true rfl⟩, hts (.static yX6_isPrimitive) (by decide +kernel), trivial⟩ rfl hl.1 rfl (Nat.le_of_ble_eq_true rfl) dX5_isNumber_1 (fun H locs hI => ?_)
  refine lv_if_eq (tgt := 15) hx hb dX5_isNumber_4 (by decide) (fun c3 => ?_) (fun c3 => ?_)
  · replace h := tf_pos c3 h
    refine lv_iconst (v := 0) hx hb dX5_isNumber_15 (by decide +kernel) ?_
    exact tf_zret hx hb hr (Or.inl rfl) hI h dX5_isNumber_16 hlocks
  replace h := tf_neg c3 h
  refine lv_iload_n hx hb dX5_isNumber_7 rfl (lv_at hl 0 rfl) ?_
  refine lv_if_eq (tgt := 15) hx hb dX5_isNumber_8 (by decide) (fun c4 => ?_) (fun c4 => ?_)
  · replace h := tf_pos c4 h
    refine lv_iconst (v := 0) hx hb dX5_isNumber_15 (by decide +kernel) ?_
    exact tf_zret hx hb hr (Or.inl rfl) hI h dX5_isNumber_16 hlocks
  replace h := tf_neg c4 h
  refine lv_iconst (v := 1) hx hb dX5_isNumber_11 (by decide +kernel) ?_
  refine lv_goto (tgt := 16) hx hb dX5_isNumber_12 (by decide) ?_
  exact tf_zret hx hb hr (Or.inr rfl) hI h dX5_isNumber_16 hlocks

set_option maxHeartbeats 4000000 in
set_option maxRecDepth 100000 in
theorem kX_X5_castTo (l : Launch) (D : va_G) (ad : Nat → Nat) (cI cZ : ClassId) (σ : tf_S) (x1 x2 : Int32) (z : Int32 × tf_S) (h : fX5_castTo σ x1 x2 = some z) : tf_C l D (tf_wx ad cI cZ) [(cI, .int), (cZ, .boolean)] tf_nest yX5_castTo wsX5_castTo ({ frames := 4, cells := 0, slots := 0, locals := 99 }) [.ref (ad 5), .int x1, .int x2] σ z := by
  intro sz
  refine Met.ofW (cc := cX5_castTo) (maxL := 4) (ret := (some .int)) (by decide) rfl ?_
  intro p e s m args below meth c s₁ B hml hv
  obtain ⟨rfl, hsz, hP, hK, hN, hD0⟩ := hv
  have hx := B.exec
  have hb := B.bytes
  have hr := B.returns
  have hts := atoms_spec (ws := wsX5_castTo) B.pre
  have hown : s.vm.findClass RX5 = some m.cls := findClass_of_methodNamed B.named
  have hlocks := B.notSynchronized
  subst hsz
  have hI := tf_start (D := D) (tf_x_ad ad cI cZ) hP hD0
  have hl := lv_entry ([.ref (ad 5), .int x1, .int x2]) (n := 4) (Nat.le_of_ble_eq_true rfl)
  rw [lg_entry_eq]
  generalize (lg_sl ([.ref (ad 5), .int x1, .int x2]) ++ List.replicate (4 - (lg_sl ([.ref (ad 5), .int x1, .int x2])).length) Slot.unset).toArray = ls at hl ⊢
  have hl : lv_has ls 4 [(0, .ref (ad 5)), (1, .int x1), (2, .int x2)] := hl
  have hn_X5 : ∀ w ∈ u_ws RX5 TX5 6, w ∈ wsX5_castTo := by decide +kernel
  have hf_15 := hts (.fieldLink RX5 15 "TypeFlow$Worker" "risky" "Z") (by decide +kernel)
  have hf_19 := hts (.fieldLink RX5 19 "TypeFlow$Worker" "types" "LTypeFlow$Types;") (by decide +kernel)
  have j52 : ∀ (σ : tf_S) (y3 : Int32) (H : Heap) (locs : List Loc) (ls : Array Slot), fX5_castTo_52 x1 x2 σ y3 = some z → tf_I D (tf_wx ad cI cZ) s.heap σ H locs → lv_has ls 4 [(0, .ref (ad 5)), (2, .int x2), (3, .int y3)] → W p l e (headSpec wsX5_castTo ({ frames := 4, cells := 0, slots := 0, locals := 99 })).room s m ([.ref (ad 5), .int x1, .int x2] : List Value).toArray below meth c H locs 0 0 (tf_Q below D (tf_wx ad cI cZ) z ([.ref (ad 5), .int x1, .int x2] : List Value).toArray s) (F0 m 52 ls []) := by
    intro σ y3 H locs ls h hI hl
    unfold fX5_castTo_52 at h
    refine lv_iload_n hx hb dX5_castTo_52 rfl (lv_at hl 2 rfl) ?_
    refine lv_bipush (v := -3) hx hb dX5_castTo_53 (by decide +kernel) ?_
    refine lv_icmp_ne (tgt := 65) hx hb dX5_castTo_55 (by decide) (fun c5 => ?_) (fun c5 => ?_)
    · replace h := tf_neg c5 h
      refine lv_iload_n hx hb dX5_castTo_65 rfl (lv_at hl 2 rfl) ?_
      refine lv_iconst (v := 1) hx hb dX5_castTo_66 (by decide +kernel) ?_
      refine lv_icmp_eq (tgt := 77) hx hb dX5_castTo_67 (by decide) (fun c6 => ?_) (fun c6 => ?_)
      · replace h := tf_pos c6 h
        refine lv_iload_n hx hb dX5_castTo_77 rfl (lv_at hl 1 rfl) ?_
        refine lv_goto (tgt := 87) hx hb dX5_castTo_78 (by decide) ?_
        exact tf_iret hx hb hr hI h dX5_castTo_87 hlocks
      replace h := tf_neg c6 h
      refine lv_aload_n hx hb dX5_castTo_70 rfl (lv_at hl 0 rfl) ?_
      refine tf_get (C := RX5) (T := TX5) (N := 6) hx hb hts hn_X5 hown hK hI 5 (tf_xat_5 ad cI cZ _) rfl 5 (by decide) hf_15 rfl rfl dX5_castTo_71 ?_
      refine lv_if_eq (tgt := 81) hx hb dX5_castTo_74 (by decide) (fun c7 => ?_) (fun c7 => ?_)
      · replace h := tf_pos c7 h
        refine lv_aload_n hx hb dX5_castTo_81 rfl (lv_at hl 0 rfl) ?_
        refine lv_bipush (v := 6) hx hb dX5_castTo_82 (by decide +kernel) ?_
        obtain ⟨u8, q9, h⟩ := tf_gbind h
        refine tf_callV (rest := []) ⟨hx, hb, hml, hown, hts⟩ hK hN hI (kX_X5_none l D ad cI cZ _ _ _ q9) (cwV 1 hts gX5_castTo_X5_none rfl rfl rfl (by decide +kernel) ⟨Nat.le_of_ble_eq_true rfl, Nat.le_of_ble_eq_true rfl⟩) 5 5 (tf_xat_5 ad cI cZ _) rfl rfl hl.1 rfl (Nat.le_of_ble_eq_true rfl) dX5_castTo_84 (fun H locs hI => ?_)
        exact tf_iret hx hb hr hI h dX5_castTo_87 hlocks
      replace h := tf_neg c7 h
      refine lv_iload_n hx hb dX5_castTo_77 rfl (lv_at hl 1 rfl) ?_
      refine lv_goto (tgt := 87) hx hb dX5_castTo_78 (by decide) ?_
      exact tf_iret hx hb hr hI h dX5_castTo_87 hlocks
    replace h := tf_pos c5 h
    refine lv_aload_n hx hb dX5_castTo_58 rfl (lv_at hl 0 rfl) ?_
    refine lv_bipush (v := 8) hx hb dX5_castTo_59 (by decide +kernel) ?_
    obtain ⟨u10, q11, h⟩ := tf_gbind h
    refine tf_callV (rest := []) ⟨hx, hb, hml, hown, hts⟩ hK hN hI (kX_X5_none l D ad cI cZ _ _ _ q11) (cwV 1 hts gX5_castTo_X5_none rfl rfl rfl (by decide +kernel) ⟨Nat.le_of_ble_eq_true rfl, Nat.le_of_ble_eq_true rfl⟩) 5 5 (tf_xat_5 ad cI cZ _) rfl rfl hl.1 rfl (Nat.le_of_ble_eq_true rfl) dX5_castTo_61 (fun H locs hI => ?_)
    exact tf_iret hx hb hr hI h dX5_castTo_64 hlocks
  unfold fX5_castTo at h
  refine lv_aload_n hx hb dX5_castTo_0 rfl (lv_at hl 0 rfl) ?_
  refine tf_get (C := RX5) (T := TX5) (N := 6) hx hb hts hn_X5 hown hK hI 5 (tf_xat_5 ad cI cZ _) rfl 0 (by decide) hf_19 rfl rfl dX5_castTo_1 ?_
  refine lv_iload_n hx hb dX5_castTo_4 rfl (lv_at hl 1 rfl) ?_
  refine lv_iload_n hx hb dX5_castTo_5 rfl (lv_at hl 2 rfl) ?_
  obtain ⟨u1, q2, h⟩ := tf_gbind h
  refine tf_callV (rest := []) ⟨hx, hb, hml, hown, hts⟩ hK hN hI (kX_X4_goesFor l D ad cI cZ _ _ _ _ q2) (cwV 2 hts gX5_castTo_X4_goesFor rfl rfl rfl (by decide +kernel) ⟨Nat.le_of_ble_eq_true rfl, Nat.le_of_ble_eq_true rfl⟩) 1 4 (tf_xat_1 ad cI cZ _) rfl rfl hl.1 rfl (Nat.le_of_ble_eq_true rfl) dX5_castTo_6 (fun H locs hI => ?_)
  obtain ⟨v3, ev3, h⟩ := tf_glet h
  refine tf_top ev3 ?_
  refine lv_istore_n (lv' := [(3, .int v3), (0, .ref (ad 5)), (1, .int x1), (2, .int x2)]) hx hb dX5_castTo_9 rfl hl (by decide) rfl (fun ls hl => ?_)
  refine lv_iload_n hx hb dX5_castTo_10 rfl (lv_at hl 0 rfl) ?_
  refine lv_if_ne (tgt := 52) hx hb dX5_castTo_11 (by decide) (fun c4 => ?_) (fun c4 => ?_)
  · replace h := tf_neg c4 h
    exact j52  _ _ _ _ _ h hI (lv_sub hl [1, 3, 0] rfl)
  replace h := tf_pos c4 h
  refine lv_aload_n hx hb dX5_castTo_14 rfl (lv_at hl 1 rfl) ?_
  refine tf_get (C := RX5) (T := TX5) (N := 6) hx hb hts hn_X5 hown hK hI 5 (tf_xat_5 ad cI cZ _) rfl 0 (by decide) hf_19 rfl rfl dX5_castTo_15 ?_
  refine lv_iload_n hx hb dX5_castTo_18 rfl (lv_at hl 3 rfl) ?_
  refine lv_iload_n hx hb dX5_castTo_19 rfl (lv_at hl 2 rfl) ?_
  obtain ⟨u12, q13, h⟩ := tf_gbind h
  refine tf_callV (rest := []) ⟨hx, hb, hml, hown, hts⟩ hK hN hI (kX_X4_goesFor l D ad cI cZ _ _ _ _ q13) (cwV 2 hts gX5_castTo_X4_goesFor rfl rfl rfl (by decide +kernel) ⟨Nat.le_of_ble_eq_true rfl, Nat.le_of_ble_eq_true rfl⟩) 1 4 (tf_xat_1 ad cI cZ _) rfl rfl hl.1 rfl (Nat.le_of_ble_eq_true rfl) dX5_castTo_20 (fun H locs hI => ?_)
  obtain ⟨v14, ev14, h⟩ := tf_glet h
  refine tf_top ev14 ?_
  refine lv_istore_n (lv' := [(3, .int v14), (0, .ref (ad 5)), (1, .int x1), (2, .int x2)]) hx hb dX5_castTo_23 rfl hl (by decide) rfl (fun ls hl => ?_)
  refine lv_aload_n hx hb dX5_castTo_24 rfl (lv_at hl 1 rfl) ?_
  refine lv_iload_n hx hb dX5_castTo_25 rfl (lv_at hl 0 rfl) ?_
  refine lv_iconst (v := 1) hx hb dX5_castTo_26 (by decide +kernel) ?_
  refine lv_icmp_eq (tgt := 44) hx hb dX5_castTo_27 (by decide) (fun c15 => ?_) (fun c15 => ?_)
  · replace h := tf_pos c15 h
    refine lv_iconst (v := 1) hx hb dX5_castTo_44 (by decide +kernel) ?_
    refine lv_goto (tgt := 49) hx hb dX5_castTo_45 (by decide) ?_
    obtain ⟨s16, es16, h⟩ := tf_glet h
    refine tf_put (C := RX5) (T := TX5) (N := 6) (ty := .boolean) hx hb hts hn_X5 tyX5 tyX5_ok nmX5 hown hK hI 5 (tf_xat_5 ad cI cZ _) rfl 5 (by decide) hf_15 rfl rfl (by decide +kernel) rfl rfl (Nat.le_of_ble_eq_true rfl) (tf_xput_5_5 ad cI cZ _ _) es16 dX5_castTo_49 (fun H locs hI => ?_)
    exact j52  _ _ _ _ _ h hI (lv_sub hl [1, 3, 0] rfl)
  replace h := tf_neg c15 h
  refine lv_iload_n hx hb dX5_castTo_30 rfl (lv_at hl 2 rfl) ?_
  obtain ⟨u17, q18, h⟩ := tf_gbind h
  refine tf_callS (rest := [.ref (ad 5)]) ⟨hx, hb, hml, hown, hts⟩ hK hN hI (kX_X5_isNumber l D ad cI cZ _ _ _ q18) (va_cwS 1 hts gX5_castTo_X5_isNumber rfl rfl rfl (by decide +kernel) ⟨Nat.le_of_ble_eq_true rfl, Nat.le_of_ble_eq_true rfl⟩) rfl hl.1 rfl (Nat.le_of_ble_eq_true rfl) dX5_castTo_31 (fun H locs hI => ?_)
  refine lv_if_eq (tgt := 48) hx hb dX5_castTo_34 (by decide) (fun c19 => ?_) (fun c19 => ?_)
  · replace h := tf_pos c19 h
    refine lv_iconst (v := 0) hx hb dX5_castTo_48 (by decide +kernel) ?_
    obtain ⟨s20, es20, h⟩ := tf_glet h
    refine tf_put (C := RX5) (T := TX5) (N := 6) (ty := .boolean) hx hb hts hn_X5 tyX5 tyX5_ok nmX5 hown hK hI 5 (tf_xat_5 ad cI cZ _) rfl 5 (by decide) hf_15 rfl rfl (by decide +kernel) rfl rfl (Nat.le_of_ble_eq_true rfl) (tf_xput_5_5 ad cI cZ _ _) es20 dX5_castTo_49 (fun H locs hI => ?_)
    exact j52  _ _ _ _ _ h hI (lv_sub hl [1, 3, 0] rfl)
  replace h := tf_neg c19 h
  refine lv_iload_n hx hb dX5_castTo_37 rfl (lv_at hl 3 rfl) ?_
  obtain ⟨u21, q22, h⟩ := tf_gbind h
  refine tf_callS (rest := [.ref (ad 5)]) ⟨hx, hb, hml, hown, hts⟩ hK hN hI (kX_X5_isNumber l D ad cI cZ _ _ _ q22) (va_cwS 1 hts gX5_castTo_X5_isNumber rfl rfl rfl (by decide +kernel) ⟨Nat.le_of_ble_eq_true rfl, Nat.le_of_ble_eq_true rfl⟩) rfl hl.1 rfl (Nat.le_of_ble_eq_true rfl) dX5_castTo_38 (fun H locs hI => ?_)
  refine lv_if_eq (tgt := 48) hx hb dX5_castTo_41 (by decide) (fun c23 => ?_) (fun c23 => ?_)
  · replace h := tf_pos c23 h
    refine lv_iconst (v := 0) hx hb dX5_castTo_48 (by decide +kernel) ?_
    obtain ⟨s24, es24, h⟩ := tf_glet h
    refine tf_put (C := RX5) (T := TX5) (N := 6) (ty := .boolean) hx hb hts hn_X5 tyX5 tyX5_ok nmX5 hown hK hI 5 (tf_xat_5 ad cI cZ _) rfl 5 (by decide) hf_15 rfl rfl (by decide +kernel) rfl rfl (Nat.le_of_ble_eq_true rfl) (tf_xput_5_5 ad cI cZ _ _) es24 dX5_castTo_49 (fun H locs hI => ?_)
    exact j52  _ _ _ _ _ h hI (lv_sub hl [1, 3, 0] rfl)
  replace h := tf_neg c23 h
  refine lv_iconst (v := 1) hx hb dX5_castTo_44 (by decide +kernel) ?_
  refine lv_goto (tgt := 49) hx hb dX5_castTo_45 (by decide) ?_
  obtain ⟨s25, es25, h⟩ := tf_glet h
  refine tf_put (C := RX5) (T := TX5) (N := 6) (ty := .boolean) hx hb hts hn_X5 tyX5 tyX5_ok nmX5 hown hK hI 5 (tf_xat_5 ad cI cZ _) rfl 5 (by decide) hf_15 rfl rfl (by decide +kernel) rfl rfl (Nat.le_of_ble_eq_true rfl) (tf_xput_5_5 ad cI cZ _ _) es25 dX5_castTo_49 (fun H locs hI => ?_)
  exact j52  _ _ _ _ _ h hI (lv_sub hl [1, 3, 0] rfl)

set_option maxHeartbeats 4000000 in
set_option maxRecDepth 100000 in
theorem kX_X5_whatComes (l : Launch) (D : va_G) (ad : Nat → Nat) (cI cZ : ClassId) (σ : tf_S) (x1 : Int32) (z : Int32 × tf_S) (h : fX5_whatComes σ x1 = some z) : tf_C l D (tf_wx ad cI cZ) [(cI, .int), (cZ, .boolean)] tf_nest yX5_whatComes wsX5_whatComes ({ frames := 6, cells := 0, slots := 0, locals := 148 }) [.ref (ad 5), .int x1] σ z := by
  intro sz
  refine Met.ofW (cc := cX5_whatComes) (maxL := 6) (ret := (some .int)) (by decide) rfl ?_
  intro p e s m args below meth c s₁ B hml hv
  obtain ⟨rfl, hsz, hP, hK, hN, hD0⟩ := hv
  have hx := B.exec
  have hb := B.bytes
  have hr := B.returns
  have hts := atoms_spec (ws := wsX5_whatComes) B.pre
  have hown : s.vm.findClass RX5 = some m.cls := findClass_of_methodNamed B.named
  have hlocks := B.notSynchronized
  subst hsz
  have hI := tf_start (D := D) (tf_x_ad ad cI cZ) hP hD0
  have hl := lv_entry ([.ref (ad 5), .int x1]) (n := 6) (Nat.le_of_ble_eq_true rfl)
  rw [lg_entry_eq]
  generalize (lg_sl ([.ref (ad 5), .int x1]) ++ List.replicate (6 - (lg_sl ([.ref (ad 5), .int x1])).length) Slot.unset).toArray = ls at hl ⊢
  have hl : lv_has ls 6 [(0, .ref (ad 5)), (1, .int x1)] := hl
  have hn_X2 : ∀ w ∈ u_ws RX2 TX2 11, w ∈ wsX5_whatComes := by decide +kernel
  have hn_X3 : ∀ w ∈ u_ws RX3 TX3 7, w ∈ wsX5_whatComes := by decide +kernel
  have hn_X5 : ∀ w ∈ u_ws RX5 TX5 6, w ∈ wsX5_whatComes := by decide +kernel
  have hf_9 := hts (.fieldLink RX5 9 "TypeFlow$Worker" "fault" "I") (by decide +kernel)
  have hf_15 := hts (.fieldLink RX5 15 "TypeFlow$Worker" "risky" "Z") (by decide +kernel)
  have hf_19 := hts (.fieldLink RX5 19 "TypeFlow$Worker" "types" "LTypeFlow$Types;") (by decide +kernel)
  have hf_27 := hts (.fieldLink RX5 27 "TypeFlow$Worker" "operators" "LTypeFlow$Operators;") (by decide +kernel)
  have hf_36 := hts (.fieldLink RX5 36 "TypeFlow$Worker" "putting" "LTypeFlow$Putting;") (by decide +kernel)
  have hf_40 := hts (.fieldLink RX5 40 "TypeFlow$Operators" "f" "[I") (by decide +kernel)
  have hf_46 := hts (.fieldLink RX5 46 "TypeFlow$Operators" "kind" "[I") (by decide +kernel)
  have hf_49 := hts (.fieldLink RX5 49 "TypeFlow$Operators" "type" "[I") (by decide +kernel)
  have hf_52 := hts (.fieldLink RX5 52 "TypeFlow$Operators" "a" "[I") (by decide +kernel)
  have hf_59 := hts (.fieldLink RX5 59 "TypeFlow$Operators" "b" "[I") (by decide +kernel)
  have hf_70 := hts (.fieldLink RX5 70 "TypeFlow$Putting" "fault" "I") (by decide +kernel)
  have j113 : ∀ (σ : tf_S) (y2 y3 y5 : Int32) (H : Heap) (locs : List Loc) (ls : Array Slot), fX5_whatComes_113 x1 σ y2 y3 y5 = some z → tf_I D (tf_wx ad cI cZ) s.heap σ H locs → lv_has ls 6 [(0, .ref (ad 5)), (1, .int x1), (2, .int y2), (3, .int y3), (5, .int y5)] → W p l e (headSpec wsX5_whatComes ({ frames := 6, cells := 0, slots := 0, locals := 148 })).room s m ([.ref (ad 5), .int x1] : List Value).toArray below meth c H locs 0 0 (tf_Q below D (tf_wx ad cI cZ) z ([.ref (ad 5), .int x1] : List Value).toArray s) (F0 m 113 ls []) := by
    intro σ y2 y3 y5 H locs ls h hI hl
    unfold fX5_whatComes_113 at h
    refine lv_aload_n hx hb dX5_whatComes_113 rfl (lv_at hl 0 rfl) ?_
    refine tf_get (C := RX5) (T := TX5) (N := 6) hx hb hts hn_X5 hown hK hI 5 (tf_xat_5 ad cI cZ _) rfl 2 (by decide) hf_27 rfl rfl dX5_whatComes_114 ?_
    refine tf_get (C := RX2) (T := TX2) (N := 11) hx hb hts hn_X2 hown hK hI 4 (tf_xat_4 ad cI cZ _) rfl 1 (by decide) hf_46 rfl rfl dX5_whatComes_117 ?_
    refine lv_iload_n hx hb dX5_whatComes_120 rfl (lv_at hl 1 rfl) ?_
    obtain ⟨b18, h⟩ := tf_gin h
    refine va_iald hx hb hK hI.1 21 0 (tf_xat_21 ad cI cZ _) rfl b18 dX5_whatComes_121 ?_
    by_cases c19 : (σ 21 (x1).toNatClampNeg) = (1 : Int32)
    · replace h := tf_pos c19 h
      refine lv_tableIn (tgt := 160) (off := 38) hx hb dX5_whatComes_122 (by rw [c19]; decide +kernel) (by rw [c19]; decide +kernel) (by rw [c19]; decide +kernel) (by decide) ?_
      refine lv_aload_n hx hb dX5_whatComes_160 rfl (lv_at hl 0 rfl) ?_
      refine lv_aload_n hx hb dX5_whatComes_161 rfl (lv_at hl 0 rfl) ?_
      refine tf_get (C := RX5) (T := TX5) (N := 6) hx hb hts hn_X5 hown hK hI 5 (tf_xat_5 ad cI cZ _) rfl 3 (by decide) hf_36 rfl rfl dX5_whatComes_162 ?_
      refine lv_iload_n hx hb dX5_whatComes_165 rfl (lv_at hl 2 rfl) ?_
      refine lv_iload_n hx hb dX5_whatComes_166 rfl (lv_at hl 3 rfl) ?_
      refine lv_iload hx hb dX5_whatComes_167 (lv_at hl 4 rfl) ?_
      obtain ⟨u20, q21, h⟩ := tf_gbind h
      refine tf_callV (rest := [.ref (ad 5)]) ⟨hx, hb, hml, hown, hts⟩ hK hN hI (kX_X3_putTo l D ad cI cZ _ _ _ _ _ q21) (cwV 3 hts gX5_whatComes_X3_putTo rfl rfl rfl (by decide +kernel) ⟨Nat.le_of_ble_eq_true rfl, Nat.le_of_ble_eq_true rfl⟩) 6 3 (tf_xat_6 ad cI cZ _) rfl rfl hl.1 rfl (Nat.le_of_ble_eq_true rfl) dX5_whatComes_169 (fun H locs hI => ?_)
      refine lv_aload_n hx hb dX5_whatComes_172 rfl (lv_at hl 0 rfl) ?_
      refine tf_get (C := RX5) (T := TX5) (N := 6) hx hb hts hn_X5 hown hK hI 5 (tf_xat_5 ad cI cZ _) rfl 3 (by decide) hf_36 rfl rfl dX5_whatComes_173 ?_
      refine tf_get (C := RX3) (T := TX3) (N := 7) hx hb hts hn_X3 hown hK hI 6 (tf_xat_6 ad cI cZ _) rfl 3 (by decide) hf_70 rfl rfl dX5_whatComes_176 ?_
      obtain ⟨u22, q23, h⟩ := tf_gbind h
      refine tf_callV (rest := []) ⟨hx, hb, hml, hown, hts⟩ hK hN hI (kX_X5_orFault l D ad cI cZ _ _ _ _ q23) (cwV 2 hts gX5_whatComes_X5_orFault rfl rfl rfl (by decide +kernel) ⟨Nat.le_of_ble_eq_true rfl, Nat.le_of_ble_eq_true rfl⟩) 5 5 (tf_xat_5 ad cI cZ _) rfl rfl hl.1 rfl (Nat.le_of_ble_eq_true rfl) dX5_whatComes_179 (fun H locs hI => ?_)
      exact tf_iret hx hb hr hI h dX5_whatComes_182 hlocks
    replace h := tf_neg c19 h
    by_cases c24 : (σ 21 (x1).toNatClampNeg) = (2 : Int32)
    · replace h := tf_pos c24 h
      refine lv_tableIn (tgt := 183) (off := 61) hx hb dX5_whatComes_122 (by rw [c24]; decide +kernel) (by rw [c24]; decide +kernel) (by rw [c24]; decide +kernel) (by decide) ?_
      refine lv_aload_n hx hb dX5_whatComes_183 rfl (lv_at hl 0 rfl) ?_
      refine lv_iload_n hx hb dX5_whatComes_184 rfl (lv_at hl 3 rfl) ?_
      refine lv_aload_n hx hb dX5_whatComes_185 rfl (lv_at hl 0 rfl) ?_
      refine lv_aload_n hx hb dX5_whatComes_186 rfl (lv_at hl 0 rfl) ?_
      refine tf_get (C := RX5) (T := TX5) (N := 6) hx hb hts hn_X5 hown hK hI 5 (tf_xat_5 ad cI cZ _) rfl 3 (by decide) hf_36 rfl rfl dX5_whatComes_187 ?_
      refine lv_iload_n hx hb dX5_whatComes_190 rfl (lv_at hl 2 rfl) ?_
      refine lv_iload_n hx hb dX5_whatComes_191 rfl (lv_at hl 3 rfl) ?_
      refine lv_iconst (v := -1) hx hb dX5_whatComes_192 (by decide +kernel) ?_
      obtain ⟨u25, q26, h⟩ := tf_gbind h
      refine tf_callV (rest := [.ref (ad 5), .int y3, .ref (ad 5)]) ⟨hx, hb, hml, hown, hts⟩ hK hN hI (kX_X3_putTo l D ad cI cZ _ _ _ _ _ q26) (cwV 3 hts gX5_whatComes_X3_putTo rfl rfl rfl (by decide +kernel) ⟨Nat.le_of_ble_eq_true rfl, Nat.le_of_ble_eq_true rfl⟩) 6 3 (tf_xat_6 ad cI cZ _) rfl rfl hl.1 rfl (Nat.le_of_ble_eq_true rfl) dX5_whatComes_193 (fun H locs hI => ?_)
      refine lv_aload_n hx hb dX5_whatComes_196 rfl (lv_at hl 0 rfl) ?_
      refine tf_get (C := RX5) (T := TX5) (N := 6) hx hb hts hn_X5 hown hK hI 5 (tf_xat_5 ad cI cZ _) rfl 3 (by decide) hf_36 rfl rfl dX5_whatComes_197 ?_
      refine tf_get (C := RX3) (T := TX3) (N := 7) hx hb hts hn_X3 hown hK hI 6 (tf_xat_6 ad cI cZ _) rfl 3 (by decide) hf_70 rfl rfl dX5_whatComes_200 ?_
      obtain ⟨u27, q28, h⟩ := tf_gbind h
      refine tf_callV (rest := [.int y3, .ref (ad 5)]) ⟨hx, hb, hml, hown, hts⟩ hK hN hI (kX_X5_orFault l D ad cI cZ _ _ _ _ q28) (cwV 2 hts gX5_whatComes_X5_orFault rfl rfl rfl (by decide +kernel) ⟨Nat.le_of_ble_eq_true rfl, Nat.le_of_ble_eq_true rfl⟩) 5 5 (tf_xat_5 ad cI cZ _) rfl rfl hl.1 rfl (Nat.le_of_ble_eq_true rfl) dX5_whatComes_203 (fun H locs hI => ?_)
      obtain ⟨u29, q30, h⟩ := tf_gbind h
      refine tf_callV (rest := []) ⟨hx, hb, hml, hown, hts⟩ hK hN hI (kX_X5_filtered l D ad cI cZ _ _ _ _ q30) (cwV 2 hts gX5_whatComes_X5_filtered rfl rfl rfl (by decide +kernel) ⟨Nat.le_of_ble_eq_true rfl, Nat.le_of_ble_eq_true rfl⟩) 5 5 (tf_xat_5 ad cI cZ _) rfl rfl hl.1 rfl (Nat.le_of_ble_eq_true rfl) dX5_whatComes_206 (fun H locs hI => ?_)
      exact tf_iret hx hb hr hI h dX5_whatComes_209 hlocks
    replace h := tf_neg c24 h
    by_cases c31 : (σ 21 (x1).toNatClampNeg) = (3 : Int32)
    · replace h := tf_pos c31 h
      refine lv_tableIn (tgt := 210) (off := 88) hx hb dX5_whatComes_122 (by rw [c31]; decide +kernel) (by rw [c31]; decide +kernel) (by rw [c31]; decide +kernel) (by decide) ?_
      refine lv_aload_n hx hb dX5_whatComes_210 rfl (lv_at hl 0 rfl) ?_
      refine lv_iload_n hx hb dX5_whatComes_211 rfl (lv_at hl 3 rfl) ?_
      refine lv_iload_n hx hb dX5_whatComes_212 rfl (lv_at hl 2 rfl) ?_
      obtain ⟨u32, q33, h⟩ := tf_gbind h
      refine tf_callV (rest := []) ⟨hx, hb, hml, hown, hts⟩ hK hN hI (kX_X5_memberOf l D ad cI cZ _ _ _ _ q33) (cwV 2 hts gX5_whatComes_X5_memberOf rfl rfl rfl (by decide +kernel) ⟨Nat.le_of_ble_eq_true rfl, Nat.le_of_ble_eq_true rfl⟩) 5 5 (tf_xat_5 ad cI cZ _) rfl rfl hl.1 rfl (Nat.le_of_ble_eq_true rfl) dX5_whatComes_213 (fun H locs hI => ?_)
      exact tf_iret hx hb hr hI h dX5_whatComes_216 hlocks
    replace h := tf_neg c31 h
    by_cases c34 : (σ 21 (x1).toNatClampNeg) = (4 : Int32)
    · replace h := tf_pos c34 h
      refine lv_tableIn (tgt := 217) (off := 95) hx hb dX5_whatComes_122 (by rw [c34]; decide +kernel) (by rw [c34]; decide +kernel) (by rw [c34]; decide +kernel) (by decide) ?_
      refine lv_aload_n hx hb dX5_whatComes_217 rfl (lv_at hl 0 rfl) ?_
      refine lv_aload_n hx hb dX5_whatComes_218 rfl (lv_at hl 0 rfl) ?_
      refine tf_get (C := RX5) (T := TX5) (N := 6) hx hb hts hn_X5 hown hK hI 5 (tf_xat_5 ad cI cZ _) rfl 0 (by decide) hf_19 rfl rfl dX5_whatComes_219 ?_
      refine lv_iload_n hx hb dX5_whatComes_222 rfl (lv_at hl 3 rfl) ?_
      refine lv_iload hx hb dX5_whatComes_223 (lv_at hl 4 rfl) ?_
      obtain ⟨u35, q36, h⟩ := tf_gbind h
      refine tf_callV (rest := [.ref (ad 5)]) ⟨hx, hb, hml, hown, hts⟩ hK hN hI (kX_X4_commonOf l D ad cI cZ _ _ _ _ q36) (cwV 2 hts gX5_whatComes_X4_commonOf rfl rfl rfl (by decide +kernel) ⟨Nat.le_of_ble_eq_true rfl, Nat.le_of_ble_eq_true rfl⟩) 1 4 (tf_xat_1 ad cI cZ _) rfl rfl hl.1 rfl (Nat.le_of_ble_eq_true rfl) dX5_whatComes_225 (fun H locs hI => ?_)
      refine lv_bipush (v := 6) hx hb dX5_whatComes_228 (by decide +kernel) ?_
      obtain ⟨u37, q38, h⟩ := tf_gbind h
      refine tf_callV (rest := []) ⟨hx, hb, hml, hown, hts⟩ hK hN hI (kX_X5_orFault l D ad cI cZ _ _ _ _ q38) (cwV 2 hts gX5_whatComes_X5_orFault rfl rfl rfl (by decide +kernel) ⟨Nat.le_of_ble_eq_true rfl, Nat.le_of_ble_eq_true rfl⟩) 5 5 (tf_xat_5 ad cI cZ _) rfl rfl hl.1 rfl (Nat.le_of_ble_eq_true rfl) dX5_whatComes_230 (fun H locs hI => ?_)
      exact tf_iret hx hb hr hI h dX5_whatComes_233 hlocks
    replace h := tf_neg c34 h
    by_cases c39 : (σ 21 (x1).toNatClampNeg) = (5 : Int32)
    · replace h := tf_pos c39 h
      refine lv_tableIn (tgt := 160) (off := 38) hx hb dX5_whatComes_122 (by rw [c39]; decide +kernel) (by rw [c39]; decide +kernel) (by rw [c39]; decide +kernel) (by decide) ?_
      refine lv_aload_n hx hb dX5_whatComes_160 rfl (lv_at hl 0 rfl) ?_
      refine lv_aload_n hx hb dX5_whatComes_161 rfl (lv_at hl 0 rfl) ?_
      refine tf_get (C := RX5) (T := TX5) (N := 6) hx hb hts hn_X5 hown hK hI 5 (tf_xat_5 ad cI cZ _) rfl 3 (by decide) hf_36 rfl rfl dX5_whatComes_162 ?_
      refine lv_iload_n hx hb dX5_whatComes_165 rfl (lv_at hl 2 rfl) ?_
      refine lv_iload_n hx hb dX5_whatComes_166 rfl (lv_at hl 3 rfl) ?_
      refine lv_iload hx hb dX5_whatComes_167 (lv_at hl 4 rfl) ?_
      obtain ⟨u40, q41, h⟩ := tf_gbind h
      refine tf_callV (rest := [.ref (ad 5)]) ⟨hx, hb, hml, hown, hts⟩ hK hN hI (kX_X3_putTo l D ad cI cZ _ _ _ _ _ q41) (cwV 3 hts gX5_whatComes_X3_putTo rfl rfl rfl (by decide +kernel) ⟨Nat.le_of_ble_eq_true rfl, Nat.le_of_ble_eq_true rfl⟩) 6 3 (tf_xat_6 ad cI cZ _) rfl rfl hl.1 rfl (Nat.le_of_ble_eq_true rfl) dX5_whatComes_169 (fun H locs hI => ?_)
      refine lv_aload_n hx hb dX5_whatComes_172 rfl (lv_at hl 0 rfl) ?_
      refine tf_get (C := RX5) (T := TX5) (N := 6) hx hb hts hn_X5 hown hK hI 5 (tf_xat_5 ad cI cZ _) rfl 3 (by decide) hf_36 rfl rfl dX5_whatComes_173 ?_
      refine tf_get (C := RX3) (T := TX3) (N := 7) hx hb hts hn_X3 hown hK hI 6 (tf_xat_6 ad cI cZ _) rfl 3 (by decide) hf_70 rfl rfl dX5_whatComes_176 ?_
      obtain ⟨u42, q43, h⟩ := tf_gbind h
      refine tf_callV (rest := []) ⟨hx, hb, hml, hown, hts⟩ hK hN hI (kX_X5_orFault l D ad cI cZ _ _ _ _ q43) (cwV 2 hts gX5_whatComes_X5_orFault rfl rfl rfl (by decide +kernel) ⟨Nat.le_of_ble_eq_true rfl, Nat.le_of_ble_eq_true rfl⟩) 5 5 (tf_xat_5 ad cI cZ _) rfl rfl hl.1 rfl (Nat.le_of_ble_eq_true rfl) dX5_whatComes_179 (fun H locs hI => ?_)
      exact tf_iret hx hb hr hI h dX5_whatComes_182 hlocks
    replace h := tf_neg c39 h
    by_cases c44 : (σ 21 (x1).toNatClampNeg) = (6 : Int32)
    · replace h := tf_pos c44 h
      refine lv_tableIn (tgt := 234) (off := 112) hx hb dX5_whatComes_122 (by rw [c44]; decide +kernel) (by rw [c44]; decide +kernel) (by rw [c44]; decide +kernel) (by decide) ?_
      refine lv_aload_n hx hb dX5_whatComes_234 rfl (lv_at hl 0 rfl) ?_
      refine lv_iload_n hx hb dX5_whatComes_235 rfl (lv_at hl 1 rfl) ?_
      refine lv_iload_n hx hb dX5_whatComes_236 rfl (lv_at hl 3 rfl) ?_
      refine lv_iload hx hb dX5_whatComes_237 (lv_at hl 4 rfl) ?_
      obtain ⟨u45, q46, h⟩ := tf_gbind h
      refine tf_callV (rest := []) ⟨hx, hb, hml, hown, hts⟩ hK hN hI (kX_X5_joined l D ad cI cZ _ _ _ _ _ q46) (cwV 3 hts gX5_whatComes_X5_joined rfl rfl rfl (by decide +kernel) ⟨Nat.le_of_ble_eq_true rfl, Nat.le_of_ble_eq_true rfl⟩) 5 5 (tf_xat_5 ad cI cZ _) rfl rfl hl.1 rfl (Nat.le_of_ble_eq_true rfl) dX5_whatComes_239 (fun H locs hI => ?_)
      exact tf_iret hx hb hr hI h dX5_whatComes_242 hlocks
    replace h := tf_neg c44 h
    refine lv_tableOut (tgt := 243) hx hb dX5_whatComes_122 (by have ac19 := lv_neT c19 (a := 1) (by decide +kernel); have ac24 := lv_neT c24 (a := 2) (by decide +kernel); have ac31 := lv_neT c31 (a := 3) (by decide +kernel); have ac34 := lv_neT c34 (a := 4) (by decide +kernel); have ac39 := lv_neT c39 (a := 5) (by decide +kernel); have ac44 := lv_neT c44 (a := 6) (by decide +kernel); omega) (by decide) ?_
    refine lv_aload_n hx hb dX5_whatComes_243 rfl (lv_at hl 0 rfl) ?_
    refine lv_iload_n hx hb dX5_whatComes_244 rfl (lv_at hl 3 rfl) ?_
    refine lv_iload_n hx hb dX5_whatComes_245 rfl (lv_at hl 2 rfl) ?_
    obtain ⟨u47, q48, h⟩ := tf_gbind h
    refine tf_callV (rest := []) ⟨hx, hb, hml, hown, hts⟩ hK hN hI (kX_X5_castTo l D ad cI cZ _ _ _ _ q48) (cwV 2 hts gX5_whatComes_X5_castTo rfl rfl rfl (by decide +kernel) ⟨Nat.le_of_ble_eq_true rfl, Nat.le_of_ble_eq_true rfl⟩) 5 5 (tf_xat_5 ad cI cZ _) rfl rfl hl.1 rfl (Nat.le_of_ble_eq_true rfl) dX5_whatComes_246 (fun H locs hI => ?_)
    exact tf_iret hx hb hr hI h dX5_whatComes_249 hlocks
  have j88 : ∀ (σ : tf_S) (y2 y3 y4 t0 : Int32) (H : Heap) (locs : List Loc) (ls : Array Slot), fX5_whatComes_88 x1 σ y2 y3 y4 t0 = some z → tf_I D (tf_wx ad cI cZ) s.heap σ H locs → lv_has ls 6 [(0, .ref (ad 5)), (1, .int x1), (2, .int y2), (3, .int y3), (4, .int y4)] → W p l e (headSpec wsX5_whatComes ({ frames := 6, cells := 0, slots := 0, locals := 148 })).room s m ([.ref (ad 5), .int x1] : List Value).toArray below meth c H locs 0 0 (tf_Q below D (tf_wx ad cI cZ) z ([.ref (ad 5), .int x1] : List Value).toArray s) (F0 m 88 ls [.int t0]) := by
    intro σ y2 y3 y4 t0 H locs ls h hI hl
    unfold fX5_whatComes_88 at h
    refine lv_istore (lv' := [(5, .int t0), (0, .ref (ad 5)), (1, .int x1), (2, .int y2), (3, .int y3), (4, .int y4)]) hx hb dX5_whatComes_88 hl (by decide) rfl (fun ls hl => ?_)
    refine lv_iload_n hx hb dX5_whatComes_90 rfl (lv_at hl 4 rfl) ?_
    refine lv_iconst (v := -1) hx hb dX5_whatComes_91 (by decide +kernel) ?_
    refine lv_icmp_eq (tgt := 106) hx hb dX5_whatComes_92 (by decide) (fun c14 => ?_) (fun c14 => ?_)
    · replace h := tf_pos c14 h
      refine lv_aload_n hx hb dX5_whatComes_106 rfl (lv_at hl 1 rfl) ?_
      refine lv_bipush (v := 7) hx hb dX5_whatComes_107 (by decide +kernel) ?_
      obtain ⟨u15, q16, h⟩ := tf_gbind h
      refine tf_callV (rest := []) ⟨hx, hb, hml, hown, hts⟩ hK hN hI (kX_X5_none l D ad cI cZ _ _ _ q16) (cwV 1 hts gX5_whatComes_X5_none rfl rfl rfl (by decide +kernel) ⟨Nat.le_of_ble_eq_true rfl, Nat.le_of_ble_eq_true rfl⟩) 5 5 (tf_xat_5 ad cI cZ _) rfl rfl hl.1 rfl (Nat.le_of_ble_eq_true rfl) dX5_whatComes_109 (fun H locs hI => ?_)
      exact tf_iret hx hb hr hI h dX5_whatComes_112 hlocks
    replace h := tf_neg c14 h
    refine lv_iload hx hb dX5_whatComes_95 (lv_at hl 5 rfl) ?_
    refine lv_if_eq (tgt := 113) hx hb dX5_whatComes_97 (by decide) (fun c17 => ?_) (fun c17 => ?_)
    · replace h := tf_pos c17 h
      exact j113  _ _ _ _ _ _ _ h hI (lv_sub hl [1, 2, 3, 4, 0] rfl)
    replace h := tf_neg c17 h
    refine lv_iload hx hb dX5_whatComes_100 (lv_at hl 0 rfl) ?_
    refine lv_iconst (v := -1) hx hb dX5_whatComes_102 (by decide +kernel) ?_
    refine lv_icmp_ne (tgt := 113) hx hb dX5_whatComes_103 (by decide) (fun c49 => ?_) (fun c49 => ?_)
    · replace h := tf_neg c49 h
      exact j113  _ _ _ _ _ _ _ h hI (lv_sub hl [1, 2, 3, 4, 0] rfl)
    replace h := tf_pos c49 h
    refine lv_aload_n hx hb dX5_whatComes_106 rfl (lv_at hl 1 rfl) ?_
    refine lv_bipush (v := 7) hx hb dX5_whatComes_107 (by decide +kernel) ?_
    obtain ⟨u50, q51, h⟩ := tf_gbind h
    refine tf_callV (rest := []) ⟨hx, hb, hml, hown, hts⟩ hK hN hI (kX_X5_none l D ad cI cZ _ _ _ q51) (cwV 1 hts gX5_whatComes_X5_none rfl rfl rfl (by decide +kernel) ⟨Nat.le_of_ble_eq_true rfl, Nat.le_of_ble_eq_true rfl⟩) 5 5 (tf_xat_5 ad cI cZ _) rfl rfl hl.1 rfl (Nat.le_of_ble_eq_true rfl) dX5_whatComes_109 (fun H locs hI => ?_)
    exact tf_iret hx hb hr hI h dX5_whatComes_112 hlocks
  unfold fX5_whatComes at h
  refine lv_aload_n hx hb dX5_whatComes_0 rfl (lv_at hl 0 rfl) ?_
  refine lv_iconst (v := 0) hx hb dX5_whatComes_1 (by decide +kernel) ?_
  obtain ⟨s1, es1, h⟩ := tf_glet h
  refine tf_put (C := RX5) (T := TX5) (N := 6) (ty := .int) hx hb hts hn_X5 tyX5 tyX5_ok nmX5 hown hK hI 5 (tf_xat_5 ad cI cZ _) rfl 4 (by decide) hf_9 rfl rfl (by decide +kernel) rfl rfl (Nat.le_of_ble_eq_true rfl) (tf_xput_5_4 ad cI cZ _ _) es1 dX5_whatComes_2 (fun H locs hI => ?_)
  refine lv_aload_n hx hb dX5_whatComes_5 rfl (lv_at hl 0 rfl) ?_
  refine lv_iconst (v := 0) hx hb dX5_whatComes_6 (by decide +kernel) ?_
  obtain ⟨s2, es2, h⟩ := tf_glet h
  refine tf_put (C := RX5) (T := TX5) (N := 6) (ty := .boolean) hx hb hts hn_X5 tyX5 tyX5_ok nmX5 hown hK hI 5 (tf_xat_5 ad cI cZ _) rfl 5 (by decide) hf_15 rfl rfl (by decide +kernel) rfl rfl (Nat.le_of_ble_eq_true rfl) (tf_xput_5_5 ad cI cZ _ _) es2 dX5_whatComes_7 (fun H locs hI => ?_)
  refine lv_aload_n hx hb dX5_whatComes_10 rfl (lv_at hl 0 rfl) ?_
  refine tf_get (C := RX5) (T := TX5) (N := 6) hx hb hts hn_X5 hown hK hI 5 (tf_xat_5 ad cI cZ _) rfl 2 (by decide) hf_27 rfl rfl dX5_whatComes_11 ?_
  refine tf_get (C := RX2) (T := TX2) (N := 11) hx hb hts hn_X2 hown hK hI 4 (tf_xat_4 ad cI cZ _) rfl 4 (by decide) hf_40 rfl rfl dX5_whatComes_14 ?_
  refine lv_iload_n hx hb dX5_whatComes_17 rfl (lv_at hl 1 rfl) ?_
  obtain ⟨b3, h⟩ := tf_gin h
  refine va_iald hx hb hK hI.1 24 0 (tf_xat_24 ad cI cZ _) rfl b3 dX5_whatComes_18 ?_
  obtain ⟨v4, ev4, h⟩ := tf_glet h
  refine tf_top ev4 ?_
  refine lv_istore_n (lv' := [(2, .int v4), (0, .ref (ad 5)), (1, .int x1)]) hx hb dX5_whatComes_19 rfl hl (by decide) rfl (fun ls hl => ?_)
  refine lv_aload_n hx hb dX5_whatComes_20 rfl (lv_at hl 1 rfl) ?_
  refine tf_get (C := RX5) (T := TX5) (N := 6) hx hb hts hn_X5 hown hK hI 5 (tf_xat_5 ad cI cZ _) rfl 2 (by decide) hf_27 rfl rfl dX5_whatComes_21 ?_
  refine tf_get (C := RX2) (T := TX2) (N := 11) hx hb hts hn_X2 hown hK hI 4 (tf_xat_4 ad cI cZ _) rfl 1 (by decide) hf_46 rfl rfl dX5_whatComes_24 ?_
  refine lv_iload_n hx hb dX5_whatComes_27 rfl (lv_at hl 2 rfl) ?_
  obtain ⟨b5, h⟩ := tf_gin h
  refine va_iald hx hb hK hI.1 21 0 (tf_xat_21 ad cI cZ _) rfl b5 dX5_whatComes_28 ?_
  refine lv_if_ne (tgt := 34) hx hb dX5_whatComes_29 (by decide) (fun c6 => ?_) (fun c6 => ?_)
  · replace h := tf_neg c6 h
    refine lv_aload_n hx hb dX5_whatComes_34 rfl (lv_at hl 1 rfl) ?_
    refine tf_get (C := RX5) (T := TX5) (N := 6) hx hb hts hn_X5 hown hK hI 5 (tf_xat_5 ad cI cZ _) rfl 2 (by decide) hf_27 rfl rfl dX5_whatComes_35 ?_
    refine tf_get (C := RX2) (T := TX2) (N := 11) hx hb hts hn_X2 hown hK hI 4 (tf_xat_4 ad cI cZ _) rfl 7 (by decide) hf_49 rfl rfl dX5_whatComes_38 ?_
    refine lv_aload_n hx hb dX5_whatComes_41 rfl (lv_at hl 1 rfl) ?_
    refine tf_get (C := RX5) (T := TX5) (N := 6) hx hb hts hn_X5 hown hK hI 5 (tf_xat_5 ad cI cZ _) rfl 2 (by decide) hf_27 rfl rfl dX5_whatComes_42 ?_
    refine tf_get (C := RX2) (T := TX2) (N := 11) hx hb hts hn_X2 hown hK hI 4 (tf_xat_4 ad cI cZ _) rfl 2 (by decide) hf_52 rfl rfl dX5_whatComes_45 ?_
    refine lv_iload_n hx hb dX5_whatComes_48 rfl (lv_at hl 2 rfl) ?_
    obtain ⟨b7, h⟩ := tf_gin h
    refine va_iald hx hb hK hI.1 22 0 (tf_xat_22 ad cI cZ _) rfl b7 dX5_whatComes_49 ?_
    obtain ⟨b8, h⟩ := tf_gin h
    refine va_iald hx hb hK hI.1 27 0 (tf_xat_27 ad cI cZ _) rfl b8 dX5_whatComes_50 ?_
    obtain ⟨v9, ev9, h⟩ := tf_glet h
    refine tf_top ev9 ?_
    refine lv_istore_n (lv' := [(3, .int v9), (2, .int v4), (0, .ref (ad 5)), (1, .int x1)]) hx hb dX5_whatComes_51 rfl hl (by decide) rfl (fun ls hl => ?_)
    refine lv_aload_n hx hb dX5_whatComes_52 rfl (lv_at hl 2 rfl) ?_
    refine tf_get (C := RX5) (T := TX5) (N := 6) hx hb hts hn_X5 hown hK hI 5 (tf_xat_5 ad cI cZ _) rfl 2 (by decide) hf_27 rfl rfl dX5_whatComes_53 ?_
    refine lv_iload_n hx hb dX5_whatComes_56 rfl (lv_at hl 3 rfl) ?_
    obtain ⟨u10, q11, h⟩ := tf_gbind h
    refine tf_callV (rest := []) ⟨hx, hb, hml, hown, hts⟩ hK hN hI (kX_X2_hasTwoInputs l D ad cI cZ _ _ _ q11) (cwV 1 hts gX5_whatComes_X2_hasTwoInputs rfl rfl rfl (by decide +kernel) ⟨Nat.le_of_ble_eq_true rfl, Nat.le_of_ble_eq_true rfl⟩) 4 2 (tf_xat_4 ad cI cZ _) rfl rfl hl.1 rfl (Nat.le_of_ble_eq_true rfl) dX5_whatComes_57 (fun H locs hI => ?_)
    obtain ⟨v12, ev12, h⟩ := tf_glet h
    refine tf_top ev12 ?_
    refine lv_istore (lv' := [(4, .int v12), (3, .int v9), (2, .int v4), (0, .ref (ad 5)), (1, .int x1)]) hx hb dX5_whatComes_60 hl (by decide) rfl (fun ls hl => ?_)
    refine lv_iload hx hb dX5_whatComes_62 (lv_at hl 0 rfl) ?_
    refine lv_if_eq (tgt := 87) hx hb dX5_whatComes_64 (by decide) (fun c13 => ?_) (fun c13 => ?_)
    · replace h := tf_pos c13 h
      refine lv_iconst (v := -1) hx hb dX5_whatComes_87 (by decide +kernel) ?_
      exact j88  _ _ _ _ _ _ _ _ h hI (lv_sub hl [3, 4, 2, 1, 0] rfl)
    replace h := tf_neg c13 h
    refine lv_aload_n hx hb dX5_whatComes_67 rfl (lv_at hl 3 rfl) ?_
    refine tf_get (C := RX5) (T := TX5) (N := 6) hx hb hts hn_X5 hown hK hI 5 (tf_xat_5 ad cI cZ _) rfl 2 (by decide) hf_27 rfl rfl dX5_whatComes_68 ?_
    refine tf_get (C := RX2) (T := TX2) (N := 11) hx hb hts hn_X2 hown hK hI 4 (tf_xat_4 ad cI cZ _) rfl 7 (by decide) hf_49 rfl rfl dX5_whatComes_71 ?_
    refine lv_aload_n hx hb dX5_whatComes_74 rfl (lv_at hl 3 rfl) ?_
    refine tf_get (C := RX5) (T := TX5) (N := 6) hx hb hts hn_X5 hown hK hI 5 (tf_xat_5 ad cI cZ _) rfl 2 (by decide) hf_27 rfl rfl dX5_whatComes_75 ?_
    refine tf_get (C := RX2) (T := TX2) (N := 11) hx hb hts hn_X2 hown hK hI 4 (tf_xat_4 ad cI cZ _) rfl 3 (by decide) hf_59 rfl rfl dX5_whatComes_78 ?_
    refine lv_iload_n hx hb dX5_whatComes_81 rfl (lv_at hl 4 rfl) ?_
    obtain ⟨b52, h⟩ := tf_gin h
    refine va_iald hx hb hK hI.1 23 0 (tf_xat_23 ad cI cZ _) rfl b52 dX5_whatComes_82 ?_
    obtain ⟨b53, h⟩ := tf_gin h
    refine va_iald hx hb hK hI.1 27 0 (tf_xat_27 ad cI cZ _) rfl b53 dX5_whatComes_83 ?_
    refine lv_goto (tgt := 88) hx hb dX5_whatComes_84 (by decide) ?_
    exact j88  _ _ _ _ _ _ _ _ h hI (lv_sub hl [3, 4, 2, 1, 0] rfl)
  replace h := tf_pos c6 h
  refine lv_iload_n hx hb dX5_whatComes_32 rfl (lv_at hl 0 rfl) ?_
  exact tf_iret hx hb hr hI h dX5_whatComes_33 hlocks

set_option maxHeartbeats 4000000 in
set_option maxRecDepth 100000 in
theorem kX_X5_keep (l : Launch) (D : va_G) (ad : Nat → Nat) (cI cZ : ClassId) (σ : tf_S) (x1 x2 : Int32) (z : tf_S) (h : fX5_keep σ x1 x2 = some z) : tf_Cv l D (tf_wx ad cI cZ) [(cI, .int), (cZ, .boolean)] tf_nest yX5_keep wsX5_keep ({ frames := 1, cells := 0, slots := 0, locals := 24 }) [.ref (ad 5), .int x1, .int x2] σ z := by
  intro sz
  refine Met.ofW (cc := cX5_keep) (maxL := 4) (ret := none) (by decide) rfl ?_
  intro p e s m args below meth c s₁ B hml hv
  obtain ⟨rfl, hsz, hP, hK, hN, hD0⟩ := hv
  have hx := B.exec
  have hb := B.bytes
  have hr := B.returns
  have hts := atoms_spec (ws := wsX5_keep) B.pre
  have hown : s.vm.findClass RX5 = some m.cls := findClass_of_methodNamed B.named
  have hlocks := B.notSynchronized
  subst hsz
  have hI := tf_start (D := D) (tf_x_ad ad cI cZ) hP hD0
  have hl := lv_entry ([.ref (ad 5), .int x1, .int x2]) (n := 4) (Nat.le_of_ble_eq_true rfl)
  rw [lg_entry_eq]
  generalize (lg_sl ([.ref (ad 5), .int x1, .int x2]) ++ List.replicate (4 - (lg_sl ([.ref (ad 5), .int x1, .int x2])).length) Slot.unset).toArray = ls at hl ⊢
  have hl : lv_has ls 4 [(0, .ref (ad 5)), (1, .int x1), (2, .int x2)] := hl
  have hn_X2 : ∀ w ∈ u_ws RX2 TX2 11, w ∈ wsX5_keep := by decide +kernel
  have hn_X3 : ∀ w ∈ u_ws RX3 TX3 7, w ∈ wsX5_keep := by decide +kernel
  have hn_X5 : ∀ w ∈ u_ws RX5 TX5 6, w ∈ wsX5_keep := by decide +kernel
  have hf_9 := hts (.fieldLink RX5 9 "TypeFlow$Worker" "fault" "I") (by decide +kernel)
  have hf_15 := hts (.fieldLink RX5 15 "TypeFlow$Worker" "risky" "Z") (by decide +kernel)
  have hf_27 := hts (.fieldLink RX5 27 "TypeFlow$Worker" "operators" "LTypeFlow$Operators;") (by decide +kernel)
  have hf_36 := hts (.fieldLink RX5 36 "TypeFlow$Worker" "putting" "LTypeFlow$Putting;") (by decide +kernel)
  have hf_46 := hts (.fieldLink RX5 46 "TypeFlow$Operators" "kind" "[I") (by decide +kernel)
  have hf_96 := hts (.fieldLink RX5 96 "TypeFlow$Putting" "bound" "[I") (by decide +kernel)
  have j47 : ∀ (σ : tf_S) (H : Heap) (locs : List Loc) (ls : Array Slot), fX5_keep_47 x1 x2 σ = some z → tf_I D (tf_wx ad cI cZ) s.heap σ H locs → lv_has ls 4 [(0, .ref (ad 5)), (1, .int x1)] → W p l e (headSpec wsX5_keep ({ frames := 1, cells := 0, slots := 0, locals := 24 })).room s m ([.ref (ad 5), .int x1, .int x2] : List Value).toArray below meth c H locs 0 0 (tf_Qv below D (tf_wx ad cI cZ) z ([.ref (ad 5), .int x1, .int x2] : List Value).toArray s) (F0 m 47 ls []) := by
    intro σ H locs ls h hI hl
    unfold fX5_keep_47 at h
    refine lv_aload_n hx hb dX5_keep_47 rfl (lv_at hl 0 rfl) ?_
    refine tf_get (C := RX5) (T := TX5) (N := 6) hx hb hts hn_X5 hown hK hI 5 (tf_xat_5 ad cI cZ _) rfl 2 (by decide) hf_27 rfl rfl dX5_keep_48 ?_
    refine lv_iload_n hx hb dX5_keep_51 rfl (lv_at hl 1 rfl) ?_
    refine lv_aload_n hx hb dX5_keep_52 rfl (lv_at hl 0 rfl) ?_
    refine tf_get (C := RX5) (T := TX5) (N := 6) hx hb hts hn_X5 hown hK hI 5 (tf_xat_5 ad cI cZ _) rfl 3 (by decide) hf_36 rfl rfl dX5_keep_53 ?_
    refine tf_get (C := RX3) (T := TX3) (N := 7) hx hb hts hn_X3 hown hK hI 6 (tf_xat_6 ad cI cZ _) rfl 2 (by decide) hf_96 rfl rfl dX5_keep_56 ?_
    refine lv_iconst (v := 0) hx hb dX5_keep_59 (by decide +kernel) ?_
    obtain ⟨b9, h⟩ := tf_gin h
    refine va_iald hx hb hK hI.1 31 0 (tf_xat_31 ad cI cZ _) rfl b9 dX5_keep_60 ?_
    refine lv_aload_n hx hb dX5_keep_61 rfl (lv_at hl 0 rfl) ?_
    refine tf_get (C := RX5) (T := TX5) (N := 6) hx hb hts hn_X5 hown hK hI 5 (tf_xat_5 ad cI cZ _) rfl 3 (by decide) hf_36 rfl rfl dX5_keep_62 ?_
    refine tf_get (C := RX3) (T := TX3) (N := 7) hx hb hts hn_X3 hown hK hI 6 (tf_xat_6 ad cI cZ _) rfl 2 (by decide) hf_96 rfl rfl dX5_keep_65 ?_
    refine lv_iconst (v := 1) hx hb dX5_keep_68 (by decide +kernel) ?_
    obtain ⟨b10, h⟩ := tf_gin h
    refine va_iald hx hb hK hI.1 31 0 (tf_xat_31 ad cI cZ _) rfl b10 dX5_keep_69 ?_
    obtain ⟨u11, q12, h⟩ := tf_gbind h
    refine tf_callVv (rest := []) ⟨hx, hb, hml, hown, hts⟩ hK hN hI (kX_X2_bind l D ad cI cZ _ _ _ _ _ q12) (cwV 3 hts gX5_keep_X2_bind rfl rfl rfl (by decide +kernel) ⟨Nat.le_of_ble_eq_true rfl, Nat.le_of_ble_eq_true rfl⟩) 4 2 (tf_xat_4 ad cI cZ _) rfl rfl hl.1 rfl (Nat.le_of_ble_eq_true rfl) dX5_keep_70 (fun H locs hI => ?_)
    refine lv_goto (tgt := 86) hx hb dX5_keep_73 (by decide) ?_
    exact tf_vret hx hb hr hI h dX5_keep_86 hlocks
  unfold fX5_keep at h
  refine lv_aload_n hx hb dX5_keep_0 rfl (lv_at hl 0 rfl) ?_
  refine tf_get (C := RX5) (T := TX5) (N := 6) hx hb hts hn_X5 hown hK hI 5 (tf_xat_5 ad cI cZ _) rfl 2 (by decide) hf_27 rfl rfl dX5_keep_1 ?_
  refine lv_iload_n hx hb dX5_keep_4 rfl (lv_at hl 1 rfl) ?_
  refine lv_iload_n hx hb dX5_keep_5 rfl (lv_at hl 2 rfl) ?_
  refine lv_aload_n hx hb dX5_keep_6 rfl (lv_at hl 0 rfl) ?_
  refine tf_get (C := RX5) (T := TX5) (N := 6) hx hb hts hn_X5 hown hK hI 5 (tf_xat_5 ad cI cZ _) rfl 4 (by decide) hf_9 rfl rfl dX5_keep_7 ?_
  refine lv_aload_n hx hb dX5_keep_10 rfl (lv_at hl 0 rfl) ?_
  refine tf_get (C := RX5) (T := TX5) (N := 6) hx hb hts hn_X5 hown hK hI 5 (tf_xat_5 ad cI cZ _) rfl 5 (by decide) hf_15 rfl rfl dX5_keep_11 ?_
  obtain ⟨u1, q2, h⟩ := tf_gbind h
  refine tf_callVv (rest := []) ⟨hx, hb, hml, hown, hts⟩ hK hN hI (kX_X2_tell l D ad cI cZ _ _ _ _ _ _ q2) (cwV 4 hts gX5_keep_X2_tell rfl rfl rfl (by decide +kernel) ⟨Nat.le_of_ble_eq_true rfl, Nat.le_of_ble_eq_true rfl⟩) 4 2 (tf_xat_4 ad cI cZ _) rfl rfl hl.1 rfl (Nat.le_of_ble_eq_true rfl) dX5_keep_14 (fun H locs hI => ?_)
  refine lv_aload_n hx hb dX5_keep_17 rfl (lv_at hl 0 rfl) ?_
  refine tf_get (C := RX5) (T := TX5) (N := 6) hx hb hts hn_X5 hown hK hI 5 (tf_xat_5 ad cI cZ _) rfl 2 (by decide) hf_27 rfl rfl dX5_keep_18 ?_
  refine tf_get (C := RX2) (T := TX2) (N := 11) hx hb hts hn_X2 hown hK hI 4 (tf_xat_4 ad cI cZ _) rfl 1 (by decide) hf_46 rfl rfl dX5_keep_21 ?_
  refine lv_iload_n hx hb dX5_keep_24 rfl (lv_at hl 1 rfl) ?_
  obtain ⟨b3, h⟩ := tf_gin h
  refine va_iald hx hb hK hI.1 21 0 (tf_xat_21 ad cI cZ _) rfl b3 dX5_keep_25 ?_
  obtain ⟨v4, ev4, h⟩ := tf_glet h
  refine tf_top ev4 ?_
  refine lv_istore_n (lv' := [(3, .int v4), (0, .ref (ad 5)), (1, .int x1), (2, .int x2)]) hx hb dX5_keep_26 rfl hl (by decide) rfl (fun ls hl => ?_)
  refine lv_iload_n hx hb dX5_keep_27 rfl (lv_at hl 3 rfl) ?_
  refine lv_iconst (v := -1) hx hb dX5_keep_28 (by decide +kernel) ?_
  refine lv_icmp_eq (tgt := 76) hx hb dX5_keep_29 (by decide) (fun c5 => ?_) (fun c5 => ?_)
  · replace h := tf_pos c5 h
    refine lv_aload_n hx hb dX5_keep_76 rfl (lv_at hl 1 rfl) ?_
    refine tf_get (C := RX5) (T := TX5) (N := 6) hx hb hts hn_X5 hown hK hI 5 (tf_xat_5 ad cI cZ _) rfl 2 (by decide) hf_27 rfl rfl dX5_keep_77 ?_
    refine lv_iload_n hx hb dX5_keep_80 rfl (lv_at hl 2 rfl) ?_
    refine lv_iconst (v := -1) hx hb dX5_keep_81 (by decide +kernel) ?_
    refine lv_iconst (v := -1) hx hb dX5_keep_82 (by decide +kernel) ?_
    obtain ⟨u6, q7, h⟩ := tf_gbind h
    refine tf_callVv (rest := []) ⟨hx, hb, hml, hown, hts⟩ hK hN hI (kX_X2_bind l D ad cI cZ _ _ _ _ _ q7) (cwV 3 hts gX5_keep_X2_bind rfl rfl rfl (by decide +kernel) ⟨Nat.le_of_ble_eq_true rfl, Nat.le_of_ble_eq_true rfl⟩) 4 2 (tf_xat_4 ad cI cZ _) rfl rfl hl.1 rfl (Nat.le_of_ble_eq_true rfl) dX5_keep_83 (fun H locs hI => ?_)
    exact tf_vret hx hb hr hI h dX5_keep_86 hlocks
  replace h := tf_neg c5 h
  refine lv_iload_n hx hb dX5_keep_32 rfl (lv_at hl 0 rfl) ?_
  refine lv_iconst (v := 1) hx hb dX5_keep_33 (by decide +kernel) ?_
  refine lv_icmp_eq (tgt := 47) hx hb dX5_keep_34 (by decide) (fun c8 => ?_) (fun c8 => ?_)
  · replace h := tf_pos c8 h
    exact j47  _ _ _ _ h hI (lv_sub hl [1, 2] rfl)
  replace h := tf_neg c8 h
  refine lv_iload_n hx hb dX5_keep_37 rfl (lv_at hl 0 rfl) ?_
  refine lv_iconst (v := 2) hx hb dX5_keep_38 (by decide +kernel) ?_
  refine lv_icmp_eq (tgt := 47) hx hb dX5_keep_39 (by decide) (fun c13 => ?_) (fun c13 => ?_)
  · replace h := tf_pos c13 h
    exact j47  _ _ _ _ h hI (lv_sub hl [1, 2] rfl)
  replace h := tf_neg c13 h
  refine lv_iload_n hx hb dX5_keep_42 rfl (lv_at hl 0 rfl) ?_
  refine lv_iconst (v := 5) hx hb dX5_keep_43 (by decide +kernel) ?_
  refine lv_icmp_ne (tgt := 76) hx hb dX5_keep_44 (by decide) (fun c14 => ?_) (fun c14 => ?_)
  · replace h := tf_neg c14 h
    refine lv_aload_n hx hb dX5_keep_76 rfl (lv_at hl 1 rfl) ?_
    refine tf_get (C := RX5) (T := TX5) (N := 6) hx hb hts hn_X5 hown hK hI 5 (tf_xat_5 ad cI cZ _) rfl 2 (by decide) hf_27 rfl rfl dX5_keep_77 ?_
    refine lv_iload_n hx hb dX5_keep_80 rfl (lv_at hl 2 rfl) ?_
    refine lv_iconst (v := -1) hx hb dX5_keep_81 (by decide +kernel) ?_
    refine lv_iconst (v := -1) hx hb dX5_keep_82 (by decide +kernel) ?_
    obtain ⟨u15, q16, h⟩ := tf_gbind h
    refine tf_callVv (rest := []) ⟨hx, hb, hml, hown, hts⟩ hK hN hI (kX_X2_bind l D ad cI cZ _ _ _ _ _ q16) (cwV 3 hts gX5_keep_X2_bind rfl rfl rfl (by decide +kernel) ⟨Nat.le_of_ble_eq_true rfl, Nat.le_of_ble_eq_true rfl⟩) 4 2 (tf_xat_4 ad cI cZ _) rfl rfl hl.1 rfl (Nat.le_of_ble_eq_true rfl) dX5_keep_83 (fun H locs hI => ?_)
    exact tf_vret hx hb hr hI h dX5_keep_86 hlocks
  replace h := tf_pos c14 h
  exact j47  _ _ _ _ h hI (lv_sub hl [1, 2] rfl)

set_option maxHeartbeats 4000000 in
set_option maxRecDepth 100000 in
theorem kX_X6_classOf (l : Launch) (D : va_G) (ad : Nat → Nat) (cI cZ : ClassId) (σ : tf_S) (x1 x2 : Int32) (z : Int32 × tf_S) (h : fX6_classOf σ x1 x2 = some z) : tf_C l D (tf_wx ad cI cZ) [(cI, .int), (cZ, .boolean)] tf_nest yX6_classOf wsX6_classOf ({ frames := 1, cells := 0, slots := 0, locals := 22 }) [.ref (ad 0), .int x1, .int x2] σ z := by
  intro sz
  refine Met.ofW (cc := cX6_classOf) (maxL := 3) (ret := (some .int)) (by decide) rfl ?_
  intro p e s m args below meth c s₁ B hml hv
  obtain ⟨rfl, hsz, hP, hK, hN, hD0⟩ := hv
  have hx := B.exec
  have hb := B.bytes
  have hr := B.returns
  have hts := atoms_spec (ws := wsX6_classOf) B.pre
  have hown : s.vm.findClass RX6 = some m.cls := findClass_of_methodNamed B.named
  have hlocks := B.notSynchronized
  subst hsz
  have hI := tf_start (D := D) (tf_x_ad ad cI cZ) hP hD0
  have hl := lv_entry ([.ref (ad 0), .int x1, .int x2]) (n := 3) (Nat.le_of_ble_eq_true rfl)
  rw [lg_entry_eq]
  generalize (lg_sl ([.ref (ad 0), .int x1, .int x2]) ++ List.replicate (3 - (lg_sl ([.ref (ad 0), .int x1, .int x2])).length) Slot.unset).toArray = ls at hl ⊢
  have hl : lv_has ls 3 [(0, .ref (ad 0)), (1, .int x1), (2, .int x2)] := hl
  have hn_X6 : ∀ w ∈ u_ws RX6 TX6 5, w ∈ wsX6_classOf := by decide +kernel
  have hf_10 := hts (.fieldLink RX6 10 "TypeFlow" "types" "LTypeFlow$Types;") (by decide +kernel)
  unfold fX6_classOf at h
  refine lv_iload_n hx hb dX6_classOf_0 rfl (lv_at hl 1 rfl) ?_
  refine lv_if_lt (tgt := 9) hx hb dX6_classOf_1 (by decide) (fun c1 => ?_) (fun c1 => ?_)
  · replace h := tf_pos c1 h
    refine lv_bipush (v := -2) hx hb dX6_classOf_9 (by decide +kernel) ?_
    exact tf_iret hx hb hr hI h dX6_classOf_11 hlocks
  replace h := tf_neg c1 h
  refine lv_iload_n hx hb dX6_classOf_4 rfl (lv_at hl 1 rfl) ?_
  refine lv_iconst (v := 2) hx hb dX6_classOf_5 (by decide +kernel) ?_
  refine lv_icmp_le (tgt := 12) hx hb dX6_classOf_6 (by decide) (fun c2 => ?_) (fun c2 => ?_)
  · replace h := tf_pos c2 h
    refine lv_aload_n hx hb dX6_classOf_12 rfl (lv_at hl 0 rfl) ?_
    refine tf_get (C := RX6) (T := TX6) (N := 5) hx hb hts hn_X6 hown hK hI 0 (tf_xat_0 ad cI cZ _) rfl 0 (by decide) hf_10 rfl rfl dX6_classOf_13 ?_
    refine lv_iload_n hx hb dX6_classOf_16 rfl (lv_at hl 2 rfl) ?_
    obtain ⟨u3, q4, h⟩ := tf_gbind h
    refine tf_callV (rest := []) ⟨hx, hb, hml, hown, hts⟩ hK hN hI (kX_X4_isClassType l D ad cI cZ _ _ _ q4) (cwV 1 hts gX6_classOf_X4_isClassType rfl rfl rfl (by decide +kernel) ⟨Nat.le_of_ble_eq_true rfl, Nat.le_of_ble_eq_true rfl⟩) 1 4 (tf_xat_1 ad cI cZ _) rfl rfl hl.1 rfl (Nat.le_of_ble_eq_true rfl) dX6_classOf_17 (fun H locs hI => ?_)
    refine lv_if_eq (tgt := 35) hx hb dX6_classOf_20 (by decide) (fun c5 => ?_) (fun c5 => ?_)
    · replace h := tf_pos c5 h
      refine lv_bipush (v := -2) hx hb dX6_classOf_35 (by decide +kernel) ?_
      exact tf_iret hx hb hr hI h dX6_classOf_37 hlocks
    replace h := tf_neg c5 h
    refine lv_aload_n hx hb dX6_classOf_23 rfl (lv_at hl 0 rfl) ?_
    refine tf_get (C := RX6) (T := TX6) (N := 5) hx hb hts hn_X6 hown hK hI 0 (tf_xat_0 ad cI cZ _) rfl 0 (by decide) hf_10 rfl rfl dX6_classOf_24 ?_
    refine lv_iload_n hx hb dX6_classOf_27 rfl (lv_at hl 2 rfl) ?_
    refine lv_iload_n hx hb dX6_classOf_28 rfl (lv_at hl 1 rfl) ?_
    obtain ⟨u6, q7, h⟩ := tf_gbind h
    refine tf_callV (rest := []) ⟨hx, hb, hml, hown, hts⟩ hK hN hI (kX_X4_hasOnly l D ad cI cZ _ _ _ _ q7) (cwV 2 hts gX6_classOf_X4_hasOnly rfl rfl rfl (by decide +kernel) ⟨Nat.le_of_ble_eq_true rfl, Nat.le_of_ble_eq_true rfl⟩) 1 4 (tf_xat_1 ad cI cZ _) rfl rfl hl.1 rfl (Nat.le_of_ble_eq_true rfl) dX6_classOf_29 (fun H locs hI => ?_)
    refine lv_if_ne (tgt := 38) hx hb dX6_classOf_32 (by decide) (fun c8 => ?_) (fun c8 => ?_)
    · replace h := tf_neg c8 h
      refine lv_aload_n hx hb dX6_classOf_38 rfl (lv_at hl 0 rfl) ?_
      refine tf_get (C := RX6) (T := TX6) (N := 5) hx hb hts hn_X6 hown hK hI 0 (tf_xat_0 ad cI cZ _) rfl 0 (by decide) hf_10 rfl rfl dX6_classOf_39 ?_
      refine lv_iload_n hx hb dX6_classOf_42 rfl (lv_at hl 1 rfl) ?_
      refine lv_iload_n hx hb dX6_classOf_43 rfl (lv_at hl 2 rfl) ?_
      obtain ⟨u9, q10, h⟩ := tf_gbind h
      refine tf_callV (rest := []) ⟨hx, hb, hml, hown, hts⟩ hK hN hI (kX_X4_addClass l D ad cI cZ _ _ _ _ q10) (cwV 2 hts gX6_classOf_X4_addClass rfl rfl rfl (by decide +kernel) ⟨Nat.le_of_ble_eq_true rfl, Nat.le_of_ble_eq_true rfl⟩) 1 4 (tf_xat_1 ad cI cZ _) rfl rfl hl.1 rfl (Nat.le_of_ble_eq_true rfl) dX6_classOf_44 (fun H locs hI => ?_)
      exact tf_iret hx hb hr hI h dX6_classOf_47 hlocks
    replace h := tf_pos c8 h
    refine lv_bipush (v := -2) hx hb dX6_classOf_35 (by decide +kernel) ?_
    exact tf_iret hx hb hr hI h dX6_classOf_37 hlocks
  replace h := tf_neg c2 h
  refine lv_bipush (v := -2) hx hb dX6_classOf_9 (by decide +kernel) ?_
  exact tf_iret hx hb hr hI h dX6_classOf_11 hlocks

set_option maxHeartbeats 4000000 in
set_option maxRecDepth 100000 in
theorem kX_X6_type (l : Launch) (D : va_G) (ad : Nat → Nat) (cI cZ : ClassId) (σ : tf_S) (x1 x2 x3 : Int32) (z : Int32 × tf_S) (h : fX6_type σ x1 x2 x3 = some z) : tf_C l D (tf_wx ad cI cZ) [(cI, .int), (cZ, .boolean)] tf_nest yX6_type wsX6_type ({ frames := 1, cells := 0, slots := 0, locals := 24 }) [.ref (ad 0), .int x1, .int x2, .int x3] σ z := by
  intro sz
  refine Met.ofW (cc := cX6_type) (maxL := 5) (ret := (some .int)) (by decide) rfl ?_
  intro p e s m args below meth c s₁ B hml hv
  obtain ⟨rfl, hsz, hP, hK, hN, hD0⟩ := hv
  have hx := B.exec
  have hb := B.bytes
  have hr := B.returns
  have hts := atoms_spec (ws := wsX6_type) B.pre
  have hown : s.vm.findClass RX6 = some m.cls := findClass_of_methodNamed B.named
  have hlocks := B.notSynchronized
  subst hsz
  have hI := tf_start (D := D) (tf_x_ad ad cI cZ) hP hD0
  have hl := lv_entry ([.ref (ad 0), .int x1, .int x2, .int x3]) (n := 5) (Nat.le_of_ble_eq_true rfl)
  rw [lg_entry_eq]
  generalize (lg_sl ([.ref (ad 0), .int x1, .int x2, .int x3]) ++ List.replicate (5 - (lg_sl ([.ref (ad 0), .int x1, .int x2, .int x3])).length) Slot.unset).toArray = ls at hl ⊢
  have hl : lv_has ls 5 [(0, .ref (ad 0)), (1, .int x1), (2, .int x2), (3, .int x3)] := hl
  have hn_X4 : ∀ w ∈ u_ws RX4 TX4 10, w ∈ wsX6_type := by decide +kernel
  have hn_X6 : ∀ w ∈ u_ws RX6 TX6 5, w ∈ wsX6_type := by decide +kernel
  have hf_10 := hts (.fieldLink RX6 10 "TypeFlow" "types" "LTypeFlow$Types;") (by decide +kernel)
  have hf_61 := hts (.fieldLink RX6 61 "TypeFlow$Types" "variables" "[I") (by decide +kernel)
  have j61 : ∀ (σ : tf_S) (y4 : Int32) (H : Heap) (locs : List Loc) (ls : Array Slot), fX6_type_61 x1 x2 x3 σ y4 = some z → tf_I D (tf_wx ad cI cZ) s.heap σ H locs → lv_has ls 5 [(0, .ref (ad 0)), (1, .int x1), (2, .int x2), (3, .int x3), (4, .int y4)] → W p l e (headSpec wsX6_type ({ frames := 1, cells := 0, slots := 0, locals := 24 })).room s m ([.ref (ad 0), .int x1, .int x2, .int x3] : List Value).toArray below meth c H locs 0 0 (tf_Q below D (tf_wx ad cI cZ) z ([.ref (ad 0), .int x1, .int x2, .int x3] : List Value).toArray s) (F0 m 61 ls []) := by
    intro σ y4 H locs ls h hI hl
    unfold fX6_type_61 at h
    refine lv_aload_n hx hb dX6_type_61 rfl (lv_at hl 0 rfl) ?_
    refine tf_get (C := RX6) (T := TX6) (N := 5) hx hb hts hn_X6 hown hK hI 0 (tf_xat_0 ad cI cZ _) rfl 0 (by decide) hf_10 rfl rfl dX6_type_62 ?_
    refine lv_iload_n hx hb dX6_type_65 rfl (lv_at hl 1 rfl) ?_
    refine lv_iload hx hb dX6_type_66 (lv_at hl 4 rfl) ?_
    refine lv_if_le (tgt := 75) hx hb dX6_type_68 (by decide) (fun c8 => ?_) (fun c8 => ?_)
    · replace h := tf_pos c8 h
      refine lv_iconst (v := -1) hx hb dX6_type_75 (by decide +kernel) ?_
      refine lv_iload hx hb dX6_type_76 (lv_at hl 4 rfl) ?_
      refine lv_iconst (v := 1) hx hb dX6_type_78 (by decide +kernel) ?_
      refine lv_icmp_le (tgt := 86) hx hb dX6_type_79 (by decide) (fun c9 => ?_) (fun c9 => ?_)
      · replace h := tf_pos c9 h
        refine lv_iconst (v := -1) hx hb dX6_type_86 (by decide +kernel) ?_
        obtain ⟨u10, q11, h⟩ := tf_gbind h
        refine tf_callV (rest := []) ⟨hx, hb, hml, hown, hts⟩ hK hN hI (kX_X4_make l D ad cI cZ _ _ _ _ _ q11) (cwV 3 hts gX6_type_X4_make rfl rfl rfl (by decide +kernel) ⟨Nat.le_of_ble_eq_true rfl, Nat.le_of_ble_eq_true rfl⟩) 1 4 (tf_xat_1 ad cI cZ _) rfl rfl hl.1 rfl (Nat.le_of_ble_eq_true rfl) dX6_type_87 (fun H locs hI => ?_)
        exact tf_iret hx hb hr hI h dX6_type_90 hlocks
      replace h := tf_neg c9 h
      refine lv_iload_n hx hb dX6_type_82 rfl (lv_at hl 3 rfl) ?_
      refine lv_goto (tgt := 87) hx hb dX6_type_83 (by decide) ?_
      obtain ⟨u12, q13, h⟩ := tf_gbind h
      refine tf_callV (rest := []) ⟨hx, hb, hml, hown, hts⟩ hK hN hI (kX_X4_make l D ad cI cZ _ _ _ _ _ q13) (cwV 3 hts gX6_type_X4_make rfl rfl rfl (by decide +kernel) ⟨Nat.le_of_ble_eq_true rfl, Nat.le_of_ble_eq_true rfl⟩) 1 4 (tf_xat_1 ad cI cZ _) rfl rfl hl.1 rfl (Nat.le_of_ble_eq_true rfl) dX6_type_87 (fun H locs hI => ?_)
      exact tf_iret hx hb hr hI h dX6_type_90 hlocks
    replace h := tf_neg c8 h
    refine lv_iload_n hx hb dX6_type_71 rfl (lv_at hl 2 rfl) ?_
    refine lv_goto (tgt := 76) hx hb dX6_type_72 (by decide) ?_
    refine lv_iload hx hb dX6_type_76 (lv_at hl 4 rfl) ?_
    refine lv_iconst (v := 1) hx hb dX6_type_78 (by decide +kernel) ?_
    refine lv_icmp_le (tgt := 86) hx hb dX6_type_79 (by decide) (fun c14 => ?_) (fun c14 => ?_)
    · replace h := tf_pos c14 h
      refine lv_iconst (v := -1) hx hb dX6_type_86 (by decide +kernel) ?_
      obtain ⟨u15, q16, h⟩ := tf_gbind h
      refine tf_callV (rest := []) ⟨hx, hb, hml, hown, hts⟩ hK hN hI (kX_X4_make l D ad cI cZ _ _ _ _ _ q16) (cwV 3 hts gX6_type_X4_make rfl rfl rfl (by decide +kernel) ⟨Nat.le_of_ble_eq_true rfl, Nat.le_of_ble_eq_true rfl⟩) 1 4 (tf_xat_1 ad cI cZ _) rfl rfl hl.1 rfl (Nat.le_of_ble_eq_true rfl) dX6_type_87 (fun H locs hI => ?_)
      exact tf_iret hx hb hr hI h dX6_type_90 hlocks
    replace h := tf_neg c14 h
    refine lv_iload_n hx hb dX6_type_82 rfl (lv_at hl 3 rfl) ?_
    refine lv_goto (tgt := 87) hx hb dX6_type_83 (by decide) ?_
    obtain ⟨u17, q18, h⟩ := tf_gbind h
    refine tf_callV (rest := []) ⟨hx, hb, hml, hown, hts⟩ hK hN hI (kX_X4_make l D ad cI cZ _ _ _ _ _ q18) (cwV 3 hts gX6_type_X4_make rfl rfl rfl (by decide +kernel) ⟨Nat.le_of_ble_eq_true rfl, Nat.le_of_ble_eq_true rfl⟩) 1 4 (tf_xat_1 ad cI cZ _) rfl rfl hl.1 rfl (Nat.le_of_ble_eq_true rfl) dX6_type_87 (fun H locs hI => ?_)
    exact tf_iret hx hb hr hI h dX6_type_90 hlocks
  unfold fX6_type at h
  refine lv_aload_n hx hb dX6_type_0 rfl (lv_at hl 0 rfl) ?_
  refine tf_get (C := RX6) (T := TX6) (N := 5) hx hb hts hn_X6 hown hK hI 0 (tf_xat_0 ad cI cZ _) rfl 0 (by decide) hf_10 rfl rfl dX6_type_1 ?_
  refine lv_iload_n hx hb dX6_type_4 rfl (lv_at hl 1 rfl) ?_
  obtain ⟨u1, q2, h⟩ := tf_gbind h
  refine tf_callV (rest := []) ⟨hx, hb, hml, hown, hts⟩ hK hN hI (kX_X4_isClass l D ad cI cZ _ _ _ q2) (cwV 1 hts gX6_type_X4_isClass rfl rfl rfl (by decide +kernel) ⟨Nat.le_of_ble_eq_true rfl, Nat.le_of_ble_eq_true rfl⟩) 1 4 (tf_xat_1 ad cI cZ _) rfl rfl hl.1 rfl (Nat.le_of_ble_eq_true rfl) dX6_type_5 (fun H locs hI => ?_)
  refine lv_if_ne (tgt := 14) hx hb dX6_type_8 (by decide) (fun c3 => ?_) (fun c3 => ?_)
  · replace h := tf_neg c3 h
    refine lv_aload_n hx hb dX6_type_14 rfl (lv_at hl 0 rfl) ?_
    refine tf_get (C := RX6) (T := TX6) (N := 5) hx hb hts hn_X6 hown hK hI 0 (tf_xat_0 ad cI cZ _) rfl 0 (by decide) hf_10 rfl rfl dX6_type_15 ?_
    refine tf_get (C := RX4) (T := TX4) (N := 10) hx hb hts hn_X4 hown hK hI 1 (tf_xat_1 ad cI cZ _) rfl 1 (by decide) hf_61 rfl rfl dX6_type_18 ?_
    refine lv_iload_n hx hb dX6_type_21 rfl (lv_at hl 1 rfl) ?_
    obtain ⟨b4, h⟩ := tf_gin h
    refine va_iald hx hb hK hI.1 7 0 (tf_xat_7 ad cI cZ _) rfl b4 dX6_type_22 ?_
    obtain ⟨v5, ev5, h⟩ := tf_glet h
    refine tf_top ev5 ?_
    refine lv_istore (lv' := [(4, .int v5), (0, .ref (ad 0)), (1, .int x1), (2, .int x2), (3, .int x3)]) hx hb dX6_type_23 hl (by decide) rfl (fun ls hl => ?_)
    refine lv_iload hx hb dX6_type_25 (lv_at hl 0 rfl) ?_
    refine lv_if_le (tgt := 41) hx hb dX6_type_27 (by decide) (fun c6 => ?_) (fun c6 => ?_)
    · replace h := tf_pos c6 h
      refine lv_iload hx hb dX6_type_41 (lv_at hl 0 rfl) ?_
      refine lv_iconst (v := 1) hx hb dX6_type_43 (by decide +kernel) ?_
      refine lv_icmp_le (tgt := 61) hx hb dX6_type_44 (by decide) (fun c7 => ?_) (fun c7 => ?_)
      · replace h := tf_pos c7 h
        exact j61  _ _ _ _ _ h hI (lv_sub hl [1, 2, 3, 4, 0] rfl)
      replace h := tf_neg c7 h
      refine lv_aload_n hx hb dX6_type_47 rfl (lv_at hl 1 rfl) ?_
      refine tf_get (C := RX6) (T := TX6) (N := 5) hx hb hts hn_X6 hown hK hI 0 (tf_xat_0 ad cI cZ _) rfl 0 (by decide) hf_10 rfl rfl dX6_type_48 ?_
      refine lv_iload_n hx hb dX6_type_51 rfl (lv_at hl 4 rfl) ?_
      obtain ⟨u19, q20, h⟩ := tf_gbind h
      refine tf_callV (rest := []) ⟨hx, hb, hml, hown, hts⟩ hK hN hI (kX_X4_isArgument l D ad cI cZ _ _ _ q20) (cwV 1 hts gX6_type_X4_isArgument rfl rfl rfl (by decide +kernel) ⟨Nat.le_of_ble_eq_true rfl, Nat.le_of_ble_eq_true rfl⟩) 1 4 (tf_xat_1 ad cI cZ _) rfl rfl hl.1 rfl (Nat.le_of_ble_eq_true rfl) dX6_type_52 (fun H locs hI => ?_)
      refine lv_if_ne (tgt := 61) hx hb dX6_type_55 (by decide) (fun c21 => ?_) (fun c21 => ?_)
      · replace h := tf_neg c21 h
        exact j61  _ _ _ _ _ h hI (lv_sub hl [1, 2, 3, 4, 0] rfl)
      replace h := tf_pos c21 h
      refine lv_bipush (v := -2) hx hb dX6_type_58 (by decide +kernel) ?_
      exact tf_iret hx hb hr hI h dX6_type_60 hlocks
    replace h := tf_neg c6 h
    refine lv_aload_n hx hb dX6_type_30 rfl (lv_at hl 1 rfl) ?_
    refine tf_get (C := RX6) (T := TX6) (N := 5) hx hb hts hn_X6 hown hK hI 0 (tf_xat_0 ad cI cZ _) rfl 0 (by decide) hf_10 rfl rfl dX6_type_31 ?_
    refine lv_iload_n hx hb dX6_type_34 rfl (lv_at hl 3 rfl) ?_
    obtain ⟨u22, q23, h⟩ := tf_gbind h
    refine tf_callV (rest := []) ⟨hx, hb, hml, hown, hts⟩ hK hN hI (kX_X4_isArgument l D ad cI cZ _ _ _ q23) (cwV 1 hts gX6_type_X4_isArgument rfl rfl rfl (by decide +kernel) ⟨Nat.le_of_ble_eq_true rfl, Nat.le_of_ble_eq_true rfl⟩) 1 4 (tf_xat_1 ad cI cZ _) rfl rfl hl.1 rfl (Nat.le_of_ble_eq_true rfl) dX6_type_35 (fun H locs hI => ?_)
    refine lv_if_eq (tgt := 58) hx hb dX6_type_38 (by decide) (fun c24 => ?_) (fun c24 => ?_)
    · replace h := tf_pos c24 h
      refine lv_bipush (v := -2) hx hb dX6_type_58 (by decide +kernel) ?_
      exact tf_iret hx hb hr hI h dX6_type_60 hlocks
    replace h := tf_neg c24 h
    refine lv_iload hx hb dX6_type_41 (lv_at hl 0 rfl) ?_
    refine lv_iconst (v := 1) hx hb dX6_type_43 (by decide +kernel) ?_
    refine lv_icmp_le (tgt := 61) hx hb dX6_type_44 (by decide) (fun c25 => ?_) (fun c25 => ?_)
    · replace h := tf_pos c25 h
      exact j61  _ _ _ _ _ h hI (lv_sub hl [1, 2, 3, 4, 0] rfl)
    replace h := tf_neg c25 h
    refine lv_aload_n hx hb dX6_type_47 rfl (lv_at hl 1 rfl) ?_
    refine tf_get (C := RX6) (T := TX6) (N := 5) hx hb hts hn_X6 hown hK hI 0 (tf_xat_0 ad cI cZ _) rfl 0 (by decide) hf_10 rfl rfl dX6_type_48 ?_
    refine lv_iload_n hx hb dX6_type_51 rfl (lv_at hl 4 rfl) ?_
    obtain ⟨u26, q27, h⟩ := tf_gbind h
    refine tf_callV (rest := []) ⟨hx, hb, hml, hown, hts⟩ hK hN hI (kX_X4_isArgument l D ad cI cZ _ _ _ q27) (cwV 1 hts gX6_type_X4_isArgument rfl rfl rfl (by decide +kernel) ⟨Nat.le_of_ble_eq_true rfl, Nat.le_of_ble_eq_true rfl⟩) 1 4 (tf_xat_1 ad cI cZ _) rfl rfl hl.1 rfl (Nat.le_of_ble_eq_true rfl) dX6_type_52 (fun H locs hI => ?_)
    refine lv_if_ne (tgt := 61) hx hb dX6_type_55 (by decide) (fun c28 => ?_) (fun c28 => ?_)
    · replace h := tf_neg c28 h
      exact j61  _ _ _ _ _ h hI (lv_sub hl [1, 2, 3, 4, 0] rfl)
    replace h := tf_pos c28 h
    refine lv_bipush (v := -2) hx hb dX6_type_58 (by decide +kernel) ?_
    exact tf_iret hx hb hr hI h dX6_type_60 hlocks
  replace h := tf_pos c3 h
  refine lv_bipush (v := -2) hx hb dX6_type_11 (by decide +kernel) ?_
  exact tf_iret hx hb hr hI h dX6_type_13 hlocks

set_option maxHeartbeats 4000000 in
set_option maxRecDepth 100000 in
theorem kX_X6_member (l : Launch) (D : va_G) (ad : Nat → Nat) (cI cZ : ClassId) (σ : tf_S) (x1 x2 : Int32) (z : Int32 × tf_S) (h : fX6_member σ x1 x2 = some z) : tf_C l D (tf_wx ad cI cZ) [(cI, .int), (cZ, .boolean)] tf_nest yX6_member wsX6_member ({ frames := 1, cells := 0, slots := 0, locals := 22 }) [.ref (ad 0), .int x1, .int x2] σ z := by
  intro sz
  refine Met.ofW (cc := cX6_member) (maxL := 3) (ret := (some .int)) (by decide) rfl ?_
  intro p e s m args below meth c s₁ B hml hv
  obtain ⟨rfl, hsz, hP, hK, hN, hD0⟩ := hv
  have hx := B.exec
  have hb := B.bytes
  have hr := B.returns
  have hts := atoms_spec (ws := wsX6_member) B.pre
  have hown : s.vm.findClass RX6 = some m.cls := findClass_of_methodNamed B.named
  have hlocks := B.notSynchronized
  subst hsz
  have hI := tf_start (D := D) (tf_x_ad ad cI cZ) hP hD0
  have hl := lv_entry ([.ref (ad 0), .int x1, .int x2]) (n := 3) (Nat.le_of_ble_eq_true rfl)
  rw [lg_entry_eq]
  generalize (lg_sl ([.ref (ad 0), .int x1, .int x2]) ++ List.replicate (3 - (lg_sl ([.ref (ad 0), .int x1, .int x2])).length) Slot.unset).toArray = ls at hl ⊢
  have hl : lv_has ls 3 [(0, .ref (ad 0)), (1, .int x1), (2, .int x2)] := hl
  have hn_X4 : ∀ w ∈ u_ws RX4 TX4 10, w ∈ wsX6_member := by decide +kernel
  have hn_X6 : ∀ w ∈ u_ws RX6 TX6 5, w ∈ wsX6_member := by decide +kernel
  have hf_10 := hts (.fieldLink RX6 10 "TypeFlow" "types" "LTypeFlow$Types;") (by decide +kernel)
  have hf_19 := hts (.fieldLink RX6 19 "TypeFlow" "members" "LTypeFlow$Members;") (by decide +kernel)
  have hf_61 := hts (.fieldLink RX6 61 "TypeFlow$Types" "variables" "[I") (by decide +kernel)
  unfold fX6_member at h
  refine lv_aload_n hx hb dX6_member_0 rfl (lv_at hl 0 rfl) ?_
  refine tf_get (C := RX6) (T := TX6) (N := 5) hx hb hts hn_X6 hown hK hI 0 (tf_xat_0 ad cI cZ _) rfl 0 (by decide) hf_10 rfl rfl dX6_member_1 ?_
  refine lv_iload_n hx hb dX6_member_4 rfl (lv_at hl 1 rfl) ?_
  obtain ⟨u1, q2, h⟩ := tf_gbind h
  refine tf_callV (rest := []) ⟨hx, hb, hml, hown, hts⟩ hK hN hI (kX_X4_isClass l D ad cI cZ _ _ _ q2) (cwV 1 hts gX6_member_X4_isClass rfl rfl rfl (by decide +kernel) ⟨Nat.le_of_ble_eq_true rfl, Nat.le_of_ble_eq_true rfl⟩) 1 4 (tf_xat_1 ad cI cZ _) rfl rfl hl.1 rfl (Nat.le_of_ble_eq_true rfl) dX6_member_5 (fun H locs hI => ?_)
  refine lv_if_eq (tgt := 22) hx hb dX6_member_8 (by decide) (fun c3 => ?_) (fun c3 => ?_)
  · replace h := tf_pos c3 h
    refine lv_bipush (v := -2) hx hb dX6_member_22 (by decide +kernel) ?_
    exact tf_iret hx hb hr hI h dX6_member_24 hlocks
  replace h := tf_neg c3 h
  refine lv_aload_n hx hb dX6_member_11 rfl (lv_at hl 0 rfl) ?_
  refine tf_get (C := RX6) (T := TX6) (N := 5) hx hb hts hn_X6 hown hK hI 0 (tf_xat_0 ad cI cZ _) rfl 0 (by decide) hf_10 rfl rfl dX6_member_12 ?_
  refine lv_iload_n hx hb dX6_member_15 rfl (lv_at hl 2 rfl) ?_
  obtain ⟨u4, q5, h⟩ := tf_gbind h
  refine tf_callV (rest := []) ⟨hx, hb, hml, hown, hts⟩ hK hN hI (kX_X4_isType l D ad cI cZ _ _ _ q5) (cwV 1 hts gX6_member_X4_isType rfl rfl rfl (by decide +kernel) ⟨Nat.le_of_ble_eq_true rfl, Nat.le_of_ble_eq_true rfl⟩) 1 4 (tf_xat_1 ad cI cZ _) rfl rfl hl.1 rfl (Nat.le_of_ble_eq_true rfl) dX6_member_16 (fun H locs hI => ?_)
  refine lv_if_ne (tgt := 25) hx hb dX6_member_19 (by decide) (fun c6 => ?_) (fun c6 => ?_)
  · replace h := tf_neg c6 h
    refine lv_aload_n hx hb dX6_member_25 rfl (lv_at hl 0 rfl) ?_
    refine tf_get (C := RX6) (T := TX6) (N := 5) hx hb hts hn_X6 hown hK hI 0 (tf_xat_0 ad cI cZ _) rfl 0 (by decide) hf_10 rfl rfl dX6_member_26 ?_
    refine lv_iload_n hx hb dX6_member_29 rfl (lv_at hl 2 rfl) ?_
    refine lv_aload_n hx hb dX6_member_30 rfl (lv_at hl 0 rfl) ?_
    refine tf_get (C := RX6) (T := TX6) (N := 5) hx hb hts hn_X6 hown hK hI 0 (tf_xat_0 ad cI cZ _) rfl 0 (by decide) hf_10 rfl rfl dX6_member_31 ?_
    refine tf_get (C := RX4) (T := TX4) (N := 10) hx hb hts hn_X4 hown hK hI 1 (tf_xat_1 ad cI cZ _) rfl 1 (by decide) hf_61 rfl rfl dX6_member_34 ?_
    refine lv_iload_n hx hb dX6_member_37 rfl (lv_at hl 1 rfl) ?_
    obtain ⟨b7, h⟩ := tf_gin h
    refine va_iald hx hb hK hI.1 7 0 (tf_xat_7 ad cI cZ _) rfl b7 dX6_member_38 ?_
    obtain ⟨u8, q9, h⟩ := tf_gbind h
    refine tf_callV (rest := []) ⟨hx, hb, hml, hown, hts⟩ hK hN hI (kX_X4_hasOnly l D ad cI cZ _ _ _ _ q9) (cwV 2 hts gX6_member_X4_hasOnly rfl rfl rfl (by decide +kernel) ⟨Nat.le_of_ble_eq_true rfl, Nat.le_of_ble_eq_true rfl⟩) 1 4 (tf_xat_1 ad cI cZ _) rfl rfl hl.1 rfl (Nat.le_of_ble_eq_true rfl) dX6_member_39 (fun H locs hI => ?_)
    refine lv_if_ne (tgt := 48) hx hb dX6_member_42 (by decide) (fun c10 => ?_) (fun c10 => ?_)
    · replace h := tf_neg c10 h
      refine lv_aload_n hx hb dX6_member_48 rfl (lv_at hl 0 rfl) ?_
      refine tf_get (C := RX6) (T := TX6) (N := 5) hx hb hts hn_X6 hown hK hI 0 (tf_xat_0 ad cI cZ _) rfl 1 (by decide) hf_19 rfl rfl dX6_member_49 ?_
      refine lv_iload_n hx hb dX6_member_52 rfl (lv_at hl 1 rfl) ?_
      refine lv_iload_n hx hb dX6_member_53 rfl (lv_at hl 2 rfl) ?_
      obtain ⟨u11, q12, h⟩ := tf_gbind h
      refine tf_callV (rest := []) ⟨hx, hb, hml, hown, hts⟩ hK hN hI (kX_X1_add l D ad cI cZ _ _ _ _ q12) (cwV 2 hts gX6_member_X1_add rfl rfl rfl (by decide +kernel) ⟨Nat.le_of_ble_eq_true rfl, Nat.le_of_ble_eq_true rfl⟩) 2 1 (tf_xat_2 ad cI cZ _) rfl rfl hl.1 rfl (Nat.le_of_ble_eq_true rfl) dX6_member_54 (fun H locs hI => ?_)
      exact tf_iret hx hb hr hI h dX6_member_57 hlocks
    replace h := tf_pos c10 h
    refine lv_bipush (v := -2) hx hb dX6_member_45 (by decide +kernel) ?_
    exact tf_iret hx hb hr hI h dX6_member_47 hlocks
  replace h := tf_pos c6 h
  refine lv_bipush (v := -2) hx hb dX6_member_22 (by decide +kernel) ?_
  exact tf_iret hx hb hr hI h dX6_member_24 hlocks

set_option maxHeartbeats 4000000 in
set_option maxRecDepth 100000 in
theorem kX_X6_function (l : Launch) (D : va_G) (ad : Nat → Nat) (cI cZ : ClassId) (σ : tf_S) (x1 x2 x3 : Int32) (z : Int32 × tf_S) (h : fX6_function σ x1 x2 x3 = some z) : tf_C l D (tf_wx ad cI cZ) [(cI, .int), (cZ, .boolean)] tf_nest yX6_function wsX6_function ({ frames := 1, cells := 0, slots := 0, locals := 24 }) [.ref (ad 0), .int x1, .int x2, .int x3] σ z := by
  intro sz
  refine Met.ofW (cc := cX6_function) (maxL := 4) (ret := (some .int)) (by decide) rfl ?_
  intro p e s m args below meth c s₁ B hml hv
  obtain ⟨rfl, hsz, hP, hK, hN, hD0⟩ := hv
  have hx := B.exec
  have hb := B.bytes
  have hr := B.returns
  have hts := atoms_spec (ws := wsX6_function) B.pre
  have hown : s.vm.findClass RX6 = some m.cls := findClass_of_methodNamed B.named
  have hlocks := B.notSynchronized
  subst hsz
  have hI := tf_start (D := D) (tf_x_ad ad cI cZ) hP hD0
  have hl := lv_entry ([.ref (ad 0), .int x1, .int x2, .int x3]) (n := 4) (Nat.le_of_ble_eq_true rfl)
  rw [lg_entry_eq]
  generalize (lg_sl ([.ref (ad 0), .int x1, .int x2, .int x3]) ++ List.replicate (4 - (lg_sl ([.ref (ad 0), .int x1, .int x2, .int x3])).length) Slot.unset).toArray = ls at hl ⊢
  have hl : lv_has ls 4 [(0, .ref (ad 0)), (1, .int x1), (2, .int x2), (3, .int x3)] := hl
  have hn_X6 : ∀ w ∈ u_ws RX6 TX6 5, w ∈ wsX6_function := by decide +kernel
  have hf_10 := hts (.fieldLink RX6 10 "TypeFlow" "types" "LTypeFlow$Types;") (by decide +kernel)
  have hf_26 := hts (.fieldLink RX6 26 "TypeFlow" "functions" "LTypeFlow$Functions;") (by decide +kernel)
  unfold fX6_function at h
  refine lv_aload_n hx hb dX6_function_0 rfl (lv_at hl 0 rfl) ?_
  refine tf_get (C := RX6) (T := TX6) (N := 5) hx hb hts hn_X6 hown hK hI 0 (tf_xat_0 ad cI cZ _) rfl 0 (by decide) hf_10 rfl rfl dX6_function_1 ?_
  refine lv_iload_n hx hb dX6_function_4 rfl (lv_at hl 1 rfl) ?_
  obtain ⟨u1, q2, h⟩ := tf_gbind h
  refine tf_callV (rest := []) ⟨hx, hb, hml, hown, hts⟩ hK hN hI (kX_X4_isType l D ad cI cZ _ _ _ q2) (cwV 1 hts gX6_function_X4_isType rfl rfl rfl (by decide +kernel) ⟨Nat.le_of_ble_eq_true rfl, Nat.le_of_ble_eq_true rfl⟩) 1 4 (tf_xat_1 ad cI cZ _) rfl rfl hl.1 rfl (Nat.le_of_ble_eq_true rfl) dX6_function_5 (fun H locs hI => ?_)
  refine lv_if_eq (tgt := 22) hx hb dX6_function_8 (by decide) (fun c3 => ?_) (fun c3 => ?_)
  · replace h := tf_pos c3 h
    refine lv_bipush (v := -2) hx hb dX6_function_22 (by decide +kernel) ?_
    exact tf_iret hx hb hr hI h dX6_function_24 hlocks
  replace h := tf_neg c3 h
  refine lv_aload_n hx hb dX6_function_11 rfl (lv_at hl 0 rfl) ?_
  refine tf_get (C := RX6) (T := TX6) (N := 5) hx hb hts hn_X6 hown hK hI 0 (tf_xat_0 ad cI cZ _) rfl 0 (by decide) hf_10 rfl rfl dX6_function_12 ?_
  refine lv_iload_n hx hb dX6_function_15 rfl (lv_at hl 3 rfl) ?_
  obtain ⟨u4, q5, h⟩ := tf_gbind h
  refine tf_callV (rest := []) ⟨hx, hb, hml, hown, hts⟩ hK hN hI (kX_X4_isType l D ad cI cZ _ _ _ q5) (cwV 1 hts gX6_function_X4_isType rfl rfl rfl (by decide +kernel) ⟨Nat.le_of_ble_eq_true rfl, Nat.le_of_ble_eq_true rfl⟩) 1 4 (tf_xat_1 ad cI cZ _) rfl rfl hl.1 rfl (Nat.le_of_ble_eq_true rfl) dX6_function_16 (fun H locs hI => ?_)
  refine lv_if_ne (tgt := 25) hx hb dX6_function_19 (by decide) (fun c6 => ?_) (fun c6 => ?_)
  · replace h := tf_neg c6 h
    refine lv_iload_n hx hb dX6_function_25 rfl (lv_at hl 2 rfl) ?_
    refine lv_iconst (v := -1) hx hb dX6_function_26 (by decide +kernel) ?_
    refine lv_icmp_eq (tgt := 44) hx hb dX6_function_27 (by decide) (fun c7 => ?_) (fun c7 => ?_)
    · replace h := tf_pos c7 h
      refine lv_aload_n hx hb dX6_function_44 rfl (lv_at hl 0 rfl) ?_
      refine tf_get (C := RX6) (T := TX6) (N := 5) hx hb hts hn_X6 hown hK hI 0 (tf_xat_0 ad cI cZ _) rfl 2 (by decide) hf_26 rfl rfl dX6_function_45 ?_
      refine lv_iload_n hx hb dX6_function_48 rfl (lv_at hl 1 rfl) ?_
      refine lv_iload_n hx hb dX6_function_49 rfl (lv_at hl 2 rfl) ?_
      refine lv_iload_n hx hb dX6_function_50 rfl (lv_at hl 3 rfl) ?_
      obtain ⟨u8, q9, h⟩ := tf_gbind h
      refine tf_callV (rest := []) ⟨hx, hb, hml, hown, hts⟩ hK hN hI (kX_X0_add l D ad cI cZ _ _ _ _ _ q9) (cwV 3 hts gX6_function_X0_add rfl rfl rfl (by decide +kernel) ⟨Nat.le_of_ble_eq_true rfl, Nat.le_of_ble_eq_true rfl⟩) 3 0 (tf_xat_3 ad cI cZ _) rfl rfl hl.1 rfl (Nat.le_of_ble_eq_true rfl) dX6_function_51 (fun H locs hI => ?_)
      exact tf_iret hx hb hr hI h dX6_function_54 hlocks
    replace h := tf_neg c7 h
    refine lv_aload_n hx hb dX6_function_30 rfl (lv_at hl 0 rfl) ?_
    refine tf_get (C := RX6) (T := TX6) (N := 5) hx hb hts hn_X6 hown hK hI 0 (tf_xat_0 ad cI cZ _) rfl 0 (by decide) hf_10 rfl rfl dX6_function_31 ?_
    refine lv_iload_n hx hb dX6_function_34 rfl (lv_at hl 2 rfl) ?_
    obtain ⟨u10, q11, h⟩ := tf_gbind h
    refine tf_callV (rest := []) ⟨hx, hb, hml, hown, hts⟩ hK hN hI (kX_X4_isType l D ad cI cZ _ _ _ q11) (cwV 1 hts gX6_function_X4_isType rfl rfl rfl (by decide +kernel) ⟨Nat.le_of_ble_eq_true rfl, Nat.le_of_ble_eq_true rfl⟩) 1 4 (tf_xat_1 ad cI cZ _) rfl rfl hl.1 rfl (Nat.le_of_ble_eq_true rfl) dX6_function_35 (fun H locs hI => ?_)
    refine lv_if_ne (tgt := 44) hx hb dX6_function_38 (by decide) (fun c12 => ?_) (fun c12 => ?_)
    · replace h := tf_neg c12 h
      refine lv_aload_n hx hb dX6_function_44 rfl (lv_at hl 0 rfl) ?_
      refine tf_get (C := RX6) (T := TX6) (N := 5) hx hb hts hn_X6 hown hK hI 0 (tf_xat_0 ad cI cZ _) rfl 2 (by decide) hf_26 rfl rfl dX6_function_45 ?_
      refine lv_iload_n hx hb dX6_function_48 rfl (lv_at hl 1 rfl) ?_
      refine lv_iload_n hx hb dX6_function_49 rfl (lv_at hl 2 rfl) ?_
      refine lv_iload_n hx hb dX6_function_50 rfl (lv_at hl 3 rfl) ?_
      obtain ⟨u13, q14, h⟩ := tf_gbind h
      refine tf_callV (rest := []) ⟨hx, hb, hml, hown, hts⟩ hK hN hI (kX_X0_add l D ad cI cZ _ _ _ _ _ q14) (cwV 3 hts gX6_function_X0_add rfl rfl rfl (by decide +kernel) ⟨Nat.le_of_ble_eq_true rfl, Nat.le_of_ble_eq_true rfl⟩) 3 0 (tf_xat_3 ad cI cZ _) rfl rfl hl.1 rfl (Nat.le_of_ble_eq_true rfl) dX6_function_51 (fun H locs hI => ?_)
      exact tf_iret hx hb hr hI h dX6_function_54 hlocks
    replace h := tf_pos c12 h
    refine lv_bipush (v := -2) hx hb dX6_function_41 (by decide +kernel) ?_
    exact tf_iret hx hb hr hI h dX6_function_43 hlocks
  replace h := tf_pos c6 h
  refine lv_bipush (v := -2) hx hb dX6_function_22 (by decide +kernel) ?_
  exact tf_iret hx hb hr hI h dX6_function_24 hlocks

set_option maxHeartbeats 4000000 in
set_option maxRecDepth 100000 in
theorem kX_X6_isVariableNumber (l : Launch) (D : va_G) (ad : Nat → Nat) (cI cZ : ClassId) (σ : tf_S) (x0 : Int32) (z : Int32 × tf_S) (h : fX6_isVariableNumber σ x0 = some z) : tf_C l D (tf_wx ad cI cZ) [(cI, .int), (cZ, .boolean)] tf_nest yX6_isVariableNumber wsX6_isVariableNumber ({ frames := 0, cells := 0, slots := 0, locals := 0 }) [.int x0] σ z := by
  intro sz
  refine Met.ofW (cc := cX6_isVariableNumber) (maxL := 1) (ret := (some .boolean)) (by decide) rfl ?_
  intro p e s m args below meth c s₁ B hml hv
  obtain ⟨rfl, hsz, hP, hK, hN, hD0⟩ := hv
  have hx := B.exec
  have hb := B.bytes
  have hr := B.returns
  have hts := atoms_spec (ws := wsX6_isVariableNumber) B.pre
  have hown : s.vm.findClass RX6 = some m.cls := findClass_of_methodNamed B.named
  have hlocks := B.notSynchronized
  subst hsz
  have hI := tf_start (D := D) (tf_x_ad ad cI cZ) hP hD0
  have hl := lv_entry ([.int x0]) (n := 1) (Nat.le_of_ble_eq_true rfl)
  rw [lg_entry_eq]
  generalize (lg_sl ([.int x0]) ++ List.replicate (1 - (lg_sl ([.int x0])).length) Slot.unset).toArray = ls at hl ⊢
  have hl : lv_has ls 1 [(0, .int x0)] := hl
  unfold fX6_isVariableNumber at h
  refine lv_iload_n hx hb dX6_isVariableNumber_0 rfl (lv_at hl 0 rfl) ?_
  refine lv_if_lt (tgt := 13) hx hb dX6_isVariableNumber_1 (by decide) (fun c1 => ?_) (fun c1 => ?_)
  · replace h := tf_pos c1 h
    refine lv_iconst (v := 0) hx hb dX6_isVariableNumber_13 (by decide +kernel) ?_
    exact tf_zret hx hb hr (Or.inl rfl) hI h dX6_isVariableNumber_14 hlocks
  replace h := tf_neg c1 h
  refine lv_iload_n hx hb dX6_isVariableNumber_4 rfl (lv_at hl 0 rfl) ?_
  refine lv_iconst (v := 2) hx hb dX6_isVariableNumber_5 (by decide +kernel) ?_
  refine lv_icmp_ge (tgt := 13) hx hb dX6_isVariableNumber_6 (by decide) (fun c2 => ?_) (fun c2 => ?_)
  · replace h := tf_pos c2 h
    refine lv_iconst (v := 0) hx hb dX6_isVariableNumber_13 (by decide +kernel) ?_
    exact tf_zret hx hb hr (Or.inl rfl) hI h dX6_isVariableNumber_14 hlocks
  replace h := tf_neg c2 h
  refine lv_iconst (v := 1) hx hb dX6_isVariableNumber_9 (by decide +kernel) ?_
  refine lv_goto (tgt := 14) hx hb dX6_isVariableNumber_10 (by decide) ?_
  exact tf_zret hx hb hr (Or.inr rfl) hI h dX6_isVariableNumber_14 hlocks
end
section
set_option maxHeartbeats 4000000 in
set_option maxRecDepth 100000 in
theorem kX_X6_bound (l : Launch) (D : va_G) (ad : Nat → Nat) (cI cZ : ClassId) (σ : tf_S) (x1 x2 x3 : Int32) (z : Int32 × tf_S) (h : fX6_bound σ x1 x2 x3 = some z) : tf_C l D (tf_wx ad cI cZ) [(cI, .int), (cZ, .boolean)] tf_nest yX6_bound wsX6_bound ({ frames := 2, cells := 0, slots := 0, locals := 42 }) [.ref (ad 0), .int x1, .int x2, .int x3] σ z := by
  intro sz
  refine Met.ofW (cc := cX6_bound) (maxL := 4) (ret := (some .int)) (by decide) rfl ?_
  intro p e s m args below meth c s₁ B hml hv
  obtain ⟨rfl, hsz, hP, hK, hN, hD0⟩ := hv
  have hx := B.exec
  have hb := B.bytes
  have hr := B.returns
  have hts := atoms_spec (ws := wsX6_bound) B.pre
  have hown : s.vm.findClass RX6 = some m.cls := findClass_of_methodNamed B.named
  have hlocks := B.notSynchronized
  subst hsz
  have hI := tf_start (D := D) (tf_x_ad ad cI cZ) hP hD0
  have hl := lv_entry ([.ref (ad 0), .int x1, .int x2, .int x3]) (n := 4) (Nat.le_of_ble_eq_true rfl)
  rw [lg_entry_eq]
  generalize (lg_sl ([.ref (ad 0), .int x1, .int x2, .int x3]) ++ List.replicate (4 - (lg_sl ([.ref (ad 0), .int x1, .int x2, .int x3])).length) Slot.unset).toArray = ls at hl ⊢
  have hl : lv_has ls 4 [(0, .ref (ad 0)), (1, .int x1), (2, .int x2), (3, .int x3)] := hl
  have hn_X0 : ∀ w ∈ u_ws RX0 TX0 5, w ∈ wsX6_bound := by decide +kernel
  have hn_X6 : ∀ w ∈ u_ws RX6 TX6 5, w ∈ wsX6_bound := by decide +kernel
  have hf_10 := hts (.fieldLink RX6 10 "TypeFlow" "types" "LTypeFlow$Types;") (by decide +kernel)
  have hf_26 := hts (.fieldLink RX6 26 "TypeFlow" "functions" "LTypeFlow$Functions;") (by decide +kernel)
  have hf_89 := hts (.fieldLink RX6 89 "TypeFlow$Functions" "bounds" "[I") (by decide +kernel)
  unfold fX6_bound at h
  refine lv_aload_n hx hb dX6_bound_0 rfl (lv_at hl 0 rfl) ?_
  refine tf_get (C := RX6) (T := TX6) (N := 5) hx hb hts hn_X6 hown hK hI 0 (tf_xat_0 ad cI cZ _) rfl 2 (by decide) hf_26 rfl rfl dX6_bound_1 ?_
  refine lv_iload_n hx hb dX6_bound_4 rfl (lv_at hl 1 rfl) ?_
  obtain ⟨u1, q2, h⟩ := tf_gbind h
  refine tf_callV (rest := []) ⟨hx, hb, hml, hown, hts⟩ hK hN hI (kX_X0_has l D ad cI cZ _ _ _ q2) (cwV 1 hts gX6_bound_X0_has rfl rfl rfl (by decide +kernel) ⟨Nat.le_of_ble_eq_true rfl, Nat.le_of_ble_eq_true rfl⟩) 3 0 (tf_xat_3 ad cI cZ _) rfl rfl hl.1 rfl (Nat.le_of_ble_eq_true rfl) dX6_bound_5 (fun H locs hI => ?_)
  refine lv_if_eq (tgt := 18) hx hb dX6_bound_8 (by decide) (fun c3 => ?_) (fun c3 => ?_)
  · replace h := tf_pos c3 h
    refine lv_bipush (v := -2) hx hb dX6_bound_18 (by decide +kernel) ?_
    exact tf_iret hx hb hr hI h dX6_bound_20 hlocks
  replace h := tf_neg c3 h
  refine lv_iload_n hx hb dX6_bound_11 rfl (lv_at hl 2 rfl) ?_
  obtain ⟨u4, q5, h⟩ := tf_gbind h
  refine tf_callS (rest := []) ⟨hx, hb, hml, hown, hts⟩ hK hN hI (kX_X6_isVariableNumber l D ad cI cZ _ _ _ q5) (va_cwS 1 hts gX6_bound_X6_isVariableNumber rfl rfl rfl (by decide +kernel) ⟨Nat.le_of_ble_eq_true rfl, Nat.le_of_ble_eq_true rfl⟩) rfl hl.1 rfl (Nat.le_of_ble_eq_true rfl) dX6_bound_12 (fun H locs hI => ?_)
  refine lv_if_ne (tgt := 21) hx hb dX6_bound_15 (by decide) (fun c6 => ?_) (fun c6 => ?_)
  · replace h := tf_neg c6 h
    refine lv_iload_n hx hb dX6_bound_21 rfl (lv_at hl 3 rfl) ?_
    refine lv_iconst (v := -1) hx hb dX6_bound_22 (by decide +kernel) ?_
    refine lv_icmp_eq (tgt := 51) hx hb dX6_bound_23 (by decide) (fun c7 => ?_) (fun c7 => ?_)
    · replace h := tf_pos c7 h
      refine lv_aload_n hx hb dX6_bound_51 rfl (lv_at hl 0 rfl) ?_
      refine tf_get (C := RX6) (T := TX6) (N := 5) hx hb hts hn_X6 hown hK hI 0 (tf_xat_0 ad cI cZ _) rfl 2 (by decide) hf_26 rfl rfl dX6_bound_52 ?_
      refine tf_get (C := RX0) (T := TX0) (N := 5) hx hb hts hn_X0 hown hK hI 3 (tf_xat_3 ad cI cZ _) rfl 4 (by decide) hf_89 rfl rfl dX6_bound_55 ?_
      refine lv_iload_n hx hb dX6_bound_58 rfl (lv_at hl 1 rfl) ?_
      refine lv_iconst (v := 2) hx hb dX6_bound_59 (by decide +kernel) ?_
      refine lv_imul hx hb dX6_bound_60 ?_
      refine lv_iload_n hx hb dX6_bound_61 rfl (lv_at hl 2 rfl) ?_
      refine lv_iadd hx hb dX6_bound_62 ?_
      refine lv_iload_n hx hb dX6_bound_63 rfl (lv_at hl 3 rfl) ?_
      obtain ⟨b8, h⟩ := tf_gin h
      obtain ⟨s9, es9, h⟩ := tf_glet h
      refine tf_iast hx hb hK hI 20 0 (tf_xat_20 ad cI cZ _) (tf_xset_20 ad cI cZ _) rfl b8 es9 dX6_bound_64 (fun H locs hI => ?_)
      refine lv_iconst (v := 1) hx hb dX6_bound_65 (by decide +kernel) ?_
      exact tf_iret hx hb hr hI h dX6_bound_66 hlocks
    replace h := tf_neg c7 h
    refine lv_aload_n hx hb dX6_bound_26 rfl (lv_at hl 0 rfl) ?_
    refine tf_get (C := RX6) (T := TX6) (N := 5) hx hb hts hn_X6 hown hK hI 0 (tf_xat_0 ad cI cZ _) rfl 0 (by decide) hf_10 rfl rfl dX6_bound_27 ?_
    refine lv_iload_n hx hb dX6_bound_30 rfl (lv_at hl 3 rfl) ?_
    obtain ⟨u10, q11, h⟩ := tf_gbind h
    refine tf_callV (rest := []) ⟨hx, hb, hml, hown, hts⟩ hK hN hI (kX_X4_isClassType l D ad cI cZ _ _ _ q11) (cwV 1 hts gX6_bound_X4_isClassType rfl rfl rfl (by decide +kernel) ⟨Nat.le_of_ble_eq_true rfl, Nat.le_of_ble_eq_true rfl⟩) 1 4 (tf_xat_1 ad cI cZ _) rfl rfl hl.1 rfl (Nat.le_of_ble_eq_true rfl) dX6_bound_31 (fun H locs hI => ?_)
    refine lv_if_eq (tgt := 48) hx hb dX6_bound_34 (by decide) (fun c12 => ?_) (fun c12 => ?_)
    · replace h := tf_pos c12 h
      refine lv_bipush (v := -2) hx hb dX6_bound_48 (by decide +kernel) ?_
      exact tf_iret hx hb hr hI h dX6_bound_50 hlocks
    replace h := tf_neg c12 h
    refine lv_aload_n hx hb dX6_bound_37 rfl (lv_at hl 0 rfl) ?_
    refine tf_get (C := RX6) (T := TX6) (N := 5) hx hb hts hn_X6 hown hK hI 0 (tf_xat_0 ad cI cZ _) rfl 0 (by decide) hf_10 rfl rfl dX6_bound_38 ?_
    refine lv_iload_n hx hb dX6_bound_41 rfl (lv_at hl 3 rfl) ?_
    obtain ⟨u13, q14, h⟩ := tf_gbind h
    refine tf_callV (rest := []) ⟨hx, hb, hml, hown, hts⟩ hK hN hI (kX_X4_isClosed l D ad cI cZ _ _ _ q14) (cwV 1 hts gX6_bound_X4_isClosed rfl rfl rfl (by decide +kernel) ⟨Nat.le_of_ble_eq_true rfl, Nat.le_of_ble_eq_true rfl⟩) 1 4 (tf_xat_1 ad cI cZ _) rfl rfl hl.1 rfl (Nat.le_of_ble_eq_true rfl) dX6_bound_42 (fun H locs hI => ?_)
    refine lv_if_ne (tgt := 51) hx hb dX6_bound_45 (by decide) (fun c15 => ?_) (fun c15 => ?_)
    · replace h := tf_neg c15 h
      refine lv_aload_n hx hb dX6_bound_51 rfl (lv_at hl 0 rfl) ?_
      refine tf_get (C := RX6) (T := TX6) (N := 5) hx hb hts hn_X6 hown hK hI 0 (tf_xat_0 ad cI cZ _) rfl 2 (by decide) hf_26 rfl rfl dX6_bound_52 ?_
      refine tf_get (C := RX0) (T := TX0) (N := 5) hx hb hts hn_X0 hown hK hI 3 (tf_xat_3 ad cI cZ _) rfl 4 (by decide) hf_89 rfl rfl dX6_bound_55 ?_
      refine lv_iload_n hx hb dX6_bound_58 rfl (lv_at hl 1 rfl) ?_
      refine lv_iconst (v := 2) hx hb dX6_bound_59 (by decide +kernel) ?_
      refine lv_imul hx hb dX6_bound_60 ?_
      refine lv_iload_n hx hb dX6_bound_61 rfl (lv_at hl 2 rfl) ?_
      refine lv_iadd hx hb dX6_bound_62 ?_
      refine lv_iload_n hx hb dX6_bound_63 rfl (lv_at hl 3 rfl) ?_
      obtain ⟨b16, h⟩ := tf_gin h
      obtain ⟨s17, es17, h⟩ := tf_glet h
      refine tf_iast hx hb hK hI 20 0 (tf_xat_20 ad cI cZ _) (tf_xset_20 ad cI cZ _) rfl b16 es17 dX6_bound_64 (fun H locs hI => ?_)
      refine lv_iconst (v := 1) hx hb dX6_bound_65 (by decide +kernel) ?_
      exact tf_iret hx hb hr hI h dX6_bound_66 hlocks
    replace h := tf_pos c15 h
    refine lv_bipush (v := -2) hx hb dX6_bound_48 (by decide +kernel) ?_
    exact tf_iret hx hb hr hI h dX6_bound_50 hlocks
  replace h := tf_pos c6 h
  refine lv_bipush (v := -2) hx hb dX6_bound_18 (by decide +kernel) ?_
  exact tf_iret hx hb hr hI h dX6_bound_20 hlocks

set_option maxHeartbeats 4000000 in
set_option maxRecDepth 100000 in
theorem kX_X6_isAsTold (l : Launch) (D : va_G) (ad : Nat → Nat) (cI cZ : ClassId) (σ : tf_S) (x1 x2 x3 x4 x5 x6 : Int32) (z : Int32 × tf_S) (h : fX6_isAsTold σ x1 x2 x3 x4 x5 x6 = some z) : tf_C l D (tf_wx ad cI cZ) [(cI, .int), (cZ, .boolean)] tf_nest yX6_isAsTold wsX6_isAsTold ({ frames := 2, cells := 0, slots := 0, locals := 43 }) [.ref (ad 0), .int x1, .int x2, .int x3, .int x4, .int x5, .int x6] σ z := by
  intro sz
  refine Met.ofW (cc := cX6_isAsTold) (maxL := 7) (ret := (some .boolean)) (by decide) rfl ?_
  intro p e s m args below meth c s₁ B hml hv
  obtain ⟨rfl, hsz, hP, hK, hN, hD0⟩ := hv
  have hx := B.exec
  have hb := B.bytes
  have hr := B.returns
  have hts := atoms_spec (ws := wsX6_isAsTold) B.pre
  have hown : s.vm.findClass RX6 = some m.cls := findClass_of_methodNamed B.named
  have hlocks := B.notSynchronized
  subst hsz
  have hI := tf_start (D := D) (tf_x_ad ad cI cZ) hP hD0
  have hl := lv_entry ([.ref (ad 0), .int x1, .int x2, .int x3, .int x4, .int x5, .int x6]) (n := 7) (Nat.le_of_ble_eq_true rfl)
  rw [lg_entry_eq]
  generalize (lg_sl ([.ref (ad 0), .int x1, .int x2, .int x3, .int x4, .int x5, .int x6]) ++ List.replicate (7 - (lg_sl ([.ref (ad 0), .int x1, .int x2, .int x3, .int x4, .int x5, .int x6])).length) Slot.unset).toArray = ls at hl ⊢
  have hl : lv_has ls 7 [(0, .ref (ad 0)), (1, .int x1), (2, .int x2), (3, .int x3), (4, .int x4), (5, .int x5), (6, .int x6)] := hl
  have hn_X4 : ∀ w ∈ u_ws RX4 TX4 10, w ∈ wsX6_isAsTold := by decide +kernel
  have hn_X6 : ∀ w ∈ u_ws RX6 TX6 5, w ∈ wsX6_isAsTold := by decide +kernel
  have hf_10 := hts (.fieldLink RX6 10 "TypeFlow" "types" "LTypeFlow$Types;") (by decide +kernel)
  have hf_19 := hts (.fieldLink RX6 19 "TypeFlow" "members" "LTypeFlow$Members;") (by decide +kernel)
  have hf_26 := hts (.fieldLink RX6 26 "TypeFlow" "functions" "LTypeFlow$Functions;") (by decide +kernel)
  have hf_33 := hts (.fieldLink RX6 33 "TypeFlow" "operators" "LTypeFlow$Operators;") (by decide +kernel)
  have hf_61 := hts (.fieldLink RX6 61 "TypeFlow$Types" "variables" "[I") (by decide +kernel)
  unfold fX6_isAsTold at h
  refine lv_iload_n hx hb dX6_isAsTold_0 rfl (lv_at hl 1 rfl) ?_
  by_cases c1 : x1 = (0 : Int32)
  · replace h := tf_pos c1 h
    refine lv_tableIn (tgt := 48) (off := 47) hx hb dX6_isAsTold_1 (by rw [c1]; decide +kernel) (by rw [c1]; decide +kernel) (by rw [c1]; decide +kernel) (by decide) ?_
    refine lv_aload_n hx hb dX6_isAsTold_48 rfl (lv_at hl 0 rfl) ?_
    refine tf_get (C := RX6) (T := TX6) (N := 5) hx hb hts hn_X6 hown hK hI 0 (tf_xat_0 ad cI cZ _) rfl 0 (by decide) hf_10 rfl rfl dX6_isAsTold_49 ?_
    refine lv_iload hx hb dX6_isAsTold_52 (lv_at hl 4 rfl) ?_
    obtain ⟨u2, q3, h⟩ := tf_gbind h
    refine tf_callV (rest := []) ⟨hx, hb, hml, hown, hts⟩ hK hN hI (kX_X4_isClosed l D ad cI cZ _ _ _ q3) (cwV 1 hts gX6_isAsTold_X4_isClosed rfl rfl rfl (by decide +kernel) ⟨Nat.le_of_ble_eq_true rfl, Nat.le_of_ble_eq_true rfl⟩) 1 4 (tf_xat_1 ad cI cZ _) rfl rfl hl.1 rfl (Nat.le_of_ble_eq_true rfl) dX6_isAsTold_54 (fun H locs hI => ?_)
    obtain ⟨b4, h⟩ := tf_gbz h
    exact tf_zret hx hb hr b4 hI h dX6_isAsTold_57 hlocks
  replace h := tf_neg c1 h
  by_cases c5 : x1 = (1 : Int32)
  · replace h := tf_pos c5 h
    refine lv_tableIn (tgt := 58) (off := 57) hx hb dX6_isAsTold_1 (by rw [c5]; decide +kernel) (by rw [c5]; decide +kernel) (by rw [c5]; decide +kernel) (by decide) ?_
    refine lv_aload_n hx hb dX6_isAsTold_58 rfl (lv_at hl 0 rfl) ?_
    refine tf_get (C := RX6) (T := TX6) (N := 5) hx hb hts hn_X6 hown hK hI 0 (tf_xat_0 ad cI cZ _) rfl 3 (by decide) hf_33 rfl rfl dX6_isAsTold_59 ?_
    refine lv_iload_n hx hb dX6_isAsTold_62 rfl (lv_at hl 2 rfl) ?_
    obtain ⟨u6, q7, h⟩ := tf_gbind h
    refine tf_callV (rest := []) ⟨hx, hb, hml, hown, hts⟩ hK hN hI (kX_X2_has l D ad cI cZ _ _ _ q7) (cwV 1 hts gX6_isAsTold_X2_has rfl rfl rfl (by decide +kernel) ⟨Nat.le_of_ble_eq_true rfl, Nat.le_of_ble_eq_true rfl⟩) 4 2 (tf_xat_4 ad cI cZ _) rfl rfl hl.1 rfl (Nat.le_of_ble_eq_true rfl) dX6_isAsTold_63 (fun H locs hI => ?_)
    refine lv_if_eq (tgt := 86) hx hb dX6_isAsTold_66 (by decide) (fun c8 => ?_) (fun c8 => ?_)
    · replace h := tf_pos c8 h
      refine lv_iconst (v := 0) hx hb dX6_isAsTold_86 (by decide +kernel) ?_
      exact tf_zret hx hb hr (Or.inl rfl) hI h dX6_isAsTold_87 hlocks
    replace h := tf_neg c8 h
    refine lv_aload_n hx hb dX6_isAsTold_69 rfl (lv_at hl 0 rfl) ?_
    refine tf_get (C := RX6) (T := TX6) (N := 5) hx hb hts hn_X6 hown hK hI 0 (tf_xat_0 ad cI cZ _) rfl 2 (by decide) hf_26 rfl rfl dX6_isAsTold_70 ?_
    refine lv_iload hx hb dX6_isAsTold_73 (lv_at hl 4 rfl) ?_
    refine lv_iconst (v := 1) hx hb dX6_isAsTold_75 (by decide +kernel) ?_
    obtain ⟨u9, q10, h⟩ := tf_gbind h
    refine tf_callV (rest := []) ⟨hx, hb, hml, hown, hts⟩ hK hN hI (kX_X0_hasWith l D ad cI cZ _ _ _ _ q10) (cwV 2 hts gX6_isAsTold_X0_hasWith rfl rfl rfl (by decide +kernel) ⟨Nat.le_of_ble_eq_true rfl, Nat.le_of_ble_eq_true rfl⟩) 3 0 (tf_xat_3 ad cI cZ _) rfl rfl hl.1 rfl (Nat.le_of_ble_eq_true rfl) dX6_isAsTold_76 (fun H locs hI => ?_)
    refine lv_if_eq (tgt := 86) hx hb dX6_isAsTold_79 (by decide) (fun c11 => ?_) (fun c11 => ?_)
    · replace h := tf_pos c11 h
      refine lv_iconst (v := 0) hx hb dX6_isAsTold_86 (by decide +kernel) ?_
      exact tf_zret hx hb hr (Or.inl rfl) hI h dX6_isAsTold_87 hlocks
    replace h := tf_neg c11 h
    refine lv_iconst (v := 1) hx hb dX6_isAsTold_82 (by decide +kernel) ?_
    refine lv_goto (tgt := 87) hx hb dX6_isAsTold_83 (by decide) ?_
    exact tf_zret hx hb hr (Or.inr rfl) hI h dX6_isAsTold_87 hlocks
  replace h := tf_neg c5 h
  by_cases c12 : x1 = (2 : Int32)
  · replace h := tf_pos c12 h
    refine lv_tableIn (tgt := 58) (off := 57) hx hb dX6_isAsTold_1 (by rw [c12]; decide +kernel) (by rw [c12]; decide +kernel) (by rw [c12]; decide +kernel) (by decide) ?_
    refine lv_aload_n hx hb dX6_isAsTold_58 rfl (lv_at hl 0 rfl) ?_
    refine tf_get (C := RX6) (T := TX6) (N := 5) hx hb hts hn_X6 hown hK hI 0 (tf_xat_0 ad cI cZ _) rfl 3 (by decide) hf_33 rfl rfl dX6_isAsTold_59 ?_
    refine lv_iload_n hx hb dX6_isAsTold_62 rfl (lv_at hl 2 rfl) ?_
    obtain ⟨u13, q14, h⟩ := tf_gbind h
    refine tf_callV (rest := []) ⟨hx, hb, hml, hown, hts⟩ hK hN hI (kX_X2_has l D ad cI cZ _ _ _ q14) (cwV 1 hts gX6_isAsTold_X2_has rfl rfl rfl (by decide +kernel) ⟨Nat.le_of_ble_eq_true rfl, Nat.le_of_ble_eq_true rfl⟩) 4 2 (tf_xat_4 ad cI cZ _) rfl rfl hl.1 rfl (Nat.le_of_ble_eq_true rfl) dX6_isAsTold_63 (fun H locs hI => ?_)
    refine lv_if_eq (tgt := 86) hx hb dX6_isAsTold_66 (by decide) (fun c15 => ?_) (fun c15 => ?_)
    · replace h := tf_pos c15 h
      refine lv_iconst (v := 0) hx hb dX6_isAsTold_86 (by decide +kernel) ?_
      exact tf_zret hx hb hr (Or.inl rfl) hI h dX6_isAsTold_87 hlocks
    replace h := tf_neg c15 h
    refine lv_aload_n hx hb dX6_isAsTold_69 rfl (lv_at hl 0 rfl) ?_
    refine tf_get (C := RX6) (T := TX6) (N := 5) hx hb hts hn_X6 hown hK hI 0 (tf_xat_0 ad cI cZ _) rfl 2 (by decide) hf_26 rfl rfl dX6_isAsTold_70 ?_
    refine lv_iload hx hb dX6_isAsTold_73 (lv_at hl 4 rfl) ?_
    refine lv_iconst (v := 1) hx hb dX6_isAsTold_75 (by decide +kernel) ?_
    obtain ⟨u16, q17, h⟩ := tf_gbind h
    refine tf_callV (rest := []) ⟨hx, hb, hml, hown, hts⟩ hK hN hI (kX_X0_hasWith l D ad cI cZ _ _ _ _ q17) (cwV 2 hts gX6_isAsTold_X0_hasWith rfl rfl rfl (by decide +kernel) ⟨Nat.le_of_ble_eq_true rfl, Nat.le_of_ble_eq_true rfl⟩) 3 0 (tf_xat_3 ad cI cZ _) rfl rfl hl.1 rfl (Nat.le_of_ble_eq_true rfl) dX6_isAsTold_76 (fun H locs hI => ?_)
    refine lv_if_eq (tgt := 86) hx hb dX6_isAsTold_79 (by decide) (fun c18 => ?_) (fun c18 => ?_)
    · replace h := tf_pos c18 h
      refine lv_iconst (v := 0) hx hb dX6_isAsTold_86 (by decide +kernel) ?_
      exact tf_zret hx hb hr (Or.inl rfl) hI h dX6_isAsTold_87 hlocks
    replace h := tf_neg c18 h
    refine lv_iconst (v := 1) hx hb dX6_isAsTold_82 (by decide +kernel) ?_
    refine lv_goto (tgt := 87) hx hb dX6_isAsTold_83 (by decide) ?_
    exact tf_zret hx hb hr (Or.inr rfl) hI h dX6_isAsTold_87 hlocks
  replace h := tf_neg c12 h
  by_cases c19 : x1 = (3 : Int32)
  · replace h := tf_pos c19 h
    refine lv_tableIn (tgt := 88) (off := 87) hx hb dX6_isAsTold_1 (by rw [c19]; decide +kernel) (by rw [c19]; decide +kernel) (by rw [c19]; decide +kernel) (by decide) ?_
    refine lv_aload_n hx hb dX6_isAsTold_88 rfl (lv_at hl 0 rfl) ?_
    refine tf_get (C := RX6) (T := TX6) (N := 5) hx hb hts hn_X6 hown hK hI 0 (tf_xat_0 ad cI cZ _) rfl 3 (by decide) hf_33 rfl rfl dX6_isAsTold_89 ?_
    refine lv_iload_n hx hb dX6_isAsTold_92 rfl (lv_at hl 2 rfl) ?_
    obtain ⟨u20, q21, h⟩ := tf_gbind h
    refine tf_callV (rest := []) ⟨hx, hb, hml, hown, hts⟩ hK hN hI (kX_X2_has l D ad cI cZ _ _ _ q21) (cwV 1 hts gX6_isAsTold_X2_has rfl rfl rfl (by decide +kernel) ⟨Nat.le_of_ble_eq_true rfl, Nat.le_of_ble_eq_true rfl⟩) 4 2 (tf_xat_4 ad cI cZ _) rfl rfl hl.1 rfl (Nat.le_of_ble_eq_true rfl) dX6_isAsTold_93 (fun H locs hI => ?_)
    refine lv_if_eq (tgt := 115) hx hb dX6_isAsTold_96 (by decide) (fun c22 => ?_) (fun c22 => ?_)
    · replace h := tf_pos c22 h
      refine lv_iconst (v := 0) hx hb dX6_isAsTold_115 (by decide +kernel) ?_
      exact tf_zret hx hb hr (Or.inl rfl) hI h dX6_isAsTold_116 hlocks
    replace h := tf_neg c22 h
    refine lv_aload_n hx hb dX6_isAsTold_99 rfl (lv_at hl 0 rfl) ?_
    refine tf_get (C := RX6) (T := TX6) (N := 5) hx hb hts hn_X6 hown hK hI 0 (tf_xat_0 ad cI cZ _) rfl 1 (by decide) hf_19 rfl rfl dX6_isAsTold_100 ?_
    refine lv_iload hx hb dX6_isAsTold_103 (lv_at hl 4 rfl) ?_
    obtain ⟨u23, q24, h⟩ := tf_gbind h
    refine tf_callV (rest := []) ⟨hx, hb, hml, hown, hts⟩ hK hN hI (kX_X1_has l D ad cI cZ _ _ _ q24) (cwV 1 hts gX6_isAsTold_X1_has rfl rfl rfl (by decide +kernel) ⟨Nat.le_of_ble_eq_true rfl, Nat.le_of_ble_eq_true rfl⟩) 2 1 (tf_xat_2 ad cI cZ _) rfl rfl hl.1 rfl (Nat.le_of_ble_eq_true rfl) dX6_isAsTold_105 (fun H locs hI => ?_)
    refine lv_if_eq (tgt := 115) hx hb dX6_isAsTold_108 (by decide) (fun c25 => ?_) (fun c25 => ?_)
    · replace h := tf_pos c25 h
      refine lv_iconst (v := 0) hx hb dX6_isAsTold_115 (by decide +kernel) ?_
      exact tf_zret hx hb hr (Or.inl rfl) hI h dX6_isAsTold_116 hlocks
    replace h := tf_neg c25 h
    refine lv_iconst (v := 1) hx hb dX6_isAsTold_111 (by decide +kernel) ?_
    refine lv_goto (tgt := 116) hx hb dX6_isAsTold_112 (by decide) ?_
    exact tf_zret hx hb hr (Or.inr rfl) hI h dX6_isAsTold_116 hlocks
  replace h := tf_neg c19 h
  by_cases c26 : x1 = (4 : Int32)
  · replace h := tf_pos c26 h
    refine lv_tableIn (tgt := 117) (off := 116) hx hb dX6_isAsTold_1 (by rw [c26]; decide +kernel) (by rw [c26]; decide +kernel) (by rw [c26]; decide +kernel) (by decide) ?_
    refine lv_aload_n hx hb dX6_isAsTold_117 rfl (lv_at hl 0 rfl) ?_
    refine tf_get (C := RX6) (T := TX6) (N := 5) hx hb hts hn_X6 hown hK hI 0 (tf_xat_0 ad cI cZ _) rfl 3 (by decide) hf_33 rfl rfl dX6_isAsTold_118 ?_
    refine lv_iload_n hx hb dX6_isAsTold_121 rfl (lv_at hl 2 rfl) ?_
    obtain ⟨u27, q28, h⟩ := tf_gbind h
    refine tf_callV (rest := []) ⟨hx, hb, hml, hown, hts⟩ hK hN hI (kX_X2_has l D ad cI cZ _ _ _ q28) (cwV 1 hts gX6_isAsTold_X2_has rfl rfl rfl (by decide +kernel) ⟨Nat.le_of_ble_eq_true rfl, Nat.le_of_ble_eq_true rfl⟩) 4 2 (tf_xat_4 ad cI cZ _) rfl rfl hl.1 rfl (Nat.le_of_ble_eq_true rfl) dX6_isAsTold_122 (fun H locs hI => ?_)
    refine lv_if_eq (tgt := 143) hx hb dX6_isAsTold_125 (by decide) (fun c29 => ?_) (fun c29 => ?_)
    · replace h := tf_pos c29 h
      refine lv_iconst (v := 0) hx hb dX6_isAsTold_143 (by decide +kernel) ?_
      exact tf_zret hx hb hr (Or.inl rfl) hI h dX6_isAsTold_144 hlocks
    replace h := tf_neg c29 h
    refine lv_aload_n hx hb dX6_isAsTold_128 rfl (lv_at hl 0 rfl) ?_
    refine tf_get (C := RX6) (T := TX6) (N := 5) hx hb hts hn_X6 hown hK hI 0 (tf_xat_0 ad cI cZ _) rfl 3 (by decide) hf_33 rfl rfl dX6_isAsTold_129 ?_
    refine lv_iload_n hx hb dX6_isAsTold_132 rfl (lv_at hl 3 rfl) ?_
    obtain ⟨u30, q31, h⟩ := tf_gbind h
    refine tf_callV (rest := []) ⟨hx, hb, hml, hown, hts⟩ hK hN hI (kX_X2_has l D ad cI cZ _ _ _ q31) (cwV 1 hts gX6_isAsTold_X2_has rfl rfl rfl (by decide +kernel) ⟨Nat.le_of_ble_eq_true rfl, Nat.le_of_ble_eq_true rfl⟩) 4 2 (tf_xat_4 ad cI cZ _) rfl rfl hl.1 rfl (Nat.le_of_ble_eq_true rfl) dX6_isAsTold_133 (fun H locs hI => ?_)
    refine lv_if_eq (tgt := 143) hx hb dX6_isAsTold_136 (by decide) (fun c32 => ?_) (fun c32 => ?_)
    · replace h := tf_pos c32 h
      refine lv_iconst (v := 0) hx hb dX6_isAsTold_143 (by decide +kernel) ?_
      exact tf_zret hx hb hr (Or.inl rfl) hI h dX6_isAsTold_144 hlocks
    replace h := tf_neg c32 h
    refine lv_iconst (v := 1) hx hb dX6_isAsTold_139 (by decide +kernel) ?_
    refine lv_goto (tgt := 144) hx hb dX6_isAsTold_140 (by decide) ?_
    exact tf_zret hx hb hr (Or.inr rfl) hI h dX6_isAsTold_144 hlocks
  replace h := tf_neg c26 h
  by_cases c33 : x1 = (5 : Int32)
  · replace h := tf_pos c33 h
    refine lv_tableIn (tgt := 145) (off := 144) hx hb dX6_isAsTold_1 (by rw [c33]; decide +kernel) (by rw [c33]; decide +kernel) (by rw [c33]; decide +kernel) (by decide) ?_
    refine lv_aload_n hx hb dX6_isAsTold_145 rfl (lv_at hl 0 rfl) ?_
    refine tf_get (C := RX6) (T := TX6) (N := 5) hx hb hts hn_X6 hown hK hI 0 (tf_xat_0 ad cI cZ _) rfl 3 (by decide) hf_33 rfl rfl dX6_isAsTold_146 ?_
    refine lv_iload_n hx hb dX6_isAsTold_149 rfl (lv_at hl 2 rfl) ?_
    obtain ⟨u34, q35, h⟩ := tf_gbind h
    refine tf_callV (rest := []) ⟨hx, hb, hml, hown, hts⟩ hK hN hI (kX_X2_has l D ad cI cZ _ _ _ q35) (cwV 1 hts gX6_isAsTold_X2_has rfl rfl rfl (by decide +kernel) ⟨Nat.le_of_ble_eq_true rfl, Nat.le_of_ble_eq_true rfl⟩) 4 2 (tf_xat_4 ad cI cZ _) rfl rfl hl.1 rfl (Nat.le_of_ble_eq_true rfl) dX6_isAsTold_150 (fun H locs hI => ?_)
    refine lv_if_eq (tgt := 184) hx hb dX6_isAsTold_153 (by decide) (fun c36 => ?_) (fun c36 => ?_)
    · replace h := tf_pos c36 h
      refine lv_iconst (v := 0) hx hb dX6_isAsTold_184 (by decide +kernel) ?_
      exact tf_zret hx hb hr (Or.inl rfl) hI h dX6_isAsTold_185 hlocks
    replace h := tf_neg c36 h
    refine lv_aload_n hx hb dX6_isAsTold_156 rfl (lv_at hl 0 rfl) ?_
    refine tf_get (C := RX6) (T := TX6) (N := 5) hx hb hts hn_X6 hown hK hI 0 (tf_xat_0 ad cI cZ _) rfl 3 (by decide) hf_33 rfl rfl dX6_isAsTold_157 ?_
    refine lv_iload_n hx hb dX6_isAsTold_160 rfl (lv_at hl 3 rfl) ?_
    obtain ⟨u37, q38, h⟩ := tf_gbind h
    refine tf_callV (rest := []) ⟨hx, hb, hml, hown, hts⟩ hK hN hI (kX_X2_has l D ad cI cZ _ _ _ q38) (cwV 1 hts gX6_isAsTold_X2_has rfl rfl rfl (by decide +kernel) ⟨Nat.le_of_ble_eq_true rfl, Nat.le_of_ble_eq_true rfl⟩) 4 2 (tf_xat_4 ad cI cZ _) rfl rfl hl.1 rfl (Nat.le_of_ble_eq_true rfl) dX6_isAsTold_161 (fun H locs hI => ?_)
    refine lv_if_eq (tgt := 184) hx hb dX6_isAsTold_164 (by decide) (fun c39 => ?_) (fun c39 => ?_)
    · replace h := tf_pos c39 h
      refine lv_iconst (v := 0) hx hb dX6_isAsTold_184 (by decide +kernel) ?_
      exact tf_zret hx hb hr (Or.inl rfl) hI h dX6_isAsTold_185 hlocks
    replace h := tf_neg c39 h
    refine lv_aload_n hx hb dX6_isAsTold_167 rfl (lv_at hl 0 rfl) ?_
    refine tf_get (C := RX6) (T := TX6) (N := 5) hx hb hts hn_X6 hown hK hI 0 (tf_xat_0 ad cI cZ _) rfl 2 (by decide) hf_26 rfl rfl dX6_isAsTold_168 ?_
    refine lv_iload hx hb dX6_isAsTold_171 (lv_at hl 4 rfl) ?_
    refine lv_iconst (v := 2) hx hb dX6_isAsTold_173 (by decide +kernel) ?_
    obtain ⟨u40, q41, h⟩ := tf_gbind h
    refine tf_callV (rest := []) ⟨hx, hb, hml, hown, hts⟩ hK hN hI (kX_X0_hasWith l D ad cI cZ _ _ _ _ q41) (cwV 2 hts gX6_isAsTold_X0_hasWith rfl rfl rfl (by decide +kernel) ⟨Nat.le_of_ble_eq_true rfl, Nat.le_of_ble_eq_true rfl⟩) 3 0 (tf_xat_3 ad cI cZ _) rfl rfl hl.1 rfl (Nat.le_of_ble_eq_true rfl) dX6_isAsTold_174 (fun H locs hI => ?_)
    refine lv_if_eq (tgt := 184) hx hb dX6_isAsTold_177 (by decide) (fun c42 => ?_) (fun c42 => ?_)
    · replace h := tf_pos c42 h
      refine lv_iconst (v := 0) hx hb dX6_isAsTold_184 (by decide +kernel) ?_
      exact tf_zret hx hb hr (Or.inl rfl) hI h dX6_isAsTold_185 hlocks
    replace h := tf_neg c42 h
    refine lv_iconst (v := 1) hx hb dX6_isAsTold_180 (by decide +kernel) ?_
    refine lv_goto (tgt := 185) hx hb dX6_isAsTold_181 (by decide) ?_
    exact tf_zret hx hb hr (Or.inr rfl) hI h dX6_isAsTold_185 hlocks
  replace h := tf_neg c33 h
  by_cases c43 : x1 = (6 : Int32)
  · replace h := tf_pos c43 h
    refine lv_tableIn (tgt := 186) (off := 185) hx hb dX6_isAsTold_1 (by rw [c43]; decide +kernel) (by rw [c43]; decide +kernel) (by rw [c43]; decide +kernel) (by decide) ?_
    refine lv_aload_n hx hb dX6_isAsTold_186 rfl (lv_at hl 0 rfl) ?_
    refine tf_get (C := RX6) (T := TX6) (N := 5) hx hb hts hn_X6 hown hK hI 0 (tf_xat_0 ad cI cZ _) rfl 3 (by decide) hf_33 rfl rfl dX6_isAsTold_187 ?_
    refine lv_iload_n hx hb dX6_isAsTold_190 rfl (lv_at hl 2 rfl) ?_
    obtain ⟨u44, q45, h⟩ := tf_gbind h
    refine tf_callV (rest := []) ⟨hx, hb, hml, hown, hts⟩ hK hN hI (kX_X2_has l D ad cI cZ _ _ _ q45) (cwV 1 hts gX6_isAsTold_X2_has rfl rfl rfl (by decide +kernel) ⟨Nat.le_of_ble_eq_true rfl, Nat.le_of_ble_eq_true rfl⟩) 4 2 (tf_xat_4 ad cI cZ _) rfl rfl hl.1 rfl (Nat.le_of_ble_eq_true rfl) dX6_isAsTold_191 (fun H locs hI => ?_)
    refine lv_if_eq (tgt := 262) hx hb dX6_isAsTold_194 (by decide) (fun c46 => ?_) (fun c46 => ?_)
    · replace h := tf_pos c46 h
      refine lv_iconst (v := 0) hx hb dX6_isAsTold_262 (by decide +kernel) ?_
      exact tf_zret hx hb hr (Or.inl rfl) hI h dX6_isAsTold_263 hlocks
    replace h := tf_neg c46 h
    refine lv_aload_n hx hb dX6_isAsTold_197 rfl (lv_at hl 0 rfl) ?_
    refine tf_get (C := RX6) (T := TX6) (N := 5) hx hb hts hn_X6 hown hK hI 0 (tf_xat_0 ad cI cZ _) rfl 3 (by decide) hf_33 rfl rfl dX6_isAsTold_198 ?_
    refine lv_iload_n hx hb dX6_isAsTold_201 rfl (lv_at hl 3 rfl) ?_
    obtain ⟨u47, q48, h⟩ := tf_gbind h
    refine tf_callV (rest := []) ⟨hx, hb, hml, hown, hts⟩ hK hN hI (kX_X2_has l D ad cI cZ _ _ _ q48) (cwV 1 hts gX6_isAsTold_X2_has rfl rfl rfl (by decide +kernel) ⟨Nat.le_of_ble_eq_true rfl, Nat.le_of_ble_eq_true rfl⟩) 4 2 (tf_xat_4 ad cI cZ _) rfl rfl hl.1 rfl (Nat.le_of_ble_eq_true rfl) dX6_isAsTold_202 (fun H locs hI => ?_)
    refine lv_if_eq (tgt := 262) hx hb dX6_isAsTold_205 (by decide) (fun c49 => ?_) (fun c49 => ?_)
    · replace h := tf_pos c49 h
      refine lv_iconst (v := 0) hx hb dX6_isAsTold_262 (by decide +kernel) ?_
      exact tf_zret hx hb hr (Or.inl rfl) hI h dX6_isAsTold_263 hlocks
    replace h := tf_neg c49 h
    refine lv_aload_n hx hb dX6_isAsTold_208 rfl (lv_at hl 0 rfl) ?_
    refine tf_get (C := RX6) (T := TX6) (N := 5) hx hb hts hn_X6 hown hK hI 0 (tf_xat_0 ad cI cZ _) rfl 1 (by decide) hf_19 rfl rfl dX6_isAsTold_209 ?_
    refine lv_iload hx hb dX6_isAsTold_212 (lv_at hl 4 rfl) ?_
    obtain ⟨u50, q51, h⟩ := tf_gbind h
    refine tf_callV (rest := []) ⟨hx, hb, hml, hown, hts⟩ hK hN hI (kX_X1_has l D ad cI cZ _ _ _ q51) (cwV 1 hts gX6_isAsTold_X1_has rfl rfl rfl (by decide +kernel) ⟨Nat.le_of_ble_eq_true rfl, Nat.le_of_ble_eq_true rfl⟩) 2 1 (tf_xat_2 ad cI cZ _) rfl rfl hl.1 rfl (Nat.le_of_ble_eq_true rfl) dX6_isAsTold_214 (fun H locs hI => ?_)
    refine lv_if_eq (tgt := 262) hx hb dX6_isAsTold_217 (by decide) (fun c52 => ?_) (fun c52 => ?_)
    · replace h := tf_pos c52 h
      refine lv_iconst (v := 0) hx hb dX6_isAsTold_262 (by decide +kernel) ?_
      exact tf_zret hx hb hr (Or.inl rfl) hI h dX6_isAsTold_263 hlocks
    replace h := tf_neg c52 h
    refine lv_aload_n hx hb dX6_isAsTold_220 rfl (lv_at hl 0 rfl) ?_
    refine tf_get (C := RX6) (T := TX6) (N := 5) hx hb hts hn_X6 hown hK hI 0 (tf_xat_0 ad cI cZ _) rfl 1 (by decide) hf_19 rfl rfl dX6_isAsTold_221 ?_
    refine lv_iload hx hb dX6_isAsTold_224 (lv_at hl 5 rfl) ?_
    obtain ⟨u53, q54, h⟩ := tf_gbind h
    refine tf_callV (rest := []) ⟨hx, hb, hml, hown, hts⟩ hK hN hI (kX_X1_has l D ad cI cZ _ _ _ q54) (cwV 1 hts gX6_isAsTold_X1_has rfl rfl rfl (by decide +kernel) ⟨Nat.le_of_ble_eq_true rfl, Nat.le_of_ble_eq_true rfl⟩) 2 1 (tf_xat_2 ad cI cZ _) rfl rfl hl.1 rfl (Nat.le_of_ble_eq_true rfl) dX6_isAsTold_226 (fun H locs hI => ?_)
    refine lv_if_eq (tgt := 262) hx hb dX6_isAsTold_229 (by decide) (fun c55 => ?_) (fun c55 => ?_)
    · replace h := tf_pos c55 h
      refine lv_iconst (v := 0) hx hb dX6_isAsTold_262 (by decide +kernel) ?_
      exact tf_zret hx hb hr (Or.inl rfl) hI h dX6_isAsTold_263 hlocks
    replace h := tf_neg c55 h
    refine lv_aload_n hx hb dX6_isAsTold_232 rfl (lv_at hl 0 rfl) ?_
    refine tf_get (C := RX6) (T := TX6) (N := 5) hx hb hts hn_X6 hown hK hI 0 (tf_xat_0 ad cI cZ _) rfl 0 (by decide) hf_10 rfl rfl dX6_isAsTold_233 ?_
    refine lv_iload hx hb dX6_isAsTold_236 (lv_at hl 6 rfl) ?_
    obtain ⟨u56, q57, h⟩ := tf_gbind h
    refine tf_callV (rest := []) ⟨hx, hb, hml, hown, hts⟩ hK hN hI (kX_X4_isClass l D ad cI cZ _ _ _ q57) (cwV 1 hts gX6_isAsTold_X4_isClass rfl rfl rfl (by decide +kernel) ⟨Nat.le_of_ble_eq_true rfl, Nat.le_of_ble_eq_true rfl⟩) 1 4 (tf_xat_1 ad cI cZ _) rfl rfl hl.1 rfl (Nat.le_of_ble_eq_true rfl) dX6_isAsTold_238 (fun H locs hI => ?_)
    refine lv_if_eq (tgt := 262) hx hb dX6_isAsTold_241 (by decide) (fun c58 => ?_) (fun c58 => ?_)
    · replace h := tf_pos c58 h
      refine lv_iconst (v := 0) hx hb dX6_isAsTold_262 (by decide +kernel) ?_
      exact tf_zret hx hb hr (Or.inl rfl) hI h dX6_isAsTold_263 hlocks
    replace h := tf_neg c58 h
    refine lv_aload_n hx hb dX6_isAsTold_244 rfl (lv_at hl 0 rfl) ?_
    refine tf_get (C := RX6) (T := TX6) (N := 5) hx hb hts hn_X6 hown hK hI 0 (tf_xat_0 ad cI cZ _) rfl 0 (by decide) hf_10 rfl rfl dX6_isAsTold_245 ?_
    refine tf_get (C := RX4) (T := TX4) (N := 10) hx hb hts hn_X4 hown hK hI 1 (tf_xat_1 ad cI cZ _) rfl 1 (by decide) hf_61 rfl rfl dX6_isAsTold_248 ?_
    refine lv_iload hx hb dX6_isAsTold_251 (lv_at hl 6 rfl) ?_
    obtain ⟨b59, h⟩ := tf_gin h
    refine va_iald hx hb hK hI.1 7 0 (tf_xat_7 ad cI cZ _) rfl b59 dX6_isAsTold_253 ?_
    refine lv_iconst (v := 2) hx hb dX6_isAsTold_254 (by decide +kernel) ?_
    refine lv_icmp_ne (tgt := 262) hx hb dX6_isAsTold_255 (by decide) (fun c60 => ?_) (fun c60 => ?_)
    · replace h := tf_neg c60 h
      refine lv_iconst (v := 0) hx hb dX6_isAsTold_262 (by decide +kernel) ?_
      exact tf_zret hx hb hr (Or.inl rfl) hI h dX6_isAsTold_263 hlocks
    replace h := tf_pos c60 h
    refine lv_iconst (v := 1) hx hb dX6_isAsTold_258 (by decide +kernel) ?_
    refine lv_goto (tgt := 263) hx hb dX6_isAsTold_259 (by decide) ?_
    exact tf_zret hx hb hr (Or.inr rfl) hI h dX6_isAsTold_263 hlocks
  replace h := tf_neg c43 h
  by_cases c61 : x1 = (7 : Int32)
  · replace h := tf_pos c61 h
    refine lv_tableIn (tgt := 264) (off := 263) hx hb dX6_isAsTold_1 (by rw [c61]; decide +kernel) (by rw [c61]; decide +kernel) (by rw [c61]; decide +kernel) (by decide) ?_
    refine lv_aload_n hx hb dX6_isAsTold_264 rfl (lv_at hl 0 rfl) ?_
    refine tf_get (C := RX6) (T := TX6) (N := 5) hx hb hts hn_X6 hown hK hI 0 (tf_xat_0 ad cI cZ _) rfl 3 (by decide) hf_33 rfl rfl dX6_isAsTold_265 ?_
    refine lv_iload_n hx hb dX6_isAsTold_268 rfl (lv_at hl 2 rfl) ?_
    obtain ⟨u62, q63, h⟩ := tf_gbind h
    refine tf_callV (rest := []) ⟨hx, hb, hml, hown, hts⟩ hK hN hI (kX_X2_has l D ad cI cZ _ _ _ q63) (cwV 1 hts gX6_isAsTold_X2_has rfl rfl rfl (by decide +kernel) ⟨Nat.le_of_ble_eq_true rfl, Nat.le_of_ble_eq_true rfl⟩) 4 2 (tf_xat_4 ad cI cZ _) rfl rfl hl.1 rfl (Nat.le_of_ble_eq_true rfl) dX6_isAsTold_269 (fun H locs hI => ?_)
    refine lv_if_eq (tgt := 291) hx hb dX6_isAsTold_272 (by decide) (fun c64 => ?_) (fun c64 => ?_)
    · replace h := tf_pos c64 h
      refine lv_iconst (v := 0) hx hb dX6_isAsTold_291 (by decide +kernel) ?_
      exact tf_zret hx hb hr (Or.inl rfl) hI h dX6_isAsTold_292 hlocks
    replace h := tf_neg c64 h
    refine lv_aload_n hx hb dX6_isAsTold_275 rfl (lv_at hl 0 rfl) ?_
    refine tf_get (C := RX6) (T := TX6) (N := 5) hx hb hts hn_X6 hown hK hI 0 (tf_xat_0 ad cI cZ _) rfl 0 (by decide) hf_10 rfl rfl dX6_isAsTold_276 ?_
    refine lv_iload hx hb dX6_isAsTold_279 (lv_at hl 4 rfl) ?_
    obtain ⟨u65, q66, h⟩ := tf_gbind h
    refine tf_callV (rest := []) ⟨hx, hb, hml, hown, hts⟩ hK hN hI (kX_X4_isClosed l D ad cI cZ _ _ _ q66) (cwV 1 hts gX6_isAsTold_X4_isClosed rfl rfl rfl (by decide +kernel) ⟨Nat.le_of_ble_eq_true rfl, Nat.le_of_ble_eq_true rfl⟩) 1 4 (tf_xat_1 ad cI cZ _) rfl rfl hl.1 rfl (Nat.le_of_ble_eq_true rfl) dX6_isAsTold_281 (fun H locs hI => ?_)
    refine lv_if_eq (tgt := 291) hx hb dX6_isAsTold_284 (by decide) (fun c67 => ?_) (fun c67 => ?_)
    · replace h := tf_pos c67 h
      refine lv_iconst (v := 0) hx hb dX6_isAsTold_291 (by decide +kernel) ?_
      exact tf_zret hx hb hr (Or.inl rfl) hI h dX6_isAsTold_292 hlocks
    replace h := tf_neg c67 h
    refine lv_iconst (v := 1) hx hb dX6_isAsTold_287 (by decide +kernel) ?_
    refine lv_goto (tgt := 292) hx hb dX6_isAsTold_288 (by decide) ?_
    exact tf_zret hx hb hr (Or.inr rfl) hI h dX6_isAsTold_292 hlocks
  replace h := tf_neg c61 h
  refine lv_tableOut (tgt := 293) hx hb dX6_isAsTold_1 (by have ac1 := lv_neT c1 (a := 0) (by decide +kernel); have ac5 := lv_neT c5 (a := 1) (by decide +kernel); have ac12 := lv_neT c12 (a := 2) (by decide +kernel); have ac19 := lv_neT c19 (a := 3) (by decide +kernel); have ac26 := lv_neT c26 (a := 4) (by decide +kernel); have ac33 := lv_neT c33 (a := 5) (by decide +kernel); have ac43 := lv_neT c43 (a := 6) (by decide +kernel); have ac61 := lv_neT c61 (a := 7) (by decide +kernel); omega) (by decide) ?_
  refine lv_iconst (v := 0) hx hb dX6_isAsTold_293 (by decide +kernel) ?_
  exact tf_zret hx hb hr (Or.inl rfl) hI h dX6_isAsTold_294 hlocks

set_option maxHeartbeats 4000000 in
set_option maxRecDepth 100000 in
theorem kX_X6_operator (l : Launch) (D : va_G) (ad : Nat → Nat) (cI cZ : ClassId) (σ : tf_S) (x1 x2 x3 x4 x5 x6 : Int32) (z : Int32 × tf_S) (h : fX6_operator σ x1 x2 x3 x4 x5 x6 = some z) : tf_C l D (tf_wx ad cI cZ) [(cI, .int), (cZ, .boolean)] tf_nest yX6_operator wsX6_operator ({ frames := 3, cells := 0, slots := 0, locals := 69 }) [.ref (ad 0), .int x1, .int x2, .int x3, .int x4, .int x5, .int x6] σ z := by
  intro sz
  refine Met.ofW (cc := cX6_operator) (maxL := 7) (ret := (some .int)) (by decide) rfl ?_
  intro p e s m args below meth c s₁ B hml hv
  obtain ⟨rfl, hsz, hP, hK, hN, hD0⟩ := hv
  have hx := B.exec
  have hb := B.bytes
  have hr := B.returns
  have hts := atoms_spec (ws := wsX6_operator) B.pre
  have hown : s.vm.findClass RX6 = some m.cls := findClass_of_methodNamed B.named
  have hlocks := B.notSynchronized
  subst hsz
  have hI := tf_start (D := D) (tf_x_ad ad cI cZ) hP hD0
  have hl := lv_entry ([.ref (ad 0), .int x1, .int x2, .int x3, .int x4, .int x5, .int x6]) (n := 7) (Nat.le_of_ble_eq_true rfl)
  rw [lg_entry_eq]
  generalize (lg_sl ([.ref (ad 0), .int x1, .int x2, .int x3, .int x4, .int x5, .int x6]) ++ List.replicate (7 - (lg_sl ([.ref (ad 0), .int x1, .int x2, .int x3, .int x4, .int x5, .int x6])).length) Slot.unset).toArray = ls at hl ⊢
  have hl : lv_has ls 7 [(0, .ref (ad 0)), (1, .int x1), (2, .int x2), (3, .int x3), (4, .int x4), (5, .int x5), (6, .int x6)] := hl
  have hn_X6 : ∀ w ∈ u_ws RX6 TX6 5, w ∈ wsX6_operator := by decide +kernel
  have hf_33 := hts (.fieldLink RX6 33 "TypeFlow" "operators" "LTypeFlow$Operators;") (by decide +kernel)
  unfold fX6_operator at h
  refine lv_aload_n hx hb dX6_operator_0 rfl (lv_at hl 0 rfl) ?_
  refine lv_iload_n hx hb dX6_operator_1 rfl (lv_at hl 1 rfl) ?_
  refine lv_iload_n hx hb dX6_operator_2 rfl (lv_at hl 2 rfl) ?_
  refine lv_iload_n hx hb dX6_operator_3 rfl (lv_at hl 3 rfl) ?_
  refine lv_iload hx hb dX6_operator_4 (lv_at hl 4 rfl) ?_
  refine lv_iload hx hb dX6_operator_6 (lv_at hl 5 rfl) ?_
  refine lv_iload hx hb dX6_operator_8 (lv_at hl 6 rfl) ?_
  obtain ⟨u1, q2, h⟩ := tf_gbind h
  refine tf_callV (rest := []) ⟨hx, hb, hml, hown, hts⟩ hK hN hI (kX_X6_isAsTold l D ad cI cZ _ _ _ _ _ _ _ _ q2) (cwV 6 hts gX6_operator_X6_isAsTold rfl rfl rfl (by decide +kernel) ⟨Nat.le_of_ble_eq_true rfl, Nat.le_of_ble_eq_true rfl⟩) 0 6 (tf_xat_0 ad cI cZ _) rfl rfl hl.1 rfl (Nat.le_of_ble_eq_true rfl) dX6_operator_10 (fun H locs hI => ?_)
  refine lv_if_ne (tgt := 19) hx hb dX6_operator_13 (by decide) (fun c3 => ?_) (fun c3 => ?_)
  · replace h := tf_neg c3 h
    refine lv_aload_n hx hb dX6_operator_19 rfl (lv_at hl 0 rfl) ?_
    refine tf_get (C := RX6) (T := TX6) (N := 5) hx hb hts hn_X6 hown hK hI 0 (tf_xat_0 ad cI cZ _) rfl 3 (by decide) hf_33 rfl rfl dX6_operator_20 ?_
    refine lv_iload_n hx hb dX6_operator_23 rfl (lv_at hl 1 rfl) ?_
    refine lv_iload_n hx hb dX6_operator_24 rfl (lv_at hl 2 rfl) ?_
    refine lv_iload_n hx hb dX6_operator_25 rfl (lv_at hl 3 rfl) ?_
    refine lv_iload hx hb dX6_operator_26 (lv_at hl 4 rfl) ?_
    refine lv_iload hx hb dX6_operator_28 (lv_at hl 5 rfl) ?_
    refine lv_iload hx hb dX6_operator_30 (lv_at hl 6 rfl) ?_
    obtain ⟨u4, q5, h⟩ := tf_gbind h
    refine tf_callV (rest := []) ⟨hx, hb, hml, hown, hts⟩ hK hN hI (kX_X2_add l D ad cI cZ _ _ _ _ _ _ _ _ q5) (cwV 6 hts gX6_operator_X2_add rfl rfl rfl (by decide +kernel) ⟨Nat.le_of_ble_eq_true rfl, Nat.le_of_ble_eq_true rfl⟩) 4 2 (tf_xat_4 ad cI cZ _) rfl rfl hl.1 rfl (Nat.le_of_ble_eq_true rfl) dX6_operator_32 (fun H locs hI => ?_)
    exact tf_iret hx hb hr hI h dX6_operator_35 hlocks
  replace h := tf_pos c3 h
  refine lv_bipush (v := -2) hx hb dX6_operator_16 (by decide +kernel) ?_
  exact tf_iret hx hb hr hI h dX6_operator_18 hlocks

set_option maxHeartbeats 4000000 in
set_option maxRecDepth 100000 in
theorem kX_X6_clear (l : Launch) (D : va_G) (ad : Nat → Nat) (cI cZ : ClassId) (σ : tf_S) (z : Int32 × tf_S) (h : fX6_clear σ = some z) : tf_C l D (tf_wx ad cI cZ) [(cI, .int), (cZ, .boolean)] tf_nest yX6_clear wsX6_clear ({ frames := 0, cells := 0, slots := 0, locals := 0 }) [.ref (ad 0)] σ z := by
  intro sz
  refine Met.ofW (cc := cX6_clear) (maxL := 2) (ret := (some .int)) (by decide) rfl ?_
  intro p e s m args below meth c s₁ B hml hv
  obtain ⟨rfl, hsz, hP, hK, hN, hD0⟩ := hv
  have hx := B.exec
  have hb := B.bytes
  have hr := B.returns
  have hts := atoms_spec (ws := wsX6_clear) B.pre
  have hown : s.vm.findClass RX6 = some m.cls := findClass_of_methodNamed B.named
  have hlocks := B.notSynchronized
  subst hsz
  have hI := tf_start (D := D) (tf_x_ad ad cI cZ) hP hD0
  have hl := lv_entry ([.ref (ad 0)]) (n := 2) (Nat.le_of_ble_eq_true rfl)
  rw [lg_entry_eq]
  generalize (lg_sl ([.ref (ad 0)]) ++ List.replicate (2 - (lg_sl ([.ref (ad 0)])).length) Slot.unset).toArray = ls at hl ⊢
  have hl : lv_has ls 2 [(0, .ref (ad 0))] := hl
  have hn_X2 : ∀ w ∈ u_ws RX2 TX2 11, w ∈ wsX6_clear := by decide +kernel
  have hn_X6 : ∀ w ∈ u_ws RX6 TX6 5, w ∈ wsX6_clear := by decide +kernel
  have hf_33 := hts (.fieldLink RX6 33 "TypeFlow" "operators" "LTypeFlow$Operators;") (by decide +kernel)
  have hf_99 := hts (.fieldLink RX6 99 "TypeFlow$Operators" "size" "I") (by decide +kernel)
  unfold fX6_clear at h
  refine lv_aload_n hx hb dX6_clear_0 rfl (lv_at hl 0 rfl) ?_
  refine tf_get (C := RX6) (T := TX6) (N := 5) hx hb hts hn_X6 hown hK hI 0 (tf_xat_0 ad cI cZ _) rfl 3 (by decide) hf_33 rfl rfl dX6_clear_1 ?_
  refine tf_get (C := RX2) (T := TX2) (N := 11) hx hb hts hn_X2 hown hK hI 4 (tf_xat_4 ad cI cZ _) rfl 0 (by decide) hf_99 rfl rfl dX6_clear_4 ?_
  obtain ⟨v1, ev1, h⟩ := tf_glet h
  refine tf_top ev1 ?_
  refine lv_istore_n (lv' := [(1, .int v1), (0, .ref (ad 0))]) hx hb dX6_clear_7 rfl hl (by decide) rfl (fun ls hl => ?_)
  refine lv_aload_n hx hb dX6_clear_8 rfl (lv_at hl 1 rfl) ?_
  refine tf_get (C := RX6) (T := TX6) (N := 5) hx hb hts hn_X6 hown hK hI 0 (tf_xat_0 ad cI cZ _) rfl 3 (by decide) hf_33 rfl rfl dX6_clear_9 ?_
  refine lv_iconst (v := 0) hx hb dX6_clear_12 (by decide +kernel) ?_
  obtain ⟨s2, es2, h⟩ := tf_glet h
  refine tf_put (C := RX2) (T := TX2) (N := 11) (ty := .int) hx hb hts hn_X2 tyX2 tyX2_ok nmX2 hown hK hI 4 (tf_xat_4 ad cI cZ _) rfl 0 (by decide) hf_99 rfl rfl (by decide +kernel) rfl rfl (Nat.le_of_ble_eq_true rfl) (tf_xput_4_0 ad cI cZ _ _) es2 dX6_clear_13 (fun H locs hI => ?_)
  refine lv_iload_n hx hb dX6_clear_16 rfl (lv_at hl 0 rfl) ?_
  exact tf_iret hx hb hr hI h dX6_clear_17 hlocks

set_option maxHeartbeats 4000000 in
set_option maxRecDepth 100000 in
theorem kX_X6_flow (l : Launch) (D : va_G) (ad : Nat → Nat) (cI cZ : ClassId) (σ : tf_S) (z : Int32 × tf_S) (h : fX6_flow σ = some z) : tf_C l D (tf_wx ad cI cZ) [(cI, .int), (cZ, .boolean)] tf_nest yX6_flow wsX6_flow ({ frames := 7, cells := 0, slots := 0, locals := 173 }) [.ref (ad 0)] σ z := by
  intro sz
  refine Met.ofW (cc := cX6_flow) (maxL := 4) (ret := (some .int)) (by decide) rfl ?_
  intro p e s m args below meth c s₁ B hml hv
  obtain ⟨rfl, hsz, hP, hK, hN, hD0⟩ := hv
  have hx := B.exec
  have hb := B.bytes
  have hr := B.returns
  have hts := atoms_spec (ws := wsX6_flow) B.pre
  have hown : s.vm.findClass RX6 = some m.cls := findClass_of_methodNamed B.named
  have hlocks := B.notSynchronized
  subst hsz
  have hI := tf_start (D := D) (tf_x_ad ad cI cZ) hP hD0
  have hl := lv_entry ([.ref (ad 0)]) (n := 4) (Nat.le_of_ble_eq_true rfl)
  rw [lg_entry_eq]
  generalize (lg_sl ([.ref (ad 0)]) ++ List.replicate (4 - (lg_sl ([.ref (ad 0)])).length) Slot.unset).toArray = ls at hl ⊢
  have hl : lv_has ls 4 [(0, .ref (ad 0))] := hl
  have hn_X2 : ∀ w ∈ u_ws RX2 TX2 11, w ∈ wsX6_flow := by decide +kernel
  have hn_X6 : ∀ w ∈ u_ws RX6 TX6 5, w ∈ wsX6_flow := by decide +kernel
  have hf_33 := hts (.fieldLink RX6 33 "TypeFlow" "operators" "LTypeFlow$Operators;") (by decide +kernel)
  have hf_42 := hts (.fieldLink RX6 42 "TypeFlow" "worker" "LTypeFlow$Worker;") (by decide +kernel)
  have hf_99 := hts (.fieldLink RX6 99 "TypeFlow$Operators" "size" "I") (by decide +kernel)
  have j4 : ∀ n : Nat, ∀ (σ : tf_S) (y1 y2 : Int32) (H : Heap) (locs : List Loc) (ls : Array Slot), fX6_flow_4 n σ y1 y2 = some z → tf_I D (tf_wx ad cI cZ) s.heap σ H locs → lv_has ls 4 [(0, .ref (ad 0)), (1, .int y1), (2, .int y2)] → W p l e (headSpec wsX6_flow ({ frames := 7, cells := 0, slots := 0, locals := 173 })).room s m ([.ref (ad 0)] : List Value).toArray below meth c H locs 0 0 (tf_Q below D (tf_wx ad cI cZ) z ([.ref (ad 0)] : List Value).toArray s) (F0 m 4 ls []) := by
    intro n
    induction n with
    | zero =>
      intro σ y1 y2 H locs ls h
      rw [fX6_flow_4] at h
      cases h
    | succ n ih =>
      intro σ y1 y2 H locs ls h hI hl
      rw [fX6_flow_4] at h
      refine lv_iload_n hx hb dX6_flow_4 rfl (lv_at hl 2 rfl) ?_
      refine lv_aload_n hx hb dX6_flow_5 rfl (lv_at hl 0 rfl) ?_
      refine tf_get (C := RX6) (T := TX6) (N := 5) hx hb hts hn_X6 hown hK hI 0 (tf_xat_0 ad cI cZ _) rfl 3 (by decide) hf_33 rfl rfl dX6_flow_6 ?_
      refine tf_get (C := RX2) (T := TX2) (N := 11) hx hb hts hn_X2 hown hK hI 4 (tf_xat_4 ad cI cZ _) rfl 0 (by decide) hf_99 rfl rfl dX6_flow_9 ?_
      refine lv_icmp_ge (tgt := 47) hx hb dX6_flow_12 (by decide) (fun c1 => ?_) (fun c1 => ?_)
      · replace h := tf_pos c1 h
        refine lv_iload_n hx hb dX6_flow_47 rfl (lv_at hl 1 rfl) ?_
        exact tf_iret hx hb hr hI h dX6_flow_48 hlocks
      replace h := tf_neg c1 h
      refine lv_aload_n hx hb dX6_flow_15 rfl (lv_at hl 0 rfl) ?_
      refine tf_get (C := RX6) (T := TX6) (N := 5) hx hb hts hn_X6 hown hK hI 0 (tf_xat_0 ad cI cZ _) rfl 4 (by decide) hf_42 rfl rfl dX6_flow_16 ?_
      refine lv_iload_n hx hb dX6_flow_19 rfl (lv_at hl 2 rfl) ?_
      obtain ⟨u2, q3, h⟩ := tf_gbind h
      refine tf_callV (rest := []) ⟨hx, hb, hml, hown, hts⟩ hK hN hI (kX_X5_whatComes l D ad cI cZ _ _ _ q3) (cwV 1 hts gX6_flow_X5_whatComes rfl rfl rfl (by decide +kernel) ⟨Nat.le_of_ble_eq_true rfl, Nat.le_of_ble_eq_true rfl⟩) 5 5 (tf_xat_5 ad cI cZ _) rfl rfl hl.1 rfl (Nat.le_of_ble_eq_true rfl) dX6_flow_20 (fun H locs hI => ?_)
      obtain ⟨v4, ev4, h⟩ := tf_glet h
      refine tf_top ev4 ?_
      refine lv_istore_n (lv' := [(3, .int v4), (0, .ref (ad 0)), (1, .int y1), (2, .int y2)]) hx hb dX6_flow_23 rfl hl (by decide) rfl (fun ls hl => ?_)
      refine lv_aload_n hx hb dX6_flow_24 rfl (lv_at hl 1 rfl) ?_
      refine tf_get (C := RX6) (T := TX6) (N := 5) hx hb hts hn_X6 hown hK hI 0 (tf_xat_0 ad cI cZ _) rfl 4 (by decide) hf_42 rfl rfl dX6_flow_25 ?_
      refine lv_iload_n hx hb dX6_flow_28 rfl (lv_at hl 3 rfl) ?_
      refine lv_iload_n hx hb dX6_flow_29 rfl (lv_at hl 0 rfl) ?_
      obtain ⟨u5, q6, h⟩ := tf_gbind h
      refine tf_callVv (rest := []) ⟨hx, hb, hml, hown, hts⟩ hK hN hI (kX_X5_keep l D ad cI cZ _ _ _ _ q6) (cwV 2 hts gX6_flow_X5_keep rfl rfl rfl (by decide +kernel) ⟨Nat.le_of_ble_eq_true rfl, Nat.le_of_ble_eq_true rfl⟩) 5 5 (tf_xat_5 ad cI cZ _) rfl rfl hl.1 rfl (Nat.le_of_ble_eq_true rfl) dX6_flow_30 (fun H locs hI => ?_)
      refine lv_iload_n hx hb dX6_flow_33 rfl (lv_at hl 0 rfl) ?_
      refine lv_iconst (v := -1) hx hb dX6_flow_34 (by decide +kernel) ?_
      refine lv_icmp_eq (tgt := 41) hx hb dX6_flow_35 (by decide) (fun c7 => ?_) (fun c7 => ?_)
      · replace h := tf_pos c7 h
        obtain ⟨v8, ev8, h⟩ := tf_glet h
        refine lv_iinc (v := v8) (lv' := [(2, .int v8), (3, .int v4), (0, .ref (ad 0)), (1, .int y1)]) hx hb dX6_flow_41 hl (k := 3) rfl (by rw [ev8]; rfl) (by decide) rfl (fun ls hl => ?_)
        refine lv_goto (tgt := 4) hx hb dX6_flow_44 (by decide) ?_
        exact ih _ _ _ _ _ _ h hI (lv_sub hl [2, 3, 0] rfl)
      replace h := tf_neg c7 h
      obtain ⟨v9, ev9, h⟩ := tf_glet h
      refine lv_iinc (v := v9) (lv' := [(1, .int v9), (3, .int v4), (0, .ref (ad 0)), (2, .int y2)]) hx hb dX6_flow_38 hl (k := 2) rfl (by rw [ev9]; rfl) (by decide) rfl (fun ls hl => ?_)
      obtain ⟨v10, ev10, h⟩ := tf_glet h
      refine lv_iinc (v := v10) (lv' := [(2, .int v10), (1, .int v9), (3, .int v4), (0, .ref (ad 0))]) hx hb dX6_flow_41 hl (k := 3) rfl (by rw [ev10]; rfl) (by decide) rfl (fun ls hl => ?_)
      refine lv_goto (tgt := 4) hx hb dX6_flow_44 (by decide) ?_
      exact ih _ _ _ _ _ _ h hI (lv_sub hl [3, 1, 0] rfl)
  unfold fX6_flow at h
  refine lv_iconst (v := 0) hx hb dX6_flow_0 (by decide +kernel) ?_
  refine lv_istore_n (lv' := [(1, .int (0 : Int32)), (0, .ref (ad 0))]) hx hb dX6_flow_1 rfl hl (by decide) rfl (fun ls hl => ?_)
  refine lv_iconst (v := 0) hx hb dX6_flow_2 (by decide +kernel) ?_
  refine lv_istore_n (lv' := [(2, .int (0 : Int32)), (1, .int (0 : Int32)), (0, .ref (ad 0))]) hx hb dX6_flow_3 rfl hl (by decide) rfl (fun ls hl => ?_)
  exact j4  _ _ _ _ _ _ _ h hI (lv_sub hl [2, 1, 0] rfl)

set_option maxHeartbeats 4000000 in
set_option maxRecDepth 100000 in
theorem kX_X6_comes (l : Launch) (D : va_G) (ad : Nat → Nat) (cI cZ : ClassId) (σ : tf_S) (x1 : Int32) (z : Int32 × tf_S) (h : fX6_comes σ x1 = some z) : tf_C l D (tf_wx ad cI cZ) [(cI, .int), (cZ, .boolean)] tf_nest yX6_comes wsX6_comes ({ frames := 1, cells := 0, slots := 0, locals := 21 }) [.ref (ad 0), .int x1] σ z := by
  intro sz
  refine Met.ofW (cc := cX6_comes) (maxL := 2) (ret := (some .int)) (by decide) rfl ?_
  intro p e s m args below meth c s₁ B hml hv
  obtain ⟨rfl, hsz, hP, hK, hN, hD0⟩ := hv
  have hx := B.exec
  have hb := B.bytes
  have hr := B.returns
  have hts := atoms_spec (ws := wsX6_comes) B.pre
  have hown : s.vm.findClass RX6 = some m.cls := findClass_of_methodNamed B.named
  have hlocks := B.notSynchronized
  subst hsz
  have hI := tf_start (D := D) (tf_x_ad ad cI cZ) hP hD0
  have hl := lv_entry ([.ref (ad 0), .int x1]) (n := 2) (Nat.le_of_ble_eq_true rfl)
  rw [lg_entry_eq]
  generalize (lg_sl ([.ref (ad 0), .int x1]) ++ List.replicate (2 - (lg_sl ([.ref (ad 0), .int x1])).length) Slot.unset).toArray = ls at hl ⊢
  have hl : lv_has ls 2 [(0, .ref (ad 0)), (1, .int x1)] := hl
  have hn_X2 : ∀ w ∈ u_ws RX2 TX2 11, w ∈ wsX6_comes := by decide +kernel
  have hn_X6 : ∀ w ∈ u_ws RX6 TX6 5, w ∈ wsX6_comes := by decide +kernel
  have hf_33 := hts (.fieldLink RX6 33 "TypeFlow" "operators" "LTypeFlow$Operators;") (by decide +kernel)
  have hf_112 := hts (.fieldLink RX6 112 "TypeFlow$Operators" "type" "[I") (by decide +kernel)
  unfold fX6_comes at h
  refine lv_aload_n hx hb dX6_comes_0 rfl (lv_at hl 0 rfl) ?_
  refine tf_get (C := RX6) (T := TX6) (N := 5) hx hb hts hn_X6 hown hK hI 0 (tf_xat_0 ad cI cZ _) rfl 3 (by decide) hf_33 rfl rfl dX6_comes_1 ?_
  refine lv_iload_n hx hb dX6_comes_4 rfl (lv_at hl 1 rfl) ?_
  obtain ⟨u1, q2, h⟩ := tf_gbind h
  refine tf_callV (rest := []) ⟨hx, hb, hml, hown, hts⟩ hK hN hI (kX_X2_has l D ad cI cZ _ _ _ q2) (cwV 1 hts gX6_comes_X2_has rfl rfl rfl (by decide +kernel) ⟨Nat.le_of_ble_eq_true rfl, Nat.le_of_ble_eq_true rfl⟩) 4 2 (tf_xat_4 ad cI cZ _) rfl rfl hl.1 rfl (Nat.le_of_ble_eq_true rfl) dX6_comes_5 (fun H locs hI => ?_)
  refine lv_if_eq (tgt := 23) hx hb dX6_comes_8 (by decide) (fun c3 => ?_) (fun c3 => ?_)
  · replace h := tf_pos c3 h
    refine lv_bipush (v := -2) hx hb dX6_comes_23 (by decide +kernel) ?_
    exact tf_iret hx hb hr hI h dX6_comes_25 hlocks
  replace h := tf_neg c3 h
  refine lv_aload_n hx hb dX6_comes_11 rfl (lv_at hl 0 rfl) ?_
  refine tf_get (C := RX6) (T := TX6) (N := 5) hx hb hts hn_X6 hown hK hI 0 (tf_xat_0 ad cI cZ _) rfl 3 (by decide) hf_33 rfl rfl dX6_comes_12 ?_
  refine tf_get (C := RX2) (T := TX2) (N := 11) hx hb hts hn_X2 hown hK hI 4 (tf_xat_4 ad cI cZ _) rfl 7 (by decide) hf_112 rfl rfl dX6_comes_15 ?_
  refine lv_iload_n hx hb dX6_comes_18 rfl (lv_at hl 1 rfl) ?_
  obtain ⟨b4, h⟩ := tf_gin h
  refine va_iald hx hb hK hI.1 27 0 (tf_xat_27 ad cI cZ _) rfl b4 dX6_comes_19 ?_
  refine lv_goto (tgt := 25) hx hb dX6_comes_20 (by decide) ?_
  exact tf_iret hx hb hr hI h dX6_comes_25 hlocks

set_option maxHeartbeats 4000000 in
set_option maxRecDepth 100000 in
theorem kX_X6_reason (l : Launch) (D : va_G) (ad : Nat → Nat) (cI cZ : ClassId) (σ : tf_S) (x1 : Int32) (z : Int32 × tf_S) (h : fX6_reason σ x1 = some z) : tf_C l D (tf_wx ad cI cZ) [(cI, .int), (cZ, .boolean)] tf_nest yX6_reason wsX6_reason ({ frames := 1, cells := 0, slots := 0, locals := 21 }) [.ref (ad 0), .int x1] σ z := by
  intro sz
  refine Met.ofW (cc := cX6_reason) (maxL := 2) (ret := (some .int)) (by decide) rfl ?_
  intro p e s m args below meth c s₁ B hml hv
  obtain ⟨rfl, hsz, hP, hK, hN, hD0⟩ := hv
  have hx := B.exec
  have hb := B.bytes
  have hr := B.returns
  have hts := atoms_spec (ws := wsX6_reason) B.pre
  have hown : s.vm.findClass RX6 = some m.cls := findClass_of_methodNamed B.named
  have hlocks := B.notSynchronized
  subst hsz
  have hI := tf_start (D := D) (tf_x_ad ad cI cZ) hP hD0
  have hl := lv_entry ([.ref (ad 0), .int x1]) (n := 2) (Nat.le_of_ble_eq_true rfl)
  rw [lg_entry_eq]
  generalize (lg_sl ([.ref (ad 0), .int x1]) ++ List.replicate (2 - (lg_sl ([.ref (ad 0), .int x1])).length) Slot.unset).toArray = ls at hl ⊢
  have hl : lv_has ls 2 [(0, .ref (ad 0)), (1, .int x1)] := hl
  have hn_X2 : ∀ w ∈ u_ws RX2 TX2 11, w ∈ wsX6_reason := by decide +kernel
  have hn_X6 : ∀ w ∈ u_ws RX6 TX6 5, w ∈ wsX6_reason := by decide +kernel
  have hf_33 := hts (.fieldLink RX6 33 "TypeFlow" "operators" "LTypeFlow$Operators;") (by decide +kernel)
  have hf_115 := hts (.fieldLink RX6 115 "TypeFlow$Operators" "fault" "[I") (by decide +kernel)
  unfold fX6_reason at h
  refine lv_aload_n hx hb dX6_reason_0 rfl (lv_at hl 0 rfl) ?_
  refine tf_get (C := RX6) (T := TX6) (N := 5) hx hb hts hn_X6 hown hK hI 0 (tf_xat_0 ad cI cZ _) rfl 3 (by decide) hf_33 rfl rfl dX6_reason_1 ?_
  refine lv_iload_n hx hb dX6_reason_4 rfl (lv_at hl 1 rfl) ?_
  obtain ⟨u1, q2, h⟩ := tf_gbind h
  refine tf_callV (rest := []) ⟨hx, hb, hml, hown, hts⟩ hK hN hI (kX_X2_has l D ad cI cZ _ _ _ q2) (cwV 1 hts gX6_reason_X2_has rfl rfl rfl (by decide +kernel) ⟨Nat.le_of_ble_eq_true rfl, Nat.le_of_ble_eq_true rfl⟩) 4 2 (tf_xat_4 ad cI cZ _) rfl rfl hl.1 rfl (Nat.le_of_ble_eq_true rfl) dX6_reason_5 (fun H locs hI => ?_)
  refine lv_if_eq (tgt := 23) hx hb dX6_reason_8 (by decide) (fun c3 => ?_) (fun c3 => ?_)
  · replace h := tf_pos c3 h
    refine lv_bipush (v := -2) hx hb dX6_reason_23 (by decide +kernel) ?_
    exact tf_iret hx hb hr hI h dX6_reason_25 hlocks
  replace h := tf_neg c3 h
  refine lv_aload_n hx hb dX6_reason_11 rfl (lv_at hl 0 rfl) ?_
  refine tf_get (C := RX6) (T := TX6) (N := 5) hx hb hts hn_X6 hown hK hI 0 (tf_xat_0 ad cI cZ _) rfl 3 (by decide) hf_33 rfl rfl dX6_reason_12 ?_
  refine tf_get (C := RX2) (T := TX2) (N := 11) hx hb hts hn_X2 hown hK hI 4 (tf_xat_4 ad cI cZ _) rfl 8 (by decide) hf_115 rfl rfl dX6_reason_15 ?_
  refine lv_iload_n hx hb dX6_reason_18 rfl (lv_at hl 1 rfl) ?_
  obtain ⟨b4, h⟩ := tf_gin h
  refine va_iald hx hb hK hI.1 28 0 (tf_xat_28 ad cI cZ _) rfl b4 dX6_reason_19 ?_
  refine lv_goto (tgt := 25) hx hb dX6_reason_20 (by decide) ?_
  exact tf_iret hx hb hr hI h dX6_reason_25 hlocks

set_option maxHeartbeats 4000000 in
set_option maxRecDepth 100000 in
theorem kX_X6_mayFail (l : Launch) (D : va_G) (ad : Nat → Nat) (cI cZ : ClassId) (σ : tf_S) (x1 : Int32) (z : Int32 × tf_S) (h : fX6_mayFail σ x1 = some z) : tf_C l D (tf_wx ad cI cZ) [(cI, .int), (cZ, .boolean)] tf_nest yX6_mayFail wsX6_mayFail ({ frames := 1, cells := 0, slots := 0, locals := 21 }) [.ref (ad 0), .int x1] σ z := by
  intro sz
  refine Met.ofW (cc := cX6_mayFail) (maxL := 2) (ret := (some .int)) (by decide) rfl ?_
  intro p e s m args below meth c s₁ B hml hv
  obtain ⟨rfl, hsz, hP, hK, hN, hD0⟩ := hv
  have hx := B.exec
  have hb := B.bytes
  have hr := B.returns
  have hts := atoms_spec (ws := wsX6_mayFail) B.pre
  have hown : s.vm.findClass RX6 = some m.cls := findClass_of_methodNamed B.named
  have hlocks := B.notSynchronized
  subst hsz
  have hI := tf_start (D := D) (tf_x_ad ad cI cZ) hP hD0
  have hl := lv_entry ([.ref (ad 0), .int x1]) (n := 2) (Nat.le_of_ble_eq_true rfl)
  rw [lg_entry_eq]
  generalize (lg_sl ([.ref (ad 0), .int x1]) ++ List.replicate (2 - (lg_sl ([.ref (ad 0), .int x1])).length) Slot.unset).toArray = ls at hl ⊢
  have hl : lv_has ls 2 [(0, .ref (ad 0)), (1, .int x1)] := hl
  have hn_X2 : ∀ w ∈ u_ws RX2 TX2 11, w ∈ wsX6_mayFail := by decide +kernel
  have hn_X6 : ∀ w ∈ u_ws RX6 TX6 5, w ∈ wsX6_mayFail := by decide +kernel
  have hf_33 := hts (.fieldLink RX6 33 "TypeFlow" "operators" "LTypeFlow$Operators;") (by decide +kernel)
  have hf_118 := hts (.fieldLink RX6 118 "TypeFlow$Operators" "risky" "[Z") (by decide +kernel)
  unfold fX6_mayFail at h
  refine lv_aload_n hx hb dX6_mayFail_0 rfl (lv_at hl 0 rfl) ?_
  refine tf_get (C := RX6) (T := TX6) (N := 5) hx hb hts hn_X6 hown hK hI 0 (tf_xat_0 ad cI cZ _) rfl 3 (by decide) hf_33 rfl rfl dX6_mayFail_1 ?_
  refine lv_iload_n hx hb dX6_mayFail_4 rfl (lv_at hl 1 rfl) ?_
  obtain ⟨u1, q2, h⟩ := tf_gbind h
  refine tf_callV (rest := []) ⟨hx, hb, hml, hown, hts⟩ hK hN hI (kX_X2_has l D ad cI cZ _ _ _ q2) (cwV 1 hts gX6_mayFail_X2_has rfl rfl rfl (by decide +kernel) ⟨Nat.le_of_ble_eq_true rfl, Nat.le_of_ble_eq_true rfl⟩) 4 2 (tf_xat_4 ad cI cZ _) rfl rfl hl.1 rfl (Nat.le_of_ble_eq_true rfl) dX6_mayFail_5 (fun H locs hI => ?_)
  refine lv_if_ne (tgt := 14) hx hb dX6_mayFail_8 (by decide) (fun c3 => ?_) (fun c3 => ?_)
  · replace h := tf_neg c3 h
    refine lv_aload_n hx hb dX6_mayFail_14 rfl (lv_at hl 0 rfl) ?_
    refine tf_get (C := RX6) (T := TX6) (N := 5) hx hb hts hn_X6 hown hK hI 0 (tf_xat_0 ad cI cZ _) rfl 3 (by decide) hf_33 rfl rfl dX6_mayFail_15 ?_
    refine tf_get (C := RX2) (T := TX2) (N := 11) hx hb hts hn_X2 hown hK hI 4 (tf_xat_4 ad cI cZ _) rfl 9 (by decide) hf_118 rfl rfl dX6_mayFail_18 ?_
    refine lv_iload_n hx hb dX6_mayFail_21 rfl (lv_at hl 1 rfl) ?_
    obtain ⟨b4, h⟩ := tf_gin h
    refine va_zald hx hb hK hI.1 29 1 (tf_xat_29 ad cI cZ _) rfl b4 dX6_mayFail_22 ?_
    refine lv_if_eq (tgt := 30) hx hb dX6_mayFail_23 (by decide) (fun c5 => ?_) (fun c5 => ?_)
    · replace h := tf_pos c5 h
      refine lv_iconst (v := 0) hx hb dX6_mayFail_30 (by decide +kernel) ?_
      exact tf_iret hx hb hr hI h dX6_mayFail_31 hlocks
    replace h := tf_neg c5 h
    refine lv_iconst (v := 1) hx hb dX6_mayFail_26 (by decide +kernel) ?_
    refine lv_goto (tgt := 31) hx hb dX6_mayFail_27 (by decide) ?_
    exact tf_iret hx hb hr hI h dX6_mayFail_31 hlocks
  replace h := tf_pos c3 h
  refine lv_bipush (v := -2) hx hb dX6_mayFail_11 (by decide +kernel) ?_
  exact tf_iret hx hb hr hI h dX6_mayFail_13 hlocks

set_option maxHeartbeats 4000000 in
set_option maxRecDepth 100000 in
theorem kX_X6_cast (l : Launch) (D : va_G) (ad : Nat → Nat) (cI cZ : ClassId) (σ : tf_S) (x1 : Int32) (z : Int32 × tf_S) (h : fX6_cast σ x1 = some z) : tf_C l D (tf_wx ad cI cZ) [(cI, .int), (cZ, .boolean)] tf_nest yX6_cast wsX6_cast ({ frames := 0, cells := 0, slots := 0, locals := 0 }) [.ref (ad 0), .int x1] σ z := by
  intro sz
  refine Met.ofW (cc := cX6_cast) (maxL := 4) (ret := (some .int)) (by decide) rfl ?_
  intro p e s m args below meth c s₁ B hml hv
  obtain ⟨rfl, hsz, hP, hK, hN, hD0⟩ := hv
  have hx := B.exec
  have hb := B.bytes
  have hr := B.returns
  have hts := atoms_spec (ws := wsX6_cast) B.pre
  have hown : s.vm.findClass RX6 = some m.cls := findClass_of_methodNamed B.named
  have hlocks := B.notSynchronized
  subst hsz
  have hI := tf_start (D := D) (tf_x_ad ad cI cZ) hP hD0
  have hl := lv_entry ([.ref (ad 0), .int x1]) (n := 4) (Nat.le_of_ble_eq_true rfl)
  rw [lg_entry_eq]
  generalize (lg_sl ([.ref (ad 0), .int x1]) ++ List.replicate (4 - (lg_sl ([.ref (ad 0), .int x1])).length) Slot.unset).toArray = ls at hl ⊢
  have hl : lv_has ls 4 [(0, .ref (ad 0)), (1, .int x1)] := hl
  have hn_X2 : ∀ w ∈ u_ws RX2 TX2 11, w ∈ wsX6_cast := by decide +kernel
  have hn_X6 : ∀ w ∈ u_ws RX6 TX6 5, w ∈ wsX6_cast := by decide +kernel
  have hf_33 := hts (.fieldLink RX6 33 "TypeFlow" "operators" "LTypeFlow$Operators;") (by decide +kernel)
  have hf_99 := hts (.fieldLink RX6 99 "TypeFlow$Operators" "size" "I") (by decide +kernel)
  have hf_118 := hts (.fieldLink RX6 118 "TypeFlow$Operators" "risky" "[Z") (by decide +kernel)
  have j4 : ∀ n : Nat, ∀ (σ : tf_S) (y2 y3 : Int32) (H : Heap) (locs : List Loc) (ls : Array Slot), fX6_cast_4 x1 n σ y2 y3 = some z → tf_I D (tf_wx ad cI cZ) s.heap σ H locs → lv_has ls 4 [(0, .ref (ad 0)), (1, .int x1), (2, .int y2), (3, .int y3)] → W p l e (headSpec wsX6_cast ({ frames := 0, cells := 0, slots := 0, locals := 0 })).room s m ([.ref (ad 0), .int x1] : List Value).toArray below meth c H locs 0 0 (tf_Q below D (tf_wx ad cI cZ) z ([.ref (ad 0), .int x1] : List Value).toArray s) (F0 m 4 ls []) := by
    intro n
    induction n with
    | zero =>
      intro σ y2 y3 H locs ls h
      rw [fX6_cast_4] at h
      cases h
    | succ n ih =>
      intro σ y2 y3 H locs ls h hI hl
      rw [fX6_cast_4] at h
      refine lv_iload_n hx hb dX6_cast_4 rfl (lv_at hl 3 rfl) ?_
      refine lv_aload_n hx hb dX6_cast_5 rfl (lv_at hl 0 rfl) ?_
      refine tf_get (C := RX6) (T := TX6) (N := 5) hx hb hts hn_X6 hown hK hI 0 (tf_xat_0 ad cI cZ _) rfl 3 (by decide) hf_33 rfl rfl dX6_cast_6 ?_
      refine tf_get (C := RX2) (T := TX2) (N := 11) hx hb hts hn_X2 hown hK hI 4 (tf_xat_4 ad cI cZ _) rfl 0 (by decide) hf_99 rfl rfl dX6_cast_9 ?_
      refine lv_icmp_ge (tgt := 43) hx hb dX6_cast_12 (by decide) (fun c1 => ?_) (fun c1 => ?_)
      · replace h := tf_pos c1 h
        refine lv_iconst (v := -1) hx hb dX6_cast_43 (by decide +kernel) ?_
        exact tf_iret hx hb hr hI h dX6_cast_44 hlocks
      replace h := tf_neg c1 h
      refine lv_aload_n hx hb dX6_cast_15 rfl (lv_at hl 0 rfl) ?_
      refine tf_get (C := RX6) (T := TX6) (N := 5) hx hb hts hn_X6 hown hK hI 0 (tf_xat_0 ad cI cZ _) rfl 3 (by decide) hf_33 rfl rfl dX6_cast_16 ?_
      refine tf_get (C := RX2) (T := TX2) (N := 11) hx hb hts hn_X2 hown hK hI 4 (tf_xat_4 ad cI cZ _) rfl 9 (by decide) hf_118 rfl rfl dX6_cast_19 ?_
      refine lv_iload_n hx hb dX6_cast_22 rfl (lv_at hl 3 rfl) ?_
      obtain ⟨b2, h⟩ := tf_gin h
      refine va_zald hx hb hK hI.1 29 1 (tf_xat_29 ad cI cZ _) rfl b2 dX6_cast_23 ?_
      refine lv_if_eq (tgt := 37) hx hb dX6_cast_24 (by decide) (fun c3 => ?_) (fun c3 => ?_)
      · replace h := tf_pos c3 h
        obtain ⟨v4, ev4, h⟩ := tf_glet h
        refine lv_iinc (v := v4) (lv' := [(3, .int v4), (0, .ref (ad 0)), (1, .int x1), (2, .int y2)]) hx hb dX6_cast_37 hl (k := 3) rfl (by rw [ev4]; rfl) (by decide) rfl (fun ls hl => ?_)
        refine lv_goto (tgt := 4) hx hb dX6_cast_40 (by decide) ?_
        exact ih _ _ _ _ _ _ h hI (lv_sub hl [1, 2, 3, 0] rfl)
      replace h := tf_neg c3 h
      refine lv_iload_n hx hb dX6_cast_27 rfl (lv_at hl 2 rfl) ?_
      refine lv_iload_n hx hb dX6_cast_28 rfl (lv_at hl 1 rfl) ?_
      refine lv_icmp_ne (tgt := 34) hx hb dX6_cast_29 (by decide) (fun c5 => ?_) (fun c5 => ?_)
      · replace h := tf_neg c5 h
        obtain ⟨v6, ev6, h⟩ := tf_glet h
        refine lv_iinc (v := v6) (lv' := [(2, .int v6), (0, .ref (ad 0)), (1, .int x1), (3, .int y3)]) hx hb dX6_cast_34 hl (k := 2) rfl (by rw [ev6]; rfl) (by decide) rfl (fun ls hl => ?_)
        obtain ⟨v7, ev7, h⟩ := tf_glet h
        refine lv_iinc (v := v7) (lv' := [(3, .int v7), (2, .int v6), (0, .ref (ad 0)), (1, .int x1)]) hx hb dX6_cast_37 hl (k := 3) rfl (by rw [ev7]; rfl) (by decide) rfl (fun ls hl => ?_)
        refine lv_goto (tgt := 4) hx hb dX6_cast_40 (by decide) ?_
        exact ih _ _ _ _ _ _ h hI (lv_sub hl [2, 3, 1, 0] rfl)
      replace h := tf_pos c5 h
      refine lv_iload_n hx hb dX6_cast_32 rfl (lv_at hl 3 rfl) ?_
      exact tf_iret hx hb hr hI h dX6_cast_33 hlocks
  unfold fX6_cast at h
  refine lv_iconst (v := 0) hx hb dX6_cast_0 (by decide +kernel) ?_
  refine lv_istore_n (lv' := [(2, .int (0 : Int32)), (0, .ref (ad 0)), (1, .int x1)]) hx hb dX6_cast_1 rfl hl (by decide) rfl (fun ls hl => ?_)
  refine lv_iconst (v := 0) hx hb dX6_cast_2 (by decide +kernel) ?_
  refine lv_istore_n (lv' := [(3, .int (0 : Int32)), (2, .int (0 : Int32)), (0, .ref (ad 0)), (1, .int x1)]) hx hb dX6_cast_3 rfl hl (by decide) rfl (fun ls hl => ?_)
  exact j4  _ _ _ _ _ _ _ h hI (lv_sub hl [2, 3, 1, 0] rfl)

set_option maxHeartbeats 4000000 in
set_option maxRecDepth 100000 in
theorem kX_X6_boundTo (l : Launch) (D : va_G) (ad : Nat → Nat) (cI cZ : ClassId) (σ : tf_S) (x1 x2 : Int32) (z : Int32 × tf_S) (h : fX6_boundTo σ x1 x2 = some z) : tf_C l D (tf_wx ad cI cZ) [(cI, .int), (cZ, .boolean)] tf_nest yX6_boundTo wsX6_boundTo ({ frames := 1, cells := 0, slots := 0, locals := 21 }) [.ref (ad 0), .int x1, .int x2] σ z := by
  intro sz
  refine Met.ofW (cc := cX6_boundTo) (maxL := 3) (ret := (some .int)) (by decide) rfl ?_
  intro p e s m args below meth c s₁ B hml hv
  obtain ⟨rfl, hsz, hP, hK, hN, hD0⟩ := hv
  have hx := B.exec
  have hb := B.bytes
  have hr := B.returns
  have hts := atoms_spec (ws := wsX6_boundTo) B.pre
  have hown : s.vm.findClass RX6 = some m.cls := findClass_of_methodNamed B.named
  have hlocks := B.notSynchronized
  subst hsz
  have hI := tf_start (D := D) (tf_x_ad ad cI cZ) hP hD0
  have hl := lv_entry ([.ref (ad 0), .int x1, .int x2]) (n := 3) (Nat.le_of_ble_eq_true rfl)
  rw [lg_entry_eq]
  generalize (lg_sl ([.ref (ad 0), .int x1, .int x2]) ++ List.replicate (3 - (lg_sl ([.ref (ad 0), .int x1, .int x2])).length) Slot.unset).toArray = ls at hl ⊢
  have hl : lv_has ls 3 [(0, .ref (ad 0)), (1, .int x1), (2, .int x2)] := hl
  have hn_X2 : ∀ w ∈ u_ws RX2 TX2 11, w ∈ wsX6_boundTo := by decide +kernel
  have hn_X6 : ∀ w ∈ u_ws RX6 TX6 5, w ∈ wsX6_boundTo := by decide +kernel
  have hf_33 := hts (.fieldLink RX6 33 "TypeFlow" "operators" "LTypeFlow$Operators;") (by decide +kernel)
  have hf_122 := hts (.fieldLink RX6 122 "TypeFlow$Operators" "bindings" "[I") (by decide +kernel)
  unfold fX6_boundTo at h
  refine lv_aload_n hx hb dX6_boundTo_0 rfl (lv_at hl 0 rfl) ?_
  refine tf_get (C := RX6) (T := TX6) (N := 5) hx hb hts hn_X6 hown hK hI 0 (tf_xat_0 ad cI cZ _) rfl 3 (by decide) hf_33 rfl rfl dX6_boundTo_1 ?_
  refine lv_iload_n hx hb dX6_boundTo_4 rfl (lv_at hl 1 rfl) ?_
  obtain ⟨u1, q2, h⟩ := tf_gbind h
  refine tf_callV (rest := []) ⟨hx, hb, hml, hown, hts⟩ hK hN hI (kX_X2_has l D ad cI cZ _ _ _ q2) (cwV 1 hts gX6_boundTo_X2_has rfl rfl rfl (by decide +kernel) ⟨Nat.le_of_ble_eq_true rfl, Nat.le_of_ble_eq_true rfl⟩) 4 2 (tf_xat_4 ad cI cZ _) rfl rfl hl.1 rfl (Nat.le_of_ble_eq_true rfl) dX6_boundTo_5 (fun H locs hI => ?_)
  refine lv_if_eq (tgt := 18) hx hb dX6_boundTo_8 (by decide) (fun c3 => ?_) (fun c3 => ?_)
  · replace h := tf_pos c3 h
    refine lv_bipush (v := -2) hx hb dX6_boundTo_18 (by decide +kernel) ?_
    exact tf_iret hx hb hr hI h dX6_boundTo_20 hlocks
  replace h := tf_neg c3 h
  refine lv_iload_n hx hb dX6_boundTo_11 rfl (lv_at hl 2 rfl) ?_
  obtain ⟨u4, q5, h⟩ := tf_gbind h
  refine tf_callS (rest := []) ⟨hx, hb, hml, hown, hts⟩ hK hN hI (kX_X6_isVariableNumber l D ad cI cZ _ _ _ q5) (va_cwS 1 hts gX6_boundTo_X6_isVariableNumber rfl rfl rfl (by decide +kernel) ⟨Nat.le_of_ble_eq_true rfl, Nat.le_of_ble_eq_true rfl⟩) rfl hl.1 rfl (Nat.le_of_ble_eq_true rfl) dX6_boundTo_12 (fun H locs hI => ?_)
  refine lv_if_ne (tgt := 21) hx hb dX6_boundTo_15 (by decide) (fun c6 => ?_) (fun c6 => ?_)
  · replace h := tf_neg c6 h
    refine lv_aload_n hx hb dX6_boundTo_21 rfl (lv_at hl 0 rfl) ?_
    refine tf_get (C := RX6) (T := TX6) (N := 5) hx hb hts hn_X6 hown hK hI 0 (tf_xat_0 ad cI cZ _) rfl 3 (by decide) hf_33 rfl rfl dX6_boundTo_22 ?_
    refine tf_get (C := RX2) (T := TX2) (N := 11) hx hb hts hn_X2 hown hK hI 4 (tf_xat_4 ad cI cZ _) rfl 10 (by decide) hf_122 rfl rfl dX6_boundTo_25 ?_
    refine lv_iload_n hx hb dX6_boundTo_28 rfl (lv_at hl 1 rfl) ?_
    refine lv_iconst (v := 2) hx hb dX6_boundTo_29 (by decide +kernel) ?_
    refine lv_imul hx hb dX6_boundTo_30 ?_
    refine lv_iload_n hx hb dX6_boundTo_31 rfl (lv_at hl 2 rfl) ?_
    refine lv_iadd hx hb dX6_boundTo_32 ?_
    obtain ⟨b7, h⟩ := tf_gin h
    refine va_iald hx hb hK hI.1 30 0 (tf_xat_30 ad cI cZ _) rfl b7 dX6_boundTo_33 ?_
    exact tf_iret hx hb hr hI h dX6_boundTo_34 hlocks
  replace h := tf_pos c6 h
  refine lv_bipush (v := -2) hx hb dX6_boundTo_18 (by decide +kernel) ?_
  exact tf_iret hx hb hr hI h dX6_boundTo_20 hlocks

set_option maxHeartbeats 4000000 in
set_option maxRecDepth 100000 in
theorem kX_X6_goes (l : Launch) (D : va_G) (ad : Nat → Nat) (cI cZ : ClassId) (σ : tf_S) (x1 x2 : Int32) (z : Int32 × tf_S) (h : fX6_goes σ x1 x2 = some z) : tf_C l D (tf_wx ad cI cZ) [(cI, .int), (cZ, .boolean)] tf_nest yX6_goes wsX6_goes ({ frames := 4, cells := 0, slots := 0, locals := 99 }) [.ref (ad 0), .int x1, .int x2] σ z := by
  intro sz
  refine Met.ofW (cc := cX6_goes) (maxL := 3) (ret := (some .int)) (by decide) rfl ?_
  intro p e s m args below meth c s₁ B hml hv
  obtain ⟨rfl, hsz, hP, hK, hN, hD0⟩ := hv
  have hx := B.exec
  have hb := B.bytes
  have hr := B.returns
  have hts := atoms_spec (ws := wsX6_goes) B.pre
  have hown : s.vm.findClass RX6 = some m.cls := findClass_of_methodNamed B.named
  have hlocks := B.notSynchronized
  subst hsz
  have hI := tf_start (D := D) (tf_x_ad ad cI cZ) hP hD0
  have hl := lv_entry ([.ref (ad 0), .int x1, .int x2]) (n := 3) (Nat.le_of_ble_eq_true rfl)
  rw [lg_entry_eq]
  generalize (lg_sl ([.ref (ad 0), .int x1, .int x2]) ++ List.replicate (3 - (lg_sl ([.ref (ad 0), .int x1, .int x2])).length) Slot.unset).toArray = ls at hl ⊢
  have hl : lv_has ls 3 [(0, .ref (ad 0)), (1, .int x1), (2, .int x2)] := hl
  have hn_X6 : ∀ w ∈ u_ws RX6 TX6 5, w ∈ wsX6_goes := by decide +kernel
  have hf_10 := hts (.fieldLink RX6 10 "TypeFlow" "types" "LTypeFlow$Types;") (by decide +kernel)
  unfold fX6_goes at h
  refine lv_aload_n hx hb dX6_goes_0 rfl (lv_at hl 0 rfl) ?_
  refine tf_get (C := RX6) (T := TX6) (N := 5) hx hb hts hn_X6 hown hK hI 0 (tf_xat_0 ad cI cZ _) rfl 0 (by decide) hf_10 rfl rfl dX6_goes_1 ?_
  refine lv_iload_n hx hb dX6_goes_4 rfl (lv_at hl 1 rfl) ?_
  obtain ⟨u1, q2, h⟩ := tf_gbind h
  refine tf_callV (rest := []) ⟨hx, hb, hml, hown, hts⟩ hK hN hI (kX_X4_isClosed l D ad cI cZ _ _ _ q2) (cwV 1 hts gX6_goes_X4_isClosed rfl rfl rfl (by decide +kernel) ⟨Nat.le_of_ble_eq_true rfl, Nat.le_of_ble_eq_true rfl⟩) 1 4 (tf_xat_1 ad cI cZ _) rfl rfl hl.1 rfl (Nat.le_of_ble_eq_true rfl) dX6_goes_5 (fun H locs hI => ?_)
  refine lv_if_eq (tgt := 22) hx hb dX6_goes_8 (by decide) (fun c3 => ?_) (fun c3 => ?_)
  · replace h := tf_pos c3 h
    refine lv_bipush (v := -2) hx hb dX6_goes_22 (by decide +kernel) ?_
    exact tf_iret hx hb hr hI h dX6_goes_24 hlocks
  replace h := tf_neg c3 h
  refine lv_aload_n hx hb dX6_goes_11 rfl (lv_at hl 0 rfl) ?_
  refine tf_get (C := RX6) (T := TX6) (N := 5) hx hb hts hn_X6 hown hK hI 0 (tf_xat_0 ad cI cZ _) rfl 0 (by decide) hf_10 rfl rfl dX6_goes_12 ?_
  refine lv_iload_n hx hb dX6_goes_15 rfl (lv_at hl 2 rfl) ?_
  obtain ⟨u4, q5, h⟩ := tf_gbind h
  refine tf_callV (rest := []) ⟨hx, hb, hml, hown, hts⟩ hK hN hI (kX_X4_isClosed l D ad cI cZ _ _ _ q5) (cwV 1 hts gX6_goes_X4_isClosed rfl rfl rfl (by decide +kernel) ⟨Nat.le_of_ble_eq_true rfl, Nat.le_of_ble_eq_true rfl⟩) 1 4 (tf_xat_1 ad cI cZ _) rfl rfl hl.1 rfl (Nat.le_of_ble_eq_true rfl) dX6_goes_16 (fun H locs hI => ?_)
  refine lv_if_ne (tgt := 25) hx hb dX6_goes_19 (by decide) (fun c6 => ?_) (fun c6 => ?_)
  · replace h := tf_neg c6 h
    refine lv_aload_n hx hb dX6_goes_25 rfl (lv_at hl 0 rfl) ?_
    refine tf_get (C := RX6) (T := TX6) (N := 5) hx hb hts hn_X6 hown hK hI 0 (tf_xat_0 ad cI cZ _) rfl 0 (by decide) hf_10 rfl rfl dX6_goes_26 ?_
    refine lv_iload_n hx hb dX6_goes_29 rfl (lv_at hl 1 rfl) ?_
    refine lv_iload_n hx hb dX6_goes_30 rfl (lv_at hl 2 rfl) ?_
    obtain ⟨u7, q8, h⟩ := tf_gbind h
    refine tf_callV (rest := []) ⟨hx, hb, hml, hown, hts⟩ hK hN hI (kX_X4_goesFor l D ad cI cZ _ _ _ _ q8) (cwV 2 hts gX6_goes_X4_goesFor rfl rfl rfl (by decide +kernel) ⟨Nat.le_of_ble_eq_true rfl, Nat.le_of_ble_eq_true rfl⟩) 1 4 (tf_xat_1 ad cI cZ _) rfl rfl hl.1 rfl (Nat.le_of_ble_eq_true rfl) dX6_goes_31 (fun H locs hI => ?_)
    exact tf_iret hx hb hr hI h dX6_goes_34 hlocks
  replace h := tf_pos c6 h
  refine lv_bipush (v := -2) hx hb dX6_goes_22 (by decide +kernel) ?_
  exact tf_iret hx hb hr hI h dX6_goes_24 hlocks

set_option maxHeartbeats 4000000 in
set_option maxRecDepth 100000 in
theorem kX_X6_common (l : Launch) (D : va_G) (ad : Nat → Nat) (cI cZ : ClassId) (σ : tf_S) (x1 x2 : Int32) (z : Int32 × tf_S) (h : fX6_common σ x1 x2 = some z) : tf_C l D (tf_wx ad cI cZ) [(cI, .int), (cZ, .boolean)] tf_nest yX6_common wsX6_common ({ frames := 4, cells := 0, slots := 0, locals := 102 }) [.ref (ad 0), .int x1, .int x2] σ z := by
  intro sz
  refine Met.ofW (cc := cX6_common) (maxL := 3) (ret := (some .int)) (by decide) rfl ?_
  intro p e s m args below meth c s₁ B hml hv
  obtain ⟨rfl, hsz, hP, hK, hN, hD0⟩ := hv
  have hx := B.exec
  have hb := B.bytes
  have hr := B.returns
  have hts := atoms_spec (ws := wsX6_common) B.pre
  have hown : s.vm.findClass RX6 = some m.cls := findClass_of_methodNamed B.named
  have hlocks := B.notSynchronized
  subst hsz
  have hI := tf_start (D := D) (tf_x_ad ad cI cZ) hP hD0
  have hl := lv_entry ([.ref (ad 0), .int x1, .int x2]) (n := 3) (Nat.le_of_ble_eq_true rfl)
  rw [lg_entry_eq]
  generalize (lg_sl ([.ref (ad 0), .int x1, .int x2]) ++ List.replicate (3 - (lg_sl ([.ref (ad 0), .int x1, .int x2])).length) Slot.unset).toArray = ls at hl ⊢
  have hl : lv_has ls 3 [(0, .ref (ad 0)), (1, .int x1), (2, .int x2)] := hl
  have hn_X6 : ∀ w ∈ u_ws RX6 TX6 5, w ∈ wsX6_common := by decide +kernel
  have hf_10 := hts (.fieldLink RX6 10 "TypeFlow" "types" "LTypeFlow$Types;") (by decide +kernel)
  unfold fX6_common at h
  refine lv_aload_n hx hb dX6_common_0 rfl (lv_at hl 0 rfl) ?_
  refine tf_get (C := RX6) (T := TX6) (N := 5) hx hb hts hn_X6 hown hK hI 0 (tf_xat_0 ad cI cZ _) rfl 0 (by decide) hf_10 rfl rfl dX6_common_1 ?_
  refine lv_iload_n hx hb dX6_common_4 rfl (lv_at hl 1 rfl) ?_
  obtain ⟨u1, q2, h⟩ := tf_gbind h
  refine tf_callV (rest := []) ⟨hx, hb, hml, hown, hts⟩ hK hN hI (kX_X4_isClosed l D ad cI cZ _ _ _ q2) (cwV 1 hts gX6_common_X4_isClosed rfl rfl rfl (by decide +kernel) ⟨Nat.le_of_ble_eq_true rfl, Nat.le_of_ble_eq_true rfl⟩) 1 4 (tf_xat_1 ad cI cZ _) rfl rfl hl.1 rfl (Nat.le_of_ble_eq_true rfl) dX6_common_5 (fun H locs hI => ?_)
  refine lv_if_eq (tgt := 22) hx hb dX6_common_8 (by decide) (fun c3 => ?_) (fun c3 => ?_)
  · replace h := tf_pos c3 h
    refine lv_bipush (v := -2) hx hb dX6_common_22 (by decide +kernel) ?_
    exact tf_iret hx hb hr hI h dX6_common_24 hlocks
  replace h := tf_neg c3 h
  refine lv_aload_n hx hb dX6_common_11 rfl (lv_at hl 0 rfl) ?_
  refine tf_get (C := RX6) (T := TX6) (N := 5) hx hb hts hn_X6 hown hK hI 0 (tf_xat_0 ad cI cZ _) rfl 0 (by decide) hf_10 rfl rfl dX6_common_12 ?_
  refine lv_iload_n hx hb dX6_common_15 rfl (lv_at hl 2 rfl) ?_
  obtain ⟨u4, q5, h⟩ := tf_gbind h
  refine tf_callV (rest := []) ⟨hx, hb, hml, hown, hts⟩ hK hN hI (kX_X4_isClosed l D ad cI cZ _ _ _ q5) (cwV 1 hts gX6_common_X4_isClosed rfl rfl rfl (by decide +kernel) ⟨Nat.le_of_ble_eq_true rfl, Nat.le_of_ble_eq_true rfl⟩) 1 4 (tf_xat_1 ad cI cZ _) rfl rfl hl.1 rfl (Nat.le_of_ble_eq_true rfl) dX6_common_16 (fun H locs hI => ?_)
  refine lv_if_ne (tgt := 25) hx hb dX6_common_19 (by decide) (fun c6 => ?_) (fun c6 => ?_)
  · replace h := tf_neg c6 h
    refine lv_aload_n hx hb dX6_common_25 rfl (lv_at hl 0 rfl) ?_
    refine tf_get (C := RX6) (T := TX6) (N := 5) hx hb hts hn_X6 hown hK hI 0 (tf_xat_0 ad cI cZ _) rfl 0 (by decide) hf_10 rfl rfl dX6_common_26 ?_
    refine lv_iload_n hx hb dX6_common_29 rfl (lv_at hl 1 rfl) ?_
    refine lv_iload_n hx hb dX6_common_30 rfl (lv_at hl 2 rfl) ?_
    obtain ⟨u7, q8, h⟩ := tf_gbind h
    refine tf_callV (rest := []) ⟨hx, hb, hml, hown, hts⟩ hK hN hI (kX_X4_commonOf l D ad cI cZ _ _ _ _ q8) (cwV 2 hts gX6_common_X4_commonOf rfl rfl rfl (by decide +kernel) ⟨Nat.le_of_ble_eq_true rfl, Nat.le_of_ble_eq_true rfl⟩) 1 4 (tf_xat_1 ad cI cZ _) rfl rfl hl.1 rfl (Nat.le_of_ble_eq_true rfl) dX6_common_31 (fun H locs hI => ?_)
    exact tf_iret hx hb hr hI h dX6_common_34 hlocks
  replace h := tf_pos c6 h
  refine lv_bipush (v := -2) hx hb dX6_common_22 (by decide +kernel) ?_
  exact tf_iret hx hb hr hI h dX6_common_24 hlocks

set_option maxHeartbeats 4000000 in
set_option maxRecDepth 100000 in
theorem kX_X6_seen (l : Launch) (D : va_G) (ad : Nat → Nat) (cI cZ : ClassId) (σ : tf_S) (x1 x2 : Int32) (z : Int32 × tf_S) (h : fX6_seen σ x1 x2 = some z) : tf_C l D (tf_wx ad cI cZ) [(cI, .int), (cZ, .boolean)] tf_nest yX6_seen wsX6_seen ({ frames := 3, cells := 0, slots := 0, locals := 76 }) [.ref (ad 0), .int x1, .int x2] σ z := by
  intro sz
  refine Met.ofW (cc := cX6_seen) (maxL := 3) (ret := (some .int)) (by decide) rfl ?_
  intro p e s m args below meth c s₁ B hml hv
  obtain ⟨rfl, hsz, hP, hK, hN, hD0⟩ := hv
  have hx := B.exec
  have hb := B.bytes
  have hr := B.returns
  have hts := atoms_spec (ws := wsX6_seen) B.pre
  have hown : s.vm.findClass RX6 = some m.cls := findClass_of_methodNamed B.named
  have hlocks := B.notSynchronized
  subst hsz
  have hI := tf_start (D := D) (tf_x_ad ad cI cZ) hP hD0
  have hl := lv_entry ([.ref (ad 0), .int x1, .int x2]) (n := 3) (Nat.le_of_ble_eq_true rfl)
  rw [lg_entry_eq]
  generalize (lg_sl ([.ref (ad 0), .int x1, .int x2]) ++ List.replicate (3 - (lg_sl ([.ref (ad 0), .int x1, .int x2])).length) Slot.unset).toArray = ls at hl ⊢
  have hl : lv_has ls 3 [(0, .ref (ad 0)), (1, .int x1), (2, .int x2)] := hl
  have hn_X6 : ∀ w ∈ u_ws RX6 TX6 5, w ∈ wsX6_seen := by decide +kernel
  have hf_10 := hts (.fieldLink RX6 10 "TypeFlow" "types" "LTypeFlow$Types;") (by decide +kernel)
  unfold fX6_seen at h
  refine lv_aload_n hx hb dX6_seen_0 rfl (lv_at hl 0 rfl) ?_
  refine tf_get (C := RX6) (T := TX6) (N := 5) hx hb hts hn_X6 hown hK hI 0 (tf_xat_0 ad cI cZ _) rfl 0 (by decide) hf_10 rfl rfl dX6_seen_1 ?_
  refine lv_iload_n hx hb dX6_seen_4 rfl (lv_at hl 1 rfl) ?_
  obtain ⟨u1, q2, h⟩ := tf_gbind h
  refine tf_callV (rest := []) ⟨hx, hb, hml, hown, hts⟩ hK hN hI (kX_X4_isClassType l D ad cI cZ _ _ _ q2) (cwV 1 hts gX6_seen_X4_isClassType rfl rfl rfl (by decide +kernel) ⟨Nat.le_of_ble_eq_true rfl, Nat.le_of_ble_eq_true rfl⟩) 1 4 (tf_xat_1 ad cI cZ _) rfl rfl hl.1 rfl (Nat.le_of_ble_eq_true rfl) dX6_seen_5 (fun H locs hI => ?_)
  refine lv_if_eq (tgt := 22) hx hb dX6_seen_8 (by decide) (fun c3 => ?_) (fun c3 => ?_)
  · replace h := tf_pos c3 h
    refine lv_bipush (v := -2) hx hb dX6_seen_22 (by decide +kernel) ?_
    exact tf_iret hx hb hr hI h dX6_seen_24 hlocks
  replace h := tf_neg c3 h
  refine lv_aload_n hx hb dX6_seen_11 rfl (lv_at hl 0 rfl) ?_
  refine tf_get (C := RX6) (T := TX6) (N := 5) hx hb hts hn_X6 hown hK hI 0 (tf_xat_0 ad cI cZ _) rfl 0 (by decide) hf_10 rfl rfl dX6_seen_12 ?_
  refine lv_iload_n hx hb dX6_seen_15 rfl (lv_at hl 2 rfl) ?_
  obtain ⟨u4, q5, h⟩ := tf_gbind h
  refine tf_callV (rest := []) ⟨hx, hb, hml, hown, hts⟩ hK hN hI (kX_X4_isClass l D ad cI cZ _ _ _ q5) (cwV 1 hts gX6_seen_X4_isClass rfl rfl rfl (by decide +kernel) ⟨Nat.le_of_ble_eq_true rfl, Nat.le_of_ble_eq_true rfl⟩) 1 4 (tf_xat_1 ad cI cZ _) rfl rfl hl.1 rfl (Nat.le_of_ble_eq_true rfl) dX6_seen_16 (fun H locs hI => ?_)
  refine lv_if_ne (tgt := 25) hx hb dX6_seen_19 (by decide) (fun c6 => ?_) (fun c6 => ?_)
  · replace h := tf_neg c6 h
    refine lv_aload_n hx hb dX6_seen_25 rfl (lv_at hl 0 rfl) ?_
    refine tf_get (C := RX6) (T := TX6) (N := 5) hx hb hts hn_X6 hown hK hI 0 (tf_xat_0 ad cI cZ _) rfl 0 (by decide) hf_10 rfl rfl dX6_seen_26 ?_
    refine lv_iload_n hx hb dX6_seen_29 rfl (lv_at hl 1 rfl) ?_
    refine lv_iload_n hx hb dX6_seen_30 rfl (lv_at hl 2 rfl) ?_
    obtain ⟨u7, q8, h⟩ := tf_gbind h
    refine tf_callV (rest := []) ⟨hx, hb, hml, hown, hts⟩ hK hN hI (kX_X4_seenAs l D ad cI cZ _ _ _ _ q8) (cwV 2 hts gX6_seen_X4_seenAs rfl rfl rfl (by decide +kernel) ⟨Nat.le_of_ble_eq_true rfl, Nat.le_of_ble_eq_true rfl⟩) 1 4 (tf_xat_1 ad cI cZ _) rfl rfl hl.1 rfl (Nat.le_of_ble_eq_true rfl) dX6_seen_31 (fun H locs hI => ?_)
    exact tf_iret hx hb hr hI h dX6_seen_34 hlocks
  replace h := tf_pos c6 h
  refine lv_bipush (v := -2) hx hb dX6_seen_22 (by decide +kernel) ?_
  exact tf_iret hx hb hr hI h dX6_seen_24 hlocks

set_option maxHeartbeats 4000000 in
set_option maxRecDepth 100000 in
theorem kX_X6_about (l : Launch) (D : va_G) (ad : Nat → Nat) (cI cZ : ClassId) (σ : tf_S) (x1 x2 : Int32) (z : Int32 × tf_S) (h : fX6_about σ x1 x2 = some z) : tf_C l D (tf_wx ad cI cZ) [(cI, .int), (cZ, .boolean)] tf_nest yX6_about wsX6_about ({ frames := 2, cells := 0, slots := 0, locals := 42 }) [.ref (ad 0), .int x1, .int x2] σ z := by
  intro sz
  refine Met.ofW (cc := cX6_about) (maxL := 3) (ret := (some .int)) (by decide) rfl ?_
  intro p e s m args below meth c s₁ B hml hv
  obtain ⟨rfl, hsz, hP, hK, hN, hD0⟩ := hv
  have hx := B.exec
  have hb := B.bytes
  have hr := B.returns
  have hts := atoms_spec (ws := wsX6_about) B.pre
  have hown : s.vm.findClass RX6 = some m.cls := findClass_of_methodNamed B.named
  have hlocks := B.notSynchronized
  subst hsz
  have hI := tf_start (D := D) (tf_x_ad ad cI cZ) hP hD0
  have hl := lv_entry ([.ref (ad 0), .int x1, .int x2]) (n := 3) (Nat.le_of_ble_eq_true rfl)
  rw [lg_entry_eq]
  generalize (lg_sl ([.ref (ad 0), .int x1, .int x2]) ++ List.replicate (3 - (lg_sl ([.ref (ad 0), .int x1, .int x2])).length) Slot.unset).toArray = ls at hl ⊢
  have hl : lv_has ls 3 [(0, .ref (ad 0)), (1, .int x1), (2, .int x2)] := hl
  have hn_X4 : ∀ w ∈ u_ws RX4 TX4 10, w ∈ wsX6_about := by decide +kernel
  have hn_X6 : ∀ w ∈ u_ws RX6 TX6 5, w ∈ wsX6_about := by decide +kernel
  have hf_10 := hts (.fieldLink RX6 10 "TypeFlow" "types" "LTypeFlow$Types;") (by decide +kernel)
  have hf_134 := hts (.fieldLink RX6 134 "TypeFlow$Types" "ofClass" "[I") (by decide +kernel)
  have hf_137 := hts (.fieldLink RX6 137 "TypeFlow$Types" "first" "[I") (by decide +kernel)
  have hf_140 := hts (.fieldLink RX6 140 "TypeFlow$Types" "second" "[I") (by decide +kernel)
  unfold fX6_about at h
  refine lv_aload_n hx hb dX6_about_0 rfl (lv_at hl 0 rfl) ?_
  refine tf_get (C := RX6) (T := TX6) (N := 5) hx hb hts hn_X6 hown hK hI 0 (tf_xat_0 ad cI cZ _) rfl 0 (by decide) hf_10 rfl rfl dX6_about_1 ?_
  refine lv_iload_n hx hb dX6_about_4 rfl (lv_at hl 1 rfl) ?_
  obtain ⟨u1, q2, h⟩ := tf_gbind h
  refine tf_callV (rest := []) ⟨hx, hb, hml, hown, hts⟩ hK hN hI (kX_X4_isType l D ad cI cZ _ _ _ q2) (cwV 1 hts gX6_about_X4_isType rfl rfl rfl (by decide +kernel) ⟨Nat.le_of_ble_eq_true rfl, Nat.le_of_ble_eq_true rfl⟩) 1 4 (tf_xat_1 ad cI cZ _) rfl rfl hl.1 rfl (Nat.le_of_ble_eq_true rfl) dX6_about_5 (fun H locs hI => ?_)
  refine lv_if_ne (tgt := 14) hx hb dX6_about_8 (by decide) (fun c3 => ?_) (fun c3 => ?_)
  · replace h := tf_neg c3 h
    refine lv_iload_n hx hb dX6_about_14 rfl (lv_at hl 2 rfl) ?_
    by_cases c4 : x2 = (0 : Int32)
    · replace h := tf_pos c4 h
      refine lv_tableIn (tgt := 44) (off := 29) hx hb dX6_about_15 (by rw [c4]; decide +kernel) (by rw [c4]; decide +kernel) (by rw [c4]; decide +kernel) (by decide) ?_
      refine lv_aload_n hx hb dX6_about_44 rfl (lv_at hl 0 rfl) ?_
      refine tf_get (C := RX6) (T := TX6) (N := 5) hx hb hts hn_X6 hown hK hI 0 (tf_xat_0 ad cI cZ _) rfl 0 (by decide) hf_10 rfl rfl dX6_about_45 ?_
      refine tf_get (C := RX4) (T := TX4) (N := 10) hx hb hts hn_X4 hown hK hI 1 (tf_xat_1 ad cI cZ _) rfl 4 (by decide) hf_134 rfl rfl dX6_about_48 ?_
      refine lv_iload_n hx hb dX6_about_51 rfl (lv_at hl 1 rfl) ?_
      obtain ⟨b5, h⟩ := tf_gin h
      refine va_iald hx hb hK hI.1 9 0 (tf_xat_9 ad cI cZ _) rfl b5 dX6_about_52 ?_
      exact tf_iret hx hb hr hI h dX6_about_53 hlocks
    replace h := tf_neg c4 h
    by_cases c6 : x2 = (1 : Int32)
    · replace h := tf_pos c6 h
      refine lv_tableIn (tgt := 54) (off := 39) hx hb dX6_about_15 (by rw [c6]; decide +kernel) (by rw [c6]; decide +kernel) (by rw [c6]; decide +kernel) (by decide) ?_
      refine lv_aload_n hx hb dX6_about_54 rfl (lv_at hl 0 rfl) ?_
      refine tf_get (C := RX6) (T := TX6) (N := 5) hx hb hts hn_X6 hown hK hI 0 (tf_xat_0 ad cI cZ _) rfl 0 (by decide) hf_10 rfl rfl dX6_about_55 ?_
      refine tf_get (C := RX4) (T := TX4) (N := 10) hx hb hts hn_X4 hown hK hI 1 (tf_xat_1 ad cI cZ _) rfl 5 (by decide) hf_137 rfl rfl dX6_about_58 ?_
      refine lv_iload_n hx hb dX6_about_61 rfl (lv_at hl 1 rfl) ?_
      obtain ⟨b7, h⟩ := tf_gin h
      refine va_iald hx hb hK hI.1 10 0 (tf_xat_10 ad cI cZ _) rfl b7 dX6_about_62 ?_
      exact tf_iret hx hb hr hI h dX6_about_63 hlocks
    replace h := tf_neg c6 h
    by_cases c8 : x2 = (2 : Int32)
    · replace h := tf_pos c8 h
      refine lv_tableIn (tgt := 64) (off := 49) hx hb dX6_about_15 (by rw [c8]; decide +kernel) (by rw [c8]; decide +kernel) (by rw [c8]; decide +kernel) (by decide) ?_
      refine lv_aload_n hx hb dX6_about_64 rfl (lv_at hl 0 rfl) ?_
      refine tf_get (C := RX6) (T := TX6) (N := 5) hx hb hts hn_X6 hown hK hI 0 (tf_xat_0 ad cI cZ _) rfl 0 (by decide) hf_10 rfl rfl dX6_about_65 ?_
      refine tf_get (C := RX4) (T := TX4) (N := 10) hx hb hts hn_X4 hown hK hI 1 (tf_xat_1 ad cI cZ _) rfl 6 (by decide) hf_140 rfl rfl dX6_about_68 ?_
      refine lv_iload_n hx hb dX6_about_71 rfl (lv_at hl 1 rfl) ?_
      obtain ⟨b9, h⟩ := tf_gin h
      refine va_iald hx hb hK hI.1 11 0 (tf_xat_11 ad cI cZ _) rfl b9 dX6_about_72 ?_
      exact tf_iret hx hb hr hI h dX6_about_73 hlocks
    replace h := tf_neg c8 h
    by_cases c10 : x2 = (3 : Int32)
    · replace h := tf_pos c10 h
      refine lv_tableIn (tgt := 74) (off := 59) hx hb dX6_about_15 (by rw [c10]; decide +kernel) (by rw [c10]; decide +kernel) (by rw [c10]; decide +kernel) (by decide) ?_
      refine lv_aload_n hx hb dX6_about_74 rfl (lv_at hl 0 rfl) ?_
      refine tf_get (C := RX6) (T := TX6) (N := 5) hx hb hts hn_X6 hown hK hI 0 (tf_xat_0 ad cI cZ _) rfl 0 (by decide) hf_10 rfl rfl dX6_about_75 ?_
      refine lv_iload_n hx hb dX6_about_78 rfl (lv_at hl 1 rfl) ?_
      obtain ⟨u11, q12, h⟩ := tf_gbind h
      refine tf_callV (rest := []) ⟨hx, hb, hml, hown, hts⟩ hK hN hI (kX_X4_isClosed l D ad cI cZ _ _ _ q12) (cwV 1 hts gX6_about_X4_isClosed rfl rfl rfl (by decide +kernel) ⟨Nat.le_of_ble_eq_true rfl, Nat.le_of_ble_eq_true rfl⟩) 1 4 (tf_xat_1 ad cI cZ _) rfl rfl hl.1 rfl (Nat.le_of_ble_eq_true rfl) dX6_about_79 (fun H locs hI => ?_)
      refine lv_if_eq (tgt := 89) hx hb dX6_about_82 (by decide) (fun c13 => ?_) (fun c13 => ?_)
      · replace h := tf_pos c13 h
        refine lv_iconst (v := 0) hx hb dX6_about_89 (by decide +kernel) ?_
        exact tf_iret hx hb hr hI h dX6_about_90 hlocks
      replace h := tf_neg c13 h
      refine lv_iconst (v := 1) hx hb dX6_about_85 (by decide +kernel) ?_
      refine lv_goto (tgt := 90) hx hb dX6_about_86 (by decide) ?_
      exact tf_iret hx hb hr hI h dX6_about_90 hlocks
    replace h := tf_neg c10 h
    refine lv_tableOut (tgt := 91) hx hb dX6_about_15 (by have ac4 := lv_neT c4 (a := 0) (by decide +kernel); have ac6 := lv_neT c6 (a := 1) (by decide +kernel); have ac8 := lv_neT c8 (a := 2) (by decide +kernel); have ac10 := lv_neT c10 (a := 3) (by decide +kernel); omega) (by decide) ?_
    refine lv_bipush (v := -2) hx hb dX6_about_91 (by decide +kernel) ?_
    exact tf_iret hx hb hr hI h dX6_about_93 hlocks
  replace h := tf_pos c3 h
  refine lv_bipush (v := -2) hx hb dX6_about_11 (by decide +kernel) ?_
  exact tf_iret hx hb hr hI h dX6_about_13 hlocks
end
section
set_option maxHeartbeats 4000000 in
set_option maxRecDepth 100000 in
theorem kX_X6_count (l : Launch) (D : va_G) (ad : Nat → Nat) (cI cZ : ClassId) (σ : tf_S) (x1 : Int32) (z : Int32 × tf_S) (h : fX6_count σ x1 = some z) : tf_C l D (tf_wx ad cI cZ) [(cI, .int), (cZ, .boolean)] tf_nest yX6_count wsX6_count ({ frames := 1, cells := 0, slots := 0, locals := 22 }) [.ref (ad 0), .int x1] σ z := by
  intro sz
  refine Met.ofW (cc := cX6_count) (maxL := 2) (ret := (some .int)) (by decide) rfl ?_
  intro p e s m args below meth c s₁ B hml hv
  obtain ⟨rfl, hsz, hP, hK, hN, hD0⟩ := hv
  have hx := B.exec
  have hb := B.bytes
  have hr := B.returns
  have hts := atoms_spec (ws := wsX6_count) B.pre
  have hown : s.vm.findClass RX6 = some m.cls := findClass_of_methodNamed B.named
  have hlocks := B.notSynchronized
  subst hsz
  have hI := tf_start (D := D) (tf_x_ad ad cI cZ) hP hD0
  have hl := lv_entry ([.ref (ad 0), .int x1]) (n := 2) (Nat.le_of_ble_eq_true rfl)
  rw [lg_entry_eq]
  generalize (lg_sl ([.ref (ad 0), .int x1]) ++ List.replicate (2 - (lg_sl ([.ref (ad 0), .int x1])).length) Slot.unset).toArray = ls at hl ⊢
  have hl : lv_has ls 2 [(0, .ref (ad 0)), (1, .int x1)] := hl
  have hn_X0 : ∀ w ∈ u_ws RX0 TX0 5, w ∈ wsX6_count := by decide +kernel
  have hn_X1 : ∀ w ∈ u_ws RX1 TX1 3, w ∈ wsX6_count := by decide +kernel
  have hn_X2 : ∀ w ∈ u_ws RX2 TX2 11, w ∈ wsX6_count := by decide +kernel
  have hn_X4 : ∀ w ∈ u_ws RX4 TX4 10, w ∈ wsX6_count := by decide +kernel
  have hn_X6 : ∀ w ∈ u_ws RX6 TX6 5, w ∈ wsX6_count := by decide +kernel
  have hf_10 := hts (.fieldLink RX6 10 "TypeFlow" "types" "LTypeFlow$Types;") (by decide +kernel)
  have hf_19 := hts (.fieldLink RX6 19 "TypeFlow" "members" "LTypeFlow$Members;") (by decide +kernel)
  have hf_26 := hts (.fieldLink RX6 26 "TypeFlow" "functions" "LTypeFlow$Functions;") (by decide +kernel)
  have hf_33 := hts (.fieldLink RX6 33 "TypeFlow" "operators" "LTypeFlow$Operators;") (by decide +kernel)
  have hf_99 := hts (.fieldLink RX6 99 "TypeFlow$Operators" "size" "I") (by decide +kernel)
  have hf_143 := hts (.fieldLink RX6 143 "TypeFlow$Types" "classes" "I") (by decide +kernel)
  have hf_146 := hts (.fieldLink RX6 146 "TypeFlow$Types" "size" "I") (by decide +kernel)
  have hf_147 := hts (.fieldLink RX6 147 "TypeFlow$Members" "size" "I") (by decide +kernel)
  have hf_148 := hts (.fieldLink RX6 148 "TypeFlow$Functions" "size" "I") (by decide +kernel)
  unfold fX6_count at h
  refine lv_iload_n hx hb dX6_count_0 rfl (lv_at hl 1 rfl) ?_
  by_cases c1 : x1 = (0 : Int32)
  · replace h := tf_pos c1 h
    refine lv_tableIn (tgt := 40) (off := 39) hx hb dX6_count_1 (by rw [c1]; decide +kernel) (by rw [c1]; decide +kernel) (by rw [c1]; decide +kernel) (by decide) ?_
    refine lv_aload_n hx hb dX6_count_40 rfl (lv_at hl 0 rfl) ?_
    refine tf_get (C := RX6) (T := TX6) (N := 5) hx hb hts hn_X6 hown hK hI 0 (tf_xat_0 ad cI cZ _) rfl 0 (by decide) hf_10 rfl rfl dX6_count_41 ?_
    refine tf_get (C := RX4) (T := TX4) (N := 10) hx hb hts hn_X4 hown hK hI 1 (tf_xat_1 ad cI cZ _) rfl 0 (by decide) hf_143 rfl rfl dX6_count_44 ?_
    exact tf_iret hx hb hr hI h dX6_count_47 hlocks
  replace h := tf_neg c1 h
  by_cases c2 : x1 = (1 : Int32)
  · replace h := tf_pos c2 h
    refine lv_tableIn (tgt := 48) (off := 47) hx hb dX6_count_1 (by rw [c2]; decide +kernel) (by rw [c2]; decide +kernel) (by rw [c2]; decide +kernel) (by decide) ?_
    refine lv_aload_n hx hb dX6_count_48 rfl (lv_at hl 0 rfl) ?_
    refine tf_get (C := RX6) (T := TX6) (N := 5) hx hb hts hn_X6 hown hK hI 0 (tf_xat_0 ad cI cZ _) rfl 0 (by decide) hf_10 rfl rfl dX6_count_49 ?_
    refine tf_get (C := RX4) (T := TX4) (N := 10) hx hb hts hn_X4 hown hK hI 1 (tf_xat_1 ad cI cZ _) rfl 3 (by decide) hf_146 rfl rfl dX6_count_52 ?_
    exact tf_iret hx hb hr hI h dX6_count_55 hlocks
  replace h := tf_neg c2 h
  by_cases c3 : x1 = (2 : Int32)
  · replace h := tf_pos c3 h
    refine lv_tableIn (tgt := 56) (off := 55) hx hb dX6_count_1 (by rw [c3]; decide +kernel) (by rw [c3]; decide +kernel) (by rw [c3]; decide +kernel) (by decide) ?_
    refine lv_aload_n hx hb dX6_count_56 rfl (lv_at hl 0 rfl) ?_
    refine tf_get (C := RX6) (T := TX6) (N := 5) hx hb hts hn_X6 hown hK hI 0 (tf_xat_0 ad cI cZ _) rfl 1 (by decide) hf_19 rfl rfl dX6_count_57 ?_
    refine tf_get (C := RX1) (T := TX1) (N := 3) hx hb hts hn_X1 hown hK hI 2 (tf_xat_2 ad cI cZ _) rfl 0 (by decide) hf_147 rfl rfl dX6_count_60 ?_
    exact tf_iret hx hb hr hI h dX6_count_63 hlocks
  replace h := tf_neg c3 h
  by_cases c4 : x1 = (3 : Int32)
  · replace h := tf_pos c4 h
    refine lv_tableIn (tgt := 64) (off := 63) hx hb dX6_count_1 (by rw [c4]; decide +kernel) (by rw [c4]; decide +kernel) (by rw [c4]; decide +kernel) (by decide) ?_
    refine lv_aload_n hx hb dX6_count_64 rfl (lv_at hl 0 rfl) ?_
    refine tf_get (C := RX6) (T := TX6) (N := 5) hx hb hts hn_X6 hown hK hI 0 (tf_xat_0 ad cI cZ _) rfl 2 (by decide) hf_26 rfl rfl dX6_count_65 ?_
    refine tf_get (C := RX0) (T := TX0) (N := 5) hx hb hts hn_X0 hown hK hI 3 (tf_xat_3 ad cI cZ _) rfl 0 (by decide) hf_148 rfl rfl dX6_count_68 ?_
    exact tf_iret hx hb hr hI h dX6_count_71 hlocks
  replace h := tf_neg c4 h
  by_cases c5 : x1 = (4 : Int32)
  · replace h := tf_pos c5 h
    refine lv_tableIn (tgt := 72) (off := 71) hx hb dX6_count_1 (by rw [c5]; decide +kernel) (by rw [c5]; decide +kernel) (by rw [c5]; decide +kernel) (by decide) ?_
    refine lv_aload_n hx hb dX6_count_72 rfl (lv_at hl 0 rfl) ?_
    refine tf_get (C := RX6) (T := TX6) (N := 5) hx hb hts hn_X6 hown hK hI 0 (tf_xat_0 ad cI cZ _) rfl 3 (by decide) hf_33 rfl rfl dX6_count_73 ?_
    refine tf_get (C := RX2) (T := TX2) (N := 11) hx hb hts hn_X2 hown hK hI 4 (tf_xat_4 ad cI cZ _) rfl 0 (by decide) hf_99 rfl rfl dX6_count_76 ?_
    exact tf_iret hx hb hr hI h dX6_count_79 hlocks
  replace h := tf_neg c5 h
  by_cases c6 : x1 = (5 : Int32)
  · replace h := tf_pos c6 h
    refine lv_tableIn (tgt := 80) (off := 79) hx hb dX6_count_1 (by rw [c6]; decide +kernel) (by rw [c6]; decide +kernel) (by rw [c6]; decide +kernel) (by decide) ?_
    refine lv_aload_n hx hb dX6_count_80 rfl (lv_at hl 0 rfl) ?_
    refine tf_get (C := RX6) (T := TX6) (N := 5) hx hb hts hn_X6 hown hK hI 0 (tf_xat_0 ad cI cZ _) rfl 3 (by decide) hf_33 rfl rfl dX6_count_81 ?_
    obtain ⟨u7, q8, h⟩ := tf_gbind h
    refine tf_callV (rest := []) ⟨hx, hb, hml, hown, hts⟩ hK hN hI (kX_X2_howManyRisky l D ad cI cZ _ _ q8) (cwV 0 hts gX6_count_X2_howManyRisky rfl rfl rfl (by decide +kernel) ⟨Nat.le_of_ble_eq_true rfl, Nat.le_of_ble_eq_true rfl⟩) 4 2 (tf_xat_4 ad cI cZ _) rfl rfl hl.1 rfl (Nat.le_of_ble_eq_true rfl) dX6_count_84 (fun H locs hI => ?_)
    exact tf_iret hx hb hr hI h dX6_count_87 hlocks
  replace h := tf_neg c6 h
  refine lv_tableOut (tgt := 88) hx hb dX6_count_1 (by have ac1 := lv_neT c1 (a := 0) (by decide +kernel); have ac2 := lv_neT c2 (a := 1) (by decide +kernel); have ac3 := lv_neT c3 (a := 2) (by decide +kernel); have ac4 := lv_neT c4 (a := 3) (by decide +kernel); have ac5 := lv_neT c5 (a := 4) (by decide +kernel); have ac6 := lv_neT c6 (a := 5) (by decide +kernel); omega) (by decide) ?_
  refine lv_bipush (v := -2) hx hb dX6_count_88 (by decide +kernel) ?_
  exact tf_iret hx hb hr hI h dX6_count_90 hlocks
end
