section
-- ===== PART A: goes FIRST, ahead of the names: the tables' words, and 'selects' of the private methods out of them =====
/-- a private method of a class that the tables say can be made, by its rows of tables_1 -/
def lw_okq (q : MethodName × Nat) : Prop := (q.1.cls ≠ "java/lang/invoke/MethodHandle" ∧ q.1.cls ≠ "java/lang/invoke/VarHandle") ∧ Cond.instantiable q.1.cls q.2 ∈ tables_1 ∧ Cond.privateMethod q.1 ∈ tables_1 ∧ Cond.instanceMethod q.1 ∈ tables_1
theorem lw_p0 : lw_okq (⟨"RefutationDesk$Search", "mark", "(I)V"⟩, 13) := ⟨⟨by decide +kernel, by decide +kernel⟩, List.mem_of_getElem? (i := 117) (by decide +kernel), List.mem_of_getElem? (i := 332) (by decide +kernel), List.mem_of_getElem? (i := 333) (by decide +kernel)⟩
theorem lw_p1 : lw_okq (⟨"java/lang/Throwable", "fillInStackTrace", "(I)Ljava/lang/Throwable;"⟩, 6) := ⟨⟨by decide +kernel, by decide +kernel⟩, List.mem_of_getElem? (i := 387) (by decide +kernel), List.mem_of_getElem? (i := 385) (by decide +kernel), List.mem_of_getElem? (i := 386) (by decide +kernel)⟩
theorem lw_p2 : lw_okq (⟨"RefutationDesk$Reader", "readPart", "(ZI)I"⟩, 13) := ⟨⟨by decide +kernel, by decide +kernel⟩, List.mem_of_getElem? (i := 30) (by decide +kernel), List.mem_of_getElem? (i := 443) (by decide +kernel), List.mem_of_getElem? (i := 444) (by decide +kernel)⟩
theorem lw_p3 : lw_okq (⟨"RefutationDesk$Reader", "look", "()C"⟩, 13) := ⟨⟨by decide +kernel, by decide +kernel⟩, List.mem_of_getElem? (i := 30) (by decide +kernel), List.mem_of_getElem? (i := 447) (by decide +kernel), List.mem_of_getElem? (i := 448) (by decide +kernel)⟩
theorem lw_p4 : lw_okq (⟨"RefutationDesk$Reader", "readAtom", "(Z)V"⟩, 13) := ⟨⟨by decide +kernel, by decide +kernel⟩, List.mem_of_getElem? (i := 30) (by decide +kernel), List.mem_of_getElem? (i := 451) (by decide +kernel), List.mem_of_getElem? (i := 452) (by decide +kernel)⟩
theorem lw_p5 : lw_okq (⟨"RefutationDesk$Reader", "refuse", "(I)I"⟩, 13) := ⟨⟨by decide +kernel, by decide +kernel⟩, List.mem_of_getElem? (i := 30) (by decide +kernel), List.mem_of_getElem? (i := 455) (by decide +kernel), List.mem_of_getElem? (i := 456) (by decide +kernel)⟩
theorem lw_p6 : lw_okq (⟨"RefutationDesk$Reader", "put", "(I)V"⟩, 13) := ⟨⟨by decide +kernel, by decide +kernel⟩, List.mem_of_getElem? (i := 30) (by decide +kernel), List.mem_of_getElem? (i := 460) (by decide +kernel), List.mem_of_getElem? (i := 461) (by decide +kernel)⟩
theorem lw_p7 : lw_okq (⟨"RefutationDesk$Reader", "readTerms", "(II)V"⟩, 13) := ⟨⟨by decide +kernel, by decide +kernel⟩, List.mem_of_getElem? (i := 30) (by decide +kernel), List.mem_of_getElem? (i := 464) (by decide +kernel), List.mem_of_getElem? (i := 465) (by decide +kernel)⟩
theorem lw_p8 : lw_okq (⟨"RefutationDesk$Reader", "readTerm", "(I)V"⟩, 13) := ⟨⟨by decide +kernel, by decide +kernel⟩, List.mem_of_getElem? (i := 30) (by decide +kernel), List.mem_of_getElem? (i := 468) (by decide +kernel), List.mem_of_getElem? (i := 469) (by decide +kernel)⟩
theorem lw_p9 : lw_okq (⟨"RefutationDesk$Reader", "readName", "(CC)I"⟩, 13) := ⟨⟨by decide +kernel, by decide +kernel⟩, List.mem_of_getElem? (i := 30) (by decide +kernel), List.mem_of_getElem? (i := 472) (by decide +kernel), List.mem_of_getElem? (i := 473) (by decide +kernel)⟩
theorem lw_p10 : lw_okq (⟨"RefutationDesk$Reader", "putVariable", "(II)V"⟩, 13) := ⟨⟨by decide +kernel, by decide +kernel⟩, List.mem_of_getElem? (i := 30) (by decide +kernel), List.mem_of_getElem? (i := 476) (by decide +kernel), List.mem_of_getElem? (i := 477) (by decide +kernel)⟩
theorem lw_p11 : lw_okq (⟨"RefutationDesk$Reader", "readMade", "()I"⟩, 13) := ⟨⟨by decide +kernel, by decide +kernel⟩, List.mem_of_getElem? (i := 30) (by decide +kernel), List.mem_of_getElem? (i := 481) (by decide +kernel), List.mem_of_getElem? (i := 482) (by decide +kernel)⟩
theorem lw_p12 : lw_okq (⟨"RefutationDesk$Tree", "addNode", "(III)I"⟩, 8) := ⟨⟨by decide +kernel, by decide +kernel⟩, List.mem_of_getElem? (i := 36) (by decide +kernel), List.mem_of_getElem? (i := 489) (by decide +kernel), List.mem_of_getElem? (i := 490) (by decide +kernel)⟩
theorem lw_p13 : lw_okq (⟨"RefutationDesk$Reader", "readPair", "(CZI)I"⟩, 13) := ⟨⟨by decide +kernel, by decide +kernel⟩, List.mem_of_getElem? (i := 30) (by decide +kernel), List.mem_of_getElem? (i := 493) (by decide +kernel), List.mem_of_getElem? (i := 494) (by decide +kernel)⟩
theorem lw_p14 : lw_okq (⟨"RefutationDesk$Reader", "readBound", "(ZZI)I"⟩, 13) := ⟨⟨by decide +kernel, by decide +kernel⟩, List.mem_of_getElem? (i := 30) (by decide +kernel), List.mem_of_getElem? (i := 510) (by decide +kernel), List.mem_of_getElem? (i := 511) (by decide +kernel)⟩
theorem lw_p15 : lw_okq (⟨"RefutationDesk$Reader", "variablesAround", "()I"⟩, 13) := ⟨⟨by decide +kernel, by decide +kernel⟩, List.mem_of_getElem? (i := 30) (by decide +kernel), List.mem_of_getElem? (i := 515) (by decide +kernel), List.mem_of_getElem? (i := 516) (by decide +kernel)⟩
def lw_privs_1 : List (MethodName × Nat) := [(⟨"RefutationDesk$Search", "mark", "(I)V"⟩, 13), (⟨"java/lang/Throwable", "fillInStackTrace", "(I)Ljava/lang/Throwable;"⟩, 6), (⟨"RefutationDesk$Reader", "readPart", "(ZI)I"⟩, 13), (⟨"RefutationDesk$Reader", "look", "()C"⟩, 13), (⟨"RefutationDesk$Reader", "readAtom", "(Z)V"⟩, 13), (⟨"RefutationDesk$Reader", "refuse", "(I)I"⟩, 13), (⟨"RefutationDesk$Reader", "put", "(I)V"⟩, 13), (⟨"RefutationDesk$Reader", "readTerms", "(II)V"⟩, 13), (⟨"RefutationDesk$Reader", "readTerm", "(I)V"⟩, 13), (⟨"RefutationDesk$Reader", "readName", "(CC)I"⟩, 13), (⟨"RefutationDesk$Reader", "putVariable", "(II)V"⟩, 13), (⟨"RefutationDesk$Reader", "readMade", "()I"⟩, 13), (⟨"RefutationDesk$Tree", "addNode", "(III)I"⟩, 8), (⟨"RefutationDesk$Reader", "readPair", "(CZI)I"⟩, 13), (⟨"RefutationDesk$Reader", "readBound", "(ZZI)I"⟩, 13), (⟨"RefutationDesk$Reader", "variablesAround", "()I"⟩, 13)]
theorem lw_r1 : ∀ q ∈ lw_privs_1, lw_okq q := List.forall_mem_cons.mpr ⟨lw_p0, List.forall_mem_cons.mpr ⟨lw_p1, List.forall_mem_cons.mpr ⟨lw_p2, List.forall_mem_cons.mpr ⟨lw_p3, List.forall_mem_cons.mpr ⟨lw_p4, List.forall_mem_cons.mpr ⟨lw_p5, List.forall_mem_cons.mpr ⟨lw_p6, List.forall_mem_cons.mpr ⟨lw_p7, List.forall_mem_cons.mpr ⟨lw_p8, List.forall_mem_cons.mpr ⟨lw_p9, List.forall_mem_cons.mpr ⟨lw_p10, List.forall_mem_cons.mpr ⟨lw_p11, List.forall_mem_cons.mpr ⟨lw_p12, List.forall_mem_cons.mpr ⟨lw_p13, List.forall_mem_cons.mpr ⟨lw_p14, List.forall_mem_cons.mpr ⟨lw_p15, fun _ h => absurd h List.not_mem_nil⟩⟩⟩⟩⟩⟩⟩⟩⟩⟩⟩⟩⟩⟩⟩⟩
theorem lw_p16 : lw_okq (⟨"RefutationDesk$Tree", "putRowOf", "(IILRefutationDesk$Draft;I)V"⟩, 8) := ⟨⟨by decide +kernel, by decide +kernel⟩, List.mem_of_getElem? (i := 36) (by decide +kernel), List.mem_of_getElem? (i := 546) (by decide +kernel), List.mem_of_getElem? (i := 547) (by decide +kernel)⟩
theorem lw_p17 : lw_okq (⟨"RefutationDesk$Draft", "cameBefore", "()Z"⟩, 4) := ⟨⟨by decide +kernel, by decide +kernel⟩, List.mem_of_getElem? (i := 125) (by decide +kernel), List.mem_of_getElem? (i := 562) (by decide +kernel), List.mem_of_getElem? (i := 563) (by decide +kernel)⟩
theorem lw_p18 : lw_okq (⟨"RefutationDesk$Search", "takeIn", "(IIIII)V"⟩, 13) := ⟨⟨by decide +kernel, by decide +kernel⟩, List.mem_of_getElem? (i := 117) (by decide +kernel), List.mem_of_getElem? (i := 574) (by decide +kernel), List.mem_of_getElem? (i := 575) (by decide +kernel)⟩
theorem lw_p19 : lw_okq (⟨"RefutationDesk$Draft", "areOpposite", "(III)Z"⟩, 4) := ⟨⟨by decide +kernel, by decide +kernel⟩, List.mem_of_getElem? (i := 125) (by decide +kernel), List.mem_of_getElem? (i := 586) (by decide +kernel), List.mem_of_getElem? (i := 587) (by decide +kernel)⟩
theorem lw_p20 : lw_okq (⟨"RefutationDesk$Search", "isKnown", "()Z"⟩, 13) := ⟨⟨by decide +kernel, by decide +kernel⟩, List.mem_of_getElem? (i := 117) (by decide +kernel), List.mem_of_getElem? (i := 590) (by decide +kernel), List.mem_of_getElem? (i := 591) (by decide +kernel)⟩
theorem lw_p21 : lw_okq (⟨"RefutationDesk$Matcher", "forgetFrom", "(ILRefutationDesk$Clause;)V"⟩, 3) := ⟨⟨by decide +kernel, by decide +kernel⟩, List.mem_of_getElem? (i := 197) (by decide +kernel), List.mem_of_getElem? (i := 598) (by decide +kernel), List.mem_of_getElem? (i := 599) (by decide +kernel)⟩
theorem lw_p22 : lw_okq (⟨"RefutationDesk$Matcher", "liesOn", "(LRefutationDesk$Clause;ILRefutationDesk$Clause;I)Z"⟩, 3) := ⟨⟨by decide +kernel, by decide +kernel⟩, List.mem_of_getElem? (i := 197) (by decide +kernel), List.mem_of_getElem? (i := 602) (by decide +kernel), List.mem_of_getElem? (i := 603) (by decide +kernel)⟩
theorem lw_p23 : lw_okq (⟨"RefutationDesk$Search", "choose", "(Z)I"⟩, 13) := ⟨⟨by decide +kernel, by decide +kernel⟩, List.mem_of_getElem? (i := 117) (by decide +kernel), List.mem_of_getElem? (i := 667) (by decide +kernel), List.mem_of_getElem? (i := 668) (by decide +kernel)⟩
theorem lw_p24 : lw_okq (⟨"RefutationDesk$Search", "isCoveredByActive", "(I)Z"⟩, 13) := ⟨⟨by decide +kernel, by decide +kernel⟩, List.mem_of_getElem? (i := 117) (by decide +kernel), List.mem_of_getElem? (i := 671) (by decide +kernel), List.mem_of_getElem? (i := 672) (by decide +kernel)⟩
theorem lw_p25 : lw_okq (⟨"RefutationDesk$Search", "dropCovered", "(I)V"⟩, 13) := ⟨⟨by decide +kernel, by decide +kernel⟩, List.mem_of_getElem? (i := 117) (by decide +kernel), List.mem_of_getElem? (i := 675) (by decide +kernel), List.mem_of_getElem? (i := 676) (by decide +kernel)⟩
theorem lw_p26 : lw_okq (⟨"RefutationDesk$Search", "drawFactors", "(I)V"⟩, 13) := ⟨⟨by decide +kernel, by decide +kernel⟩, List.mem_of_getElem? (i := 117) (by decide +kernel), List.mem_of_getElem? (i := 679) (by decide +kernel), List.mem_of_getElem? (i := 680) (by decide +kernel)⟩
theorem lw_p27 : lw_okq (⟨"RefutationDesk$Search", "isOver", "()Z"⟩, 13) := ⟨⟨by decide +kernel, by decide +kernel⟩, List.mem_of_getElem? (i := 117) (by decide +kernel), List.mem_of_getElem? (i := 683) (by decide +kernel), List.mem_of_getElem? (i := 684) (by decide +kernel)⟩
theorem lw_p28 : lw_okq (⟨"RefutationDesk$Unifier", "load", "(LRefutationDesk$Clause;I)V"⟩, 2) := ⟨⟨by decide +kernel, by decide +kernel⟩, List.mem_of_getElem? (i := 184) (by decide +kernel), List.mem_of_getElem? (i := 691) (by decide +kernel), List.mem_of_getElem? (i := 692) (by decide +kernel)⟩
theorem lw_p29 : lw_okq (⟨"RefutationDesk$Unifier", "areAlike", "(III)Z"⟩, 2) := ⟨⟨by decide +kernel, by decide +kernel⟩, List.mem_of_getElem? (i := 184) (by decide +kernel), List.mem_of_getElem? (i := 696) (by decide +kernel), List.mem_of_getElem? (i := 697) (by decide +kernel)⟩
theorem lw_p30 : lw_okq (⟨"RefutationDesk$Unifier", "settle", "(I)I"⟩, 2) := ⟨⟨by decide +kernel, by decide +kernel⟩, List.mem_of_getElem? (i := 184) (by decide +kernel), List.mem_of_getElem? (i := 700) (by decide +kernel), List.mem_of_getElem? (i := 701) (by decide +kernel)⟩
theorem lw_p31 : lw_okq (⟨"RefutationDesk$Unifier", "hasVariable", "(III)Z"⟩, 2) := ⟨⟨by decide +kernel, by decide +kernel⟩, List.mem_of_getElem? (i := 184) (by decide +kernel), List.mem_of_getElem? (i := 704) (by decide +kernel), List.mem_of_getElem? (i := 705) (by decide +kernel)⟩
def lw_privs_2 : List (MethodName × Nat) := [(⟨"RefutationDesk$Tree", "putRowOf", "(IILRefutationDesk$Draft;I)V"⟩, 8), (⟨"RefutationDesk$Draft", "cameBefore", "()Z"⟩, 4), (⟨"RefutationDesk$Search", "takeIn", "(IIIII)V"⟩, 13), (⟨"RefutationDesk$Draft", "areOpposite", "(III)Z"⟩, 4), (⟨"RefutationDesk$Search", "isKnown", "()Z"⟩, 13), (⟨"RefutationDesk$Matcher", "forgetFrom", "(ILRefutationDesk$Clause;)V"⟩, 3), (⟨"RefutationDesk$Matcher", "liesOn", "(LRefutationDesk$Clause;ILRefutationDesk$Clause;I)Z"⟩, 3), (⟨"RefutationDesk$Search", "choose", "(Z)I"⟩, 13), (⟨"RefutationDesk$Search", "isCoveredByActive", "(I)Z"⟩, 13), (⟨"RefutationDesk$Search", "dropCovered", "(I)V"⟩, 13), (⟨"RefutationDesk$Search", "drawFactors", "(I)V"⟩, 13), (⟨"RefutationDesk$Search", "isOver", "()Z"⟩, 13), (⟨"RefutationDesk$Unifier", "load", "(LRefutationDesk$Clause;I)V"⟩, 2), (⟨"RefutationDesk$Unifier", "areAlike", "(III)Z"⟩, 2), (⟨"RefutationDesk$Unifier", "settle", "(I)I"⟩, 2), (⟨"RefutationDesk$Unifier", "hasVariable", "(III)Z"⟩, 2)]
theorem lw_r2 : ∀ q ∈ lw_privs_2, lw_okq q := List.forall_mem_cons.mpr ⟨lw_p16, List.forall_mem_cons.mpr ⟨lw_p17, List.forall_mem_cons.mpr ⟨lw_p18, List.forall_mem_cons.mpr ⟨lw_p19, List.forall_mem_cons.mpr ⟨lw_p20, List.forall_mem_cons.mpr ⟨lw_p21, List.forall_mem_cons.mpr ⟨lw_p22, List.forall_mem_cons.mpr ⟨lw_p23, List.forall_mem_cons.mpr ⟨lw_p24, List.forall_mem_cons.mpr ⟨lw_p25, List.forall_mem_cons.mpr ⟨lw_p26, List.forall_mem_cons.mpr ⟨lw_p27, List.forall_mem_cons.mpr ⟨lw_p28, List.forall_mem_cons.mpr ⟨lw_p29, List.forall_mem_cons.mpr ⟨lw_p30, List.forall_mem_cons.mpr ⟨lw_p31, fun _ h => absurd h List.not_mem_nil⟩⟩⟩⟩⟩⟩⟩⟩⟩⟩⟩⟩⟩⟩⟩⟩
theorem lw_p32 : lw_okq (⟨"RefutationDesk$Unifier", "putOthers", "(LRefutationDesk$Clause;IILRefutationDesk$Draft;)V"⟩, 2) := ⟨⟨by decide +kernel, by decide +kernel⟩, List.mem_of_getElem? (i := 184) (by decide +kernel), List.mem_of_getElem? (i := 710) (by decide +kernel), List.mem_of_getElem? (i := 711) (by decide +kernel)⟩
theorem lw_p33 : lw_okq (⟨"RefutationDesk$Unifier", "putTerm", "(ILRefutationDesk$Draft;I)V"⟩, 2) := ⟨⟨by decide +kernel, by decide +kernel⟩, List.mem_of_getElem? (i := 184) (by decide +kernel), List.mem_of_getElem? (i := 714) (by decide +kernel), List.mem_of_getElem? (i := 715) (by decide +kernel)⟩
theorem lw_p34 : lw_okq (⟨"RefutationDesk$Search", "drawResolvents", "(II)V"⟩, 13) := ⟨⟨by decide +kernel, by decide +kernel⟩, List.mem_of_getElem? (i := 117) (by decide +kernel), List.mem_of_getElem? (i := 721) (by decide +kernel), List.mem_of_getElem? (i := 722) (by decide +kernel)⟩
theorem lw_p35 : lw_okq (⟨"RefutationDesk$Printer", "put", "(C)V"⟩, 2) := ⟨⟨by decide +kernel, by decide +kernel⟩, List.mem_of_getElem? (i := 263) (by decide +kernel), List.mem_of_getElem? (i := 763) (by decide +kernel), List.mem_of_getElem? (i := 764) (by decide +kernel)⟩
theorem lw_p36 : lw_okq (⟨"RefutationDesk$Printer", "showTerm", "([III)V"⟩, 2) := ⟨⟨by decide +kernel, by decide +kernel⟩, List.mem_of_getElem? (i := 263) (by decide +kernel), List.mem_of_getElem? (i := 767) (by decide +kernel), List.mem_of_getElem? (i := 768) (by decide +kernel)⟩
theorem lw_p37 : lw_okq (⟨"RefutationDesk$Printer", "showName", "(I)V"⟩, 2) := ⟨⟨by decide +kernel, by decide +kernel⟩, List.mem_of_getElem? (i := 263) (by decide +kernel), List.mem_of_getElem? (i := 771) (by decide +kernel), List.mem_of_getElem? (i := 772) (by decide +kernel)⟩
theorem lw_p38 : lw_okq (⟨"RefutationDesk$Printer", "showNumber", "(I)V"⟩, 2) := ⟨⟨by decide +kernel, by decide +kernel⟩, List.mem_of_getElem? (i := 263) (by decide +kernel), List.mem_of_getElem? (i := 777) (by decide +kernel), List.mem_of_getElem? (i := 778) (by decide +kernel)⟩
theorem lw_p39 : lw_okq (⟨"RefutationDesk$Reader", "readLiterals", "(LRefutationDesk$Draft;)V"⟩, 13) := ⟨⟨by decide +kernel, by decide +kernel⟩, List.mem_of_getElem? (i := 30) (by decide +kernel), List.mem_of_getElem? (i := 817) (by decide +kernel), List.mem_of_getElem? (i := 818) (by decide +kernel)⟩
theorem lw_p40 : lw_okq (⟨"RefutationDesk", "hasGround", "(IIII)Z"⟩, 7) := ⟨⟨by decide +kernel, by decide +kernel⟩, List.mem_of_getElem? (i := 22) (by decide +kernel), List.mem_of_getElem? (i := 823) (by decide +kernel), List.mem_of_getElem? (i := 824) (by decide +kernel)⟩
theorem lw_p41 : lw_okq (⟨"RefutationDesk", "hasLiteral", "(II)Z"⟩, 7) := ⟨⟨by decide +kernel, by decide +kernel⟩, List.mem_of_getElem? (i := 22) (by decide +kernel), List.mem_of_getElem? (i := 827) (by decide +kernel), List.mem_of_getElem? (i := 828) (by decide +kernel)⟩
theorem lw_p42 : lw_okq (⟨"RefutationDesk", "groundOf", "(IIII)LRefutationDesk$Clause;"⟩, 7) := ⟨⟨by decide +kernel, by decide +kernel⟩, List.mem_of_getElem? (i := 22) (by decide +kernel), List.mem_of_getElem? (i := 832) (by decide +kernel), List.mem_of_getElem? (i := 833) (by decide +kernel)⟩
theorem lw_p43 : lw_okq (⟨"RefutationDeskModel", "begin", "()V"⟩, 59) := ⟨⟨by decide +kernel, by decide +kernel⟩, List.mem_of_getElem? (i := 847) (by decide +kernel), List.mem_of_getElem? (i := 1054) (by decide +kernel), List.mem_of_getElem? (i := 1055) (by decide +kernel)⟩
theorem lw_p44 : lw_okq (⟨"RefutationDeskModel", "unbind", "()V"⟩, 59) := ⟨⟨by decide +kernel, by decide +kernel⟩, List.mem_of_getElem? (i := 847) (by decide +kernel), List.mem_of_getElem? (i := 1058) (by decide +kernel), List.mem_of_getElem? (i := 1059) (by decide +kernel)⟩
theorem lw_p45 : lw_okq (⟨"RefutationDeskModel", "readFormula", "(Z)I"⟩, 59) := ⟨⟨by decide +kernel, by decide +kernel⟩, List.mem_of_getElem? (i := 847) (by decide +kernel), List.mem_of_getElem? (i := 1062) (by decide +kernel), List.mem_of_getElem? (i := 1063) (by decide +kernel)⟩
theorem lw_p46 : lw_okq (⟨"RefutationDeskModel", "seen", "()I"⟩, 59) := ⟨⟨by decide +kernel, by decide +kernel⟩, List.mem_of_getElem? (i := 847) (by decide +kernel), List.mem_of_getElem? (i := 1066) (by decide +kernel), List.mem_of_getElem? (i := 1067) (by decide +kernel)⟩
theorem lw_p47 : lw_okq (⟨"RefutationDeskModel", "readLiteral", "(Z)V"⟩, 59) := ⟨⟨by decide +kernel, by decide +kernel⟩, List.mem_of_getElem? (i := 847) (by decide +kernel), List.mem_of_getElem? (i := 1070) (by decide +kernel), List.mem_of_getElem? (i := 1071) (by decide +kernel)⟩
def lw_privs_3 : List (MethodName × Nat) := [(⟨"RefutationDesk$Unifier", "putOthers", "(LRefutationDesk$Clause;IILRefutationDesk$Draft;)V"⟩, 2), (⟨"RefutationDesk$Unifier", "putTerm", "(ILRefutationDesk$Draft;I)V"⟩, 2), (⟨"RefutationDesk$Search", "drawResolvents", "(II)V"⟩, 13), (⟨"RefutationDesk$Printer", "put", "(C)V"⟩, 2), (⟨"RefutationDesk$Printer", "showTerm", "([III)V"⟩, 2), (⟨"RefutationDesk$Printer", "showName", "(I)V"⟩, 2), (⟨"RefutationDesk$Printer", "showNumber", "(I)V"⟩, 2), (⟨"RefutationDesk$Reader", "readLiterals", "(LRefutationDesk$Draft;)V"⟩, 13), (⟨"RefutationDesk", "hasGround", "(IIII)Z"⟩, 7), (⟨"RefutationDesk", "hasLiteral", "(II)Z"⟩, 7), (⟨"RefutationDesk", "groundOf", "(IIII)LRefutationDesk$Clause;"⟩, 7), (⟨"RefutationDeskModel", "begin", "()V"⟩, 59), (⟨"RefutationDeskModel", "unbind", "()V"⟩, 59), (⟨"RefutationDeskModel", "readFormula", "(Z)I"⟩, 59), (⟨"RefutationDeskModel", "seen", "()I"⟩, 59), (⟨"RefutationDeskModel", "readLiteral", "(Z)V"⟩, 59)]
theorem lw_r3 : ∀ q ∈ lw_privs_3, lw_okq q := List.forall_mem_cons.mpr ⟨lw_p32, List.forall_mem_cons.mpr ⟨lw_p33, List.forall_mem_cons.mpr ⟨lw_p34, List.forall_mem_cons.mpr ⟨lw_p35, List.forall_mem_cons.mpr ⟨lw_p36, List.forall_mem_cons.mpr ⟨lw_p37, List.forall_mem_cons.mpr ⟨lw_p38, List.forall_mem_cons.mpr ⟨lw_p39, List.forall_mem_cons.mpr ⟨lw_p40, List.forall_mem_cons.mpr ⟨lw_p41, List.forall_mem_cons.mpr ⟨lw_p42, List.forall_mem_cons.mpr ⟨lw_p43, List.forall_mem_cons.mpr ⟨lw_p44, List.forall_mem_cons.mpr ⟨lw_p45, List.forall_mem_cons.mpr ⟨lw_p46, List.forall_mem_cons.mpr ⟨lw_p47, fun _ h => absurd h List.not_mem_nil⟩⟩⟩⟩⟩⟩⟩⟩⟩⟩⟩⟩⟩⟩⟩⟩
theorem lw_p48 : lw_okq (⟨"RefutationDeskModel", "isBetween", "(II)Z"⟩, 59) := ⟨⟨by decide +kernel, by decide +kernel⟩, List.mem_of_getElem? (i := 847) (by decide +kernel), List.mem_of_getElem? (i := 1074) (by decide +kernel), List.mem_of_getElem? (i := 1075) (by decide +kernel)⟩
theorem lw_p49 : lw_okq (⟨"RefutationDeskModel", "addCell", "(I)V"⟩, 59) := ⟨⟨by decide +kernel, by decide +kernel⟩, List.mem_of_getElem? (i := 847) (by decide +kernel), List.mem_of_getElem? (i := 1078) (by decide +kernel), List.mem_of_getElem? (i := 1079) (by decide +kernel)⟩
theorem lw_p50 : lw_okq (⟨"RefutationDeskModel", "readTerms", "()V"⟩, 59) := ⟨⟨by decide +kernel, by decide +kernel⟩, List.mem_of_getElem? (i := 847) (by decide +kernel), List.mem_of_getElem? (i := 1082) (by decide +kernel), List.mem_of_getElem? (i := 1083) (by decide +kernel)⟩
theorem lw_p51 : lw_okq (⟨"RefutationDeskModel", "readTerm", "(I)Z"⟩, 59) := ⟨⟨by decide +kernel, by decide +kernel⟩, List.mem_of_getElem? (i := 847) (by decide +kernel), List.mem_of_getElem? (i := 1086) (by decide +kernel), List.mem_of_getElem? (i := 1087) (by decide +kernel)⟩
theorem lw_p52 : lw_okq (⟨"RefutationDeskModel", "readVariable", "()V"⟩, 59) := ⟨⟨by decide +kernel, by decide +kernel⟩, List.mem_of_getElem? (i := 847) (by decide +kernel), List.mem_of_getElem? (i := 1090) (by decide +kernel), List.mem_of_getElem? (i := 1091) (by decide +kernel)⟩
theorem lw_p53 : lw_okq (⟨"RefutationDeskModel", "readName", "()I"⟩, 59) := ⟨⟨by decide +kernel, by decide +kernel⟩, List.mem_of_getElem? (i := 847) (by decide +kernel), List.mem_of_getElem? (i := 1094) (by decide +kernel), List.mem_of_getElem? (i := 1095) (by decide +kernel)⟩
theorem lw_p54 : lw_okq (⟨"RefutationDeskModel", "know", "(I)I"⟩, 59) := ⟨⟨by decide +kernel, by decide +kernel⟩, List.mem_of_getElem? (i := 847) (by decide +kernel), List.mem_of_getElem? (i := 1098) (by decide +kernel), List.mem_of_getElem? (i := 1099) (by decide +kernel)⟩
theorem lw_p55 : lw_okq (⟨"RefutationDeskModel", "readNew", "()I"⟩, 59) := ⟨⟨by decide +kernel, by decide +kernel⟩, List.mem_of_getElem? (i := 847) (by decide +kernel), List.mem_of_getElem? (i := 1102) (by decide +kernel), List.mem_of_getElem? (i := 1103) (by decide +kernel)⟩
theorem lw_p56 : lw_okq (⟨"RefutationDeskModel", "addRow", "(I)I"⟩, 59) := ⟨⟨by decide +kernel, by decide +kernel⟩, List.mem_of_getElem? (i := 847) (by decide +kernel), List.mem_of_getElem? (i := 1106) (by decide +kernel), List.mem_of_getElem? (i := 1107) (by decide +kernel)⟩
theorem lw_p57 : lw_okq (⟨"RefutationDeskModel", "closeSigns", "(II)I"⟩, 59) := ⟨⟨by decide +kernel, by decide +kernel⟩, List.mem_of_getElem? (i := 847) (by decide +kernel), List.mem_of_getElem? (i := 1110) (by decide +kernel), List.mem_of_getElem? (i := 1111) (by decide +kernel)⟩
theorem lw_p58 : lw_okq (⟨"RefutationDeskModel", "multiply", "(II)I"⟩, 59) := ⟨⟨by decide +kernel, by decide +kernel⟩, List.mem_of_getElem? (i := 847) (by decide +kernel), List.mem_of_getElem? (i := 1114) (by decide +kernel), List.mem_of_getElem? (i := 1115) (by decide +kernel)⟩
theorem lw_p59 : lw_okq (⟨"RefutationDeskModel", "isSign", "(I)Z"⟩, 59) := ⟨⟨by decide +kernel, by decide +kernel⟩, List.mem_of_getElem? (i := 847) (by decide +kernel), List.mem_of_getElem? (i := 1118) (by decide +kernel), List.mem_of_getElem? (i := 1119) (by decide +kernel)⟩
theorem lw_p60 : lw_okq (⟨"RefutationDeskModel", "readBound", "(Z)V"⟩, 59) := ⟨⟨by decide +kernel, by decide +kernel⟩, List.mem_of_getElem? (i := 847) (by decide +kernel), List.mem_of_getElem? (i := 1122) (by decide +kernel), List.mem_of_getElem? (i := 1123) (by decide +kernel)⟩
theorem lw_p61 : lw_okq (⟨"RefutationDeskModel", "invent", "(I)V"⟩, 59) := ⟨⟨by decide +kernel, by decide +kernel⟩, List.mem_of_getElem? (i := 847) (by decide +kernel), List.mem_of_getElem? (i := 1126) (by decide +kernel), List.mem_of_getElem? (i := 1127) (by decide +kernel)⟩
theorem lw_p62 : lw_okq (⟨"RefutationDeskModel", "takeIn", "(IIIII)Z"⟩, 59) := ⟨⟨by decide +kernel, by decide +kernel⟩, List.mem_of_getElem? (i := 847) (by decide +kernel), List.mem_of_getElem? (i := 1130) (by decide +kernel), List.mem_of_getElem? (i := 1131) (by decide +kernel)⟩
theorem lw_p63 : lw_okq (⟨"RefutationDeskModel", "make", "()Z"⟩, 59) := ⟨⟨by decide +kernel, by decide +kernel⟩, List.mem_of_getElem? (i := 847) (by decide +kernel), List.mem_of_getElem? (i := 1134) (by decide +kernel), List.mem_of_getElem? (i := 1135) (by decide +kernel)⟩
def lw_privs_4 : List (MethodName × Nat) := [(⟨"RefutationDeskModel", "isBetween", "(II)Z"⟩, 59), (⟨"RefutationDeskModel", "addCell", "(I)V"⟩, 59), (⟨"RefutationDeskModel", "readTerms", "()V"⟩, 59), (⟨"RefutationDeskModel", "readTerm", "(I)Z"⟩, 59), (⟨"RefutationDeskModel", "readVariable", "()V"⟩, 59), (⟨"RefutationDeskModel", "readName", "()I"⟩, 59), (⟨"RefutationDeskModel", "know", "(I)I"⟩, 59), (⟨"RefutationDeskModel", "readNew", "()I"⟩, 59), (⟨"RefutationDeskModel", "addRow", "(I)I"⟩, 59), (⟨"RefutationDeskModel", "closeSigns", "(II)I"⟩, 59), (⟨"RefutationDeskModel", "multiply", "(II)I"⟩, 59), (⟨"RefutationDeskModel", "isSign", "(I)Z"⟩, 59), (⟨"RefutationDeskModel", "readBound", "(Z)V"⟩, 59), (⟨"RefutationDeskModel", "invent", "(I)V"⟩, 59), (⟨"RefutationDeskModel", "takeIn", "(IIIII)Z"⟩, 59), (⟨"RefutationDeskModel", "make", "()Z"⟩, 59)]
theorem lw_r4 : ∀ q ∈ lw_privs_4, lw_okq q := List.forall_mem_cons.mpr ⟨lw_p48, List.forall_mem_cons.mpr ⟨lw_p49, List.forall_mem_cons.mpr ⟨lw_p50, List.forall_mem_cons.mpr ⟨lw_p51, List.forall_mem_cons.mpr ⟨lw_p52, List.forall_mem_cons.mpr ⟨lw_p53, List.forall_mem_cons.mpr ⟨lw_p54, List.forall_mem_cons.mpr ⟨lw_p55, List.forall_mem_cons.mpr ⟨lw_p56, List.forall_mem_cons.mpr ⟨lw_p57, List.forall_mem_cons.mpr ⟨lw_p58, List.forall_mem_cons.mpr ⟨lw_p59, List.forall_mem_cons.mpr ⟨lw_p60, List.forall_mem_cons.mpr ⟨lw_p61, List.forall_mem_cons.mpr ⟨lw_p62, List.forall_mem_cons.mpr ⟨lw_p63, fun _ h => absurd h List.not_mem_nil⟩⟩⟩⟩⟩⟩⟩⟩⟩⟩⟩⟩⟩⟩⟩⟩
theorem lw_p64 : lw_okq (⟨"RefutationDeskModel", "write", "(III)I"⟩, 59) := ⟨⟨by decide +kernel, by decide +kernel⟩, List.mem_of_getElem? (i := 847) (by decide +kernel), List.mem_of_getElem? (i := 1138) (by decide +kernel), List.mem_of_getElem? (i := 1139) (by decide +kernel)⟩
theorem lw_p65 : lw_okq (⟨"RefutationDeskModel", "meant", "(I)I"⟩, 59) := ⟨⟨by decide +kernel, by decide +kernel⟩, List.mem_of_getElem? (i := 847) (by decide +kernel), List.mem_of_getElem? (i := 1142) (by decide +kernel), List.mem_of_getElem? (i := 1143) (by decide +kernel)⟩
theorem lw_p66 : lw_okq (⟨"RefutationDeskModel", "termOf", "(II)I"⟩, 59) := ⟨⟨by decide +kernel, by decide +kernel⟩, List.mem_of_getElem? (i := 847) (by decide +kernel), List.mem_of_getElem? (i := 1152) (by decide +kernel), List.mem_of_getElem? (i := 1153) (by decide +kernel)⟩
theorem lw_p67 : lw_okq (⟨"RefutationDeskModel", "sameAtom", "(II)Z"⟩, 59) := ⟨⟨by decide +kernel, by decide +kernel⟩, List.mem_of_getElem? (i := 847) (by decide +kernel), List.mem_of_getElem? (i := 1159) (by decide +kernel), List.mem_of_getElem? (i := 1160) (by decide +kernel)⟩
theorem lw_p68 : lw_okq (⟨"RefutationDeskModel", "rename", "(II)V"⟩, 59) := ⟨⟨by decide +kernel, by decide +kernel⟩, List.mem_of_getElem? (i := 847) (by decide +kernel), List.mem_of_getElem? (i := 1163) (by decide +kernel), List.mem_of_getElem? (i := 1164) (by decide +kernel)⟩
theorem lw_p69 : lw_okq (⟨"RefutationDeskModel", "isTrue", "()Z"⟩, 59) := ⟨⟨by decide +kernel, by decide +kernel⟩, List.mem_of_getElem? (i := 847) (by decide +kernel), List.mem_of_getElem? (i := 1167) (by decide +kernel), List.mem_of_getElem? (i := 1168) (by decide +kernel)⟩
theorem lw_p70 : lw_okq (⟨"RefutationDeskModel", "isKnown", "()Z"⟩, 59) := ⟨⟨by decide +kernel, by decide +kernel⟩, List.mem_of_getElem? (i := 847) (by decide +kernel), List.mem_of_getElem? (i := 1171) (by decide +kernel), List.mem_of_getElem? (i := 1172) (by decide +kernel)⟩
theorem lw_p71 : lw_okq (⟨"RefutationDeskModel", "covers", "(II)Z"⟩, 59) := ⟨⟨by decide +kernel, by decide +kernel⟩, List.mem_of_getElem? (i := 847) (by decide +kernel), List.mem_of_getElem? (i := 1175) (by decide +kernel), List.mem_of_getElem? (i := 1176) (by decide +kernel)⟩
theorem lw_p72 : lw_okq (⟨"RefutationDeskModel", "matches", "(II)Z"⟩, 59) := ⟨⟨by decide +kernel, by decide +kernel⟩, List.mem_of_getElem? (i := 847) (by decide +kernel), List.mem_of_getElem? (i := 1179) (by decide +kernel), List.mem_of_getElem? (i := 1180) (by decide +kernel)⟩
theorem lw_p73 : lw_okq (⟨"RefutationDeskModel", "store", "(I)V"⟩, 59) := ⟨⟨by decide +kernel, by decide +kernel⟩, List.mem_of_getElem? (i := 847) (by decide +kernel), List.mem_of_getElem? (i := 1183) (by decide +kernel), List.mem_of_getElem? (i := 1184) (by decide +kernel)⟩
theorem lw_p74 : lw_okq (⟨"RefutationDeskModel", "stateNow", "()I"⟩, 59) := ⟨⟨by decide +kernel, by decide +kernel⟩, List.mem_of_getElem? (i := 847) (by decide +kernel), List.mem_of_getElem? (i := 1191) (by decide +kernel), List.mem_of_getElem? (i := 1192) (by decide +kernel)⟩
theorem lw_p75 : lw_okq (⟨"RefutationDeskModel", "countOf", "(I)I"⟩, 59) := ⟨⟨by decide +kernel, by decide +kernel⟩, List.mem_of_getElem? (i := 847) (by decide +kernel), List.mem_of_getElem? (i := 1195) (by decide +kernel), List.mem_of_getElem? (i := 1196) (by decide +kernel)⟩
theorem lw_p76 : lw_okq (⟨"RefutationDeskModel", "advance", "()I"⟩, 59) := ⟨⟨by decide +kernel, by decide +kernel⟩, List.mem_of_getElem? (i := 847) (by decide +kernel), List.mem_of_getElem? (i := 1203) (by decide +kernel), List.mem_of_getElem? (i := 1204) (by decide +kernel)⟩
theorem lw_p77 : lw_okq (⟨"RefutationDeskModel", "chosen", "()I"⟩, 59) := ⟨⟨by decide +kernel, by decide +kernel⟩, List.mem_of_getElem? (i := 847) (by decide +kernel), List.mem_of_getElem? (i := 1207) (by decide +kernel), List.mem_of_getElem? (i := 1208) (by decide +kernel)⟩
theorem lw_p78 : lw_okq (⟨"RefutationDeskModel", "isOver", "()Z"⟩, 59) := ⟨⟨by decide +kernel, by decide +kernel⟩, List.mem_of_getElem? (i := 847) (by decide +kernel), List.mem_of_getElem? (i := 1211) (by decide +kernel), List.mem_of_getElem? (i := 1212) (by decide +kernel)⟩
theorem lw_p79 : lw_okq (⟨"RefutationDeskModel", "hasFactor", "(III)Z"⟩, 59) := ⟨⟨by decide +kernel, by decide +kernel⟩, List.mem_of_getElem? (i := 847) (by decide +kernel), List.mem_of_getElem? (i := 1215) (by decide +kernel), List.mem_of_getElem? (i := 1216) (by decide +kernel)⟩
def lw_privs_5 : List (MethodName × Nat) := [(⟨"RefutationDeskModel", "write", "(III)I"⟩, 59), (⟨"RefutationDeskModel", "meant", "(I)I"⟩, 59), (⟨"RefutationDeskModel", "termOf", "(II)I"⟩, 59), (⟨"RefutationDeskModel", "sameAtom", "(II)Z"⟩, 59), (⟨"RefutationDeskModel", "rename", "(II)V"⟩, 59), (⟨"RefutationDeskModel", "isTrue", "()Z"⟩, 59), (⟨"RefutationDeskModel", "isKnown", "()Z"⟩, 59), (⟨"RefutationDeskModel", "covers", "(II)Z"⟩, 59), (⟨"RefutationDeskModel", "matches", "(II)Z"⟩, 59), (⟨"RefutationDeskModel", "store", "(I)V"⟩, 59), (⟨"RefutationDeskModel", "stateNow", "()I"⟩, 59), (⟨"RefutationDeskModel", "countOf", "(I)I"⟩, 59), (⟨"RefutationDeskModel", "advance", "()I"⟩, 59), (⟨"RefutationDeskModel", "chosen", "()I"⟩, 59), (⟨"RefutationDeskModel", "isOver", "()Z"⟩, 59), (⟨"RefutationDeskModel", "hasFactor", "(III)Z"⟩, 59)]
theorem lw_r5 : ∀ q ∈ lw_privs_5, lw_okq q := List.forall_mem_cons.mpr ⟨lw_p64, List.forall_mem_cons.mpr ⟨lw_p65, List.forall_mem_cons.mpr ⟨lw_p66, List.forall_mem_cons.mpr ⟨lw_p67, List.forall_mem_cons.mpr ⟨lw_p68, List.forall_mem_cons.mpr ⟨lw_p69, List.forall_mem_cons.mpr ⟨lw_p70, List.forall_mem_cons.mpr ⟨lw_p71, List.forall_mem_cons.mpr ⟨lw_p72, List.forall_mem_cons.mpr ⟨lw_p73, List.forall_mem_cons.mpr ⟨lw_p74, List.forall_mem_cons.mpr ⟨lw_p75, List.forall_mem_cons.mpr ⟨lw_p76, List.forall_mem_cons.mpr ⟨lw_p77, List.forall_mem_cons.mpr ⟨lw_p78, List.forall_mem_cons.mpr ⟨lw_p79, fun _ h => absurd h List.not_mem_nil⟩⟩⟩⟩⟩⟩⟩⟩⟩⟩⟩⟩⟩⟩⟩⟩
theorem lw_p80 : lw_okq (⟨"RefutationDeskModel", "lay", "(II)V"⟩, 59) := ⟨⟨by decide +kernel, by decide +kernel⟩, List.mem_of_getElem? (i := 847) (by decide +kernel), List.mem_of_getElem? (i := 1219) (by decide +kernel), List.mem_of_getElem? (i := 1220) (by decide +kernel)⟩
theorem lw_p81 : lw_okq (⟨"RefutationDeskModel", "list", "(III)V"⟩, 59) := ⟨⟨by decide +kernel, by decide +kernel⟩, List.mem_of_getElem? (i := 847) (by decide +kernel), List.mem_of_getElem? (i := 1223) (by decide +kernel), List.mem_of_getElem? (i := 1224) (by decide +kernel)⟩
theorem lw_p82 : lw_okq (⟨"RefutationDeskModel", "laid", "(III)I"⟩, 59) := ⟨⟨by decide +kernel, by decide +kernel⟩, List.mem_of_getElem? (i := 847) (by decide +kernel), List.mem_of_getElem? (i := 1227) (by decide +kernel), List.mem_of_getElem? (i := 1228) (by decide +kernel)⟩
theorem lw_p83 : lw_okq (⟨"RefutationDeskModel", "alike", "(II)Z"⟩, 59) := ⟨⟨by decide +kernel, by decide +kernel⟩, List.mem_of_getElem? (i := 847) (by decide +kernel), List.mem_of_getElem? (i := 1231) (by decide +kernel), List.mem_of_getElem? (i := 1232) (by decide +kernel)⟩
theorem lw_p84 : lw_okq (⟨"RefutationDeskModel", "occurs", "(II)Z"⟩, 59) := ⟨⟨by decide +kernel, by decide +kernel⟩, List.mem_of_getElem? (i := 847) (by decide +kernel), List.mem_of_getElem? (i := 1235) (by decide +kernel), List.mem_of_getElem? (i := 1236) (by decide +kernel)⟩
theorem lw_p85 : lw_okq (⟨"RefutationDeskModel", "hasResolvent", "(IIII)Z"⟩, 59) := ⟨⟨by decide +kernel, by decide +kernel⟩, List.mem_of_getElem? (i := 847) (by decide +kernel), List.mem_of_getElem? (i := 1239) (by decide +kernel), List.mem_of_getElem? (i := 1240) (by decide +kernel)⟩
theorem lw_p86 : lw_okq (⟨"RefutationDeskModel", "put", "(I)V"⟩, 59) := ⟨⟨by decide +kernel, by decide +kernel⟩, List.mem_of_getElem? (i := 847) (by decide +kernel), List.mem_of_getElem? (i := 1251) (by decide +kernel), List.mem_of_getElem? (i := 1252) (by decide +kernel)⟩
theorem lw_p87 : lw_okq (⟨"RefutationDeskModel", "putLiteral", "(I)V"⟩, 59) := ⟨⟨by decide +kernel, by decide +kernel⟩, List.mem_of_getElem? (i := 847) (by decide +kernel), List.mem_of_getElem? (i := 1255) (by decide +kernel), List.mem_of_getElem? (i := 1256) (by decide +kernel)⟩
theorem lw_p88 : lw_okq (⟨"RefutationDeskModel", "putCell", "(I)V"⟩, 59) := ⟨⟨by decide +kernel, by decide +kernel⟩, List.mem_of_getElem? (i := 847) (by decide +kernel), List.mem_of_getElem? (i := 1259) (by decide +kernel), List.mem_of_getElem? (i := 1260) (by decide +kernel)⟩
theorem lw_p89 : lw_okq (⟨"RefutationDeskModel", "putNumber", "(I)V"⟩, 59) := ⟨⟨by decide +kernel, by decide +kernel⟩, List.mem_of_getElem? (i := 847) (by decide +kernel), List.mem_of_getElem? (i := 1263) (by decide +kernel), List.mem_of_getElem? (i := 1264) (by decide +kernel)⟩
theorem lw_p90 : lw_okq (⟨"RefutationDeskModel", "isFound", "(IIII)Z"⟩, 59) := ⟨⟨by decide +kernel, by decide +kernel⟩, List.mem_of_getElem? (i := 847) (by decide +kernel), List.mem_of_getElem? (i := 1291) (by decide +kernel), List.mem_of_getElem? (i := 1292) (by decide +kernel)⟩
theorem lw_p91 : lw_okq (⟨"RefutationDeskModel", "isLine", "(I)Z"⟩, 59) := ⟨⟨by decide +kernel, by decide +kernel⟩, List.mem_of_getElem? (i := 847) (by decide +kernel), List.mem_of_getElem? (i := 1295) (by decide +kernel), List.mem_of_getElem? (i := 1296) (by decide +kernel)⟩
theorem lw_p92 : lw_okq (⟨"RefutationDeskModel", "comes", "(IIII)Z"⟩, 59) := ⟨⟨by decide +kernel, by decide +kernel⟩, List.mem_of_getElem? (i := 847) (by decide +kernel), List.mem_of_getElem? (i := 1299) (by decide +kernel), List.mem_of_getElem? (i := 1300) (by decide +kernel)⟩
def lw_privs_6 : List (MethodName × Nat) := [(⟨"RefutationDeskModel", "lay", "(II)V"⟩, 59), (⟨"RefutationDeskModel", "list", "(III)V"⟩, 59), (⟨"RefutationDeskModel", "laid", "(III)I"⟩, 59), (⟨"RefutationDeskModel", "alike", "(II)Z"⟩, 59), (⟨"RefutationDeskModel", "occurs", "(II)Z"⟩, 59), (⟨"RefutationDeskModel", "hasResolvent", "(IIII)Z"⟩, 59), (⟨"RefutationDeskModel", "put", "(I)V"⟩, 59), (⟨"RefutationDeskModel", "putLiteral", "(I)V"⟩, 59), (⟨"RefutationDeskModel", "putCell", "(I)V"⟩, 59), (⟨"RefutationDeskModel", "putNumber", "(I)V"⟩, 59), (⟨"RefutationDeskModel", "isFound", "(IIII)Z"⟩, 59), (⟨"RefutationDeskModel", "isLine", "(I)Z"⟩, 59), (⟨"RefutationDeskModel", "comes", "(IIII)Z"⟩, 59)]
theorem lw_r6 : ∀ q ∈ lw_privs_6, lw_okq q := List.forall_mem_cons.mpr ⟨lw_p80, List.forall_mem_cons.mpr ⟨lw_p81, List.forall_mem_cons.mpr ⟨lw_p82, List.forall_mem_cons.mpr ⟨lw_p83, List.forall_mem_cons.mpr ⟨lw_p84, List.forall_mem_cons.mpr ⟨lw_p85, List.forall_mem_cons.mpr ⟨lw_p86, List.forall_mem_cons.mpr ⟨lw_p87, List.forall_mem_cons.mpr ⟨lw_p88, List.forall_mem_cons.mpr ⟨lw_p89, List.forall_mem_cons.mpr ⟨lw_p90, List.forall_mem_cons.mpr ⟨lw_p91, List.forall_mem_cons.mpr ⟨lw_p92, fun _ h => absurd h List.not_mem_nil⟩⟩⟩⟩⟩⟩⟩⟩⟩⟩⟩⟩⟩
def lw_privs : List (MethodName × Nat) := lw_privs_1 ++ (lw_privs_2 ++ (lw_privs_3 ++ (lw_privs_4 ++ (lw_privs_5 ++ (lw_privs_6)))))
def lw_tbl : List Cond := k2_sels lw_privs ++ tables_1
theorem lw_privs_ok : ∀ q ∈ lw_privs, lw_okq q := by
  show ∀ q ∈ lw_privs_1 ++ (lw_privs_2 ++ (lw_privs_3 ++ (lw_privs_4 ++ (lw_privs_5 ++ (lw_privs_6))))), lw_okq q
  exact List.forall_mem_append.mpr ⟨lw_r1, List.forall_mem_append.mpr ⟨lw_r2, List.forall_mem_append.mpr ⟨lw_r3, List.forall_mem_append.mpr ⟨lw_r4, List.forall_mem_append.mpr ⟨lw_r5, lw_r6⟩⟩⟩⟩⟩
end
section
/-! A small machine of our own over a heap of our own. A cell is a tag and its values: tags below 50 are objects (the class's place in 'classes'), 50 + k arrays of kind k (0 int, 1 boolean, 2 char, 3 long, from 4 on references), 99 a hole (a cell of which nothing is said). A reference is counted from a base. -/
abbrev mn_C : Type := Nat × List Value
abbrev mn_H : Type := List mn_C
/-- what a place of the constant pool means: 1 field (class, slot, nest mate's), 2 class to make (and the kind of arrays of it), 3 exception class, 5 int, 6 long, 7 static method, 8 virtual method, 9 constructor, 10 Object's constructor, 11 arraycopy, 12 max, 13 min -/
abbrev mn_K : Type := Nat × Nat × Nat × Nat × Int
def mn_tr (b : Nat × Nat) (v : Value) : Value := match v with
  | .ref i => .ref (b.1 + i)
  | .retAddr _ => .ref b.2
  | w => w
def mn_i (o : Option Value) : Int32 := match o with
  | some (.int x) => x
  | _ => 0
def mn_l (o : Option Value) : Int64 := match o with
  | some (.long x) => x
  | _ => 0
def mn_r (b : Nat × Nat) (o : Option Value) : Option Nat := match o with
  | some (.ref i) => some (b.1 + i)
  | _ => none
def mn_E (aC : Nat → ClassId) (b : Nat × Nat) (c : mn_C) : va_E :=
  if c.1 < 50 then .inr (c.1, c.2.map (mn_tr b))
  else if c.1 < 53 then .inl (aC (c.1 - 50), c.2.length, .inl (fun i => mn_i c.2[i]?))
  else if c.1 < 54 then .inl (aC 3, c.2.length, .inr (.inl (fun i => mn_l c.2[i]?)))
  else .inl (aC (c.1 - 50), c.2.length, .inr (.inr (.inr (.inr (fun i => mn_r b c.2[i]?)))))
/-- pc, locals, operand stack, slots made so far, heap -/
abbrev mn_S : Type := Nat × List (Option Value) × List Value × Nat × mn_H
def mn_c2 (o : Option (Option Value)) : Bool := match o with
  | some (some v) => v.category == 2
  | _ => false
def mn_st1 (xs : List (Option Value)) (i : Nat) (v : Value) : Option (List (Option Value)) :=
  if i < xs.length ∧ (0 < i → mn_c2 xs[i - 1]? = false) then some (xs.set i (some v)) else none
def mn_st2 (xs : List (Option Value)) (i : Nat) (v : Value) : Option (List (Option Value)) :=
  if i + 1 < xs.length ∧ (0 < i → mn_c2 xs[i - 1]? = false) then some ((xs.set i (some v)).set (i + 1) none) else none
def mn_go (pc : Nat) (off : Int) : Nat := ((pc : Int) + off).toNat
def mn_gook (pc : Nat) (off : Int) : Bool := decide (0 ≤ (pc : Int) + off)
/-- constants, locals, stack -/
def mn_opA (q : Instr × Nat) (pc : Nat) (xs : List (Option Value)) (st : List Value) (ns : Nat) (hs : mn_H) : Option mn_S :=
  match q with
  | (.iconst n, 1) => some (pc + 1, xs, .int (Int32.ofInt n) :: st, ns, hs)
  | (.bipush n, 2) => some (pc + 2, xs, .int (Int8.ofInt n).toInt32 :: st, ns, hs)
  | (.sipush n, 3) => some (pc + 3, xs, .int (Int16.ofInt n).toInt32 :: st, ns, hs)
  | (.lconst n, 1) => some (pc + 1, xs, .long (Int64.ofNat (n : Nat)) :: st, ns, hs)
  | (.aconst_null, 1) => some (pc + 1, xs, .null :: st, ns, hs)
  | (.iload_n k, 1) => match xs[(k : Nat)]? with
    | some (some (.int x)) => some (pc + 1, xs, .int x :: st, ns, hs)
    | _ => none
  | (.iload k, 2) => match xs[k]? with
    | some (some (.int x)) => some (pc + 2, xs, .int x :: st, ns, hs)
    | _ => none
  | (.lload_n k, 1) => match xs[(k : Nat)]? with
    | some (some (.long x)) => some (pc + 1, xs, .long x :: st, ns, hs)
    | _ => none
  | (.lload k, 2) => match xs[k]? with
    | some (some (.long x)) => some (pc + 2, xs, .long x :: st, ns, hs)
    | _ => none
  | (.aload_n k, 1) => match xs[(k : Nat)]? with
    | some (some (.ref x)) => some (pc + 1, xs, .ref x :: st, ns, hs)
    | some (some (.retAddr x)) => some (pc + 1, xs, .retAddr x :: st, ns, hs)
    | _ => none
  | (.aload k, 2) => match xs[k]? with
    | some (some (.ref x)) => some (pc + 2, xs, .ref x :: st, ns, hs)
    | _ => none
  | (.istore_n k, 1) => match st with
    | .int x :: r => (mn_st1 xs (k : Nat) (.int x)).map fun ys => (pc + 1, ys, r, ns, hs)
    | _ => none
  | (.istore k, 2) => match st with
    | .int x :: r => (mn_st1 xs k (.int x)).map fun ys => (pc + 2, ys, r, ns, hs)
    | _ => none
  | (.lstore_n k, 1) => match st with
    | .long x :: r => (mn_st2 xs (k : Nat) (.long x)).map fun ys => (pc + 1, ys, r, ns, hs)
    | _ => none
  | (.lstore k, 2) => match st with
    | .long x :: r => (mn_st2 xs k (.long x)).map fun ys => (pc + 2, ys, r, ns, hs)
    | _ => none
  | (.astore_n k, 1) => match st with
    | .ref x :: r => (mn_st1 xs (k : Nat) (.ref x)).map fun ys => (pc + 1, ys, r, ns, hs)
    | _ => none
  | (.astore k, 2) => match st with
    | .ref x :: r => (mn_st1 xs k (.ref x)).map fun ys => (pc + 2, ys, r, ns, hs)
    | _ => none
  | (.iinc k n, 3) => match xs[k]? with
    | some (some (.int x)) => (mn_st1 xs k (.int (x + Int32.ofInt n))).map fun ys => (pc + 3, ys, st, ns, hs)
    | _ => none
  | (.dup, 1) => match st with
    | v :: r => if v.category = 1 then some (pc + 1, xs, v :: v :: r, ns, hs) else none
    | _ => none
  | (.pop, 1) => match st with
    | v :: r => if v.category = 1 then some (pc + 1, xs, r, ns, hs) else none
    | _ => none
  | (.dup2, 1) => match st with
    | v :: w :: r => if v.category = 1 ∧ w.category = 1 then some (pc + 1, xs, v :: w :: v :: w :: r, ns, hs) else none
    | _ => none
  | _ => none
/-- arithmetic on two numbers from the stack -/
def mn_ar (i : Instr) (x y : Int32) : Option Int32 := match i with
  | .iadd => some (x + y)
  | .isub => some (x - y)
  | .imul => some (x * y)
  | .iand => some (x &&& y)
  | .ior => some (x ||| y)
  | .ixor => some (x ^^^ y)
  | .idiv => if y = 0 then none else some (x / y)
  | .irem => if y = 0 then none else some (x - x / y * y)
  | .ishl => some (x <<< (y &&& 31))
  | .ishr => some (x >>> (y &&& 31))
  | _ => none
def mn_opB (q : Instr × Nat) (pc : Nat) (xs : List (Option Value)) (st : List Value) (ns : Nat) (hs : mn_H) : Option mn_S :=
  match q with
  | (i, 1) => match st with
    | .int y :: .int x :: r => (mn_ar i x y).map fun v => (pc + 1, xs, .int v :: r, ns, hs)
    | .long y :: .long x :: r => match i with
      | .land => some (pc + 1, xs, .long (x &&& y) :: r, ns, hs)
      | .lor => some (pc + 1, xs, .long (x ||| y) :: r, ns, hs)
      | .lcmp => some (pc + 1, xs, .int (lg_cmp x y) :: r, ns, hs)
      | _ => none
    | .int y :: .long x :: r => match i with
      | .lushr => some (pc + 1, xs, .long (x.toUInt64 >>> (y.toInt64.toUInt64 &&& Int64.toUInt64 63)).toInt64 :: r, ns, hs)
      | .lshl => some (pc + 1, xs, .long (x <<< (y.toInt64 &&& 63)) :: r, ns, hs)
      | _ => none
    | _ => none
  | _ => none
def mn_opB1 (q : Instr × Nat) (pc : Nat) (xs : List (Option Value)) (st : List Value) (ns : Nat) (hs : mn_H) : Option mn_S :=
  match q with
  | (i, 1) => match st with
    | .int x :: r => match i with
      | .i2l => some (pc + 1, xs, .long x.toInt64 :: r, ns, hs)
      | .i2c => some (pc + 1, xs, .int (x.toUInt32 % 65536).toInt32 :: r, ns, hs)
      | _ => none
    | .long x :: r => match i with
      | .l2i => some (pc + 1, xs, .int x.toInt32 :: r, ns, hs)
      | _ => none
    | _ => none
  | _ => none
/-- branches -/
def mn_cmp (k : ClassFile.Cond) (x y : Int32) : Bool := match k with
  | .eq => decide (x = y)
  | .ne => decide (¬ x = y)
  | .lt => decide (x < y)
  | .ge => decide (y ≤ x)
  | .gt => decide (y < x)
  | .le => decide (x ≤ y)
def mn_opC (q : Instr × Nat) (pc : Nat) (xs : List (Option Value)) (st : List Value) (ns : Nat) (hs : mn_H) : Option mn_S :=
  match q with
  | (.goto off, 3) => if mn_gook pc off then some (mn_go pc off, xs, st, ns, hs) else none
  | (.ifCond k off, 3) => match st with
    | .int x :: r => if mn_gook pc off then some (if mn_cmp k x 0 then mn_go pc off else pc + 3, xs, r, ns, hs) else none
    | _ => none
  | (.if_icmp k off, 3) => match st with
    | .int y :: .int x :: r => if mn_gook pc off then some (if mn_cmp k x y then mn_go pc off else pc + 3, xs, r, ns, hs) else none
    | _ => none
  | (.ifnull off, 3) => match st with
    | .ref _ :: r => some (pc + 3, xs, r, ns, hs)
    | .null :: r => if mn_gook pc off then some (mn_go pc off, xs, r, ns, hs) else none
    | _ => none
  | (.tableswitch d lo hi offs, _) => match st with
    | .int x :: r => if x.toInt < lo ∨ hi < x.toInt then (if mn_gook pc d then some (mn_go pc d, xs, r, ns, hs) else none) else match offs[(x.toInt - lo).toNat]? with
      | some off => if mn_gook pc off then some (mn_go pc off, xs, r, ns, hs) else none
      | none => none
    | _ => none
  | (.lookupswitch d ps, _) => match st with
    | .int x :: r => if (ps.toList.zip (ps.toList.drop 1)).all (fun (a, next) => a.1 < next.1) = true ∧ mn_gook pc (Op.lookupswitch.offset ps.toList d x.toInt) then some (mn_go pc (Op.lookupswitch.offset ps.toList d x.toInt), xs, r, ns, hs) else none
    | _ => none
  | _ => none
end
section
def mn_L (b : Nat × Nat) (ls : Array Slot) (xs : List (Option Value)) : Prop := ls.size = xs.length ∧ lv_wf ls ∧ ∀ (i : Nat) (v : Value), xs[i]? = some (some v) → ls[i]? = some (.val (mn_tr b v))
def mn_lv (b : Nat × Nat) (xs : List (Option Value)) : List (Nat × Value) := (List.range xs.length).filterMap fun i => match xs[i]? with
  | some (some v) => some (i, mn_tr b v)
  | _ => none
theorem mn_tr_cat (b : Nat × Nat) (v : Value) : (mn_tr b v).category = v.category := by cases v <;> rfl
theorem mn_lv_mem {b : Nat × Nat} {xs : List (Option Value)} {i : Nat} {w : Value} : (i, w) ∈ mn_lv b xs ↔ ∃ v, xs[i]? = some (some v) ∧ w = mn_tr b v := by
  unfold mn_lv
  rw [List.mem_filterMap]
  constructor
  · rintro ⟨j, hj, h⟩
    split at h
    · next v hv =>
      cases h
      exact ⟨v, hv, rfl⟩
    · cases h
  · rintro ⟨v, hv, rfl⟩
    have hi : i < xs.length := (List.getElem?_eq_some_iff.mp hv).1
    refine ⟨i, List.mem_range.mpr hi, ?_⟩
    rw [hv]
theorem mn_L.has {b : Nat × Nat} {ls : Array Slot} {xs : List (Option Value)} (h : mn_L b ls xs) : lv_has ls xs.length (mn_lv b xs) := by
  refine ⟨h.1, h.2.1, ?_⟩
  rintro ⟨i, w⟩ hq
  obtain ⟨v, hv, rfl⟩ := mn_lv_mem.mp hq
  exact h.2.2 i v hv
theorem mn_L.st1 {b : Nat × Nat} {xs ys : List (Option Value)} {i : Nat} {v : Value} (hs : mn_st1 xs i v = some ys) {ls' : Array Slot}
    (h' : lv_has ls' xs.length ((i, mn_tr b v) :: (mn_lv b xs).filter (fun q => !(q.1 == i) && !(q.1 + 1 == i && q.2.category == 2)))) : mn_L b ls' ys ∧ ys.length = xs.length := by
  unfold mn_st1 at hs
  split at hs
  · next hc =>
    cases hs
    refine ⟨⟨by rw [List.length_set]; exact h'.1, h'.2.1, fun j w hj => ?_⟩, List.length_set ..⟩
    rw [List.getElem?_set] at hj
    by_cases hij : i = j
    · subst hij
      rw [if_pos rfl, if_pos hc.1] at hj
      cases hj
      exact h'.2.2 (i, mn_tr b v) List.mem_cons_self
    · rw [if_neg hij] at hj
      refine h'.2.2 (j, mn_tr b w) (List.mem_cons_of_mem _ (List.mem_filter.mpr ⟨mn_lv_mem.mpr ⟨w, hj, rfl⟩, ?_⟩))
      have h1 : (j == i) = false := by simp; exact fun h => hij h.symm
      by_cases h2 : j + 1 = i
      · have h3 := hc.2 (by omega)
        rw [show i - 1 = j by omega, hj] at h3
        simp [mn_c2] at h3
        simp [h1, h2, mn_tr_cat, h3]
      · simp [h1, h2]
  · cases hs
theorem mn_L.st2 {b : Nat × Nat} {xs ys : List (Option Value)} {i : Nat} {v : Value} (hs : mn_st2 xs i v = some ys) {ls' : Array Slot}
    (h' : lv_has ls' xs.length ((i, mn_tr b v) :: (mn_lv b xs).filter (fun q => !(q.1 == i) && (!(q.1 == i + 1) && !(q.1 + 1 == i && q.2.category == 2))))) : mn_L b ls' ys ∧ ys.length = xs.length := by
  unfold mn_st2 at hs
  split at hs
  · next hc =>
    cases hs
    refine ⟨⟨by rw [List.length_set, List.length_set]; exact h'.1, h'.2.1, fun j w hj => ?_⟩, by rw [List.length_set, List.length_set]⟩
    rw [List.getElem?_set] at hj
    by_cases hij1 : i + 1 = j
    · rw [if_pos hij1] at hj
      split at hj <;> cases hj
    · rw [if_neg hij1, List.getElem?_set] at hj
      by_cases hij : i = j
      · subst hij
        rw [if_pos rfl, if_pos (by omega)] at hj
        cases hj
        exact h'.2.2 (i, mn_tr b v) List.mem_cons_self
      · rw [if_neg hij] at hj
        refine h'.2.2 (j, mn_tr b w) (List.mem_cons_of_mem _ (List.mem_filter.mpr ⟨mn_lv_mem.mpr ⟨w, hj, rfl⟩, ?_⟩))
        have h1 : (j == i) = false := by simp; exact fun h => hij h.symm
        have h1' : (j == i + 1) = false := by simp; exact fun h => hij1 h.symm
        by_cases h2 : j + 1 = i
        · have h3 := hc.2 (by omega)
          rw [show i - 1 = j by omega, hj] at h3
          simp [mn_c2] at h3
          simp [h1, h1', h2, mn_tr_cat, h3]
        · simp [h1, h1', h2]
  · cases hs
theorem mn_st1_lt {xs ys : List (Option Value)} {i : Nat} {v : Value} (hs : mn_st1 xs i v = some ys) : i < xs.length := by
  unfold mn_st1 at hs
  split at hs
  · next hc => exact hc.1
  · cases hs
theorem mn_st2_lt {xs ys : List (Option Value)} {i : Nat} {v : Value} (hs : mn_st2 xs i v = some ys) : i + 1 < xs.length := by
  unfold mn_st2 at hs
  split at hs
  · next hc => exact hc.1
  · cases hs
theorem mn_go_ok {pc : Nat} {off : Int} (h : mn_gook pc off = true) : (pc : Int) + off = (mn_go pc off : Int) := by
  unfold mn_gook at h
  unfold mn_go
  rw [decide_eq_true_eq] at h
  omega
section MNA
variable {p : Program} {l : Launch} {e : Env} {R : Room} {s : State} {m : MethodId} {args : Array Value} {below : List Frame} {meth : Method} {c : Code} {H : Heap} {locs : List Loc} {cells slots : Nat} {Q : State → Prop} {cc : ByteArray} {b : Nat × Nat}
set_option maxHeartbeats 4000000 in
theorem mn_opA_ok {q : Instr × Nat} {pc : Nat} {xs : List (Option Value)} {st : List Value} {ns : Nat} {hs : mn_H} {pc' : Nat} {xs' : List (Option Value)} {st' : List Value} {ns' : Nat} {hs' : mn_H} (hx : p.tables.exec = Jvm.exec) (hb : c.code = cc) (hd : decode cc pc = .ok q) (hop : mn_opA q pc xs st ns hs = some (pc', xs', st', ns', hs')) {ls : Array Slot} (hL : mn_L b ls xs)
    (kk : ns' = ns → hs' = hs → ∀ ls', mn_L b ls' xs' → xs'.length = xs.length → W p l e R s m args below meth c H locs cells slots Q (F0 m pc' ls' (st'.map (mn_tr b)))) : W p l e R s m args below meth c H locs cells slots Q (F0 m pc ls (st.map (mn_tr b))) := by
  unfold mn_opA at hop
  split at hop
  · cases hop; exact lv_iconst hx hb hd rfl (kk rfl rfl ls hL rfl)
  · cases hop; exact lv_bipush hx hb hd rfl (kk rfl rfl ls hL rfl)
  · cases hop; exact lv_sipush hx hb hd rfl (kk rfl rfl ls hL rfl)
  · cases hop; exact lv_lconst hx hb hd rfl (kk rfl rfl ls hL rfl)
  · cases hop; exact lv_null hx hb hd (kk rfl rfl ls hL rfl)
  · split at hop
    · next h => cases hop; exact lv_iload_n hx hb hd rfl (hL.2.2 _ _ h) (kk rfl rfl ls hL rfl)
    · cases hop
  · split at hop
    · next h => cases hop; exact lv_iload hx hb hd (hL.2.2 _ _ h) (kk rfl rfl ls hL rfl)
    · cases hop
  · split at hop
    · next h => cases hop; exact lv_lload_n hx hb hd rfl (hL.2.2 _ _ h) (kk rfl rfl ls hL rfl)
    · cases hop
  · split at hop
    · next h => cases hop; exact lv_lload hx hb hd (hL.2.2 _ _ h) (kk rfl rfl ls hL rfl)
    · cases hop
  · split at hop
    · next h => cases hop; exact lv_aload_n hx hb hd rfl (hL.2.2 _ _ h) (kk rfl rfl ls hL rfl)
    · next h => cases hop; exact lv_aload_n hx hb hd rfl (hL.2.2 _ _ h) (kk rfl rfl ls hL rfl)
    · cases hop
  · split at hop
    · next h => cases hop; exact lv_aload hx hb hd (hL.2.2 _ _ h) (kk rfl rfl ls hL rfl)
    · cases hop
  · split at hop
    · obtain ⟨ys, h1, h2⟩ := Option.map_eq_some_iff.mp hop
      cases h2
      exact lv_istore_n hx hb hd rfl hL.has (mn_st1_lt h1) rfl (fun ls' h' => kk rfl rfl ls' (mn_L.st1 h1 h').1 (mn_L.st1 h1 h').2)
    · cases hop
  · split at hop
    · obtain ⟨ys, h1, h2⟩ := Option.map_eq_some_iff.mp hop
      cases h2
      exact lv_istore hx hb hd hL.has (mn_st1_lt h1) rfl (fun ls' h' => kk rfl rfl ls' (mn_L.st1 h1 h').1 (mn_L.st1 h1 h').2)
    · cases hop
  · split at hop
    · obtain ⟨ys, h1, h2⟩ := Option.map_eq_some_iff.mp hop
      cases h2
      exact lv_lstore_n hx hb hd rfl hL.has (mn_st2_lt h1) rfl (fun ls' h' => kk rfl rfl ls' (mn_L.st2 h1 h').1 (mn_L.st2 h1 h').2)
    · cases hop
  · split at hop
    · obtain ⟨ys, h1, h2⟩ := Option.map_eq_some_iff.mp hop
      cases h2
      exact lv_lstore hx hb hd hL.has (mn_st2_lt h1) rfl (fun ls' h' => kk rfl rfl ls' (mn_L.st2 h1 h').1 (mn_L.st2 h1 h').2)
    · cases hop
  · split at hop
    · obtain ⟨ys, h1, h2⟩ := Option.map_eq_some_iff.mp hop
      cases h2
      exact lv_astore_n hx hb hd rfl hL.has (mn_st1_lt h1) rfl (fun ls' h' => kk rfl rfl ls' (mn_L.st1 h1 h').1 (mn_L.st1 h1 h').2)
    · cases hop
  · split at hop
    · obtain ⟨ys, h1, h2⟩ := Option.map_eq_some_iff.mp hop
      cases h2
      exact lv_astore hx hb hd hL.has (mn_st1_lt h1) rfl (fun ls' h' => kk rfl rfl ls' (mn_L.st1 h1 h').1 (mn_L.st1 h1 h').2)
    · cases hop
  · split at hop
    · next k n x h =>
      obtain ⟨ys, h1, h2⟩ := Option.map_eq_some_iff.mp hop
      cases h2
      obtain ⟨j, hj⟩ := List.getElem?_of_mem (mn_lv_mem (b := b).mpr ⟨_, h, rfl⟩)
      exact lv_iinc hx hb hd hL.has hj rfl (mn_st1_lt h1) rfl (fun ls' h' => kk rfl rfl ls' (mn_L.st1 h1 h').1 (mn_L.st1 h1 h').2)
    · cases hop
  · split at hop
    · split at hop
      · next h => cases hop; exact lv_dup hx hb hd (by rw [mn_tr_cat]; exact h) (kk rfl rfl ls hL rfl)
      · cases hop
    · cases hop
  · split at hop
    · split at hop
      · next h => cases hop; exact lv_pop hx hb hd (by rw [mn_tr_cat]; exact h) (kk rfl rfl ls hL rfl)
      · cases hop
    · cases hop
  · split at hop
    · split at hop
      · next h => cases hop; exact lv_dup2_11 hx hb hd (by rw [mn_tr_cat]; exact h.1) (by rw [mn_tr_cat]; exact h.2) (kk rfl rfl ls hL rfl)
      · cases hop
    · cases hop
  · cases hop
set_option maxHeartbeats 4000000 in
theorem mn_opB_ok {q : Instr × Nat} {pc : Nat} {xs : List (Option Value)} {st : List Value} {ns : Nat} {hs : mn_H} {pc' : Nat} {xs' : List (Option Value)} {st' : List Value} {ns' : Nat} {hs' : mn_H} (hx : p.tables.exec = Jvm.exec) (hb : c.code = cc) (hd : decode cc pc = .ok q) (hop : mn_opB q pc xs st ns hs = some (pc', xs', st', ns', hs')) {ls : Array Slot}
    (kk : ns' = ns → hs' = hs → xs' = xs → W p l e R s m args below meth c H locs cells slots Q (F0 m pc' ls (st'.map (mn_tr b)))) : W p l e R s m args below meth c H locs cells slots Q (F0 m pc ls (st.map (mn_tr b))) := by
  unfold mn_opB at hop
  split at hop
  · split at hop
    · obtain ⟨v, h1, h2⟩ := Option.map_eq_some_iff.mp hop
      cases h2
      unfold mn_ar at h1
      split at h1
      · cases h1; exact lv_iadd hx hb hd (kk rfl rfl rfl)
      · cases h1; exact lv_isub hx hb hd (kk rfl rfl rfl)
      · cases h1; exact lv_imul hx hb hd (kk rfl rfl rfl)
      · cases h1; exact lv_iand hx hb hd (kk rfl rfl rfl)
      · cases h1; exact lv_ior hx hb hd (kk rfl rfl rfl)
      · cases h1; exact lv_ixor hx hb hd (kk rfl rfl rfl)
      · split at h1
        · cases h1
        · next hne => cases h1; exact lv_idiv hx hb hd hne (kk rfl rfl rfl)
      · split at h1
        · cases h1
        · next hne => cases h1; exact lv_irem hx hb hd hne (kk rfl rfl rfl)
      · cases h1; exact lv_ishl hx hb hd (kk rfl rfl rfl)
      · cases h1; exact lv_ishr hx hb hd (kk rfl rfl rfl)
      · cases h1
    · split at hop
      · cases hop; exact lv_land hx hb hd (kk rfl rfl rfl)
      · cases hop; exact lv_lor hx hb hd (kk rfl rfl rfl)
      · cases hop; exact W.lcmp hx hb hd (kk rfl rfl rfl)
      · cases hop
    · split at hop
      · cases hop; exact lv_lushr hx hb hd rfl (kk rfl rfl rfl)
      · cases hop; exact lv_lshl hx hb hd rfl (kk rfl rfl rfl)
      · cases hop
    · cases hop
  · cases hop
theorem mn_opB1_ok {q : Instr × Nat} {pc : Nat} {xs : List (Option Value)} {st : List Value} {ns : Nat} {hs : mn_H} {pc' : Nat} {xs' : List (Option Value)} {st' : List Value} {ns' : Nat} {hs' : mn_H} (hx : p.tables.exec = Jvm.exec) (hb : c.code = cc) (hd : decode cc pc = .ok q) (hop : mn_opB1 q pc xs st ns hs = some (pc', xs', st', ns', hs')) {ls : Array Slot}
    (kk : ns' = ns → hs' = hs → xs' = xs → W p l e R s m args below meth c H locs cells slots Q (F0 m pc' ls (st'.map (mn_tr b)))) : W p l e R s m args below meth c H locs cells slots Q (F0 m pc ls (st.map (mn_tr b))) := by
  unfold mn_opB1 at hop
  split at hop
  · split at hop
    · split at hop
      · cases hop; exact lv_i2l hx hb hd rfl (kk rfl rfl rfl)
      · cases hop; exact lv_i2c hx hb hd rfl (kk rfl rfl rfl)
      · cases hop
    · split at hop
      · cases hop; exact lv_l2i hx hb hd rfl (kk rfl rfl rfl)
      · cases hop
    · cases hop
  · cases hop
set_option maxHeartbeats 4000000 in
theorem mn_opC_ok {q : Instr × Nat} {pc : Nat} {xs : List (Option Value)} {st : List Value} {ns : Nat} {hs : mn_H} {pc' : Nat} {xs' : List (Option Value)} {st' : List Value} {ns' : Nat} {hs' : mn_H} (hx : p.tables.exec = Jvm.exec) (hb : c.code = cc) (hd : decode cc pc = .ok q) (hop : mn_opC q pc xs st ns hs = some (pc', xs', st', ns', hs')) {ls : Array Slot}
    (kk : ns' = ns → hs' = hs → xs' = xs → W p l e R s m args below meth c H locs cells slots Q (F0 m pc' ls (st'.map (mn_tr b)))) : W p l e R s m args below meth c H locs cells slots Q (F0 m pc ls (st.map (mn_tr b))) := by
  unfold mn_opC at hop
  split at hop
  · split at hop
    · next h => cases hop; exact lv_goto hx hb hd (mn_go_ok h) (kk rfl rfl rfl)
    · cases hop
  · next k off =>
    split at hop
    · split at hop
      · next x r h =>
        cases hop
        have kk := kk rfl rfl rfl
        cases k
        · exact lv_if_eq hx hb hd (mn_go_ok h) (fun h9 => by rw [show mn_cmp .eq x 0 = true from decide_eq_true h9] at kk; exact kk) (fun h9 => by rw [show mn_cmp .eq x 0 = false from decide_eq_false h9] at kk; exact kk)
        · exact lv_if_ne hx hb hd (mn_go_ok h) (fun h9 => by rw [show mn_cmp .ne x 0 = true from decide_eq_true h9] at kk; exact kk) (fun h9 => by rw [show mn_cmp .ne x 0 = false from decide_eq_false (fun q => q h9)] at kk; exact kk)
        · exact lv_if_lt hx hb hd (mn_go_ok h) (fun h9 => by rw [show mn_cmp .lt x 0 = true from decide_eq_true h9] at kk; exact kk) (fun h9 => by rw [show mn_cmp .lt x 0 = false from decide_eq_false h9] at kk; exact kk)
        · exact lv_if_ge hx hb hd (mn_go_ok h) (fun h9 => by rw [show mn_cmp .ge x 0 = true from decide_eq_true h9] at kk; exact kk) (fun h9 => by rw [show mn_cmp .ge x 0 = false from decide_eq_false h9] at kk; exact kk)
        · exact lv_if_gt hx hb hd (mn_go_ok h) (fun h9 => by rw [show mn_cmp .gt x 0 = true from decide_eq_true h9] at kk; exact kk) (fun h9 => by rw [show mn_cmp .gt x 0 = false from decide_eq_false h9] at kk; exact kk)
        · exact lv_if_le hx hb hd (mn_go_ok h) (fun h9 => by rw [show mn_cmp .le x 0 = true from decide_eq_true h9] at kk; exact kk) (fun h9 => by rw [show mn_cmp .le x 0 = false from decide_eq_false h9] at kk; exact kk)
      · cases hop
    · cases hop
  · next k off =>
    split at hop
    · split at hop
      · next y x r h =>
        cases hop
        have kk := kk rfl rfl rfl
        cases k
        · exact lv_icmp_eq hx hb hd (mn_go_ok h) (fun h9 => by rw [show mn_cmp .eq x y = true from decide_eq_true h9] at kk; exact kk) (fun h9 => by rw [show mn_cmp .eq x y = false from decide_eq_false h9] at kk; exact kk)
        · exact lv_icmp_ne hx hb hd (mn_go_ok h) (fun h9 => by rw [show mn_cmp .ne x y = true from decide_eq_true h9] at kk; exact kk) (fun h9 => by rw [show mn_cmp .ne x y = false from decide_eq_false (fun q => q h9)] at kk; exact kk)
        · exact lv_icmp_lt hx hb hd (mn_go_ok h) (fun h9 => by rw [show mn_cmp .lt x y = true from decide_eq_true h9] at kk; exact kk) (fun h9 => by rw [show mn_cmp .lt x y = false from decide_eq_false h9] at kk; exact kk)
        · exact lv_icmp_ge hx hb hd (mn_go_ok h) (fun h9 => by rw [show mn_cmp .ge x y = true from decide_eq_true h9] at kk; exact kk) (fun h9 => by rw [show mn_cmp .ge x y = false from decide_eq_false h9] at kk; exact kk)
        · exact lv_icmp_gt hx hb hd (mn_go_ok h) (fun h9 => by rw [show mn_cmp .gt x y = true from decide_eq_true h9] at kk; exact kk) (fun h9 => by rw [show mn_cmp .gt x y = false from decide_eq_false h9] at kk; exact kk)
        · exact lv_icmp_le hx hb hd (mn_go_ok h) (fun h9 => by rw [show mn_cmp .le x y = true from decide_eq_true h9] at kk; exact kk) (fun h9 => by rw [show mn_cmp .le x y = false from decide_eq_false h9] at kk; exact kk)
      · cases hop
    · cases hop
  · split at hop
    · cases hop; exact lv_ifnull hx hb hd (kk rfl rfl rfl)
    · split at hop
      · next h => cases hop; exact lv_ifnullN hx hb hd (mn_go_ok h) (kk rfl rfl rfl)
      · cases hop
    · cases hop
  · split at hop
    · split at hop
      · next h0 =>
        split at hop
        · next h => cases hop; exact lv_tableOut hx hb hd h0 (mn_go_ok h) (kk rfl rfl rfl)
        · cases hop
      · next h0 =>
        split at hop
        · next off h1 =>
          split at hop
          · next h => cases hop; exact lv_tableIn hx hb hd (fun q => h0 (Or.inl q)) (fun q => h0 (Or.inr q)) h1 (mn_go_ok h) (kk rfl rfl rfl)
          · cases hop
        · cases hop
    · cases hop
  · split at hop
    · split at hop
      · next h => cases hop; exact lv_lookup hx hb hd h.1 rfl (mn_go_ok h.2) (kk rfl rfl rfl)
      · cases hop
    · cases hop
  · cases hop
end MNA
end
section
/-- does the value suit a field of this kind (0 int, 1 boolean, 2 reference) -/
def mn_fk (k : Nat) (v : Value) : Bool := match v with
  | .int x => k == 0 || (k == 1 && (decide (x = 0) || decide (x = 1)))
  | .ref _ => k == 2
  | .null => k == 2
  | _ => false
/-- the value at a place of an array's list, if the place is there -/
def mn_ix (vs : List Value) (i : Int32) : Option Value := if i < 0 ∨ vs.length ≤ i.toNatClampNeg then none else vs[i.toNatClampNeg]?
def mn_opD (pl : Nat → mn_K) (ft : Nat → Nat → Nat) (fi : Nat → Nat → Bool) (df : Nat → List Value) (ak : Nat → Nat) (ow : Nat) (ini : Bool) (q : Instr × Nat) (pc : Nat) (xs : List (Option Value)) (st : List Value) (ns : Nat) (hs : mn_H) : Option mn_S :=
  match q with
  | (.ldc i, 2) => match pl i with
    | (5, _, _, _, z) => some (pc + 2, xs, .int (Int32.ofInt z) :: st, ns, hs)
    | _ => none
  | (.ldc2_w i, 3) => match pl i with
    | (6, _, _, _, z) => some (pc + 3, xs, .long (Int64.ofInt z) :: st, ns, hs)
    | _ => none
  | (.getfield i, 3) => match pl i, st with
    | (1, ci, k, _, _), .ref a :: r => match hs[a]? with
      | some (tg, vs) => if tg = ci ∧ ci < 50 then match vs[k]? with
          | some v => some (pc + 3, xs, v :: r, ns, hs)
          | none => none
        else none
      | none => none
    | _, _ => none
  | (.putfield i, 3) => match pl i, st with
    | (1, ci, k, _, _), v :: .ref a :: r => match hs[a]? with
      | some (tg, vs) => if tg = ci ∧ ci < 50 ∧ k < vs.length ∧ mn_fk (ft ci k) v = true ∧ (fi ci k = true → ini = true ∧ ci = ow) then some (pc + 3, xs, r, ns, hs.set a (ci, vs.set k v)) else none
      | none => none
    | _, _ => none
  | (.iaload, 1) => match st with
    | .int i :: .ref a :: r => match hs[a]? with
      | some (50, vs) => match mn_ix vs i with
        | some (.int v) => some (pc + 1, xs, .int v :: r, ns, hs)
        | _ => none
      | _ => none
    | _ => none
  | (.baload, 1) => match st with
    | .int i :: .ref a :: r => match hs[a]? with
      | some (51, vs) => match mn_ix vs i with
        | some (.int v) => some (pc + 1, xs, .int v :: r, ns, hs)
        | _ => none
      | _ => none
    | _ => none
  | (.caload, 1) => match st with
    | .int i :: .ref a :: r => match hs[a]? with
      | some (52, vs) => match mn_ix vs i with
        | some (.int v) => some (pc + 1, xs, .int v :: r, ns, hs)
        | _ => none
      | _ => none
    | _ => none
  | (.laload, 1) => match st with
    | .int i :: .ref a :: r => match hs[a]? with
      | some (53, vs) => match mn_ix vs i with
        | some (.long v) => some (pc + 1, xs, .long v :: r, ns, hs)
        | _ => none
      | _ => none
    | _ => none
  | (.aaload, 1) => match st with
    | .int i :: .ref a :: r => match hs[a]? with
      | some (tg, vs) => if 54 ≤ tg ∧ tg < 56 then match mn_ix vs i with
          | some (.ref v) => some (pc + 1, xs, .ref v :: r, ns, hs)
          | some .null => some (pc + 1, xs, .null :: r, ns, hs)
          | _ => none
        else none
      | _ => none
    | _ => none
  | (.iastore, 1) => match st with
    | .int x :: .int i :: .ref a :: r => match hs[a]? with
      | some (50, vs) => if i < 0 ∨ vs.length ≤ i.toNatClampNeg then none else some (pc + 1, xs, r, ns, hs.set a (50, vs.set i.toNatClampNeg (.int x)))
      | _ => none
    | _ => none
  | (.bastore, 1) => match st with
    | .int x :: .int i :: .ref a :: r => match hs[a]? with
      | some (51, vs) => if i < 0 ∨ vs.length ≤ i.toNatClampNeg then none else some (pc + 1, xs, r, ns, hs.set a (51, vs.set i.toNatClampNeg (.int (vp_nar .boolean x))))
      | _ => none
    | _ => none
  | (.castore, 1) => match st with
    | .int x :: .int i :: .ref a :: r => match hs[a]? with
      | some (52, vs) => if i < 0 ∨ vs.length ≤ i.toNatClampNeg then none else some (pc + 1, xs, r, ns, hs.set a (52, vs.set i.toNatClampNeg (.int (vp_nar .char x))))
      | _ => none
    | _ => none
  | (.lastore, 1) => match st with
    | .long x :: .int i :: .ref a :: r => match hs[a]? with
      | some (53, vs) => if i < 0 ∨ vs.length ≤ i.toNatClampNeg then none else some (pc + 1, xs, r, ns, hs.set a (53, vs.set i.toNatClampNeg (.long x)))
      | _ => none
    | _ => none
  | (.aastore, 1) => match st with
    | .ref v :: .int i :: .ref a :: r => match hs[a]?, hs[v]? with
      | some (tg, vs), some (tv, _) => if 54 ≤ tg ∧ tg < 56 ∧ tv = ak (tg - 50) ∧ tv < 50 ∧ ¬ (i < 0 ∨ vs.length ≤ i.toNatClampNeg) then some (pc + 1, xs, r, ns, hs.set a (tg, vs.set i.toNatClampNeg (.ref v))) else none
      | _, _ => none
    | _ => none
  | (.arraylength, 1) => match st with
    | .ref a :: r => match hs[a]? with
      | some (tg, vs) => if 50 ≤ tg ∧ tg < 56 then some (pc + 1, xs, .int (Int32.ofNat vs.length) :: r, ns, hs) else none
      | _ => none
    | _ => none
  | (.newarray ty, 2) => match st with
    | .int n :: r => if n < 0 ∨ 100000 < n.toNatClampNeg then none else match ty with
      | .int => some (pc + 2, xs, .ref hs.length :: r, ns + n.toNatClampNeg, hs ++ [(50, List.replicate n.toNatClampNeg (.int 0))])
      | .boolean => some (pc + 2, xs, .ref hs.length :: r, ns + n.toNatClampNeg, hs ++ [(51, List.replicate n.toNatClampNeg (.int 0))])
      | .char => some (pc + 2, xs, .ref hs.length :: r, ns + n.toNatClampNeg, hs ++ [(52, List.replicate n.toNatClampNeg (.int 0))])
      | .long => some (pc + 2, xs, .ref hs.length :: r, ns + n.toNatClampNeg, hs ++ [(53, List.replicate n.toNatClampNeg (.long 0))])
      | _ => none
    | _ => none
  | (.anewarray i, 3) => match pl i, st with
    | (2, _, k, _, _), .int n :: r => if n < 0 ∨ 100000 < n.toNatClampNeg ∨ ¬ (4 ≤ k ∧ k < 6) then none else some (pc + 3, xs, .ref hs.length :: r, ns + n.toNatClampNeg, hs ++ [(50 + k, List.replicate n.toNatClampNeg .null)])
    | _, _ => none
  | (.new i, 3) => match pl i with
    | (2, ci, _, _, _) => if ci < 50 then some (pc + 3, xs, .ref hs.length :: st, ns + (df ci).length, hs ++ [(ci, df ci)]) else none
    | _ => none
  | _ => none
/-- the heap holds our heap's cells, from the base on -/
def mn_R (D : va_G) (cl : List vw_C) (aC : Nat → ClassId) (b : Nat × Nat) (hs : mn_H) (H : Heap) : Prop :=
  b.1 + hs.length ≤ H.size ∧ ∃ ws : va_W, va_P D cl ws H ∧ va_D (fun q => b.1 ≤ q) ws ∧ ∀ (a : Nat) (e : va_E), (a, e) ∈ ws ↔ ∃ (i : Nat) (c : mn_C), a = b.1 + i ∧ hs[i]? = some c ∧ c.1 ≠ 99 ∧ e = mn_E aC b c
theorem mn_set_mem {aC : Nat → ClassId} {b : Nat × Nat} {hs : mn_H} {A : Nat → Prop} {ws : va_W} (hD : va_D A ws) (hm : ∀ (a : Nat) (e : va_E), (a, e) ∈ ws ↔ ∃ (i : Nat) (c : mn_C), a = b.1 + i ∧ hs[i]? = some c ∧ c.1 ≠ 99 ∧ e = mn_E aC b c)
    {q0 i : Nat} {e0 : va_E} (h0 : ws[q0]? = some (b.1 + i, e0)) {c' : mn_C} (hc : c'.1 ≠ 99) : ∀ (a : Nat) (e : va_E), (a, e) ∈ ws.set q0 (b.1 + i, mn_E aC b c') ↔ ∃ (j : Nat) (c : mn_C), a = b.1 + j ∧ (hs.set i c')[j]? = some c ∧ c.1 ≠ 99 ∧ e = mn_E aC b c := by
  have hq : q0 < ws.length := (List.getElem?_eq_some_iff.mp h0).1
  obtain ⟨i0, c0, g1, g2, g3, g4⟩ := (hm _ _).mp (List.mem_of_getElem? h0)
  have hi0 : i0 = i := by omega
  subst hi0
  have hil : i0 < hs.length := (List.getElem?_eq_some_iff.mp g2).1
  intro a e
  constructor
  · intro h
    obtain ⟨j, hj⟩ := List.getElem?_of_mem h
    rw [List.getElem?_set] at hj
    by_cases hjq : q0 = j
    · rw [if_pos hjq, if_pos hq] at hj
      cases hj
      exact ⟨i0, c', rfl, by rw [List.getElem?_set, if_pos rfl, if_pos hil], hc, rfl⟩
    · rw [if_neg hjq] at hj
      obtain ⟨i2, c2, k1, k2, k3, k4⟩ := (hm a e).mp (List.mem_of_getElem? hj)
      have hne : i0 ≠ i2 := by
        intro h9
        subst h9
        exact hjq (hD.1 q0 j _ _ h0 hj (by rw [k1]))
      exact ⟨i2, c2, k1, by rw [List.getElem?_set, if_neg hne]; exact k2, k3, k4⟩
  · rintro ⟨j, c, k1, k2, k3, k4⟩
    rw [List.getElem?_set] at k2
    by_cases hij : i0 = j
    · rw [if_pos hij, if_pos hil] at k2
      cases k2
      subst hij
      subst k1
      subst k4
      exact List.mem_of_getElem? (i := q0) (by rw [List.getElem?_set, if_pos rfl, if_pos hq])
    · rw [if_neg hij] at k2
      obtain ⟨j2, hj2⟩ := List.getElem?_of_mem ((hm a e).mpr ⟨j, c, k1, k2, k3, k4⟩)
      have hne : q0 ≠ j2 := by
        intro h9
        subst h9
        rw [h0] at hj2
        cases hj2
        omega
      exact List.mem_of_getElem? (i := j2) (by rw [List.getElem?_set, if_neg hne]; exact hj2)
theorem mn_push_mem {aC : Nat → ClassId} {b : Nat × Nat} {hs : mn_H} {ws : va_W} (hm : ∀ (a : Nat) (e : va_E), (a, e) ∈ ws ↔ ∃ (i : Nat) (c : mn_C), a = b.1 + i ∧ hs[i]? = some c ∧ c.1 ≠ 99 ∧ e = mn_E aC b c)
    {c' : mn_C} (hc : c'.1 ≠ 99) : ∀ (a : Nat) (e : va_E), (a, e) ∈ ws ++ [(b.1 + hs.length, mn_E aC b c')] ↔ ∃ (j : Nat) (c : mn_C), a = b.1 + j ∧ (hs ++ [c'])[j]? = some c ∧ c.1 ≠ 99 ∧ e = mn_E aC b c := by
  intro a e
  rw [List.mem_append, List.mem_singleton]
  constructor
  · rintro (h | h)
    · obtain ⟨i, c, k1, k2, k3, k4⟩ := (hm a e).mp h
      exact ⟨i, c, k1, by rw [List.getElem?_append_left (List.getElem?_eq_some_iff.mp k2).1]; exact k2, k3, k4⟩
    · cases h
      exact ⟨hs.length, c', rfl, by simp, hc, rfl⟩
  · rintro ⟨j, c, k1, k2, k3, k4⟩
    by_cases hj : j < hs.length
    · rw [List.getElem?_append_left hj] at k2
      exact Or.inl ((hm a e).mpr ⟨j, c, k1, k2, k3, k4⟩)
    · have hj2 : j = hs.length := by
        have := (List.getElem?_eq_some_iff.mp k2).1
        simp at this
        omega
      subst hj2
      simp at k2
      subst k2
      subst k1
      subst k4
      exact Or.inr rfl
theorem mn_hole_mem {aC : Nat → ClassId} {b : Nat × Nat} {hs : mn_H} {ws : va_W} (hm : ∀ (a : Nat) (e : va_E), (a, e) ∈ ws ↔ ∃ (i : Nat) (c : mn_C), a = b.1 + i ∧ hs[i]? = some c ∧ c.1 ≠ 99 ∧ e = mn_E aC b c)
    {c' : mn_C} (hc : c'.1 = 99) : ∀ (a : Nat) (e : va_E), (a, e) ∈ ws ↔ ∃ (j : Nat) (c : mn_C), a = b.1 + j ∧ (hs ++ [c'])[j]? = some c ∧ c.1 ≠ 99 ∧ e = mn_E aC b c := by
  intro a e
  rw [hm]
  constructor
  · rintro ⟨i, c, k1, k2, k3, k4⟩
    exact ⟨i, c, k1, by rw [List.getElem?_append_left (List.getElem?_eq_some_iff.mp k2).1]; exact k2, k3, k4⟩
  · rintro ⟨j, c, k1, k2, k3, k4⟩
    by_cases hj : j < hs.length
    · rw [List.getElem?_append_left hj] at k2
      exact ⟨j, c, k1, k2, k3, k4⟩
    · have hj2 : j = hs.length := by
        have := (List.getElem?_eq_some_iff.mp k2).1
        simp at this
        omega
      subst hj2
      simp at k2
      subst k2
      exact absurd hc k3
theorem mn_S_tr {A : Nat → Prop} {H0 H H1 : Heap} {locs locs1 : List Loc} (h : va_S A H0 H locs) (h1 : va_S A H H1 locs1) : va_S A H0 H1 locs1 :=
  ⟨Nat.le_trans h.1 h1.1, fun q hq ha => (h1.2.1 q (Nat.lt_of_lt_of_le hq h.1) ha).trans (h.2.1 q hq ha), h1.2.2⟩
theorem mn_S_at {A : Nat → Prop} {H0 H : Heap} {locs : List Loc} (h : va_S A H0 H locs) : va_S A H H locs := ⟨Nat.le_refl _, fun _ _ _ => rfl, h.2.2⟩
end
section
def mn_tys (aC : Nat → ClassId) (E4 E5 : String) : List (ClassId × FieldType) := [(aC 0, .int), (aC 1, .boolean), (aC 2, .char), (aC 3, .long), (aC 4, .object E4), (aC 5, .object E5)]
theorem mn_E_o {aC : Nat → ClassId} {b : Nat × Nat} {ci : Nat} (h : ci < 50) (vs : List Value) : mn_E aC b (ci, vs) = .inr (ci, vs.map (mn_tr b)) := by simp [mn_E, h]
theorem mn_E50 (aC : Nat → ClassId) (b : Nat × Nat) (vs : List Value) : mn_E aC b (50, vs) = .inl (aC 0, vs.length, .inl (fun i => mn_i vs[i]?)) := by simp [mn_E]
theorem mn_E51 (aC : Nat → ClassId) (b : Nat × Nat) (vs : List Value) : mn_E aC b (51, vs) = .inl (aC 1, vs.length, .inl (fun i => mn_i vs[i]?)) := by simp [mn_E]
theorem mn_E52 (aC : Nat → ClassId) (b : Nat × Nat) (vs : List Value) : mn_E aC b (52, vs) = .inl (aC 2, vs.length, .inl (fun i => mn_i vs[i]?)) := by simp [mn_E]
theorem mn_E53 (aC : Nat → ClassId) (b : Nat × Nat) (vs : List Value) : mn_E aC b (53, vs) = .inl (aC 3, vs.length, .inr (.inl (fun i => mn_l vs[i]?))) := by simp [mn_E]
theorem mn_E_r {aC : Nat → ClassId} {b : Nat × Nat} {k : Nat} (h : 4 ≤ k) (vs : List Value) : mn_E aC b (50 + k, vs) = .inl (aC k, vs.length, .inr (.inr (.inr (.inr (fun i => mn_r b vs[i]?))))) := by
  unfold mn_E
  rw [if_neg (by simp), if_neg (by simp; omega), if_neg (by simp; omega)]
  simp
theorem mn_updI {vs : List Value} {k : Nat} (hk : k < vs.length) (x : Int32) : upd (fun i => mn_i vs[i]?) k x = fun i => mn_i (vs.set k (.int x))[i]? := by
  funext i
  by_cases h : i = k
  · subst h
    rw [pk_us, List.getElem?_set, if_pos rfl, if_pos hk]
    rfl
  · rw [pk_un h, List.getElem?_set, if_neg (Ne.symm h)]
theorem mn_updL {vs : List Value} {k : Nat} (hk : k < vs.length) (x : Int64) : vp_updL (fun i => mn_l vs[i]?) k x = fun i => mn_l (vs.set k (.long x))[i]? := by
  funext i
  by_cases h : i = k
  · subst h
    rw [pk_uLs, List.getElem?_set, if_pos rfl, if_pos hk]
    rfl
  · rw [pk_uLn h, List.getElem?_set, if_neg (Ne.symm h)]
theorem mn_updR {b : Nat × Nat} {vs : List Value} {k : Nat} (hk : k < vs.length) (y : Nat) : va_up (fun i => mn_r b vs[i]?) k (some (b.1 + y)) = fun i => mn_r b (vs.set k (.ref y))[i]? := by
  funext i
  by_cases h : i = k
  · subst h
    rw [va_up_self, List.getElem?_set, if_pos rfl, if_pos hk]
    rfl
  · rw [va_up_ne _ _ h, List.getElem?_set, if_neg (Ne.symm h)]
theorem mn_wat {aC : Nat → ClassId} {b : Nat × Nat} {hs : mn_H} {ws : va_W} (hm : ∀ (a : Nat) (e : va_E), (a, e) ∈ ws ↔ ∃ (i : Nat) (c : mn_C), a = b.1 + i ∧ hs[i]? = some c ∧ c.1 ≠ 99 ∧ e = mn_E aC b c) {a : Nat} {c : mn_C} (h : hs[a]? = some c) (hc : c.1 ≠ 99) : ∃ q0 : Nat, ws[q0]? = some (b.1 + a, mn_E aC b c) :=
  List.getElem?_of_mem ((hm _ _).mpr ⟨a, c, rfl, h, hc, rfl⟩)
theorem mn_ix_in {vs : List Value} {i : Int32} {v : Value} (h : mn_ix vs i = some v) : vp_in i vs.length ∧ vs[i.toNatClampNeg]? = some v := by
  unfold mn_ix at h
  split at h
  · cases h
  · next hn => exact ⟨hn, h⟩
/-- what a constant pool's place must be true to, as the tables have it -/
def mn_F (cl : List vw_C) (WT : List Cond) (own : String) (fi : Nat → Nat → Bool) (ft : Nat → Nat → Nat) (ow : Nat) (i ci k : Nat) : Prop :=
  ∃ (C : String) (T : u_T) (N : Nat) (ty : Nat → FieldType), cl[ci]? = some (C, T, N) ∧ k < N ∧ (∀ w ∈ u_ws C T N, w ∈ WT) ∧ (∀ j, j < N → parseFieldDescriptor (T j).2.2.1 = some (ty j)) ∧ (∀ x, x < N → ∀ y, y < N → x ≠ y → (T x).2.1 ≠ (T y).2.1) ∧
    (Cond.fieldLink own i (T k).1 (T k).2.1 (T k).2.2.1 ∈ WT ∨ (∃ host, Cond.fieldLinkNest own i (T k).1 (T k).2.1 (T k).2.2.1 host ∈ WT) ∧ (T k).2.2.2 = false) ∧ fi ci k = (T k).2.2.2 ∧ (ci = ow → (T k).1 = own) ∧
    ∀ v b, mn_fk (ft ci k) v = true → narrow (ty k) (mn_tr b v) = mn_tr b v ∧ fits (ty k) (mn_tr b v) = true
section MND
variable {p : Program} {l : Launch} {e : Env} {R : Room} {s : State} {m : MethodId} {args : Array Value} {below : List Frame} {meth : Method} {c : Code} {H : Heap} {locs : List Loc} {cells slots : Nat} {Q : State → Prop} {cc : ByteArray} {b : Nat × Nat} {D : va_G} {cl : List vw_C} {aC : Nat → ClassId} {hs : mn_H} {E4 E5 : String} {WT : List Cond} {own : String} {pc : Nat} {ls : Array Slot} {r : List Value}
theorem mn_get_ok (hx : p.tables.exec = Jvm.exec) (hb : c.code = cc) (hts : ∀ w ∈ WT, w.before args s = true) (hown : s.vm.findClass own = some m.cls) (hK : va_K D cl (mn_tys aC E4 E5) s) (hR : mn_R D cl aC b hs H) {fi : Nat → Nat → Bool} {ft : Nat → Nat → Nat} {ow i ci k a : Nat} {vs : List Value} {v : Value} (hF : mn_F cl WT own fi ft ow i ci k) (hd : decode cc pc = .ok (.getfield i, 3)) (ha : hs[a]? = some (ci, vs)) (hci : ci < 50) (hv : vs[k]? = some v)
    (kk : W p l e R s m args below meth c H locs cells slots Q (F0 m (pc + 3) ls ((v :: r).map (mn_tr b)))) : W p l e R s m args below meth c H locs cells slots Q (F0 m pc ls ((.ref a :: r).map (mn_tr b))) := by
  obtain ⟨hz, ws, hP, hD, hm⟩ := hR
  obtain ⟨C, T, N, ty, f1, f2, f3, f4, f5, f6, f7, f8, f9⟩ := hF
  obtain ⟨q0, hq⟩ := mn_wat hm ha (by simp; omega)
  rw [mn_E_o hci] at hq
  have hv' : (vs.map (mn_tr b))[k]? = some (mn_tr b v) := by rw [List.getElem?_map, hv]; rfl
  rcases f6 with f6 | ⟨⟨host, f6⟩, -⟩
  · exact va_get hx hb hts f3 hown hK hP q0 hq f1 k f2 (hts _ f6) (fun _ h => h) hv' hd kk
  · exact va_getN hx hb hts f3 hown hK hP q0 hq f1 k f2 (hts _ f6) (fun _ h => h) hv' hd kk
theorem mn_put_ok (hx : p.tables.exec = Jvm.exec) (hb : c.code = cc) (hts : ∀ w ∈ WT, w.before args s = true) (hown : s.vm.findClass own = some m.cls) (hK : va_K D cl (mn_tys aC E4 E5) s) (hR : mn_R D cl aC b hs H) {H0 : Heap} (hS : va_S (fun q => b.1 ≤ q) H0 H locs) {fi : Nat → Nat → Bool} {ft : Nat → Nat → Nat} {ow i ci k a : Nat} {vs : List Value} {v : Value} (hF : mn_F cl WT own fi ft ow i ci k) {ini : Bool} (hini : ini = true → meth.name = "<init>") (hd : decode cc pc = .ok (.putfield i, 3)) (ha : hs[a]? = some (ci, vs)) (hci : ci < 50) (hk : k < vs.length) (hfk : mn_fk (ft ci k) v = true) (hfin : fi ci k = true → ini = true ∧ ci = ow)
    (kk : ∀ (H1 : Heap) (locs1 : List Loc), mn_R D cl aC b (hs.set a (ci, vs.set k v)) H1 → va_S (fun q => b.1 ≤ q) H0 H1 locs1 → W p l e R s m args below meth c H1 locs1 cells slots Q (F0 m (pc + 3) ls (r.map (mn_tr b)))) : W p l e R s m args below meth c H locs cells slots Q (F0 m pc ls ((v :: .ref a :: r).map (mn_tr b))) := by
  obtain ⟨hz, ws, hP, hD, hm⟩ := hR
  obtain ⟨C, T, N, ty, f1, f2, f3, f4, f5, f6, f7, f8, f9⟩ := hF
  obtain ⟨q0, hq⟩ := mn_wat hm ha (by simp; omega)
  have hset := mn_set_mem hD hm hq (c' := (ci, vs.set k v)) (by simp; omega)
  rw [mn_E_o hci] at hq
  rw [mn_E_o hci, List.map_set] at hset
  have go : ∀ (H1 : Heap) (locs1 : List Loc), va_P D cl (ws.set q0 (b.1 + a, .inr (ci, (vs.map (mn_tr b)).set k (mn_tr b v)))) H1 → va_D (fun q => b.1 ≤ q) (ws.set q0 (b.1 + a, .inr (ci, (vs.map (mn_tr b)).set k (mn_tr b v)))) → va_S (fun q => b.1 ≤ q) H H1 locs1 → W p l e R s m args below meth c H1 locs1 cells slots Q (F0 m (pc + 3) ls (r.map (mn_tr b))) :=
    fun H1 locs1 p1 d1 s1 => kk H1 locs1 ⟨by rw [List.length_set]; exact Nat.le_trans hz s1.1, _, p1, d1, hset⟩ (mn_S_tr hS s1)
  cases hfi : (T k).2.2.2
  · rcases f6 with f6 | ⟨⟨host, f6⟩, -⟩
    · exact va_put hx hb hts f3 ty f4 f5 hown hK hP hD (mn_S_at hS) q0 hq f1 k f2 (hts _ f6) (fun _ h => h) hfi (f4 k f2) (f9 v b hfk).1 (f9 v b hfk).2 (by rw [List.length_map]; exact hk) hd go
    · exact va_putN hx hb hts f3 ty f4 f5 hown hK hP hD (mn_S_at hS) q0 hq f1 k f2 (hts _ f6) (fun _ h => h) hfi (f4 k f2) (f9 v b hfk).1 (f9 v b hfk).2 (by rw [List.length_map]; exact hk) hd go
  · have h9 := hfin (f7.trans hfi)
    rcases f6 with f6 | ⟨-, f6⟩
    · exact va_putF hx hb hts f3 ty f4 f5 hown hK hP hD (mn_S_at hS) q0 hq f1 k f2 (hts _ f6) (fun _ h => h) hfi (hini h9.1) (f8 h9.2) (f4 k f2) (f9 v b hfk).1 (f9 v b hfk).2 (by rw [List.length_map]; exact hk) hd go
    · rw [hfi] at f6; cases f6
theorem mn_ald_ok (hx : p.tables.exec = Jvm.exec) (hb : c.code = cc) (hK : va_K D cl (mn_tys aC E4 E5) s) (hR : mn_R D cl aC b hs H) {a : Nat} {i : Int32} {vs : List Value} {v : Int32}
    (hd : decode cc pc = .ok (.iaload, 1) ∧ hs[a]? = some (50, vs) ∨ decode cc pc = .ok (.baload, 1) ∧ hs[a]? = some (51, vs) ∨ decode cc pc = .ok (.caload, 1) ∧ hs[a]? = some (52, vs)) (hi : mn_ix vs i = some (.int v))
    (kk : W p l e R s m args below meth c H locs cells slots Q (F0 m (pc + 1) ls ((.int v :: r).map (mn_tr b)))) : W p l e R s m args below meth c H locs cells slots Q (F0 m pc ls ((.int i :: .ref a :: r).map (mn_tr b))) := by
  obtain ⟨hz, ws, hP, hD, hm⟩ := hR
  obtain ⟨h1, h2⟩ := mn_ix_in hi
  have hv : mn_i vs[i.toNatClampNeg]? = v := by rw [h2]; rfl
  rcases hd with ⟨hd, ha⟩ | ⟨hd, ha⟩ | ⟨hd, ha⟩
  · obtain ⟨q0, hq⟩ := mn_wat hm ha (by simp)
    rw [mn_E50] at hq
    exact va_iald hx hb hK hP q0 0 hq rfl h1 hd (by rw [hv]; exact kk)
  · obtain ⟨q0, hq⟩ := mn_wat hm ha (by simp)
    rw [mn_E51] at hq
    exact va_zald hx hb hK hP q0 1 hq rfl h1 hd (by rw [hv]; exact kk)
  · obtain ⟨q0, hq⟩ := mn_wat hm ha (by simp)
    rw [mn_E52] at hq
    exact va_cald hx hb hK hP q0 2 hq rfl h1 hd (by rw [hv]; exact kk)
theorem mn_lald_ok (hx : p.tables.exec = Jvm.exec) (hb : c.code = cc) (hK : va_K D cl (mn_tys aC E4 E5) s) (hR : mn_R D cl aC b hs H) {a : Nat} {i : Int32} {vs : List Value} {v : Int64}
    (hd : decode cc pc = .ok (.laload, 1)) (ha : hs[a]? = some (53, vs)) (hi : mn_ix vs i = some (.long v))
    (kk : W p l e R s m args below meth c H locs cells slots Q (F0 m (pc + 1) ls ((.long v :: r).map (mn_tr b)))) : W p l e R s m args below meth c H locs cells slots Q (F0 m pc ls ((.int i :: .ref a :: r).map (mn_tr b))) := by
  obtain ⟨hz, ws, hP, hD, hm⟩ := hR
  obtain ⟨h1, h2⟩ := mn_ix_in hi
  have hv : mn_l vs[i.toNatClampNeg]? = v := by rw [h2]; rfl
  obtain ⟨q0, hq⟩ := mn_wat hm ha (by simp)
  rw [mn_E53] at hq
  exact va_lald hx hb hK hP q0 3 hq rfl h1 hd (by rw [hv]; exact kk)
theorem mn_tys_r (aC : Nat → ClassId) (E4 E5 : String) {k : Nat} (h : 4 ≤ k ∧ k < 6) : ∃ C, (mn_tys aC E4 E5)[k]? = some (aC k, .object C) ∧ (k = 4 ∧ C = E4 ∨ k = 5 ∧ C = E5) := by
  rcases (show k = 4 ∨ k = 5 by omega) with rfl | rfl
  · exact ⟨E4, rfl, Or.inl ⟨rfl, rfl⟩⟩
  · exact ⟨E5, rfl, Or.inr ⟨rfl, rfl⟩⟩
theorem mn_aald_ok (hx : p.tables.exec = Jvm.exec) (hb : c.code = cc) (hK : va_K D cl (mn_tys aC E4 E5) s) (hR : mn_R D cl aC b hs H) {a k : Nat} {i : Int32} {vs : List Value} {v : Value} (hk : 4 ≤ k ∧ k < 6)
    (hd : decode cc pc = .ok (.aaload, 1)) (ha : hs[a]? = some (50 + k, vs)) (hi : mn_ix vs i = some v) (hv0 : v = .null ∨ ∃ y, v = .ref y)
    (kk : W p l e R s m args below meth c H locs cells slots Q (F0 m (pc + 1) ls ((v :: r).map (mn_tr b)))) : W p l e R s m args below meth c H locs cells slots Q (F0 m pc ls ((.int i :: .ref a :: r).map (mn_tr b))) := by
  obtain ⟨hz, ws, hP, hD, hm⟩ := hR
  obtain ⟨h1, h2⟩ := mn_ix_in hi
  have hv : va_rf (mn_r b vs[i.toNatClampNeg]?) = mn_tr b v := by
    rw [h2]
    rcases hv0 with rfl | ⟨y, rfl⟩ <;> rfl
  obtain ⟨q0, hq⟩ := mn_wat hm ha (by simp; omega)
  rw [mn_E_r hk.1] at hq
  obtain ⟨C, ht, -⟩ := mn_tys_r aC E4 E5 hk
  exact va_aldq hx hb hK hP q0 k hq ht h1 hd (by rw [hv]; exact kk)
theorem mn_alen_ok (hx : p.tables.exec = Jvm.exec) (hb : c.code = cc) (hK : va_K D cl (mn_tys aC E4 E5) s) (hR : mn_R D cl aC b hs H) {a k : Nat} {vs : List Value} (hk : k < 6)
    (hd : decode cc pc = .ok (.arraylength, 1)) (ha : hs[a]? = some (50 + k, vs))
    (kk : W p l e R s m args below meth c H locs cells slots Q (F0 m (pc + 1) ls ((.int (Int32.ofNat vs.length) :: r).map (mn_tr b)))) : W p l e R s m args below meth c H locs cells slots Q (F0 m pc ls ((.ref a :: r).map (mn_tr b))) := by
  obtain ⟨hz, ws, hP, hD, hm⟩ := hR
  obtain ⟨q0, hq⟩ := mn_wat hm ha (by simp; omega)
  rcases (show k = 0 ∨ k = 1 ∨ k = 2 ∨ k = 3 ∨ (4 ≤ k ∧ k < 6) by omega) with rfl | rfl | rfl | rfl | h
  · rw [mn_E50] at hq
    exact va_alen hx hb hK hP q0 0 hq (ty := .int) rfl rfl hd kk
  · rw [mn_E51] at hq
    exact va_alen hx hb hK hP q0 1 hq (ty := .boolean) rfl rfl hd kk
  · rw [mn_E52] at hq
    exact va_alen hx hb hK hP q0 2 hq (ty := .char) rfl rfl hd kk
  · rw [mn_E53] at hq
    exact va_alen hx hb hK hP q0 3 hq (ty := .long) rfl rfl hd kk
  · rw [mn_E_r h.1] at hq
    obtain ⟨C, ht, -⟩ := mn_tys_r aC E4 E5 h
    exact va_alen hx hb hK hP q0 k hq ht rfl hd kk
theorem mn_ast_ok (hx : p.tables.exec = Jvm.exec) (hb : c.code = cc) (hK : va_K D cl (mn_tys aC E4 E5) s) (hR : mn_R D cl aC b hs H) {H0 : Heap} (hS : va_S (fun q => b.1 ≤ q) H0 H locs) {a tg : Nat} {i x y : Int32} {vs : List Value} (ha : hs[a]? = some (tg, vs)) (hi : ¬ (i < 0 ∨ vs.length ≤ i.toNatClampNeg))
    (hd : decode cc pc = .ok (.iastore, 1) ∧ tg = 50 ∧ y = x ∨ decode cc pc = .ok (.bastore, 1) ∧ tg = 51 ∧ y = vp_nar .boolean x ∨ decode cc pc = .ok (.castore, 1) ∧ tg = 52 ∧ y = vp_nar .char x)
    (kk : ∀ (H1 : Heap) (locs1 : List Loc), mn_R D cl aC b (hs.set a (tg, vs.set i.toNatClampNeg (.int y))) H1 → va_S (fun q => b.1 ≤ q) H0 H1 locs1 → W p l e R s m args below meth c H1 locs1 cells slots Q (F0 m (pc + 1) ls (r.map (mn_tr b)))) : W p l e R s m args below meth c H locs cells slots Q (F0 m pc ls ((.int x :: .int i :: .ref a :: r).map (mn_tr b))) := by
  obtain ⟨hz, ws, hP, hD, hm⟩ := hR
  have hlt : i.toNatClampNeg < vs.length := by
    rcases Nat.lt_or_ge i.toNatClampNeg vs.length with h | h
    · exact h
    · exact absurd (Or.inr h) hi
  have htg : tg ≠ 99 := by rcases hd with ⟨-, h, -⟩ | ⟨-, h, -⟩ | ⟨-, h, -⟩ <;> omega
  obtain ⟨q0, hq⟩ := mn_wat hm ha htg
  have hset := mn_set_mem hD hm hq (c' := (tg, vs.set i.toNatClampNeg (.int y))) htg
  rcases hd with ⟨hd, rfl, rfl⟩ | ⟨hd, rfl, rfl⟩ | ⟨hd, rfl, rfl⟩
  · rw [mn_E50] at hq
    rw [mn_E50, ← mn_updI hlt, List.length_set] at hset
    exact va_iast hx hb hK hP hD (mn_S_at hS) q0 0 hq rfl hi hd (fun H1 locs1 p1 d1 s1 => kk H1 locs1 ⟨by rw [List.length_set]; exact Nat.le_trans hz s1.1, _, p1, d1, hset⟩ (mn_S_tr hS s1))
  · rw [mn_E51] at hq
    rw [mn_E51, ← mn_updI hlt, List.length_set] at hset
    exact va_zast hx hb hK hP hD (mn_S_at hS) q0 1 hq rfl hi hd (fun H1 locs1 p1 d1 s1 => kk H1 locs1 ⟨by rw [List.length_set]; exact Nat.le_trans hz s1.1, _, p1, d1, hset⟩ (mn_S_tr hS s1))
  · rw [mn_E52] at hq
    rw [mn_E52, ← mn_updI hlt, List.length_set] at hset
    exact va_cast hx hb hK hP hD (mn_S_at hS) q0 2 hq rfl hi hd (fun H1 locs1 p1 d1 s1 => kk H1 locs1 ⟨by rw [List.length_set]; exact Nat.le_trans hz s1.1, _, p1, d1, hset⟩ (mn_S_tr hS s1))
theorem mn_last_ok (hx : p.tables.exec = Jvm.exec) (hb : c.code = cc) (hK : va_K D cl (mn_tys aC E4 E5) s) (hR : mn_R D cl aC b hs H) {H0 : Heap} (hS : va_S (fun q => b.1 ≤ q) H0 H locs) {a : Nat} {i : Int32} {x : Int64} {vs : List Value} (ha : hs[a]? = some (53, vs)) (hi : ¬ (i < 0 ∨ vs.length ≤ i.toNatClampNeg))
    (hd : decode cc pc = .ok (.lastore, 1))
    (kk : ∀ (H1 : Heap) (locs1 : List Loc), mn_R D cl aC b (hs.set a (53, vs.set i.toNatClampNeg (.long x))) H1 → va_S (fun q => b.1 ≤ q) H0 H1 locs1 → W p l e R s m args below meth c H1 locs1 cells slots Q (F0 m (pc + 1) ls (r.map (mn_tr b)))) : W p l e R s m args below meth c H locs cells slots Q (F0 m pc ls ((.long x :: .int i :: .ref a :: r).map (mn_tr b))) := by
  obtain ⟨hz, ws, hP, hD, hm⟩ := hR
  have hlt : i.toNatClampNeg < vs.length := by
    rcases Nat.lt_or_ge i.toNatClampNeg vs.length with h | h
    · exact h
    · exact absurd (Or.inr h) hi
  obtain ⟨q0, hq⟩ := mn_wat hm ha (by simp)
  have hset := mn_set_mem hD hm hq (c' := (53, vs.set i.toNatClampNeg (.long x))) (by simp)
  rw [mn_E53] at hq
  rw [mn_E53, ← mn_updL hlt, List.length_set] at hset
  exact va_last hx hb hK hP hD (mn_S_at hS) q0 3 hq rfl hi hd (fun H1 locs1 p1 d1 s1 => kk H1 locs1 ⟨by rw [List.length_set]; exact Nat.le_trans hz s1.1, _, p1, d1, hset⟩ (mn_S_tr hS s1))
theorem mn_aast_ok (hx : p.tables.exec = Jvm.exec) (hb : c.code = cc) (hK : va_K D cl (mn_tys aC E4 E5) s) (hR : mn_R D cl aC b hs H) {H0 : Heap} (hS : va_S (fun q => b.1 ≤ q) H0 H locs) {a v k tv : Nat} {i : Int32} {vs vv : List Value} (hk : 4 ≤ k ∧ k < 6) (ha : hs[a]? = some (50 + k, vs)) (hv : hs[v]? = some (tv, vv)) (htv : tv < 50) (hi : ¬ (i < 0 ∨ vs.length ≤ i.toNatClampNeg))
    {q : vw_C} (hc : cl[tv]? = some q) (hn : (k = 4 → q.1 = E4) ∧ (k = 5 → q.1 = E5)) (hd : decode cc pc = .ok (.aastore, 1))
    (kk : ∀ (H1 : Heap) (locs1 : List Loc), mn_R D cl aC b (hs.set a (50 + k, vs.set i.toNatClampNeg (.ref v))) H1 → va_S (fun q => b.1 ≤ q) H0 H1 locs1 → W p l e R s m args below meth c H1 locs1 cells slots Q (F0 m (pc + 1) ls (r.map (mn_tr b)))) : W p l e R s m args below meth c H locs cells slots Q (F0 m pc ls ((.ref v :: .int i :: .ref a :: r).map (mn_tr b))) := by
  obtain ⟨hz, ws, hP, hD, hm⟩ := hR
  have hlt : i.toNatClampNeg < vs.length := by
    rcases Nat.lt_or_ge i.toNatClampNeg vs.length with h | h
    · exact h
    · exact absurd (Or.inr h) hi
  obtain ⟨q0, hq⟩ := mn_wat hm ha (by simp; omega)
  obtain ⟨qk, hqk⟩ := mn_wat hm hv (by simp; omega)
  have hset := mn_set_mem hD hm hq (c' := (50 + k, vs.set i.toNatClampNeg (.ref v))) (by simp; omega)
  rw [mn_E_r hk.1] at hq
  rw [mn_E_r hk.1, ← mn_updR hlt, List.length_set] at hset
  rw [mn_E_o htv] at hqk
  obtain ⟨C, ht, hC⟩ := mn_tys_r aC E4 E5 hk
  have hCq : C = q.1 := by
    rcases hC with ⟨h1, h2⟩ | ⟨h1, h2⟩
    · rw [h2, hn.1 h1]
    · rw [h2, hn.2 h1]
  rw [hCq] at ht
  exact va_astq hx hb hK hP hD (mn_S_at hS) q0 k qk tv hq ht hqk hc hi hd (fun H1 locs1 p1 d1 s1 => kk H1 locs1 ⟨by rw [List.length_set]; exact Nat.le_trans hz s1.1, _, p1, d1, hset⟩ (mn_S_tr hS s1))
end MND
end
section
theorem mn_R.push {D : va_G} {cl : List vw_C} {aC : Nat → ClassId} {b : Nat × Nat} {hs : mn_H} {H H1 : Heap} (hR : mn_R D cl aC b hs H) (hz : H.size = b.1 + hs.length) (z1 : H1.size = H.size + 1) (o1 : ∀ q, q < H.size → H1[q]? = H[q]?) {c' : mn_C} (hc : c'.1 ≠ 99) (hat : va_at D cl (b.1 + hs.length, mn_E aC b c') H1) : mn_R D cl aC b (hs ++ [c']) H1 := by
  obtain ⟨-, ws, hP, hD, hm⟩ := hR
  refine ⟨by rw [z1, hz, List.length_append]; simp; omega, ws ++ [(b.1 + hs.length, mn_E aC b c')], (hP.kept fun k x hx => o1 x.1 (hP k x hx).lt).app (fun k x hx => ?_), hD.push hP hz.symm (by omega), mn_push_mem hm hc⟩
  have h0 : k < 1 := (List.getElem?_eq_some_iff.mp hx).1
  rw [show k = 0 by omega] at hx
  cases hx
  exact hat
theorem mn_R.hole {D : va_G} {cl : List vw_C} {aC : Nat → ClassId} {b : Nat × Nat} {hs : mn_H} {H H1 : Heap} (hR : mn_R D cl aC b hs H) (hz : H.size = b.1 + hs.length) (z1 : H.size + 1 ≤ H1.size) (o1 : ∀ q, q < H.size → b.1 ≤ q → H1[q]? = H[q]?) {c' : mn_C} (hc : c'.1 = 99) : mn_R D cl aC b (hs ++ [c']) H1 := by
  obtain ⟨-, ws, hP, hD, hm⟩ := hR
  exact ⟨by rw [List.length_append]; simp; omega, ws, hP.kept fun k x hx => o1 x.1 (hP k x hx).lt (hD.2 k x hx), hD, mn_hole_mem hm hc⟩
theorem mn_rep_i (N : Nat) : (fun j : Nat => Value.int (mn_i (List.replicate N (Value.int 0))[j]?)) = fun _ => Value.int 0 := by
  funext j
  rw [List.getElem?_replicate]
  split <;> rfl
theorem mn_rep_l (N : Nat) : (fun j : Nat => Value.long (mn_l (List.replicate N (Value.long 0))[j]?)) = fun _ => Value.long 0 := by
  funext j
  rw [List.getElem?_replicate]
  split <;> rfl
theorem mn_rep_r (b : Nat × Nat) (N : Nat) : (fun j : Nat => va_rf (mn_r b (List.replicate N Value.null)[j]?)) = fun _ => Value.null := by
  funext j
  rw [List.getElem?_replicate]
  split <;> rfl
section MNN
variable {p : Program} {l : Launch} {e : Env} {R : Room} {s : State} {m : MethodId} {args : Array Value} {below : List Frame} {meth : Method} {c : Code} {H : Heap} {locs : List Loc} {slots : Nat} {Q : State → Prop} {cc : ByteArray} {b : Nat × Nat} {n0 : Nat} {D : va_G} {cl : List vw_C} {aC : Nat → ClassId} {hs : mn_H} {E4 E5 : String} {WT : List Cond} {own : String} {pc : Nat} {ls : Array Slot} {r : List Value}
theorem mn_sized {g : JFrame} (hsz : s.heap.size = b.1 + n0) (hz : b.1 + hs.length ≤ H.size) (hn : n0 ≤ hs.length) (kk : H.size = b.1 + hs.length → W p l e R s m args below meth c H locs (hs.length - n0) slots Q g) : W p l e R s m args below meth c H locs (hs.length - n0) slots Q g := by
  intro T hT X
  have h := X.heapSize
  rw [hT, hsz] at h
  exact kk (by omega) T hT X
theorem mn_new_ok (hx : p.tables.exec = Jvm.exec) (hb : c.code = cc) (hts : ∀ w ∈ WT, w.before args s = true) (hown : s.vm.findClass own = some m.cls) (hK : va_K D cl (mn_tys aC E4 E5) s) (hR : mn_R D cl aC b hs H) {H0 : Heap} (hS : va_S (fun q => b.1 ≤ q) H0 H locs) (hsz : s.heap.size = b.1 + n0) (hn : n0 ≤ hs.length)
    {i ci : Nat} {df : List Value} {C : String} {T : u_T} {ty : Nat → FieldType} (hci : ci < 50) (f1 : cl[ci]? = some (C, T, df.length)) (f3 : ∀ w ∈ u_ws C T df.length, w ∈ WT) (f4 : ∀ j, j < df.length → parseFieldDescriptor (T j).2.2.1 = some (ty j)) (f5 : ∀ j, j < df.length → defaultValue (ty j) = vp_V df j) (f6 : df.map (mn_tr b) = df)
    (g1 : Cond.classLink own i C ∈ WT) (g2 : Cond.instantiable C df.length ∈ WT) (g3 : Cond.initialized C ∈ WT) (hd : decode cc pc = .ok (.new i, 3)) (hrc : hs.length - n0 + 1 ≤ R.cells) (hrs : slots + df.length ≤ R.slots)
    (kk : ∀ (H1 : Heap), mn_R D cl aC b (hs ++ [(ci, df)]) H1 → va_S (fun q => b.1 ≤ q) H0 H1 locs → W p l e R s m args below meth c H1 locs ((hs ++ [(ci, df)]).length - n0) (slots + df.length) Q (F0 m (pc + 3) ls ((.ref hs.length :: r).map (mn_tr b)))) : W p l e R s m args below meth c H locs (hs.length - n0) slots Q (F0 m pc ls (r.map (mn_tr b))) := by
  refine mn_sized hsz hR.1 hn fun hz => ?_
  have hKn := hK.1 ci _ f1
  refine W.newcK hx hb hown (hts _ g1) (hts _ g2) (hts _ g3) rfl hd hrc hrs hKn.2.1 hz fun H1 kC hkC e1 z1 o1 => ?_
  have hl : (hs ++ [(ci, df)]).length - n0 = hs.length - n0 + 1 := by simp; omega
  have h9 := kk H1 (hR.push hz (by rw [hz]; exact z1) (fun q hq => o1 q (by rw [← hz]; exact hq)) (by simp; omega) (by
    rw [mn_E_o hci, f6]
    exact ⟨_, f1, (u_born ty hts f3 hKn hkC e1 f4).to f5⟩)) (mn_S_tr hS ⟨by rw [z1, hz]; omega, fun q hq _ => o1 q (by rw [← hz]; exact hq), hS.2.2⟩)
  rw [hl] at h9
  exact h9
theorem mn_newa_ok (hx : p.tables.exec = Jvm.exec) (hb : c.code = cc) (hK : va_K D cl (mn_tys aC E4 E5) s) (hR : mn_R D cl aC b hs H) {H0 : Heap} (hS : va_S (fun q => b.1 ≤ q) H0 H locs) (hsz : s.heap.size = b.1 + n0) (hn : n0 ≤ hs.length)
    {n : Int32} {at9 : ArrayType} {c' : mn_C} (hnn : ¬ (n < 0 ∨ 100000 < n.toNatClampNeg)) (harr : (Cond.arrayClass (newarray.typeOf at9)).before args s = true)
    (hty : at9 = .int ∧ c' = (50, List.replicate n.toNatClampNeg (.int 0)) ∨ at9 = .boolean ∧ c' = (51, List.replicate n.toNatClampNeg (.int 0)) ∨ at9 = .char ∧ c' = (52, List.replicate n.toNatClampNeg (.int 0)) ∨ at9 = .long ∧ c' = (53, List.replicate n.toNatClampNeg (.long 0)))
    (hd : decode cc pc = .ok (.newarray at9, 2)) (hrc : hs.length - n0 + 1 ≤ R.cells) (hrs : slots + n.toNatClampNeg ≤ R.slots)
    (kk : ∀ (H1 : Heap), mn_R D cl aC b (hs ++ [c']) H1 → va_S (fun q => b.1 ≤ q) H0 H1 locs → W p l e R s m args below meth c H1 locs ((hs ++ [c']).length - n0) (slots + n.toNatClampNeg) Q (F0 m (pc + 2) ls ((.ref hs.length :: r).map (mn_tr b)))) : W p l e R s m args below meth c H locs (hs.length - n0) slots Q (F0 m pc ls ((.int n :: r).map (mn_tr b))) := by
  refine mn_sized hsz hR.1 hn fun hz => ?_
  have hn1 : ¬ n < 0 := fun h => hnn (Or.inl h)
  have hn2 : n.toNatClampNeg ≤ 100000 := by
    rcases Nat.lt_or_ge 100000 n.toNatClampNeg with h | h
    · exact absurd (Or.inr h) hnn
    · exact h
  have hl : (hs ++ [c']).length - n0 = hs.length - n0 + 1 := by simp; omega
  have hc99 : c'.1 ≠ 99 := by rcases hty with ⟨-, h⟩ | ⟨-, h⟩ | ⟨-, h⟩ | ⟨-, h⟩ <;> rw [h] <;> simp
  have hbytes : n.toNatClampNeg * componentBytes (newarray.typeOf at9) ≤ 536870912 := by
    rcases hty with ⟨h, -⟩ | ⟨h, -⟩ | ⟨h, -⟩ | ⟨h, -⟩ <;> subst h <;> simp [newarray.typeOf, componentBytes] <;> omega
  refine va_newaK hx hb harr rfl hd rfl hn1 rfl hbytes hrc hrs hz fun H1 cA e1 z1 o1 hAr hNm => ?_
  have h9 := kk H1 (hR.push hz (by rw [hz]; exact z1) (fun q hq => o1 q (by rw [← hz]; exact hq)) hc99 (by
    rcases hty with ⟨h, h'⟩ | ⟨h, h'⟩ | ⟨h, h'⟩ | ⟨h, h'⟩ <;> subst h <;> subst h'
    · have hA : cA = aC 0 := Option.some.inj (hNm.symm.trans (hK.2 0 _ rfl).2)
      subst hA
      rw [mn_E50]
      show H1[b.1 + hs.length]? = some (vp_cell _ (_, .inl _))
      rw [vp_cell_i, mn_rep_i, List.length_replicate]
      exact e1
    · have hA : cA = aC 1 := Option.some.inj (hNm.symm.trans (hK.2 1 _ rfl).2)
      subst hA
      rw [mn_E51]
      show H1[b.1 + hs.length]? = some (vp_cell _ (_, .inl _))
      rw [vp_cell_i, mn_rep_i, List.length_replicate]
      exact e1
    · have hA : cA = aC 2 := Option.some.inj (hNm.symm.trans (hK.2 2 _ rfl).2)
      subst hA
      rw [mn_E52]
      show H1[b.1 + hs.length]? = some (vp_cell _ (_, .inl _))
      rw [vp_cell_i, mn_rep_i, List.length_replicate]
      exact e1
    · have hA : cA = aC 3 := Option.some.inj (hNm.symm.trans (hK.2 3 _ rfl).2)
      subst hA
      rw [mn_E53]
      show H1[b.1 + hs.length]? = some (vp_cell _ (_, .inr (.inl _)))
      rw [vp_cell_l, mn_rep_l, List.length_replicate]
      exact e1)) (mn_S_tr hS ⟨by rw [z1, hz]; omega, fun q hq _ => o1 q (by rw [← hz]; exact hq), hS.2.2⟩)
  rw [hl] at h9
  exact h9
theorem mn_newr_ok (hx : p.tables.exec = Jvm.exec) (hb : c.code = cc) (hown : s.vm.findClass own = some m.cls) (hK : va_K D cl (mn_tys aC E4 E5) s) (hR : mn_R D cl aC b hs H) {H0 : Heap} (hS : va_S (fun q => b.1 ≤ q) H0 H locs) (hsz : s.heap.size = b.1 + n0) (hn : n0 ≤ hs.length)
    {n : Int32} {i k : Nat} {C : String} (hk : 4 ≤ k ∧ k < 6) (hC : (k = 4 → C = E4) ∧ (k = 5 → C = E5)) (hnn : ¬ (n < 0 ∨ 100000 < n.toNatClampNeg)) (hover : (Cond.arrayOver (.object C)).before args s = true) (hlink : (Cond.classLink own i C).before args s = true)
    (hd : decode cc pc = .ok (.anewarray i, 3)) (hrc : hs.length - n0 + 1 ≤ R.cells) (hrs : slots + n.toNatClampNeg ≤ R.slots)
    (kk : ∀ (H1 : Heap), mn_R D cl aC b (hs ++ [(50 + k, List.replicate n.toNatClampNeg .null)]) H1 → va_S (fun q => b.1 ≤ q) H0 H1 locs → W p l e R s m args below meth c H1 locs ((hs ++ [(50 + k, List.replicate n.toNatClampNeg Value.null)]).length - n0) (slots + n.toNatClampNeg) Q (F0 m (pc + 3) ls ((.ref hs.length :: r).map (mn_tr b)))) : W p l e R s m args below meth c H locs (hs.length - n0) slots Q (F0 m pc ls ((.int n :: r).map (mn_tr b))) := by
  refine mn_sized hsz hR.1 hn fun hz => ?_
  have hn1 : ¬ n < 0 := fun h => hnn (Or.inl h)
  have hn2 : n.toNatClampNeg ≤ 100000 := by
    rcases Nat.lt_or_ge 100000 n.toNatClampNeg with h | h
    · exact absurd (Or.inr h) hnn
    · exact h
  have hl : (hs ++ [(50 + k, List.replicate n.toNatClampNeg Value.null)]).length - n0 = hs.length - n0 + 1 := by simp; omega
  refine W.anew hx hb hown hlink hover rfl hd rfl hn1 (by omega) hrc hrs fun cA kA comp f1 f2 f3 f4 => ?_
  generalize hH1 : H.push ({ cls := cA, slots := Array.replicate n.toNatClampNeg .null, vm := .none } : Cell) = H1
  have z1 : H1.size = H.size + 1 := by rw [← hH1, Array.size_push]
  have e1 : H1[H.size]? = some (arrV cA n.toNatClampNeg (fun _ => .null)) := by rw [← hH1, Array.getElem?_push_size, ← arrV_new]
  have o1 : ∀ q : Nat, q < H.size → H1[q]? = H[q]? := fun q hq => by rw [← hH1, Array.getElem?_push, if_neg (Nat.ne_of_lt hq)]
  have hA : cA = aC k := by
    rcases (show k = 4 ∨ k = 5 by omega) with h | h
    · subst h
      obtain ⟨kA2, comp2, a1, a2, a3, a4⟩ := (hK.2 4 _ rfl).2
      rw [← hC.1 rfl] at a4
      exact Option.some.inj (f1.symm.trans a4)
    · subst h
      obtain ⟨kA2, comp2, a1, a2, a3, a4⟩ := (hK.2 5 _ rfl).2
      rw [← hC.2 rfl] at a4
      exact Option.some.inj (f1.symm.trans a4)
  subst hA
  have h9 := kk H1 (hR.push hz z1 o1 (by simp; omega) (by
    rw [mn_E_r hk.1]
    show H1[b.1 + hs.length]? = some (vp_cell _ (_, .inr (.inr (.inr (.inr _)))))
    rw [vp_cell_q, mn_rep_r, List.length_replicate, ← hz]
    exact e1)) (mn_S_tr hS ⟨by omega, fun q hq _ => o1 q hq, hS.2.2⟩)
  rw [hl] at h9
  refine W.eq ?_ h9
  show _ = F0 m (pc + 3) ls (.ref (b.1 + hs.length) :: r.map (mn_tr b))
  rw [hz]
end MNN
end
section
def mn_cat (r : List Value) : Nat := (r.map fun v => v.category).sum
theorem mn_cat_tr (b : Nat × Nat) (r : List Value) : ((r.map (mn_tr b)).map fun v => v.category).sum = mn_cat r := by
  unfold mn_cat
  rw [List.map_map]
  congr 1
  apply List.map_congr_left
  intro v _
  exact mn_tr_cat b v
def mn_cpy (f g : List Value) (sp dp n : Nat) : List Value := g.take dp ++ (f.drop sp).take n ++ g.drop (dp + n)
/-- the JDK's own members that are reached: Object's constructor, max, min, arraycopy of ints -/
def mn_opE (pl : Nat → mn_K) (fr lo : Nat) (q : Instr × Nat) (pc : Nat) (xs : List (Option Value)) (st : List Value) (ns : Nat) (hs : mn_H) : Option mn_S :=
  match q with
  | (.invokespecial i, 3) => match pl i, st with
    | (10, _, _, _, _), .ref _ :: r => if 1 ≤ fr ∧ mn_cat r + 12 ≤ lo then some (pc + 3, xs, r, ns, hs) else none
    | _, _ => none
  | (.invokestatic i, 3) => match pl i, st with
    | (12, _, _, _, _), .int y :: .int x :: r => if 1 ≤ fr ∧ mn_cat r + 13 ≤ lo then some (pc + 3, xs, .int (if x < y then y else x) :: r, ns, hs) else none
    | (13, _, _, _, _), .int y :: .int x :: r => if 1 ≤ fr ∧ mn_cat r + 13 ≤ lo then some (pc + 3, xs, .int (if y < x then y else x) :: r, ns, hs) else none
    | (11, _, _, _, _), .int n :: .int dp :: .ref a :: .int sp :: .ref a0 :: r => match hs[a0]?, hs[a]? with
      | some (50, f), some (50, g) => if 1 ≤ fr ∧ mn_cat r + (nativeFrameWords "java/lang/System" "arraycopy" 5 + 11) ≤ lo ∧ ¬ sp < 0 ∧ ¬ dp < 0 ∧ ¬ n < 0 ∧ sp.toNatClampNeg + n.toNatClampNeg ≤ f.length ∧ dp.toNatClampNeg + n.toNatClampNeg ≤ g.length then some (pc + 3, xs, r, ns, hs.set a (50, mn_cpy f g sp.toNatClampNeg dp.toNatClampNeg n.toNatClampNeg)) else none
      | _, _ => none
    | _, _ => none
  | _ => none
theorem mn_cpy_len {f g : List Value} {sp dp n : Nat} (h1 : sp + n ≤ f.length) (h2 : dp + n ≤ g.length) : (mn_cpy f g sp dp n).length = g.length := by
  unfold mn_cpy
  simp
  omega
theorem mn_cpy_i {f g : List Value} {sp dp n : Nat} (h1 : sp + n ≤ f.length) (h2 : dp + n ≤ g.length) : va_cpy (fun i => mn_i f[i]?) (fun i => mn_i g[i]?) sp dp n = fun i => mn_i (mn_cpy f g sp dp n)[i]? := by
  funext k
  unfold mn_cpy
  have hl1 : (g.take dp).length = dp := by simp; omega
  have hl2 : ((f.drop sp).take n).length = n := by simp; omega
  by_cases hk : dp ≤ k ∧ k < dp + n
  · rw [pk_cpy_in hk.1 hk.2, List.append_assoc, List.getElem?_append_right (by omega), hl1, List.getElem?_append_left (by omega), List.getElem?_take_of_lt (by omega), List.getElem?_drop]
  · rw [pk_cpy_out (by omega)]
    by_cases hk2 : k < dp
    · rw [List.append_assoc, List.getElem?_append_left (by omega), List.getElem?_take_of_lt hk2]
    · rw [List.getElem?_append_right (by rw [List.length_append]; omega), List.length_append, hl1, hl2, List.getElem?_drop]
      congr 2
      omega
section MNE
variable {p : Program} {l : Launch} {e : Env} {R : Room} {s : State} {m : MethodId} {args : Array Value} {below : List Frame} {meth : Method} {c : Code} {H : Heap} {locs : List Loc} {cells slots : Nat} {Q : State → Prop} {cc : ByteArray} {b : Nat × Nat} {D : va_G} {cl : List vw_C} {aC : Nat → ClassId} {hs : mn_H} {E4 E5 : String} {WT : List Cond} {own : String} {pc : Nat} {ls : Array Slot} {r : List Value}
theorem mn_oinit_ok (hx : p.tables.exec = Jvm.exec) (hb : c.code = cc) (hml : c.maxLocals = ls.size) (hts : ∀ w ∈ WT, w.before args s = true) (hown : s.vm.findClass own = some m.cls) {i a : Nat} (g1 : Cond.methodLink own i Lib.objectInit ∈ WT) (g2 : Cond.instanceMethod Lib.objectInit ∈ WT) (g3 : Cond.code Lib.objectInit ⟨#[0xb1]⟩ 1 none ∈ WT)
    (hd : decode cc pc = .ok (.invokespecial i, 3)) (hfr : 1 ≤ R.frames) (hlo : mn_cat r + 12 ≤ R.locals)
    (kk : W p l e R s m args below meth c H locs cells slots Q (F0 m (pc + 3) ls (r.map (mn_tr b)))) : W p l e R s m args below meth c H locs cells slots Q (F0 m pc ls ((.ref a :: r).map (mn_tr b))) := by
  refine W.objInit hx hb hown (hts _ g1) (hts _ g2) (hts _ g3) rfl hml.symm rfl hd hfr ?_ kk
  rw [mn_cat_tr]
  show 2 * 0 + mn_cat r + 12 ≤ R.locals
  omega
theorem mn_max_ok (hx : p.tables.exec = Jvm.exec) (hb : c.code = cc) (hml : c.maxLocals = ls.size) (hts : ∀ w ∈ WT, w.before args s = true) (hown : s.vm.findClass own = some m.cls) {i : Nat} {x y : Int32} (g1 : Cond.methodLink own i Lib.Math.max.name ∈ WT) (g2 : Cond.static Lib.Math.max.name ∈ WT) (g3 : Cond.initialized "java/lang/Math" ∈ WT) (g4 : Cond.code Lib.Math.max.name Lib.Math.max.code 2 (some .int) ∈ WT)
    (hd : decode cc pc = .ok (.invokestatic i, 3)) (hfr : 1 ≤ R.frames) (hlo : mn_cat r + 13 ≤ R.locals) (hc : cells ≤ R.cells) (hs9 : slots ≤ R.slots)
    (kk : W p l e R s m args below meth c H locs cells slots Q (F0 m (pc + 3) ls ((.int (if x < y then y else x) :: r).map (mn_tr b)))) : W p l e R s m args below meth c H locs cells slots Q (F0 m pc ls ((.int y :: .int x :: r).map (mn_tr b))) :=
  va_mmax hx hb hml hown (hts _ g1) (hts _ g2) (hts _ g3) (hts _ g4) hfr (by rw [mn_cat_tr]; exact hlo) hc hs9 hd kk
theorem mn_min_ok (hx : p.tables.exec = Jvm.exec) (hb : c.code = cc) (hml : c.maxLocals = ls.size) (hts : ∀ w ∈ WT, w.before args s = true) (hown : s.vm.findClass own = some m.cls) {i : Nat} {x y : Int32} (g1 : Cond.methodLink own i Lib.Math.min.name ∈ WT) (g2 : Cond.static Lib.Math.min.name ∈ WT) (g3 : Cond.initialized "java/lang/Math" ∈ WT) (g4 : Cond.code Lib.Math.min.name Lib.Math.min.code 2 (some .int) ∈ WT)
    (hd : decode cc pc = .ok (.invokestatic i, 3)) (hfr : 1 ≤ R.frames) (hlo : mn_cat r + 13 ≤ R.locals) (hc : cells ≤ R.cells) (hs9 : slots ≤ R.slots)
    (kk : W p l e R s m args below meth c H locs cells slots Q (F0 m (pc + 3) ls ((.int (if y < x then y else x) :: r).map (mn_tr b)))) : W p l e R s m args below meth c H locs cells slots Q (F0 m pc ls ((.int y :: .int x :: r).map (mn_tr b))) :=
  va_mmin hx hb hml hown (hts _ g1) (hts _ g2) (hts _ g3) (hts _ g4) hfr (by rw [mn_cat_tr]; exact hlo) hc hs9 hd kk
theorem mn_acopy_ok (hx : p.tables.exec = Jvm.exec) (hb : c.code = cc) (hml : c.maxLocals = ls.size) (hts : ∀ w ∈ WT, w.before args s = true) (hown : s.vm.findClass own = some m.cls) (hK : va_K D cl (mn_tys aC E4 E5) s) (hR : mn_R D cl aC b hs H) {H0 : Heap} (hS : va_S (fun q => b.1 ≤ q) H0 H locs) {i a a0 : Nat} {sp dp n : Int32} {f g : List Value} (g1 : Cond.methodLink own i arraycopyName ∈ WT) (g2 : Cond.native arraycopyName ∈ WT) (g3 : Cond.static arraycopyName ∈ WT) (g4 : Cond.initialized "java/lang/System" ∈ WT)
    (ha0 : hs[a0]? = some (50, f)) (ha : hs[a]? = some (50, g)) (hd : decode cc pc = .ok (.invokestatic i, 3)) (hfr : 1 ≤ R.frames) (hlo : mn_cat r + (nativeFrameWords "java/lang/System" "arraycopy" 5 + 11) ≤ R.locals) (h1 : ¬ sp < 0) (h2 : ¬ dp < 0) (h3 : ¬ n < 0) (h4 : sp.toNatClampNeg + n.toNatClampNeg ≤ f.length) (h5 : dp.toNatClampNeg + n.toNatClampNeg ≤ g.length)
    (kk : ∀ (H1 : Heap) (locs1 : List Loc), mn_R D cl aC b (hs.set a (50, mn_cpy f g sp.toNatClampNeg dp.toNatClampNeg n.toNatClampNeg)) H1 → va_S (fun q => b.1 ≤ q) H0 H1 locs1 → W p l e R s m args below meth c H1 locs1 cells slots Q (F0 m (pc + 3) ls (r.map (mn_tr b)))) : W p l e R s m args below meth c H locs cells slots Q (F0 m pc ls ((.int n :: .int dp :: .ref a :: .int sp :: .ref a0 :: r).map (mn_tr b))) := by
  obtain ⟨hz, ws, hP, hD, hm⟩ := hR
  obtain ⟨q0, hq0⟩ := mn_wat hm ha0 (by simp)
  obtain ⟨q1, hq1⟩ := mn_wat hm ha (by simp)
  have hset := mn_set_mem hD hm hq1 (c' := (50, mn_cpy f g sp.toNatClampNeg dp.toNatClampNeg n.toNatClampNeg)) (by simp)
  rw [mn_E50] at hq0 hq1
  rw [mn_E50, ← mn_cpy_i h4 h5, mn_cpy_len h4 h5] at hset
  exact va_copyi hx hb hml hown (hts _ g1) (hts _ g2) (hts _ g3) (hts _ g4) hK hP hD (mn_S_at hS) q0 q1 0 0 hq0 hq1 rfl rfl rfl h1 h2 h3 h4 h5 (fun _ _ => rfl) hfr (by rw [mn_cat_tr]; exact hlo) hd (fun H1 locs1 p1 d1 s1 => kk H1 locs1 ⟨by rw [List.length_set]; exact Nat.le_trans hz s1.1, _, p1, d1, hset⟩ (mn_S_tr hS s1))
end MNE
end
section
/-- how a static method of ours is linked from a place of the pool, by the tables -/
def mn_GS (WT : List Cond) (own : String) (i : Nat) (y : MethodName) (n : Nat) : Prop :=
  (y.cls ≠ "java/lang/invoke/MethodHandle" ∧ y.cls ≠ "java/lang/invoke/VarHandle") ∧ (parseMethodDescriptor y.desc).map (fun d => d.parameters.length) = some n ∧ Cond.initialized y.cls ∈ WT ∧ Cond.static y ∈ WT ∧ (Cond.methodLink own i y ∈ WT ∨ ∃ host, Cond.methodLinkNest own i y host ∈ WT)
def mn_GV (WT : List Cond) (own : String) (i : Nat) (y : MethodName) (n : Nat) (C : String) : Prop :=
  (y.cls ≠ "java/lang/invoke/MethodHandle" ∧ y.cls ≠ "java/lang/invoke/VarHandle") ∧ (parseMethodDescriptor y.desc).map (fun d => d.parameters.length) = some n ∧ Cond.initialized y.cls ∈ WT ∧ Cond.instanceMethod y ∈ WT ∧ Cond.selects C y y ∈ WT ∧ (Cond.methodLink own i y ∈ WT ∨ ∃ host, Cond.methodLinkNest own i y host ∈ WT)
def mn_GI (WT : List Cond) (own : String) (i : Nat) (y : MethodName) (n : Nat) : Prop :=
  (y.cls ≠ "java/lang/invoke/MethodHandle" ∧ y.cls ≠ "java/lang/invoke/VarHandle") ∧ (parseMethodDescriptor y.desc).map (fun d => d.parameters.length) = some n ∧ Cond.initialized y.cls ∈ WT ∧ Cond.instanceMethod y ∈ WT ∧ y.name = "<init>" ∧ (Cond.methodLink own i y ∈ WT ∨ ∃ host, Cond.methodLinkNest own i y host ∈ WT)
/-- every word is of the tables, and stays where they grow warmer -/
def mn_GW (WT : List Cond) : Prop := ∀ w ∈ WT, ∀ (args a' : Array Value) (s U : State), s.WarmedH U.vm → w.before args s = true → w.before a' U = true
theorem mn_GW_keep {w : Cond} (h : (w.onTables && w.keeps) = true ∨ ∃ ty, w = .arrayClass ty) : ∀ (args a' : Array Value) (s U : State), s.WarmedH U.vm → w.before args s = true → w.before a' U = true := fun _ _ _ _ hU hb => word_at hU h hb
theorem mn_GW_nf (a : String) (i : Nat) (b n d h : String) : ∀ (args a' : Array Value) (s U : State), s.WarmedH U.vm → (Cond.fieldLinkNest a i b n d h).before args s = true → (Cond.fieldLinkNest a i b n d h).before a' U = true :=
  fun _ _ _ _ hU hb => va_Nw.use rfl (va_Nw.warmF hU (va_tabs rfl rfl hb))
theorem mn_GW_nm (a : String) (i : Nat) (x : MethodName) (h : String) : ∀ (args a' : Array Value) (s U : State), s.WarmedH U.vm → (Cond.methodLinkNest a i x h).before args s = true → (Cond.methodLinkNest a i x h).before a' U = true :=
  fun _ _ _ _ hU hb => va_Nw.use rfl (va_Nw.warmM hU (va_tabs rfl rfl hb))
section MNF
variable {p : Program} {l : Launch} {e : Env} {R : Room} {s : State} {m : MethodId} {args : Array Value} {below : List Frame} {meth : Method} {c : Code} {H : Heap} {locs : List Loc} {cells slots : Nat} {Q : State → Prop} {cc : ByteArray} {pc : Nat} {ls : Array Slot} {rest st0 : List Value} {mc ms : Nat} {free : Addr → Prop}
/-- behind a call that came back: its one answer, what the heap holds, what stayed -/
theorem mn_after {A : Nat → Prop} {H0 : Heap} {Qa : State → Outcome → State → Prop} {v0 : Option Value} {PH : Heap → Prop} (hr : va_Run p l e R s m args below meth c H locs cells slots mc ms (F0 m pc ls st0) rest Qa free) (hS : va_S A H0 H locs) (hf : ∀ q, free q → A q)
    (hQ : ∀ (st : State) (v : Option Value) (t : State), Qa st (.returned v) t → v = v0 ∧ PH t.heap ∧ va_F A st t)
    (kk : ∀ (H1 : Heap) (locs1 : List Loc), PH H1 → va_S A H0 H1 locs1 → W p l e R s m args below meth c H1 locs1 (cells + mc) (slots + ms) Q (F0 m (pc + 3) ls (v0.toList ++ rest))) : W p l e R s m args below meth c H locs cells slots Q (F0 m pc ls st0) := by
  intro T hT X
  obtain ⟨v, st₀, t, T', L, h0, X', hL, e1, e2, hq, st⟩ := hr T hT X
  obtain ⟨rfl, hp, hz, hk⟩ := hQ _ _ _ hq
  rw [h0] at hz hk
  obtain ⟨t2, a1, b1⟩ := kk T'.heap (locs ++ L) (by rw [e1]; exact hp) ⟨Nat.le_trans hS.1 (by rw [e1]; exact hz), fun q h1 h2 => by rw [e1, hk q (Nat.lt_of_lt_of_le h1 hS.1) h2]; exact hS.2.1 q h1 h2, fun q hq => by
      rcases List.mem_append.mp hq with h | h
      · exact hS.2.2 q h
      · exact hf _ (hL q h)⟩ T' rfl X'
  exact ⟨t2, st t2 a1, b1⟩
variable {WT : List Cond} {own : String} {y : MethodName} {bytes : ByteArray} {maxL n i : Nat} {ret : Option FieldType} {rm : Room} {Pc : Array Value → State → Prop} {Qc : Array Value → State → Outcome → State → Prop} {nL : Nat} {As : List Value}
theorem mn_ws (hts : ∀ w ∈ WT, w.before args s = true) (hW : mn_GW WT) (hc : Cond.code y bytes maxL ret ∈ WT) : ∀ w ∈ (Cond.code y bytes maxL ret :: WT), ∀ (a' : Array Value) (U : State), s.WarmedH U.vm → w.before a' U = true := by
  intro w hw a' U hU
  rcases List.mem_cons.mp hw with rfl | hw
  · exact hW _ hc _ _ _ _ hU (hts _ hc)
  · exact hW _ hw _ _ _ _ hU (hts _ hw)
theorem mn_len {k : Nat} {d : String} (h : (parseMethodDescriptor d).map (fun d => d.parameters.length) = some k) : ∀ sig, parseMethodDescriptor d = some sig → k = sig.parameters.length := by
  intro sig h2
  rw [h2] at h
  exact (Option.some.inj h).symm
theorem mn_runS (hx : p.tables.exec = Jvm.exec) (hb : c.code = cc) (hml : c.maxLocals = nL) (hown : s.vm.findClass own = some m.cls) (hts : ∀ w ∈ WT, w.before args s = true) (hW : mn_GW WT) (hc : Cond.code y bytes maxL ret ∈ WT) (hG : mn_GS WT own i y n)
    (hM : Met l y (Cond.code y bytes maxL ret :: WT) rm Pc Qc mc ms free) (hrc : rm.cells = mc) (hrs : rm.slots = ms) (hR : rm.frames + 1 ≤ R.frames ∧ 8 + (maxL + 11) + rm.locals ≤ R.locals) (hp : PreS s H Pc As) (hn : As.length = n) (hsize : ls.size = nL) (hst : st0 = As.reverse ++ rest) (hcat : (rest.map fun v => v.category).sum ≤ 8) (hd : decode cc pc = .ok (.invokestatic i, 3)) (hf : cells + mc ≤ R.cells ∧ slots + ms ≤ R.slots) :
    va_Run p l e R s m args below meth c H locs cells slots mc ms (F0 m pc ls st0) rest (Qc As.toArray) free := by
  obtain ⟨g1, g2, g3, g4, g5 | ⟨host, g5⟩⟩ := hG
  · exact va_runS (Ts := WT) ⟨hx, hb, hml, hown, hts⟩ hM ⟨⟨hrc, hrs, hR.1, hR.2, mn_ws hts hW hc, List.mem_cons_self, hts _ hc, hts _ g3, g1, mn_len g2, hts _ g5⟩, hts _ g4⟩ hp rfl hn hsize hst (lv_room hcat) hd hf
  · exact va_runSN (Ts := WT) (host := host) ⟨hx, hb, hml, hown, hts⟩ hM ⟨⟨⟨hrc, hrs, hR.1, hR.2, mn_ws hts hW hc, List.mem_cons_self⟩, hts _ hc, hts _ g3, g1, mn_len g2, hts _ g5⟩, hts _ g4, trivial⟩ hp rfl hn hsize hst (lv_room hcat) hd hf
theorem mn_runV {C : String} {a : Nat} (hx : p.tables.exec = Jvm.exec) (hb : c.code = cc) (hml : c.maxLocals = nL) (hown : s.vm.findClass own = some m.cls) (hts : ∀ w ∈ WT, w.before args s = true) (hW : mn_GW WT) (hc : Cond.code y bytes maxL ret ∈ WT) (hG : mn_GV WT own i y n C)
    (hM : Met l y (Cond.code y bytes maxL ret :: WT) rm Pc Qc mc ms free) (hrc : rm.cells = mc) (hrs : rm.slots = ms) (hR : rm.frames + 1 ≤ R.frames ∧ 8 + (maxL + 11) + rm.locals ≤ R.locals) (hp : PreV s H C a Pc As) (hn : As.length = n) (hsize : ls.size = nL) (hst : st0 = As.reverse ++ .ref a :: rest) (hcat : (rest.map fun v => v.category).sum ≤ 8) (hd : decode cc pc = .ok (.invokevirtual i, 3)) (hf : cells + mc ≤ R.cells ∧ slots + ms ≤ R.slots) :
    va_Run p l e R s m args below meth c H locs cells slots mc ms (F0 m pc ls st0) rest (Qc (Value.ref a :: As).toArray) free := by
  obtain ⟨g1, g2, g3, g4, g6, g5 | ⟨host, g5⟩⟩ := hG
  · exact va_runV (Ts := WT) ⟨hx, hb, hml, hown, hts⟩ hM ⟨⟨hrc, hrs, hR.1, hR.2, mn_ws hts hW hc, List.mem_cons_self, hts _ hc, hts _ g3, g1, mn_len g2, hts _ g5⟩, hts _ g4, hts _ g6⟩ hp rfl hn hsize hst (lv_room hcat) hd hf
  · exact va_runVN (Ts := WT) (host := host) ⟨hx, hb, hml, hown, hts⟩ hM ⟨⟨⟨hrc, hrs, hR.1, hR.2, mn_ws hts hW hc, List.mem_cons_self⟩, hts _ hc, hts _ g3, g1, mn_len g2, hts _ g5⟩, hts _ g4, hts _ g6⟩ hp rfl hn hsize hst (lv_room hcat) hd hf
theorem mn_runI {a : Nat} (hx : p.tables.exec = Jvm.exec) (hb : c.code = cc) (hml : c.maxLocals = nL) (hown : s.vm.findClass own = some m.cls) (hts : ∀ w ∈ WT, w.before args s = true) (hW : mn_GW WT) (hc : Cond.code y bytes maxL none ∈ WT) (hG : mn_GI WT own i y n)
    (hM : Met l y (Cond.code y bytes maxL none :: WT) rm Pc Qc mc ms free) (hrc : rm.cells = mc) (hrs : rm.slots = ms) (hR : rm.frames + 1 ≤ R.frames ∧ 8 + (maxL + 11) + rm.locals ≤ R.locals) (hp : PreS s H Pc (.ref a :: As)) (hn : As.length = n) (hsize : ls.size = nL) (hst : st0 = As.reverse ++ .ref a :: rest) (hcat : (rest.map fun v => v.category).sum ≤ 8) (hd : decode cc pc = .ok (.invokespecial i, 3)) (hf : cells + mc ≤ R.cells ∧ slots + ms ≤ R.slots) :
    va_Run p l e R s m args below meth c H locs cells slots mc ms (F0 m pc ls st0) rest (Qc (Value.ref a :: As).toArray) free := by
  obtain ⟨g1, g2, g3, g4, g6, g5 | ⟨host, g5⟩⟩ := hG
  · exact va_runI (Ts := WT) ⟨hx, hb, hml, hown, hts⟩ hM ⟨⟨hrc, hrs, hR.1, hR.2, mn_ws hts hW hc, List.mem_cons_self, hts _ hc, hts _ g3, g1, mn_len g2, hts _ g5⟩, g6, hts _ g4⟩ hp rfl hn hsize hst (lv_room hcat) hd hf
  · exact va_runIN (Ts := WT) (host := host) ⟨hx, hb, hml, hown, hts⟩ hM ⟨⟨⟨hrc, hrs, hR.1, hR.2, mn_ws hts hW hc, List.mem_cons_self⟩, hts _ hc, hts _ g3, g1, mn_len g2, hts _ g5⟩, g6, hts _ g4⟩ hp rfl hn hsize hst (lv_room hcat) hd hf
end MNF
end
section
/-! Tables of the program for the small machine: printed by wip/whole/gen_tables.py out of the Statement. Class numbers: 0 RefutationDesk, 1 RefutationDesk$Reader, 2 RefutationDesk$Tree, 3 RefutationDesk$Search, 4 RefutationDesk$Draft, 5 RefutationDesk$Clause, 6 RefutationDesk$Unifier, 7 RefutationDesk$Matcher, 8 RefutationDesk$Printer, 9 RefutationDesk$Kept, 10 RefutationDeskModel, 11 RefutationDeskLaw -/
def mt_T0 : u_T := fun k => match k with
  | 0 => ("RefutationDesk", "reader", "LRefutationDesk$Reader;", true)
  | 1 => ("RefutationDesk", "search", "LRefutationDesk$Search;", true)
  | 2 => ("RefutationDesk", "printer", "LRefutationDesk$Printer;", true)
  | 3 => ("RefutationDesk", "claimed", "LRefutationDesk$Draft;", true)
  | 4 => ("RefutationDesk", "lines", "[LRefutationDesk$Clause;", true)
  | 5 => ("RefutationDesk", "lineCount", "I", false)
  | _ => ("RefutationDesk", "refusedAt", "I", false)
def mt_y0 : Nat → FieldType := fun k => match k with
  | 0 => .object "RefutationDesk$Reader"
  | 1 => .object "RefutationDesk$Search"
  | 2 => .object "RefutationDesk$Printer"
  | 3 => .object "RefutationDesk$Draft"
  | 4 => .array (.object "RefutationDesk$Clause")
  | 5 => .int
  | _ => .int
def mt_T1 : u_T := fun k => match k with
  | 0 => ("RefutationDesk$Reader", "text", "[C", true)
  | 1 => ("RefutationDesk$Reader", "length", "I", false)
  | 2 => ("RefutationDesk$Reader", "tree", "LRefutationDesk$Tree;", true)
  | 3 => ("RefutationDesk$Reader", "wrongAt", "I", false)
  | 4 => ("RefutationDesk$Reader", "cursor", "I", false)
  | 5 => ("RefutationDesk$Reader", "inClause", "Z", false)
  | 6 => ("RefutationDesk$Reader", "boundNames", "[I", true)
  | 7 => ("RefutationDesk$Reader", "boundCodes", "[I", true)
  | 8 => ("RefutationDesk$Reader", "bound", "I", false)
  | 9 => ("RefutationDesk$Reader", "variables", "I", false)
  | 10 => ("RefutationDesk$Reader", "functions", "I", false)
  | 11 => ("RefutationDesk$Reader", "literal", "[I", true)
  | _ => ("RefutationDesk$Reader", "size", "I", false)
def mt_y1 : Nat → FieldType := fun k => match k with
  | 0 => .array .char
  | 1 => .int
  | 2 => .object "RefutationDesk$Tree"
  | 3 => .int
  | 4 => .int
  | 5 => .boolean
  | 6 => .array .int
  | 7 => .array .int
  | 8 => .int
  | 9 => .int
  | 10 => .int
  | 11 => .array .int
  | _ => .int
def mt_T2 : u_T := fun k => match k with
  | 0 => ("RefutationDesk$Tree", "kind", "[I", true)
  | 1 => ("RefutationDesk$Tree", "left", "[I", true)
  | 2 => ("RefutationDesk$Tree", "right", "[I", true)
  | 3 => ("RefutationDesk$Tree", "rows", "[I", true)
  | 4 => ("RefutationDesk$Tree", "longest", "[I", true)
  | 5 => ("RefutationDesk$Tree", "nodes", "I", false)
  | 6 => ("RefutationDesk$Tree", "pool", "[I", true)
  | _ => ("RefutationDesk$Tree", "poolEnd", "I", false)
def mt_y2 : Nat → FieldType := fun k => match k with
  | 0 => .array .int
  | 1 => .array .int
  | 2 => .array .int
  | 3 => .array .int
  | 4 => .array .int
  | 5 => .int
  | 6 => .array .int
  | _ => .int
def mt_T3 : u_T := fun k => match k with
  | 0 => ("RefutationDesk$Search", "kept", "[LRefutationDesk$Kept;", true)
  | 1 => ("RefutationDesk$Search", "count", "I", false)
  | 2 => ("RefutationDesk$Search", "functions", "I", false)
  | 3 => ("RefutationDesk$Search", "steps", "I", false)
  | 4 => ("RefutationDesk$Search", "leftOut", "I", false)
  | 5 => ("RefutationDesk$Search", "trueOnes", "I", false)
  | 6 => ("RefutationDesk$Search", "known", "I", false)
  | 7 => ("RefutationDesk$Search", "empty", "I", false)
  | 8 => ("RefutationDesk$Search", "full", "Z", false)
  | 9 => ("RefutationDesk$Search", "draft", "LRefutationDesk$Draft;", true)
  | 10 => ("RefutationDesk$Search", "unifier", "LRefutationDesk$Unifier;", true)
  | 11 => ("RefutationDesk$Search", "matcher", "LRefutationDesk$Matcher;", true)
  | _ => ("RefutationDesk$Search", "marked", "[Z", true)
def mt_y3 : Nat → FieldType := fun k => match k with
  | 0 => .array (.object "RefutationDesk$Kept")
  | 1 => .int
  | 2 => .int
  | 3 => .int
  | 4 => .int
  | 5 => .int
  | 6 => .int
  | 7 => .int
  | 8 => .boolean
  | 9 => .object "RefutationDesk$Draft"
  | 10 => .object "RefutationDesk$Unifier"
  | 11 => .object "RefutationDesk$Matcher"
  | _ => .array .boolean
def mt_T4 : u_T := fun k => match k with
  | 0 => ("RefutationDesk$Draft", "body", "LRefutationDesk$Clause;", true)
  | 1 => ("RefutationDesk$Draft", "names", "[I", true)
  | 2 => ("RefutationDesk$Draft", "end", "I", false)
  | _ => ("RefutationDesk$Draft", "big", "Z", false)
def mt_y4 : Nat → FieldType := fun k => match k with
  | 0 => .object "RefutationDesk$Clause"
  | 1 => .array .int
  | 2 => .int
  | _ => .boolean
def mt_T5 : u_T := fun k => match k with
  | 0 => ("RefutationDesk$Clause", "codes", "[I", true)
  | 1 => ("RefutationDesk$Clause", "starts", "[I", true)
  | 2 => ("RefutationDesk$Clause", "literals", "I", false)
  | _ => ("RefutationDesk$Clause", "weight", "I", false)
def mt_y5 : Nat → FieldType := fun k => match k with
  | 0 => .array .int
  | 1 => .array .int
  | 2 => .int
  | _ => .int
def mt_T6 : u_T := fun k => match k with
  | 0 => ("RefutationDesk$Unifier", "work", "[I", true)
  | _ => ("RefutationDesk$Unifier", "terms", "[I", true)
def mt_y6 : Nat → FieldType := fun k => match k with
  | 0 => .array .int
  | _ => .array .int
def mt_T7 : u_T := fun k => match k with
  | 0 => ("RefutationDesk$Matcher", "terms", "[I", true)
  | 1 => ("RefutationDesk$Matcher", "since", "[I", true)
  | _ => ("RefutationDesk$Matcher", "picked", "[I", true)
def mt_y7 : Nat → FieldType := fun k => match k with
  | 0 => .array .int
  | 1 => .array .int
  | _ => .array .int
def mt_T8 : u_T := fun k => match k with
  | 0 => ("RefutationDesk$Printer", "shown", "[C", true)
  | _ => ("RefutationDesk$Printer", "length", "I", false)
def mt_y8 : Nat → FieldType := fun k => match k with
  | 0 => .array .char
  | _ => .int
def mt_T9 : u_T := fun k => match k with
  | 0 => ("RefutationDesk$Kept", "clause", "LRefutationDesk$Clause;", true)
  | 1 => ("RefutationDesk$Kept", "status", "I", false)
  | 2 => ("RefutationDesk$Kept", "kind", "I", true)
  | 3 => ("RefutationDesk$Kept", "first", "I", true)
  | 4 => ("RefutationDesk$Kept", "firstLiteral", "I", true)
  | 5 => ("RefutationDesk$Kept", "second", "I", true)
  | _ => ("RefutationDesk$Kept", "secondLiteral", "I", true)
def mt_y9 : Nat → FieldType := fun k => match k with
  | 0 => .object "RefutationDesk$Clause"
  | 1 => .int
  | 2 => .int
  | 3 => .int
  | 4 => .int
  | 5 => .int
  | _ => .int
def mt_T10 : u_T := fun k => match k with
  | 0 => ("RefutationDeskModel", "code", "I", false)
  | 1 => ("RefutationDeskModel", "wrong", "I", false)
  | 2 => ("RefutationDeskModel", "length", "I", false)
  | 3 => ("RefutationDeskModel", "text", "[I", true)
  | 4 => ("RefutationDeskModel", "cells", "[I", true)
  | 5 => ("RefutationDeskModel", "starts", "[I", true)
  | 6 => ("RefutationDeskModel", "denials", "[Z", true)
  | 7 => ("RefutationDeskModel", "sizes", "[I", true)
  | 8 => ("RefutationDeskModel", "weights", "[I", true)
  | 9 => ("RefutationDeskModel", "kept", "I", false)
  | 10 => ("RefutationDeskModel", "lines", "I", false)
  | 11 => ("RefutationDeskModel", "status", "[I", true)
  | 12 => ("RefutationDeskModel", "kinds", "[I", true)
  | 13 => ("RefutationDeskModel", "from", "[I", true)
  | 14 => ("RefutationDeskModel", "empty", "I", false)
  | 15 => ("RefutationDeskModel", "wasFull", "Z", false)
  | 16 => ("RefutationDeskModel", "steps", "I", false)
  | 17 => ("RefutationDeskModel", "leftOut", "I", false)
  | 18 => ("RefutationDeskModel", "trues", "I", false)
  | 19 => ("RefutationDeskModel", "knowns", "I", false)
  | 20 => ("RefutationDeskModel", "functions", "I", false)
  | 21 => ("RefutationDeskModel", "pool", "[I", true)
  | 22 => ("RefutationDeskModel", "pooled", "I", false)
  | 23 => ("RefutationDeskModel", "bound", "[I", true)
  | 24 => ("RefutationDeskModel", "many", "I", false)
  | 25 => ("RefutationDeskModel", "literals", "[I", true)
  | 26 => ("RefutationDeskModel", "denied", "[Z", true)
  | 27 => ("RefutationDeskModel", "place", "I", false)
  | 28 => ("RefutationDeskModel", "bad", "Z", false)
  | 29 => ("RefutationDeskModel", "free", "Z", false)
  | 30 => ("RefutationDeskModel", "known", "I", false)
  | 31 => ("RefutationDeskModel", "names", "[I", true)
  | 32 => ("RefutationDeskModel", "numbers", "[I", true)
  | 33 => ("RefutationDeskModel", "around", "[Z", true)
  | 34 => ("RefutationDeskModel", "variables", "I", false)
  | 35 => ("RefutationDeskModel", "invented", "I", false)
  | 36 => ("RefutationDeskModel", "much", "Z", false)
  | 37 => ("RefutationDeskModel", "open", "[I", true)
  | 38 => ("RefutationDeskModel", "signs", "[I", true)
  | 39 => ("RefutationDeskModel", "signDenies", "[Z", true)
  | 40 => ("RefutationDeskModel", "second", "[Z", true)
  | 41 => ("RefutationDeskModel", "firstRows", "[I", true)
  | 42 => ("RefutationDeskModel", "lastRows", "I", false)
  | 43 => ("RefutationDeskModel", "rows", "I", false)
  | 44 => ("RefutationDeskModel", "rowSizes", "[I", true)
  | 45 => ("RefutationDeskModel", "rowLiterals", "[I", true)
  | 46 => ("RefutationDeskModel", "read", "I", false)
  | 47 => ("RefutationDeskModel", "readAt", "[I", true)
  | 48 => ("RefutationDeskModel", "readDenied", "[Z", true)
  | 49 => ("RefutationDeskModel", "matchAt", "[I", true)
  | 50 => ("RefutationDeskModel", "matchSize", "[I", true)
  | 51 => ("RefutationDeskModel", "renamed", "[I", true)
  | 52 => ("RefutationDeskModel", "seek", "[I", true)
  | 53 => ("RefutationDeskModel", "left", "[I", true)
  | 54 => ("RefutationDeskModel", "right", "[I", true)
  | 55 => ("RefutationDeskModel", "due", "[I", true)
  | 56 => ("RefutationDeskModel", "printed", "I", false)
  | 57 => ("RefutationDeskModel", "page", "[I", true)
  | _ => ("RefutationDeskModel", "needed", "[Z", true)
def mt_y10 : Nat → FieldType := fun k => match k with
  | 0 => .int
  | 1 => .int
  | 2 => .int
  | 3 => .array .int
  | 4 => .array .int
  | 5 => .array .int
  | 6 => .array .boolean
  | 7 => .array .int
  | 8 => .array .int
  | 9 => .int
  | 10 => .int
  | 11 => .array .int
  | 12 => .array .int
  | 13 => .array .int
  | 14 => .int
  | 15 => .boolean
  | 16 => .int
  | 17 => .int
  | 18 => .int
  | 19 => .int
  | 20 => .int
  | 21 => .array .int
  | 22 => .int
  | 23 => .array .int
  | 24 => .int
  | 25 => .array .int
  | 26 => .array .boolean
  | 27 => .int
  | 28 => .boolean
  | 29 => .boolean
  | 30 => .int
  | 31 => .array .int
  | 32 => .array .int
  | 33 => .array .boolean
  | 34 => .int
  | 35 => .int
  | 36 => .boolean
  | 37 => .array .int
  | 38 => .array .int
  | 39 => .array .boolean
  | 40 => .array .boolean
  | 41 => .array .int
  | 42 => .int
  | 43 => .int
  | 44 => .array .int
  | 45 => .array .int
  | 46 => .int
  | 47 => .array .int
  | 48 => .array .boolean
  | 49 => .array .int
  | 50 => .array .int
  | 51 => .array .int
  | 52 => .array .int
  | 53 => .array .int
  | 54 => .array .int
  | 55 => .array .int
  | 56 => .int
  | 57 => .array .int
  | _ => .array .boolean
abbrev mt_cl : List vw_C := [("RefutationDesk", mt_T0, 7), ("RefutationDesk$Reader", mt_T1, 13), ("RefutationDesk$Tree", mt_T2, 8), ("RefutationDesk$Search", mt_T3, 13), ("RefutationDesk$Draft", mt_T4, 4), ("RefutationDesk$Clause", mt_T5, 4), ("RefutationDesk$Unifier", mt_T6, 2), ("RefutationDesk$Matcher", mt_T7, 3), ("RefutationDesk$Printer", mt_T8, 2), ("RefutationDesk$Kept", mt_T9, 7), ("RefutationDeskModel", mt_T10, 59)]
def mt_E4 : String := "RefutationDesk$Clause"
def mt_E5 : String := "RefutationDesk$Kept"
def mt_fts : List (List Nat) := [[2, 2, 2, 2, 2, 0, 0], [2, 0, 2, 0, 0, 1, 2, 2, 0, 0, 0, 2, 0], [2, 2, 2, 2, 2, 0, 2, 0], [2, 0, 0, 0, 0, 0, 0, 0, 1, 2, 2, 2, 2], [2, 2, 0, 1], [2, 2, 0, 0], [2, 2], [2, 2, 2], [2, 0], [2, 0, 0, 0, 0, 0, 0], [0, 0, 0, 2, 2, 2, 2, 2, 2, 0, 0, 2, 2, 2, 0, 1, 0, 0, 0, 0, 0, 2, 0, 2, 0, 2, 2, 0, 1, 1, 0, 2, 2, 2, 0, 0, 1, 2, 2, 2, 2, 2, 0, 0, 2, 2, 0, 2, 2, 2, 2, 2, 2, 2, 2, 2, 0, 2, 2]]
def mt_ft (c k : Nat) : Nat := (mt_fts.getD c []).getD k 9
def mt_fis : List (List Bool) := [[true, true, true, true, true, false, false], [true, false, true, false, false, false, true, true, false, false, false, true, false], [true, true, true, true, true, false, true, false], [true, false, false, false, false, false, false, false, false, true, true, true, true], [true, true, false, false], [true, true, false, false], [true, true], [true, true, true], [true, false], [true, false, true, true, true, true, true], [false, false, false, true, true, true, true, true, true, false, false, true, true, true, false, false, false, false, false, false, false, true, false, true, false, true, true, false, false, false, false, true, true, true, false, false, false, true, true, true, true, true, false, false, true, true, false, true, true, true, true, true, true, true, true, true, false, true, true]]
def mt_fi (c k : Nat) : Bool := (mt_fis.getD c []).getD k false
def mt_dfs : List (List Value) := [[.null, .null, .null, .null, .null, .int 0, .int 0], [.null, .int 0, .null, .int 0, .int 0, .int 0, .null, .null, .int 0, .int 0, .int 0, .null, .int 0], [.null, .null, .null, .null, .null, .int 0, .null, .int 0], [.null, .int 0, .int 0, .int 0, .int 0, .int 0, .int 0, .int 0, .int 0, .null, .null, .null, .null], [.null, .null, .int 0, .int 0], [.null, .null, .int 0, .int 0], [.null, .null], [.null, .null, .null], [.null, .int 0], [.null, .int 0, .int 0, .int 0, .int 0, .int 0, .int 0], [.int 0, .int 0, .int 0, .null, .null, .null, .null, .null, .null, .int 0, .int 0, .null, .null, .null, .int 0, .int 0, .int 0, .int 0, .int 0, .int 0, .int 0, .null, .int 0, .null, .int 0, .null, .null, .int 0, .int 0, .int 0, .int 0, .null, .null, .null, .int 0, .int 0, .int 0, .null, .null, .null, .null, .null, .int 0, .int 0, .null, .null, .int 0, .null, .null, .null, .null, .null, .null, .null, .null, .null, .int 0, .null, .null]]
def mt_df (c : Nat) : List Value := mt_dfs.getD c []
def mt_ak (k : Nat) : Nat := if k = 4 then 5 else 9
def mt_cns : List String := ["RefutationDesk", "RefutationDesk$Reader", "RefutationDesk$Tree", "RefutationDesk$Search", "RefutationDesk$Draft", "RefutationDesk$Clause", "RefutationDesk$Unifier", "RefutationDesk$Matcher", "RefutationDesk$Printer", "RefutationDesk$Kept", "RefutationDeskModel", "RefutationDeskLaw"]
/-- the places of RefutationDesk's pool: place, meaning, the row of tables_1 -/
def mt_pl0 : List (Nat × mn_K × Nat) := [(3, (10, 0, 0, 0, 0), 26), (9, (2, 1, 0, 0, 0), 29), (11, (9, 1, 1, 1, 0), 31), (12, (1, 0, 0, 0, 0), 281), (16, (2, 3, 0, 0, 0), 116), (18, (9, 3, 3, 1, 0), 118), (19, (1, 0, 1, 0, 0), 282), (23, (2, 8, 0, 0, 0), 262), (25, (9, 8, 8, 1, 0), 264), (26, (1, 0, 2, 0, 0), 283), (30, (2, 4, 0, 0, 0), 277), (32, (9, 4, 4, 1, 0), 278), (33, (1, 0, 3, 0, 0), 284), (37, (2, 5, 4, 0, 0), 279), (39, (1, 0, 4, 0, 0), 285), (43, (1, 0, 6, 0, 0), 287), (47, (7, 18, 0, 0, 0), 344), (51, (3, 0, 53, 0, 0), 347), (54, (1, 1, 1, 0, 0), 74), (57, (3, 3, 59, 0, 0), 411), (60, (1, 1, 0, 0, 0), 72), (64, (1, 3, 2, 0, 0), 216), (67, (8, 20, 1, 0, 0), 434), (71, (1, 1, 3, 0, 0), 78), (74, (1, 1, 2, 0, 0), 76), (78, (1, 2, 3, 0, 0), 46), (84, (1, 2, 4, 0, 0), 48), (87, (1, 1, 10, 0, 0), 86), (88, (3, 1, 90, 0, 0), 518), (91, (8, 39, 3, 0, 0), 533), (95, (8, 12, 3, 0, 0), 315), (99, (8, 61, 3, 0, 0), 662), (102, (1, 0, 5, 0, 0), 286), (105, (1, 3, 1, 0, 0), 215), (108, (3, 2, 110, 0, 0), 743), (111, (1, 3, 0, 0, 0), 213), (115, (1, 9, 0, 0, 0), 624), (121, (8, 78, 8, 0, 0), 758), (125, (1, 8, 1, 0, 0), 271), (126, (1, 8, 0, 0, 0), 269), (129, (1, 9, 1, 0, 0), 627), (132, (1, 5, 2, 0, 0), 151), (135, (1, 5, 3, 0, 0), 156), (138, (1, 9, 2, 0, 0), 629), (141, (1, 9, 3, 0, 0), 631), (144, (1, 9, 4, 0, 0), 634), (147, (1, 9, 5, 0, 0), 636), (150, (1, 9, 6, 0, 0), 639), (153, (1, 3, 11, 0, 0), 232), (157, (8, 54, 7, 0, 0), 803), (163, (8, 15, 3, 0, 0), 327), (166, (8, 87, 1, 0, 0), 811), (170, (8, 89, 0, 0, 0), 822), (174, (8, 50, 4, 0, 0), 830), (178, (8, 91, 0, 0, 0), 831), (182, (1, 4, 0, 0, 0), 168), (185, (8, 58, 4, 0, 0), 837), (189, (8, 13, 3, 0, 0), 845), (193, (1, 3, 3, 0, 0), 218), (196, (1, 3, 4, 0, 0), 220), (199, (1, 3, 5, 0, 0), 222), (202, (1, 3, 6, 0, 0), 224), (205, (8, 90, 0, 0, 0), 826), (209, (1, 3, 10, 0, 0), 230), (213, (1, 3, 9, 0, 0), 228), (216, (8, 67, 6, 0, 0), 835), (222, (8, 75, 6, 0, 0), 836), (226, (1, 4, 3, 0, 0), 173)]
/-- the places of RefutationDesk$Reader's pool: place, meaning, the row of tables_1 -/
def mt_pl1 : List (Nat × mn_K × Nat) := [(3, (10, 0, 0, 0, 0), 34), (9, (1, 1, 0, 0, 0), 71), (15, (2, 2, 0, 0, 0), 35), (17, (9, 2, 2, 1, 0), 37), (18, (1, 1, 2, 0, 0), 75), (22, (1, 1, 6, 0, 0), 81), (26, (1, 1, 7, 0, 0), 82), (29, (1, 1, 11, 0, 0), 87), (32, (1, 1, 5, 0, 0), 80), (36, (1, 1, 4, 0, 0), 79), (40, (1, 1, 3, 0, 0), 77), (43, (8, 21, 2, 0, 0), 438), (46, (1, 1, 8, 0, 0), 83), (49, (1, 1, 9, 0, 0), 84), (52, (1, 1, 10, 0, 0), 85), (55, (8, 22, 1, 0, 0), 442), (59, (1, 1, 1, 0, 0), 73), (62, (8, 25, 1, 0, 0), 454), (66, (8, 41, 4, 0, 0), 815), (69, (8, 23, 1, 0, 0), 446), (73, (8, 88, 1, 0, 0), 816), (77, (8, 48, 4, 0, 0), 821), (80, (8, 24, 1, 0, 0), 450), (84, (1, 1, 12, 0, 0), 88), (87, (8, 32, 2, 0, 0), 484), (91, (8, 34, 1, 0, 0), 492), (95, (8, 37, 1, 0, 0), 509), (99, (8, 35, 2, 0, 0), 496), (103, (8, 29, 1, 0, 0), 471), (107, (5, 0, 0, 0, 65536), 513), (108, (8, 38, 1, 0, 0), 514), (112, (5, 0, 0, 0, 32768), 479), (113, (8, 43, 4, 0, 0), 820), (117, (5, 0, 0, 0, 131072), 458), (118, (8, 26, 1, 0, 0), 459), (122, (8, 27, 1, 0, 0), 463), (126, (8, 28, 1, 0, 0), 467), (129, (8, 30, 1, 0, 0), 475), (132, (8, 31, 1, 0, 0), 480)]
/-- the places of RefutationDesk$Tree's pool: place, meaning, the row of tables_1 -/
def mt_pl2 : List (Nat × mn_K × Nat) := [(3, (10, 0, 0, 0, 0), 40), (9, (1, 2, 0, 0, 0), 41), (15, (1, 2, 1, 0, 0), 42), (18, (1, 2, 2, 0, 0), 43), (21, (1, 2, 3, 0, 0), 44), (24, (1, 2, 4, 0, 0), 47), (27, (1, 2, 6, 0, 0), 50), (30, (1, 2, 5, 0, 0), 49), (34, (1, 2, 7, 0, 0), 51), (37, (8, 33, 2, 0, 0), 488), (41, (7, 36, 0, 0, 0), 500), (45, (12, 0, 0, 0, 0), 506), (51, (13, 0, 0, 0, 0), 503), (54, (8, 41, 4, 0, 0), 541), (59, (8, 42, 2, 0, 0), 545), (63, (8, 48, 4, 0, 0), 568), (66, (8, 43, 4, 0, 0), 549)]
/-- the places of RefutationDesk$Search's pool: place, meaning, the row of tables_1 -/
def mt_pl3 : List (Nat × mn_K × Nat) := [(3, (10, 0, 0, 0, 0), 121), (9, (2, 9, 5, 0, 0), 122), (11, (1, 3, 0, 0, 0), 212), (17, (1, 3, 7, 0, 0), 225), (21, (2, 4, 0, 0, 0), 124), (23, (9, 4, 4, 1, 0), 126), (24, (1, 3, 9, 0, 0), 227), (28, (2, 6, 0, 0, 0), 183), (30, (9, 6, 6, 1, 0), 185), (31, (1, 3, 10, 0, 0), 229), (35, (2, 7, 0, 0, 0), 196), (37, (9, 7, 7, 1, 0), 198), (38, (1, 3, 11, 0, 0), 231), (42, (1, 3, 12, 0, 0), 233), (46, (1, 3, 8, 0, 0), 226), (50, (8, 13, 3, 0, 0), 319), (54, (1, 3, 4, 0, 0), 219), (57, (1, 3, 1, 0, 0), 214), (60, (1, 9, 1, 0, 0), 626), (63, (1, 2, 3, 0, 0), 45), (69, (8, 40, 2, 0, 0), 537), (73, (8, 49, 3, 0, 0), 573), (77, (8, 50, 4, 0, 0), 577), (81, (8, 51, 4, 0, 0), 581), (84, (1, 3, 5, 0, 0), 221), (87, (8, 53, 3, 0, 0), 589), (90, (1, 3, 6, 0, 0), 223), (93, (8, 58, 4, 0, 0), 611), (97, (9, 59, 9, 0, 0), 618), (100, (1, 4, 0, 0, 0), 167), (104, (1, 5, 2, 0, 0), 150), (109, (1, 9, 0, 0, 0), 623), (112, (8, 54, 7, 0, 0), 593), (116, (1, 3, 3, 0, 0), 217), (119, (8, 62, 3, 0, 0), 666), (123, (8, 63, 3, 0, 0), 670), (127, (8, 64, 3, 0, 0), 674), (131, (8, 65, 3, 0, 0), 678), (134, (8, 66, 3, 0, 0), 682), (137, (8, 74, 3, 0, 0), 720), (141, (1, 5, 3, 0, 0), 155), (144, (8, 67, 6, 0, 0), 686), (148, (8, 75, 6, 0, 0), 724), (152, (1, 9, 3, 0, 0), 632), (155, (8, 16, 3, 0, 0), 331), (158, (1, 9, 5, 0, 0), 637)]
/-- the places of RefutationDesk$Draft's pool: place, meaning, the row of tables_1 -/
def mt_pl4 : List (Nat × mn_K × Nat) := [(3, (10, 0, 0, 0, 0), 129), (9, (2, 5, 0, 0, 0), 130), (11, (9, 5, 5, 0, 0), 132), (14, (1, 4, 0, 0, 0), 166), (20, (1, 4, 1, 0, 0), 169), (24, (1, 5, 2, 0, 0), 147), (28, (1, 5, 3, 0, 0), 152), (31, (1, 5, 1, 0, 0), 143), (34, (1, 4, 2, 0, 0), 170), (37, (1, 4, 3, 0, 0), 171), (41, (1, 5, 0, 0, 0), 139), (44, (8, 46, 4, 0, 0), 561), (48, (8, 44, 4, 0, 0), 553), (52, (8, 45, 4, 0, 0), 557), (55, (7, 47, 0, 1, 0), 565), (59, (5, 0, 0, 0, 32768), 572), (60, (8, 52, 4, 0, 0), 585), (64, (11, 0, 0, 0, 0), 615)]
/-- the places of RefutationDesk$Clause's pool: place, meaning, the row of tables_1 -/
def mt_pl5 : List (Nat × mn_K × Nat) := [(1, (10, 0, 0, 0, 0), 135), (7, (1, 5, 0, 0, 0), 136), (13, (1, 5, 1, 0, 0), 141)]
/-- the places of RefutationDesk$Unifier's pool: place, meaning, the row of tables_1 -/
def mt_pl6 : List (Nat × mn_K × Nat) := [(3, (10, 0, 0, 0, 0), 188), (9, (1, 6, 0, 0, 0), 189), (15, (1, 6, 1, 0, 0), 190), (18, (1, 5, 1, 0, 0), 142), (23, (1, 5, 0, 0, 0), 137), (26, (8, 68, 6, 0, 0), 690), (30, (8, 69, 6, 0, 0), 695), (34, (8, 41, 4, 0, 0), 708), (39, (8, 72, 6, 0, 0), 709), (43, (8, 48, 4, 0, 0), 719), (46, (1, 5, 3, 0, 0), 154), (50, (5, 0, 0, 0, 32768), 694), (51, (1, 5, 2, 0, 0), 149), (54, (8, 73, 6, 0, 0), 713), (58, (8, 45, 4, 0, 0), 718), (61, (1, 4, 3, 0, 0), 172), (65, (8, 70, 6, 0, 0), 699), (69, (8, 44, 4, 0, 0), 717), (73, (7, 57, 0, 1, 0), 707), (77, (8, 71, 6, 0, 0), 703)]
/-- the places of RefutationDesk$Matcher's pool: place, meaning, the row of tables_1 -/
def mt_pl7 : List (Nat × mn_K × Nat) := [(3, (10, 0, 0, 0, 0), 201), (11, (1, 7, 0, 0, 0), 202), (15, (1, 7, 1, 0, 0), 203), (18, (1, 7, 2, 0, 0), 204), (21, (1, 5, 2, 0, 0), 146), (27, (8, 55, 7, 0, 0), 597), (31, (8, 56, 7, 0, 0), 601), (35, (1, 5, 1, 0, 0), 145), (38, (1, 5, 0, 0, 0), 140), (41, (5, 0, 0, 0, 32768), 605), (42, (7, 57, 0, 1, 0), 606), (46, (7, 47, 0, 1, 0), 609), (50, (1, 5, 3, 0, 0), 153)]
/-- the places of RefutationDesk$Printer's pool: place, meaning, the row of tables_1 -/
def mt_pl8 : List (Nat × mn_K × Nat) := [(3, (10, 0, 0, 0, 0), 267), (9, (1, 8, 0, 0, 0), 268), (15, (1, 8, 1, 0, 0), 270), (19, (1, 5, 2, 0, 0), 148), (24, (8, 79, 8, 0, 0), 762), (28, (1, 5, 0, 0, 0), 138), (32, (1, 5, 1, 0, 0), 144), (35, (8, 80, 8, 0, 0), 766), (39, (8, 81, 8, 0, 0), 770), (43, (7, 57, 0, 1, 0), 781), (47, (5, 0, 0, 0, 131072), 774), (48, (5, 0, 0, 0, 65536), 775), (49, (8, 82, 8, 0, 0), 776), (52, (5, 0, 0, 0, 32768), 780)]
/-- the places of RefutationDesk$Kept's pool: place, meaning, the row of tables_1 -/
def mt_pl9 : List (Nat × mn_K × Nat) := [(3, (10, 0, 0, 0, 0), 621), (9, (1, 9, 0, 0, 0), 622), (15, (1, 9, 2, 0, 0), 628), (19, (1, 9, 1, 0, 0), 625), (22, (1, 9, 3, 0, 0), 630), (25, (1, 9, 4, 0, 0), 633), (28, (1, 9, 5, 0, 0), 635), (31, (1, 9, 6, 0, 0), 638)]
/-- the places of RefutationDeskModel's pool: place, meaning, the row of tables_1 -/
def mt_pl10 : List (Nat × mn_K × Nat) := [(1, (10, 0, 0, 0, 0), 851), (9, (1, 10, 1, 0, 0), 853), (13, (1, 10, 3, 0, 0), 855), (17, (1, 10, 4, 0, 0), 856), (20, (1, 10, 5, 0, 0), 857), (23, (1, 10, 6, 0, 0), 858), (27, (1, 10, 7, 0, 0), 859), (30, (1, 10, 8, 0, 0), 860), (33, (1, 10, 11, 0, 0), 863), (36, (1, 10, 12, 0, 0), 864), (39, (1, 10, 13, 0, 0), 865), (42, (1, 10, 14, 0, 0), 866), (45, (1, 10, 21, 0, 0), 873), (48, (1, 10, 23, 0, 0), 875), (51, (1, 10, 25, 0, 0), 877), (54, (1, 10, 26, 0, 0), 878), (57, (1, 10, 31, 0, 0), 883), (60, (1, 10, 32, 0, 0), 884), (63, (1, 10, 33, 0, 0), 885), (66, (1, 10, 37, 0, 0), 889), (69, (1, 10, 38, 0, 0), 890), (72, (1, 10, 39, 0, 0), 891), (75, (1, 10, 40, 0, 0), 892), (78, (1, 10, 41, 0, 0), 893), (81, (1, 10, 44, 0, 0), 896), (84, (1, 10, 45, 0, 0), 897), (87, (1, 10, 47, 0, 0), 899), (90, (1, 10, 48, 0, 0), 900), (93, (1, 10, 49, 0, 0), 901), (96, (1, 10, 50, 0, 0), 902), (99, (1, 10, 51, 0, 0), 903), (102, (1, 10, 52, 0, 0), 904), (105, (1, 10, 53, 0, 0), 905), (108, (1, 10, 54, 0, 0), 906), (111, (1, 10, 55, 0, 0), 907), (114, (1, 10, 57, 0, 0), 909), (117, (1, 10, 58, 0, 0), 910), (120, (1, 10, 0, 0, 0), 852), (123, (6, 0, 0, 0, 255), 1038), (125, (6, 0, 0, 0, 33), 1039), (127, (6, 0, 0, 0, 126), 1040), (129, (1, 10, 2, 0, 0), 854), (132, (7, 122, 0, 0, 0), 1145), (136, (7, 123, 0, 0, 0), 1148), (140, (1, 10, 27, 0, 0), 879), (143, (8, 102, 10, 0, 0), 1065), (147, (8, 104, 10, 0, 0), 1073), (151, (1, 10, 28, 0, 0), 880), (155, (1, 10, 22, 0, 0), 874), (158, (1, 10, 30, 0, 0), 882), (161, (1, 10, 34, 0, 0), 886), (164, (8, 109, 10, 0, 0), 1093), (167, (1, 10, 29, 0, 0), 881), (170, (8, 110, 10, 0, 0), 1097), (173, (8, 105, 10, 0, 0), 1077), (177, (8, 108, 10, 0, 0), 1089), (180, (8, 111, 10, 0, 0), 1101), (183, (8, 107, 10, 0, 0), 1085), (186, (1, 10, 46, 0, 0), 898), (189, (8, 106, 10, 0, 0), 1081), (192, (1, 10, 36, 0, 0), 888), (195, (1, 10, 20, 0, 0), 872), (198, (1, 10, 35, 0, 0), 887), (201, (1, 10, 43, 0, 0), 895), (204, (8, 100, 10, 0, 0), 1057), (207, (8, 103, 10, 0, 0), 1069), (211, (8, 112, 10, 0, 0), 1105), (214, (8, 113, 10, 0, 0), 1109), (218, (1, 10, 42, 0, 0), 894), (221, (8, 115, 10, 0, 0), 1117), (224, (8, 116, 10, 0, 0), 1121), (227, (8, 114, 10, 0, 0), 1113), (230, (8, 117, 10, 0, 0), 1125), (233, (7, 125, 0, 0, 0), 1155), (237, (8, 121, 10, 0, 0), 1141), (240, (8, 124, 10, 0, 0), 1151), (243, (8, 145, 10, 0, 0), 1234), (246, (1, 10, 24, 0, 0), 876), (249, (8, 120, 10, 0, 0), 1137), (253, (8, 126, 10, 0, 0), 1158), (256, (8, 127, 10, 0, 0), 1162), (260, (8, 131, 10, 0, 0), 1178), (263, (1, 10, 9, 0, 0), 861), (266, (8, 130, 10, 0, 0), 1174), (269, (8, 119, 10, 0, 0), 1133), (273, (1, 10, 17, 0, 0), 869), (276, (8, 128, 10, 0, 0), 1166), (279, (1, 10, 18, 0, 0), 870), (282, (8, 129, 10, 0, 0), 1170), (285, (1, 10, 19, 0, 0), 871), (288, (1, 10, 15, 0, 0), 867), (291, (8, 132, 10, 0, 0), 1182), (294, (8, 99, 10, 0, 0), 1053), (297, (8, 101, 10, 0, 0), 1061), (301, (8, 118, 10, 0, 0), 1129), (305, (8, 135, 10, 0, 0), 1194), (308, (8, 134, 10, 0, 0), 1190), (311, (8, 143, 10, 0, 0), 1226), (314, (8, 141, 10, 0, 0), 1218), (317, (8, 142, 10, 0, 0), 1222), (321, (8, 144, 10, 0, 0), 1230), (324, (1, 10, 16, 0, 0), 868), (327, (8, 138, 10, 0, 0), 1206), (330, (8, 139, 10, 0, 0), 1210), (333, (8, 140, 10, 0, 0), 1214), (337, (8, 146, 10, 0, 0), 1238), (341, (8, 137, 10, 0, 0), 1202), (344, (1, 10, 56, 0, 0), 908), (347, (8, 149, 10, 0, 0), 1250), (350, (8, 152, 10, 0, 0), 1262), (353, (8, 151, 10, 0, 0), 1258), (356, (1, 10, 10, 0, 0), 862), (359, (8, 150, 10, 0, 0), 1254), (362, (8, 160, 10, 0, 0), 1294), (365, (8, 159, 10, 0, 0), 1290), (368, (8, 161, 10, 0, 0), 1298)]
/-- the places of RefutationDeskLaw's pool: place, meaning, the row of tables_1 -/
def mt_pl11 : List (Nat × mn_K × Nat) := [(7, (8, 17, 0, 0, 0), 340), (8, (2, 0, 0, 0, 0), 21), (17, (8, 19, 0, 0, 0), 430), (23, (8, 60, 0, 0, 0), 658), (27, (8, 76, 0, 0, 0), 731), (31, (8, 77, 0, 0, 0), 739), (37, (8, 83, 0, 0, 0), 785), (41, (8, 84, 0, 0, 0), 792), (45, (8, 85, 0, 0, 0), 799), (49, (8, 86, 0, 0, 0), 807), (53, (8, 92, 0, 0, 0), 841), (56, (9, 0, 0, 0, 0), 23), (57, (2, 10, 0, 0, 0), 846), (59, (9, 93, 10, 0, 0), 848), (60, (6, 0, 0, 0, 4294967295), 1302), (62, (7, 162, 0, 0, 0), 335), (67, (8, 95, 10, 0, 0), 1034), (68, (8, 94, 10, 0, 0), 1030), (71, (8, 9, 0, 0, 0), 303), (74, (8, 96, 10, 0, 0), 1041), (75, (7, 163, 0, 0, 0), 426), (78, (8, 98, 10, 0, 0), 1049), (79, (8, 10, 0, 0, 0), 307), (82, (8, 97, 10, 0, 0), 1045), (83, (8, 11, 0, 0, 0), 311), (86, (8, 133, 10, 0, 0), 1186), (87, (7, 164, 0, 0, 0), 655), (90, (8, 136, 10, 0, 0), 1198), (91, (7, 165, 0, 0, 0), 728), (94, (8, 147, 10, 0, 0), 1242), (95, (7, 166, 0, 0, 0), 735), (98, (8, 148, 10, 0, 0), 1246), (99, (7, 167, 0, 0, 0), 782), (101, (8, 153, 10, 0, 0), 1266), (102, (7, 168, 0, 0, 0), 789), (105, (8, 154, 10, 0, 0), 1270), (106, (7, 169, 0, 0, 0), 796), (108, (8, 155, 10, 0, 0), 1274), (109, (8, 14, 0, 0, 0), 323), (112, (8, 156, 10, 0, 0), 1278), (113, (7, 170, 0, 0, 0), 804), (116, (8, 158, 10, 0, 0), 1286), (117, (7, 171, 0, 0, 0), 838), (119, (8, 157, 10, 0, 0), 1282)]
def mt_pls : List (List (Nat × mn_K × Nat)) := [mt_pl0, mt_pl1, mt_pl2, mt_pl3, mt_pl4, mt_pl5, mt_pl6, mt_pl7, mt_pl8, mt_pl9, mt_pl10, mt_pl11]
def mt_pool (c i : Nat) : mn_K := match (mt_pls.getD c []).find? (fun q => q.1 == i) with
  | some q => q.2.1
  | none => (0, 0, 0, 0, 0)
/-- methods: name, class number, locals, number of parameters, what it returns, is it a constructor -/
abbrev mt_R : Type := MethodName × Nat × Nat × Nat × Option FieldType × Bool
def mt_m0 : mt_R := (⟨"RefutationDesk", "<init>", "()V"⟩, 0, 1, 0, (Option.none : Option Jvm.ClassFile.FieldType), true)
def mt_m1 : mt_R := (⟨"RefutationDesk$Reader", "<init>", "()V"⟩, 1, 1, 0, (Option.none : Option Jvm.ClassFile.FieldType), true)
def mt_m2 : mt_R := (⟨"RefutationDesk$Tree", "<init>", "()V"⟩, 2, 1, 0, (Option.none : Option Jvm.ClassFile.FieldType), true)
def mt_m3 : mt_R := (⟨"RefutationDesk$Search", "<init>", "()V"⟩, 3, 1, 0, (Option.none : Option Jvm.ClassFile.FieldType), true)
def mt_m4 : mt_R := (⟨"RefutationDesk$Draft", "<init>", "()V"⟩, 4, 1, 0, (Option.none : Option Jvm.ClassFile.FieldType), true)
def mt_m5 : mt_R := (⟨"RefutationDesk$Clause", "<init>", "(II)V"⟩, 5, 3, 2, (Option.none : Option Jvm.ClassFile.FieldType), true)
def mt_m6 : mt_R := (⟨"RefutationDesk$Unifier", "<init>", "()V"⟩, 6, 1, 0, (Option.none : Option Jvm.ClassFile.FieldType), true)
def mt_m7 : mt_R := (⟨"RefutationDesk$Matcher", "<init>", "()V"⟩, 7, 1, 0, (Option.none : Option Jvm.ClassFile.FieldType), true)
def mt_m8 : mt_R := (⟨"RefutationDesk$Printer", "<init>", "()V"⟩, 8, 1, 0, (Option.none : Option Jvm.ClassFile.FieldType), true)
def mt_m9 : mt_R := (⟨"RefutationDesk", "wipe", "()I"⟩, 0, 2, 0, (Option.some Jvm.ClassFile.FieldType.int), false)
def mt_m10 : mt_R := (⟨"RefutationDesk", "at", "()I"⟩, 0, 1, 0, (Option.some Jvm.ClassFile.FieldType.int), false)
def mt_m11 : mt_R := (⟨"RefutationDesk", "state", "()I"⟩, 0, 1, 0, (Option.some Jvm.ClassFile.FieldType.int), false)
def mt_m12 : mt_R := (⟨"RefutationDesk$Search", "standing", "()I"⟩, 3, 1, 0, (Option.some Jvm.ClassFile.FieldType.int), false)
def mt_m13 : mt_R := (⟨"RefutationDesk$Search", "countOf", "(I)I"⟩, 3, 4, 1, (Option.some Jvm.ClassFile.FieldType.int), false)
def mt_m14 : mt_R := (⟨"RefutationDesk", "proof", "()I"⟩, 0, 1, 0, (Option.some Jvm.ClassFile.FieldType.int), false)
def mt_m15 : mt_R := (⟨"RefutationDesk$Search", "ancestors", "()I"⟩, 3, 3, 0, (Option.some Jvm.ClassFile.FieldType.int), false)
def mt_m16 : mt_R := (⟨"RefutationDesk$Search", "mark", "(I)V"⟩, 3, 2, 1, (Option.none : Option Jvm.ClassFile.FieldType), false)
def mt_m17 : mt_R := (⟨"RefutationDesk", "type", "(J)I"⟩, 0, 6, 1, (Option.some Jvm.ClassFile.FieldType.int), false)
def mt_m18 : mt_R := (⟨"RefutationDesk", "byteOf", "(JI)I"⟩, 0, 3, 2, (Option.some Jvm.ClassFile.FieldType.int), false)
def mt_m19 : mt_R := (⟨"RefutationDesk", "assume", "(Z)I"⟩, 0, 3, 1, (Option.some Jvm.ClassFile.FieldType.int), false)
def mt_m20 : mt_R := (⟨"RefutationDesk$Reader", "readFormula", "(ZI)I"⟩, 1, 4, 2, (Option.some Jvm.ClassFile.FieldType.int), false)
def mt_m21 : mt_R := (⟨"RefutationDesk$Tree", "begin", "()V"⟩, 2, 1, 0, (Option.none : Option Jvm.ClassFile.FieldType), false)
def mt_m22 : mt_R := (⟨"RefutationDesk$Reader", "readPart", "(ZI)I"⟩, 1, 4, 2, (Option.some Jvm.ClassFile.FieldType.int), false)
def mt_m23 : mt_R := (⟨"RefutationDesk$Reader", "look", "()C"⟩, 1, 1, 0, (Option.some Jvm.ClassFile.FieldType.char), false)
def mt_m24 : mt_R := (⟨"RefutationDesk$Reader", "readAtom", "(Z)V"⟩, 1, 3, 1, (Option.none : Option Jvm.ClassFile.FieldType), false)
def mt_m25 : mt_R := (⟨"RefutationDesk$Reader", "refuse", "(I)I"⟩, 1, 2, 1, (Option.some Jvm.ClassFile.FieldType.int), false)
def mt_m26 : mt_R := (⟨"RefutationDesk$Reader", "put", "(I)V"⟩, 1, 2, 1, (Option.none : Option Jvm.ClassFile.FieldType), false)
def mt_m27 : mt_R := (⟨"RefutationDesk$Reader", "readTerms", "(II)V"⟩, 1, 5, 2, (Option.none : Option Jvm.ClassFile.FieldType), false)
def mt_m28 : mt_R := (⟨"RefutationDesk$Reader", "readTerm", "(I)V"⟩, 1, 6, 1, (Option.none : Option Jvm.ClassFile.FieldType), false)
def mt_m29 : mt_R := (⟨"RefutationDesk$Reader", "readName", "(CC)I"⟩, 1, 5, 2, (Option.some Jvm.ClassFile.FieldType.int), false)
def mt_m30 : mt_R := (⟨"RefutationDesk$Reader", "putVariable", "(II)V"⟩, 1, 5, 2, (Option.none : Option Jvm.ClassFile.FieldType), false)
def mt_m31 : mt_R := (⟨"RefutationDesk$Reader", "readMade", "()I"⟩, 1, 4, 0, (Option.some Jvm.ClassFile.FieldType.int), false)
def mt_m32 : mt_R := (⟨"RefutationDesk$Tree", "addLeaf", "([II)I"⟩, 2, 5, 2, (Option.some Jvm.ClassFile.FieldType.int), false)
def mt_m33 : mt_R := (⟨"RefutationDesk$Tree", "addNode", "(III)I"⟩, 2, 4, 3, (Option.some Jvm.ClassFile.FieldType.int), false)
def mt_m34 : mt_R := (⟨"RefutationDesk$Reader", "readPair", "(CZI)I"⟩, 1, 6, 3, (Option.some Jvm.ClassFile.FieldType.int), false)
def mt_m35 : mt_R := (⟨"RefutationDesk$Tree", "addPair", "(ZII)I"⟩, 2, 5, 3, (Option.some Jvm.ClassFile.FieldType.int), false)
def mt_m36 : mt_R := (⟨"RefutationDesk$Tree", "atMostTooMany", "(I)I"⟩, 2, 1, 1, (Option.some Jvm.ClassFile.FieldType.int), false)
def mt_m37 : mt_R := (⟨"RefutationDesk$Reader", "readBound", "(ZZI)I"⟩, 1, 6, 3, (Option.some Jvm.ClassFile.FieldType.int), false)
def mt_m38 : mt_R := (⟨"RefutationDesk$Reader", "variablesAround", "()I"⟩, 1, 3, 0, (Option.some Jvm.ClassFile.FieldType.int), false)
def mt_m39 : mt_R := (⟨"RefutationDesk$Search", "takeRows", "(LRefutationDesk$Tree;I)I"⟩, 3, 5, 2, (Option.some Jvm.ClassFile.FieldType.int), false)
def mt_m40 : mt_R := (⟨"RefutationDesk$Tree", "putRow", "(IILRefutationDesk$Draft;)V"⟩, 2, 4, 3, (Option.none : Option Jvm.ClassFile.FieldType), false)
def mt_m41 : mt_R := (⟨"RefutationDesk$Draft", "begin", "()V"⟩, 4, 1, 0, (Option.none : Option Jvm.ClassFile.FieldType), false)
def mt_m42 : mt_R := (⟨"RefutationDesk$Tree", "putRowOf", "(IILRefutationDesk$Draft;I)V"⟩, 2, 8, 4, (Option.none : Option Jvm.ClassFile.FieldType), false)
def mt_m43 : mt_R := (⟨"RefutationDesk$Draft", "addLiteral", "([III)V"⟩, 4, 5, 3, (Option.none : Option Jvm.ClassFile.FieldType), false)
def mt_m44 : mt_R := (⟨"RefutationDesk$Draft", "put", "(I)V"⟩, 4, 2, 1, (Option.none : Option Jvm.ClassFile.FieldType), false)
def mt_m45 : mt_R := (⟨"RefutationDesk$Draft", "closeLiteral", "()V"⟩, 4, 1, 0, (Option.none : Option Jvm.ClassFile.FieldType), false)
def mt_m46 : mt_R := (⟨"RefutationDesk$Draft", "cameBefore", "()Z"⟩, 4, 4, 0, (Option.some Jvm.ClassFile.FieldType.boolean), false)
def mt_m47 : mt_R := (⟨"RefutationDesk", "sameSymbols", "([IIII)Z"⟩, 0, 5, 4, (Option.some Jvm.ClassFile.FieldType.boolean), false)
def mt_m48 : mt_R := (⟨"RefutationDesk$Draft", "nameAnew", "()V"⟩, 4, 5, 0, (Option.none : Option Jvm.ClassFile.FieldType), false)
def mt_m49 : mt_R := (⟨"RefutationDesk$Search", "takeIn", "(IIIII)V"⟩, 3, 6, 5, (Option.none : Option Jvm.ClassFile.FieldType), false)
def mt_m50 : mt_R := (⟨"RefutationDesk$Draft", "fits", "()Z"⟩, 4, 1, 0, (Option.some Jvm.ClassFile.FieldType.boolean), false)
def mt_m51 : mt_R := (⟨"RefutationDesk$Draft", "hasOpposites", "()Z"⟩, 4, 3, 0, (Option.some Jvm.ClassFile.FieldType.boolean), false)
def mt_m52 : mt_R := (⟨"RefutationDesk$Draft", "areOpposite", "(III)Z"⟩, 4, 4, 3, (Option.some Jvm.ClassFile.FieldType.boolean), false)
def mt_m53 : mt_R := (⟨"RefutationDesk$Search", "isKnown", "()Z"⟩, 3, 2, 0, (Option.some Jvm.ClassFile.FieldType.boolean), false)
def mt_m54 : mt_R := (⟨"RefutationDesk$Matcher", "covers", "(LRefutationDesk$Clause;LRefutationDesk$Clause;)Z"⟩, 7, 5, 2, (Option.some Jvm.ClassFile.FieldType.boolean), false)
def mt_m55 : mt_R := (⟨"RefutationDesk$Matcher", "forgetFrom", "(ILRefutationDesk$Clause;)V"⟩, 7, 4, 2, (Option.none : Option Jvm.ClassFile.FieldType), false)
def mt_m56 : mt_R := (⟨"RefutationDesk$Matcher", "liesOn", "(LRefutationDesk$Clause;ILRefutationDesk$Clause;I)Z"⟩, 7, 11, 4, (Option.some Jvm.ClassFile.FieldType.boolean), false)
def mt_m57 : mt_R := (⟨"RefutationDesk", "endOf", "([III)I"⟩, 0, 5, 3, (Option.some Jvm.ClassFile.FieldType.int), false)
def mt_m58 : mt_R := (⟨"RefutationDesk$Draft", "copy", "()LRefutationDesk$Clause;"⟩, 4, 2, 0, (Option.some (Jvm.ClassFile.FieldType.object "RefutationDesk$Clause")), false)
def mt_m59 : mt_R := (⟨"RefutationDesk$Kept", "<init>", "(LRefutationDesk$Clause;IIIII)V"⟩, 9, 7, 6, (Option.none : Option Jvm.ClassFile.FieldType), true)
def mt_m60 : mt_R := (⟨"RefutationDesk", "step", "()I"⟩, 0, 1, 0, (Option.some Jvm.ClassFile.FieldType.int), false)
def mt_m61 : mt_R := (⟨"RefutationDesk$Search", "advance", "()I"⟩, 3, 4, 0, (Option.some Jvm.ClassFile.FieldType.int), false)
def mt_m62 : mt_R := (⟨"RefutationDesk$Search", "choose", "(Z)I"⟩, 3, 4, 1, (Option.some Jvm.ClassFile.FieldType.int), false)
def mt_m63 : mt_R := (⟨"RefutationDesk$Search", "isCoveredByActive", "(I)Z"⟩, 3, 3, 1, (Option.some Jvm.ClassFile.FieldType.boolean), false)
def mt_m64 : mt_R := (⟨"RefutationDesk$Search", "dropCovered", "(I)V"⟩, 3, 3, 1, (Option.none : Option Jvm.ClassFile.FieldType), false)
def mt_m65 : mt_R := (⟨"RefutationDesk$Search", "drawFactors", "(I)V"⟩, 3, 5, 1, (Option.none : Option Jvm.ClassFile.FieldType), false)
def mt_m66 : mt_R := (⟨"RefutationDesk$Search", "isOver", "()Z"⟩, 3, 1, 0, (Option.some Jvm.ClassFile.FieldType.boolean), false)
def mt_m67 : mt_R := (⟨"RefutationDesk$Unifier", "drawFactor", "(LRefutationDesk$Clause;IILRefutationDesk$Draft;)Z"⟩, 6, 7, 4, (Option.some Jvm.ClassFile.FieldType.boolean), false)
def mt_m68 : mt_R := (⟨"RefutationDesk$Unifier", "load", "(LRefutationDesk$Clause;I)V"⟩, 6, 5, 2, (Option.none : Option Jvm.ClassFile.FieldType), false)
def mt_m69 : mt_R := (⟨"RefutationDesk$Unifier", "areAlike", "(III)Z"⟩, 6, 11, 3, (Option.some Jvm.ClassFile.FieldType.boolean), false)
def mt_m70 : mt_R := (⟨"RefutationDesk$Unifier", "settle", "(I)I"⟩, 6, 4, 1, (Option.some Jvm.ClassFile.FieldType.int), false)
def mt_m71 : mt_R := (⟨"RefutationDesk$Unifier", "hasVariable", "(III)Z"⟩, 6, 8, 3, (Option.some Jvm.ClassFile.FieldType.boolean), false)
def mt_m72 : mt_R := (⟨"RefutationDesk$Unifier", "putOthers", "(LRefutationDesk$Clause;IILRefutationDesk$Draft;)V"⟩, 6, 6, 4, (Option.none : Option Jvm.ClassFile.FieldType), false)
def mt_m73 : mt_R := (⟨"RefutationDesk$Unifier", "putTerm", "(ILRefutationDesk$Draft;I)V"⟩, 6, 8, 3, (Option.none : Option Jvm.ClassFile.FieldType), false)
def mt_m74 : mt_R := (⟨"RefutationDesk$Search", "drawResolvents", "(II)V"⟩, 3, 7, 2, (Option.none : Option Jvm.ClassFile.FieldType), false)
def mt_m75 : mt_R := (⟨"RefutationDesk$Unifier", "drawResolvent", "(LRefutationDesk$Clause;ILRefutationDesk$Clause;ILRefutationDesk$Draft;)Z"⟩, 6, 8, 5, (Option.some Jvm.ClassFile.FieldType.boolean), false)
def mt_m76 : mt_R := (⟨"RefutationDesk", "run", "(I)I"⟩, 0, 3, 1, (Option.some Jvm.ClassFile.FieldType.int), false)
def mt_m77 : mt_R := (⟨"RefutationDesk", "print", "(ZI)I"⟩, 0, 4, 2, (Option.some Jvm.ClassFile.FieldType.int), false)
def mt_m78 : mt_R := (⟨"RefutationDesk$Printer", "show", "(LRefutationDesk$Clause;)V"⟩, 8, 3, 1, (Option.none : Option Jvm.ClassFile.FieldType), false)
def mt_m79 : mt_R := (⟨"RefutationDesk$Printer", "put", "(C)V"⟩, 8, 2, 1, (Option.none : Option Jvm.ClassFile.FieldType), false)
def mt_m80 : mt_R := (⟨"RefutationDesk$Printer", "showTerm", "([III)V"⟩, 8, 7, 3, (Option.none : Option Jvm.ClassFile.FieldType), false)
def mt_m81 : mt_R := (⟨"RefutationDesk$Printer", "showName", "(I)V"⟩, 8, 3, 1, (Option.none : Option Jvm.ClassFile.FieldType), false)
def mt_m82 : mt_R := (⟨"RefutationDesk$Printer", "showNumber", "(I)V"⟩, 8, 2, 1, (Option.none : Option Jvm.ClassFile.FieldType), false)
def mt_m83 : mt_R := (⟨"RefutationDesk", "out", "(I)C"⟩, 0, 2, 1, (Option.some Jvm.ClassFile.FieldType.char), false)
def mt_m84 : mt_R := (⟨"RefutationDesk", "clause", "(II)I"⟩, 0, 4, 2, (Option.some Jvm.ClassFile.FieldType.int), false)
def mt_m85 : mt_R := (⟨"RefutationDesk", "subsumes", "(II)Z"⟩, 0, 3, 2, (Option.some Jvm.ClassFile.FieldType.boolean), false)
def mt_m86 : mt_R := (⟨"RefutationDesk", "claim", "(IIII)I"⟩, 0, 6, 4, (Option.some Jvm.ClassFile.FieldType.int), false)
def mt_m87 : mt_R := (⟨"RefutationDesk$Reader", "readClause", "(LRefutationDesk$Draft;)Z"⟩, 1, 2, 1, (Option.some Jvm.ClassFile.FieldType.boolean), false)
def mt_m88 : mt_R := (⟨"RefutationDesk$Reader", "readLiterals", "(LRefutationDesk$Draft;)V"⟩, 1, 4, 1, (Option.none : Option Jvm.ClassFile.FieldType), false)
def mt_m89 : mt_R := (⟨"RefutationDesk", "hasGround", "(IIII)Z"⟩, 0, 5, 4, (Option.some Jvm.ClassFile.FieldType.boolean), false)
def mt_m90 : mt_R := (⟨"RefutationDesk", "hasLiteral", "(II)Z"⟩, 0, 3, 2, (Option.some Jvm.ClassFile.FieldType.boolean), false)
def mt_m91 : mt_R := (⟨"RefutationDesk", "groundOf", "(IIII)LRefutationDesk$Clause;"⟩, 0, 6, 4, (Option.some (Jvm.ClassFile.FieldType.object "RefutationDesk$Clause")), false)
def mt_m92 : mt_R := (⟨"RefutationDesk", "figure", "(I)I"⟩, 0, 2, 1, (Option.some Jvm.ClassFile.FieldType.int), false)
def mt_m93 : mt_R := (⟨"RefutationDeskModel", "<init>", "()V"⟩, 10, 1, 0, (Option.none : Option Jvm.ClassFile.FieldType), true)
def mt_m94 : mt_R := (⟨"RefutationDeskModel", "thrown", "()I"⟩, 10, 1, 0, (Option.some Jvm.ClassFile.FieldType.int), false)
def mt_m95 : mt_R := (⟨"RefutationDeskModel", "type", "(J)I"⟩, 10, 6, 1, (Option.some Jvm.ClassFile.FieldType.int), false)
def mt_m96 : mt_R := (⟨"RefutationDeskModel", "wipe", "()I"⟩, 10, 2, 0, (Option.some Jvm.ClassFile.FieldType.int), false)
def mt_m97 : mt_R := (⟨"RefutationDeskModel", "at", "()I"⟩, 10, 1, 0, (Option.some Jvm.ClassFile.FieldType.int), false)
def mt_m98 : mt_R := (⟨"RefutationDeskModel", "assume", "(Z)I"⟩, 10, 6, 1, (Option.some Jvm.ClassFile.FieldType.int), false)
def mt_m99 : mt_R := (⟨"RefutationDeskModel", "begin", "()V"⟩, 10, 1, 0, (Option.none : Option Jvm.ClassFile.FieldType), false)
def mt_m100 : mt_R := (⟨"RefutationDeskModel", "unbind", "()V"⟩, 10, 2, 0, (Option.none : Option Jvm.ClassFile.FieldType), false)
def mt_m101 : mt_R := (⟨"RefutationDeskModel", "readFormula", "(Z)I"⟩, 10, 7, 1, (Option.some Jvm.ClassFile.FieldType.int), false)
def mt_m102 : mt_R := (⟨"RefutationDeskModel", "seen", "()I"⟩, 10, 1, 0, (Option.some Jvm.ClassFile.FieldType.int), false)
def mt_m103 : mt_R := (⟨"RefutationDeskModel", "readLiteral", "(Z)V"⟩, 10, 2, 1, (Option.none : Option Jvm.ClassFile.FieldType), false)
def mt_m104 : mt_R := (⟨"RefutationDeskModel", "isBetween", "(II)Z"⟩, 10, 3, 2, (Option.some Jvm.ClassFile.FieldType.boolean), false)
def mt_m105 : mt_R := (⟨"RefutationDeskModel", "addCell", "(I)V"⟩, 10, 2, 1, (Option.none : Option Jvm.ClassFile.FieldType), false)
def mt_m106 : mt_R := (⟨"RefutationDeskModel", "readTerms", "()V"⟩, 10, 4, 0, (Option.none : Option Jvm.ClassFile.FieldType), false)
def mt_m107 : mt_R := (⟨"RefutationDeskModel", "readTerm", "(I)Z"⟩, 10, 3, 1, (Option.some Jvm.ClassFile.FieldType.boolean), false)
def mt_m108 : mt_R := (⟨"RefutationDeskModel", "readVariable", "()V"⟩, 10, 5, 0, (Option.none : Option Jvm.ClassFile.FieldType), false)
def mt_m109 : mt_R := (⟨"RefutationDeskModel", "readName", "()I"⟩, 10, 2, 0, (Option.some Jvm.ClassFile.FieldType.int), false)
def mt_m110 : mt_R := (⟨"RefutationDeskModel", "know", "(I)I"⟩, 10, 2, 1, (Option.some Jvm.ClassFile.FieldType.int), false)
def mt_m111 : mt_R := (⟨"RefutationDeskModel", "readNew", "()I"⟩, 10, 2, 0, (Option.some Jvm.ClassFile.FieldType.int), false)
def mt_m112 : mt_R := (⟨"RefutationDeskModel", "addRow", "(I)I"⟩, 10, 2, 1, (Option.some Jvm.ClassFile.FieldType.int), false)
def mt_m113 : mt_R := (⟨"RefutationDeskModel", "closeSigns", "(II)I"⟩, 10, 5, 2, (Option.some Jvm.ClassFile.FieldType.int), false)
def mt_m114 : mt_R := (⟨"RefutationDeskModel", "multiply", "(II)I"⟩, 10, 9, 2, (Option.some Jvm.ClassFile.FieldType.int), false)
def mt_m115 : mt_R := (⟨"RefutationDeskModel", "isSign", "(I)Z"⟩, 10, 2, 1, (Option.some Jvm.ClassFile.FieldType.boolean), false)
def mt_m116 : mt_R := (⟨"RefutationDeskModel", "readBound", "(Z)V"⟩, 10, 3, 1, (Option.none : Option Jvm.ClassFile.FieldType), false)
def mt_m117 : mt_R := (⟨"RefutationDeskModel", "invent", "(I)V"⟩, 10, 4, 1, (Option.none : Option Jvm.ClassFile.FieldType), false)
def mt_m118 : mt_R := (⟨"RefutationDeskModel", "takeIn", "(IIIII)Z"⟩, 10, 6, 5, (Option.some Jvm.ClassFile.FieldType.boolean), false)
def mt_m119 : mt_R := (⟨"RefutationDeskModel", "make", "()Z"⟩, 10, 9, 0, (Option.some Jvm.ClassFile.FieldType.boolean), false)
def mt_m120 : mt_R := (⟨"RefutationDeskModel", "write", "(III)I"⟩, 10, 9, 3, (Option.some Jvm.ClassFile.FieldType.int), false)
def mt_m121 : mt_R := (⟨"RefutationDeskModel", "meant", "(I)I"⟩, 10, 3, 1, (Option.some Jvm.ClassFile.FieldType.int), false)
def mt_m122 : mt_R := (⟨"RefutationDeskModel", "isVariable", "(I)Z"⟩, 10, 1, 1, (Option.some Jvm.ClassFile.FieldType.boolean), false)
def mt_m123 : mt_R := (⟨"RefutationDeskModel", "terms", "(I)I"⟩, 10, 1, 1, (Option.some Jvm.ClassFile.FieldType.int), false)
def mt_m124 : mt_R := (⟨"RefutationDeskModel", "termOf", "(II)I"⟩, 10, 5, 2, (Option.some Jvm.ClassFile.FieldType.int), false)
def mt_m125 : mt_R := (⟨"RefutationDeskModel", "endOf", "([II)I"⟩, 10, 4, 2, (Option.some Jvm.ClassFile.FieldType.int), false)
def mt_m126 : mt_R := (⟨"RefutationDeskModel", "sameAtom", "(II)Z"⟩, 10, 8, 2, (Option.some Jvm.ClassFile.FieldType.boolean), false)
def mt_m127 : mt_R := (⟨"RefutationDeskModel", "rename", "(II)V"⟩, 10, 5, 2, (Option.none : Option Jvm.ClassFile.FieldType), false)
def mt_m128 : mt_R := (⟨"RefutationDeskModel", "isTrue", "()Z"⟩, 10, 4, 0, (Option.some Jvm.ClassFile.FieldType.boolean), false)
def mt_m129 : mt_R := (⟨"RefutationDeskModel", "isKnown", "()Z"⟩, 10, 3, 0, (Option.some Jvm.ClassFile.FieldType.boolean), false)
def mt_m130 : mt_R := (⟨"RefutationDeskModel", "covers", "(II)Z"⟩, 10, 8, 2, (Option.some Jvm.ClassFile.FieldType.boolean), false)
def mt_m131 : mt_R := (⟨"RefutationDeskModel", "matches", "(II)Z"⟩, 10, 10, 2, (Option.some Jvm.ClassFile.FieldType.boolean), false)
def mt_m132 : mt_R := (⟨"RefutationDeskModel", "store", "(I)V"⟩, 10, 3, 1, (Option.none : Option Jvm.ClassFile.FieldType), false)
def mt_m133 : mt_R := (⟨"RefutationDeskModel", "state", "()I"⟩, 10, 1, 0, (Option.some Jvm.ClassFile.FieldType.int), false)
def mt_m134 : mt_R := (⟨"RefutationDeskModel", "stateNow", "()I"⟩, 10, 1, 0, (Option.some Jvm.ClassFile.FieldType.int), false)
def mt_m135 : mt_R := (⟨"RefutationDeskModel", "countOf", "(I)I"⟩, 10, 4, 1, (Option.some Jvm.ClassFile.FieldType.int), false)
def mt_m136 : mt_R := (⟨"RefutationDeskModel", "step", "()I"⟩, 10, 1, 0, (Option.some Jvm.ClassFile.FieldType.int), false)
def mt_m137 : mt_R := (⟨"RefutationDeskModel", "advance", "()I"⟩, 10, 6, 0, (Option.some Jvm.ClassFile.FieldType.int), false)
def mt_m138 : mt_R := (⟨"RefutationDeskModel", "chosen", "()I"⟩, 10, 5, 0, (Option.some Jvm.ClassFile.FieldType.int), false)
def mt_m139 : mt_R := (⟨"RefutationDeskModel", "isOver", "()Z"⟩, 10, 1, 0, (Option.some Jvm.ClassFile.FieldType.boolean), false)
def mt_m140 : mt_R := (⟨"RefutationDeskModel", "hasFactor", "(III)Z"⟩, 10, 4, 3, (Option.some Jvm.ClassFile.FieldType.boolean), false)
def mt_m141 : mt_R := (⟨"RefutationDeskModel", "lay", "(II)V"⟩, 10, 5, 2, (Option.none : Option Jvm.ClassFile.FieldType), false)
def mt_m142 : mt_R := (⟨"RefutationDeskModel", "list", "(III)V"⟩, 10, 5, 3, (Option.none : Option Jvm.ClassFile.FieldType), false)
def mt_m143 : mt_R := (⟨"RefutationDeskModel", "laid", "(III)I"⟩, 10, 4, 3, (Option.some Jvm.ClassFile.FieldType.int), false)
def mt_m144 : mt_R := (⟨"RefutationDeskModel", "alike", "(II)Z"⟩, 10, 10, 2, (Option.some Jvm.ClassFile.FieldType.boolean), false)
def mt_m145 : mt_R := (⟨"RefutationDeskModel", "occurs", "(II)Z"⟩, 10, 6, 2, (Option.some Jvm.ClassFile.FieldType.boolean), false)
def mt_m146 : mt_R := (⟨"RefutationDeskModel", "hasResolvent", "(IIII)Z"⟩, 10, 5, 4, (Option.some Jvm.ClassFile.FieldType.boolean), false)
def mt_m147 : mt_R := (⟨"RefutationDeskModel", "run", "(I)I"⟩, 10, 4, 1, (Option.some Jvm.ClassFile.FieldType.int), false)
def mt_m148 : mt_R := (⟨"RefutationDeskModel", "print", "(ZI)I"⟩, 10, 5, 2, (Option.some Jvm.ClassFile.FieldType.int), false)
def mt_m149 : mt_R := (⟨"RefutationDeskModel", "put", "(I)V"⟩, 10, 2, 1, (Option.none : Option Jvm.ClassFile.FieldType), false)
def mt_m150 : mt_R := (⟨"RefutationDeskModel", "putLiteral", "(I)V"⟩, 10, 7, 1, (Option.none : Option Jvm.ClassFile.FieldType), false)
def mt_m151 : mt_R := (⟨"RefutationDeskModel", "putCell", "(I)V"⟩, 10, 3, 1, (Option.none : Option Jvm.ClassFile.FieldType), false)
def mt_m152 : mt_R := (⟨"RefutationDeskModel", "putNumber", "(I)V"⟩, 10, 2, 1, (Option.none : Option Jvm.ClassFile.FieldType), false)
def mt_m153 : mt_R := (⟨"RefutationDeskModel", "out", "(I)C"⟩, 10, 2, 1, (Option.some Jvm.ClassFile.FieldType.char), false)
def mt_m154 : mt_R := (⟨"RefutationDeskModel", "clause", "(II)I"⟩, 10, 3, 2, (Option.some Jvm.ClassFile.FieldType.int), false)
def mt_m155 : mt_R := (⟨"RefutationDeskModel", "subsumes", "(II)Z"⟩, 10, 3, 2, (Option.some Jvm.ClassFile.FieldType.boolean), false)
def mt_m156 : mt_R := (⟨"RefutationDeskModel", "proof", "()I"⟩, 10, 3, 0, (Option.some Jvm.ClassFile.FieldType.int), false)
def mt_m157 : mt_R := (⟨"RefutationDeskModel", "figure", "(I)I"⟩, 10, 2, 1, (Option.some Jvm.ClassFile.FieldType.int), false)
def mt_m158 : mt_R := (⟨"RefutationDeskModel", "claim", "(IIII)I"⟩, 10, 7, 4, (Option.some Jvm.ClassFile.FieldType.int), false)
def mt_m159 : mt_R := (⟨"RefutationDeskModel", "isFound", "(IIII)Z"⟩, 10, 6, 4, (Option.some Jvm.ClassFile.FieldType.boolean), false)
def mt_m160 : mt_R := (⟨"RefutationDeskModel", "isLine", "(I)Z"⟩, 10, 2, 1, (Option.some Jvm.ClassFile.FieldType.boolean), false)
def mt_m161 : mt_R := (⟨"RefutationDeskModel", "comes", "(IIII)Z"⟩, 10, 7, 4, (Option.some Jvm.ClassFile.FieldType.boolean), false)
def mt_m162 : mt_R := (⟨"RefutationDeskLaw", "type", "(LRefutationDesk;J[J)I"⟩, 11, 5, 3, (Option.some Jvm.ClassFile.FieldType.int), false)
def mt_m163 : mt_R := (⟨"RefutationDeskLaw", "assume", "(LRefutationDesk;Z[J)I"⟩, 11, 4, 3, (Option.some Jvm.ClassFile.FieldType.int), false)
def mt_m164 : mt_R := (⟨"RefutationDeskLaw", "step", "(LRefutationDesk;[J)I"⟩, 11, 3, 2, (Option.some Jvm.ClassFile.FieldType.int), false)
def mt_m165 : mt_R := (⟨"RefutationDeskLaw", "run", "(LRefutationDesk;I[J)I"⟩, 11, 4, 3, (Option.some Jvm.ClassFile.FieldType.int), false)
def mt_m166 : mt_R := (⟨"RefutationDeskLaw", "print", "(LRefutationDesk;ZI[J)I"⟩, 11, 5, 4, (Option.some Jvm.ClassFile.FieldType.int), false)
def mt_m167 : mt_R := (⟨"RefutationDeskLaw", "out", "(LRefutationDesk;I[J)I"⟩, 11, 4, 3, (Option.some Jvm.ClassFile.FieldType.int), false)
def mt_m168 : mt_R := (⟨"RefutationDeskLaw", "clause", "(LRefutationDesk;II[J)I"⟩, 11, 5, 4, (Option.some Jvm.ClassFile.FieldType.int), false)
def mt_m169 : mt_R := (⟨"RefutationDeskLaw", "subsumes", "(LRefutationDesk;II[J)I"⟩, 11, 5, 4, (Option.some Jvm.ClassFile.FieldType.int), false)
def mt_m170 : mt_R := (⟨"RefutationDeskLaw", "claim", "(LRefutationDesk;IIII[J)I"⟩, 11, 7, 6, (Option.some Jvm.ClassFile.FieldType.int), false)
def mt_m171 : mt_R := (⟨"RefutationDeskLaw", "figure", "(LRefutationDesk;I[J)I"⟩, 11, 4, 3, (Option.some Jvm.ClassFile.FieldType.int), false)
def mt_m172 : mt_R := (⟨"RefutationDeskLaw", "law", "([I)Z"⟩, 11, 7, 1, (some .boolean), false)
def mt_ms : List mt_R := [mt_m0, mt_m1, mt_m2, mt_m3, mt_m4, mt_m5, mt_m6, mt_m7, mt_m8, mt_m9, mt_m10, mt_m11, mt_m12, mt_m13, mt_m14, mt_m15, mt_m16, mt_m17, mt_m18, mt_m19, mt_m20, mt_m21, mt_m22, mt_m23, mt_m24, mt_m25, mt_m26, mt_m27, mt_m28, mt_m29, mt_m30, mt_m31, mt_m32, mt_m33, mt_m34, mt_m35, mt_m36, mt_m37, mt_m38, mt_m39, mt_m40, mt_m41, mt_m42, mt_m43, mt_m44, mt_m45, mt_m46, mt_m47, mt_m48, mt_m49, mt_m50, mt_m51, mt_m52, mt_m53, mt_m54, mt_m55, mt_m56, mt_m57, mt_m58, mt_m59, mt_m60, mt_m61, mt_m62, mt_m63, mt_m64, mt_m65, mt_m66, mt_m67, mt_m68, mt_m69, mt_m70, mt_m71, mt_m72, mt_m73, mt_m74, mt_m75, mt_m76, mt_m77, mt_m78, mt_m79, mt_m80, mt_m81, mt_m82, mt_m83, mt_m84, mt_m85, mt_m86, mt_m87, mt_m88, mt_m89, mt_m90, mt_m91, mt_m92, mt_m93, mt_m94, mt_m95, mt_m96, mt_m97, mt_m98, mt_m99, mt_m100, mt_m101, mt_m102, mt_m103, mt_m104, mt_m105, mt_m106, mt_m107, mt_m108, mt_m109, mt_m110, mt_m111, mt_m112, mt_m113, mt_m114, mt_m115, mt_m116, mt_m117, mt_m118, mt_m119, mt_m120, mt_m121, mt_m122, mt_m123, mt_m124, mt_m125, mt_m126, mt_m127, mt_m128, mt_m129, mt_m130, mt_m131, mt_m132, mt_m133, mt_m134, mt_m135, mt_m136, mt_m137, mt_m138, mt_m139, mt_m140, mt_m141, mt_m142, mt_m143, mt_m144, mt_m145, mt_m146, mt_m147, mt_m148, mt_m149, mt_m150, mt_m151, mt_m152, mt_m153, mt_m154, mt_m155, mt_m156, mt_m157, mt_m158, mt_m159, mt_m160, mt_m161, mt_m162, mt_m163, mt_m164, mt_m165, mt_m166, mt_m167, mt_m168, mt_m169, mt_m170, mt_m171, mt_m172]
def mt_cs : List ByteArray := [prog_1_method_1_code, prog_7_method_1_code, prog_9_method_1_code, prog_8_method_1_code, prog_3_method_1_code, prog_2_method_1_code, prog_10_method_1_code, prog_5_method_1_code, prog_6_method_1_code, prog_1_method_3_code, prog_1_method_5_code, prog_1_method_6_code, prog_8_method_2_code, prog_8_method_3_code, prog_1_method_13_code, prog_8_method_14_code, prog_8_method_15_code, prog_1_method_2_code, prog_1_method_16_code, prog_1_method_4_code, prog_7_method_2_code, prog_9_method_2_code, prog_7_method_6_code, prog_7_method_4_code, prog_7_method_11_code, prog_7_method_5_code, prog_7_method_14_code, prog_7_method_12_code, prog_7_method_13_code, prog_7_method_16_code, prog_7_method_15_code, prog_7_method_17_code, prog_9_method_3_code, prog_9_method_5_code, prog_7_method_7_code, prog_9_method_4_code, prog_9_method_6_code, prog_7_method_8_code, prog_7_method_9_code, prog_8_method_4_code, prog_9_method_7_code, prog_3_method_2_code, prog_9_method_8_code, prog_3_method_5_code, prog_3_method_3_code, prog_3_method_4_code, prog_3_method_6_code, prog_1_method_21_code, prog_3_method_7_code, prog_8_method_5_code, prog_3_method_8_code, prog_3_method_9_code, prog_3_method_10_code, prog_8_method_6_code, prog_5_method_2_code, prog_5_method_4_code, prog_5_method_3_code, prog_1_method_20_code, prog_3_method_11_code, prog_4_method_1_code, prog_1_method_7_code, prog_8_method_7_code, prog_8_method_9_code, prog_8_method_10_code, prog_8_method_11_code, prog_8_method_12_code, prog_8_method_8_code, prog_10_method_2_code, prog_10_method_4_code, prog_10_method_8_code, prog_10_method_7_code, prog_10_method_9_code, prog_10_method_5_code, prog_10_method_6_code, prog_8_method_13_code, prog_10_method_3_code, prog_1_method_8_code, prog_1_method_9_code, prog_6_method_2_code, prog_6_method_6_code, prog_6_method_3_code, prog_6_method_4_code, prog_6_method_5_code, prog_1_method_10_code, prog_1_method_11_code, prog_1_method_12_code, prog_1_method_14_code, prog_7_method_3_code, prog_7_method_10_code, prog_1_method_17_code, prog_1_method_18_code, prog_1_method_19_code, prog_1_method_15_code, prog_12_method_1_code, prog_12_method_2_code, prog_12_method_3_code, prog_12_method_4_code, prog_12_method_5_code, prog_12_method_42_code, prog_12_method_19_code, prog_12_method_20_code, prog_12_method_23_code, prog_12_method_9_code, prog_12_method_18_code, prog_12_method_10_code, prog_12_method_13_code, prog_12_method_17_code, prog_12_method_16_code, prog_12_method_15_code, prog_12_method_11_code, prog_12_method_14_code, prog_12_method_12_code, prog_12_method_25_code, prog_12_method_24_code, prog_12_method_27_code, prog_12_method_22_code, prog_12_method_26_code, prog_12_method_21_code, prog_12_method_41_code, prog_12_method_34_code, prog_12_method_32_code, prog_12_method_28_code, prog_12_method_6_code, prog_12_method_7_code, prog_12_method_29_code, prog_12_method_8_code, prog_12_method_33_code, prog_12_method_35_code, prog_12_method_37_code, prog_12_method_40_code, prog_12_method_39_code, prog_12_method_38_code, prog_12_method_36_code, prog_12_method_45_code, prog_12_method_44_code, prog_12_method_43_code, prog_12_method_54_code, prog_12_method_53_code, prog_12_method_51_code, prog_12_method_52_code, prog_12_method_49_code, prog_12_method_46_code, prog_12_method_48_code, prog_12_method_47_code, prog_12_method_31_code, prog_12_method_30_code, prog_12_method_50_code, prog_12_method_55_code, prog_12_method_60_code, prog_12_method_56_code, prog_12_method_59_code, prog_12_method_58_code, prog_12_method_57_code, prog_12_method_61_code, prog_12_method_62_code, prog_12_method_63_code, prog_12_method_64_code, prog_12_method_65_code, prog_12_method_69_code, prog_12_method_67_code, prog_12_method_66_code, prog_12_method_68_code, method_3_code, method_4_code, method_5_code, method_6_code, method_7_code, method_8_code, method_9_code, method_10_code, method_11_code, method_12_code, code]
def mt_m (j : Nat) : mt_R := mt_ms.getD j mt_m0
def mt_code (j : Nat) : ByteArray := mt_cs.getD j ByteArray.empty
def mt_y (j : Nat) : MethodName := (mt_m j).1
def mt_ow (j : Nat) : Nat := (mt_m j).2.1
def mt_cn (j : Nat) : String := (mt_m j).1.cls
def mt_ml (j : Nat) : Nat := (mt_m j).2.2.1
def mt_na (j : Nat) : Nat := (mt_m j).2.2.2.1
def mt_rt (j : Nat) : Option FieldType := (mt_m j).2.2.2.2.1
def mt_in (j : Nat) : Bool := (mt_m j).2.2.2.2.2
def mt_pl (j i : Nat) : mn_K := mt_pool (mt_ow j) i
def mt_ex : List String := ["java/lang/IllegalArgumentException", "java/lang/IllegalStateException", "java/lang/IndexOutOfBoundsException", "java/lang/UnsupportedOperationException"]
/-- handlers: method, then from, to, handler, place of the class, exception -/
def mt_hds : List (Nat × List (Nat × Nat × Nat × Nat × Nat)) := [(162, [(0, 9, 12, 13, 0), (0, 9, 16, 15, 3)]), (163, [(0, 9, 12, 13, 0), (0, 9, 15, 21, 1)]), (164, [(0, 8, 11, 21, 1)]), (165, [(0, 9, 12, 13, 0)]), (166, [(0, 10, 13, 35, 2)]), (167, [(0, 9, 12, 35, 2)]), (168, [(0, 10, 13, 35, 2), (0, 10, 17, 13, 0)]), (169, [(0, 17, 20, 35, 2)]), (170, [(0, 14, 17, 13, 0), (0, 14, 21, 35, 2), (0, 14, 25, 21, 1)]), (171, [(0, 9, 12, 13, 0)])]
def mt_hl (j : Nat) : List (Nat × Nat × Nat × Nat × Nat) := match mt_hds.find? (fun q => q.1 == j) with
  | some q => q.2
  | none => []
/-- the rows of tables_1 that hold the methods' codes (the law's own is not among them) -/
def mt_cr : List Nat := [25, 33, 39, 120, 128, 134, 187, 200, 266, 306, 310, 314, 318, 322, 326, 330, 334, 343, 346, 433, 437, 441, 445, 449, 453, 457, 462, 466, 470, 474, 478, 483, 487, 491, 495, 499, 502, 512, 517, 536, 540, 544, 548, 552, 556, 560, 564, 567, 571, 576, 580, 584, 588, 592, 596, 600, 604, 608, 614, 620, 661, 665, 669, 673, 677, 681, 685, 689, 693, 698, 702, 706, 712, 716, 723, 727, 734, 742, 761, 765, 769, 773, 779, 788, 795, 802, 810, 814, 819, 825, 829, 834, 844, 850, 1033, 1037, 1044, 1048, 1052, 1056, 1060, 1064, 1068, 1072, 1076, 1080, 1084, 1088, 1092, 1096, 1100, 1104, 1108, 1112, 1116, 1120, 1124, 1128, 1132, 1136, 1140, 1144, 1147, 1150, 1154, 1157, 1161, 1165, 1169, 1173, 1177, 1181, 1185, 1189, 1193, 1197, 1201, 1205, 1209, 1213, 1217, 1221, 1225, 1229, 1233, 1237, 1241, 1245, 1249, 1253, 1257, 1261, 1265, 1269, 1273, 1277, 1281, 1285, 1289, 1293, 1297, 1301, 337, 428, 657, 730, 737, 784, 791, 798, 806, 840, 0]
end
section
/-- a method's locals at its entry -/
def mn_ent : List Value → List (Option Value)
  | [] => []
  | v :: t => if v.category = 2 then some v :: none :: mn_ent t else some v :: mn_ent t
def mn_pad (xs : List (Option Value)) (n : Nat) : List (Option Value) := xs ++ List.replicate (n - xs.length) none
/-- reads of the law's script, which lies outside our heap: its reference is the value .retAddr -/
def mn_opS (sc : Option (List Int32)) (q : Instr × Nat) (pc : Nat) (xs : List (Option Value)) (st : List Value) (ns : Nat) (hs : mn_H) : Option mn_S :=
  match sc with
  | none => none
  | some l => match q with
    | (.iaload, 1) => match st with
      | .int i :: .retAddr _ :: r => if i < 0 ∨ l.length ≤ i.toNatClampNeg then none else some (pc + 1, xs, .int (l.getD i.toNatClampNeg 0) :: r, ns, hs)
      | _ => none
    | (.arraylength, 1) => match st with
      | .retAddr _ :: r => some (pc + 1, xs, .int (Int32.ofNat l.length) :: r, ns, hs)
      | _ => none
    | _ => none
def mn_op (j fr lo : Nat) (sc : Option (List Int32)) (q : Instr × Nat) (pc : Nat) (xs : List (Option Value)) (st : List Value) (ns : Nat) (hs : mn_H) : Option mn_S :=
  match mn_opA q pc xs st ns hs with
  | some S => some S
  | none => match mn_opB q pc xs st ns hs with
    | some S => some S
    | none => match mn_opB1 q pc xs st ns hs with
      | some S => some S
      | none => match mn_opC q pc xs st ns hs with
        | some S => some S
        | none => match mn_opD (mt_pl j) mt_ft mt_fi mt_df mt_ak (mt_ow j) (mt_in j) q pc xs st ns hs with
          | some S => some S
          | none => match mn_opE (mt_pl j) fr lo q pc xs st ns hs with
            | some S => some S
            | none => mn_opS sc q pc xs st ns hs
/-- a return, and what it gives -/
def mn_end (rt : Option FieldType) (q : Instr × Nat) (st : List Value) : Option (Option Value) :=
  match q, rt, st with
  | (.return_, 1), none, [] => some none
  | (.ireturn, 1), some ty, [.int v] => if narrow ty (.int v) = .int v then some (some (.int v)) else none
  | (.areturn, 1), some (.object _), [.ref a] => some (some (.ref a))
  | (.areturn, 1), some (.object _), [.null] => some (some .null)
  | _, _, _ => none
/-- new X, dup, its constructor, athrow: which exception -/
def mn_thr (cc : ByteArray) (pl : Nat → mn_K) (em : Bool) (fr lo : Nat) (q : Instr × Nat) (pc : Nat) (st : List Value) : Option Nat :=
  match q with
  | (.new i, 3) => match pl i with
    | (3, k, ic, _, _) => if em = true ∧ decode cc (pc + 3) = .ok (.dup, 1) ∧ decode cc (pc + 4) = .ok (.invokespecial ic, 3) ∧ decode cc (pc + 7) = .ok (.athrow, 1) ∧ 5 < fr ∧ mn_cat st + 81 ≤ lo then some k else none
    | _ => none
  | _ => none
/-- a call of a method of ours: which one, with what (the receiver first), and what stays on the stack -/
def mn_cal (pl : Nat → mn_K) (na : Nat → Nat) (q : Instr × Nat) (st : List Value) (hs : mn_H) : Option (Nat × List Value × List Value) :=
  match q with
  | (.invokestatic i, 3) => match pl i with
    | (7, j, _, _, _) => if na j ≤ st.length then some (j, (st.take (na j)).reverse, st.drop (na j)) else none
    | _ => none
  | (.invokevirtual i, 3) => match pl i with
    | (8, j, ci, _, _) => match st.drop (na j) with
      | .ref a :: r => match hs[a]? with
        | some (tg, _) => if tg = ci ∧ ci < 50 then some (j, .ref a :: (st.take (na j)).reverse, r) else none
        | none => none
      | _ => none
    | _ => none
  | (.invokespecial i, 3) => match pl i with
    | (9, j, _, _, _) => match st.drop (na j) with
      | .ref a :: r => some (j, .ref a :: (st.take (na j)).reverse, r)
      | _ => none
    | _ => none
  | _ => none
/-- the first handler over the place that takes exception k -/
def mn_hd (l : List (Nat × Nat × Nat × Nat × Nat)) (pc k : Nat) : Option Nat := match l with
  | [] => none
  | t :: r => if t.1 ≤ pc ∧ pc < t.2.1 then (if t.2.2.2.2 = k then some t.2.2.1 else mn_hd r pc k) else none
abbrev mn_A : Type := (Nat × Option Value) × Nat × mn_H
/-- the run of method j: 0 and the value that it returns, or 1 + k where it throws exception k; slots, heap -/
def mn_run : Nat → Option (List Int32) → Nat → Nat → Nat → mn_S → Option mn_A
  | 0, _, _, _, _, _ => none
  | n + 1, sc, fr, lo, j, (pc, xs, st, ns, hs) =>
    match decode (mt_code j) pc with
    | .error _ => none
    | .ok q => match mn_op j fr lo sc q pc xs st ns hs with
      | some S => mn_run n sc fr lo j S
      | none => match mn_end (mt_rt j) q st with
        | some v => some ((0, v), ns, hs)
        | none => match mn_thr (mt_code j) (mt_pl j) (mt_hl j).isEmpty fr lo q pc st with
          | some k => some ((k + 1, none), ns + 6, hs ++ [(99, [])])
          | none => match mn_cal (mt_pl j) mt_na q st hs with
            | none => none
            | some (j2, as, r) => if 1 ≤ fr ∧ 19 + mt_ml j2 ≤ lo ∧ mn_cat r ≤ 8 ∧ (mn_ent as).length ≤ mt_ml j2 then
                match mn_run n none (fr - 1) (lo - (19 + mt_ml j2)) j2 (0, mn_pad (mn_ent as) (mt_ml j2), [], ns, hs) with
                | none => none
                | some ((0, v), ns', hs') => mn_run n sc fr lo j (pc + 3, xs, v.toList ++ r, ns', hs')
                | some ((k + 1, _), ns', hs') => match q, mn_hd (mt_hl j) pc k with
                  | (.invokevirtual _, 3), some hp => mn_run n sc fr lo j (hp, xs, [.ref (hs'.length - 1)], ns', hs')
                  | _, _ => none
              else none
end
section
/-- what the tables of a program's own names (mt_ ..) must be true to, as the machine's tables have it -/
def mt_G (WT : List Cond) : Prop :=
  (∀ (j i ci k nn : Nat) (z : Int), mt_pl j i = (1, ci, k, nn, z) → mn_F mt_cl WT (mt_cn j) mt_fi mt_ft (mt_ow j) i ci k) ∧
  (∀ (j i ci x y : Nat) (z : Int), mt_pl j i = (2, ci, x, y, z) → ∃ (C : String) (T : u_T) (ty : Nat → FieldType), mt_cl[ci]? = some (C, T, (mt_df ci).length) ∧ (∀ w ∈ u_ws C T (mt_df ci).length, w ∈ WT) ∧ (∀ k, k < (mt_df ci).length → parseFieldDescriptor (T k).2.2.1 = some (ty k)) ∧ (∀ k, k < (mt_df ci).length → defaultValue (ty k) = vp_V (mt_df ci) k) ∧ (∀ b, (mt_df ci).map (mn_tr b) = mt_df ci) ∧ Cond.classLink (mt_cn j) i C ∈ WT ∧ Cond.instantiable C (mt_df ci).length ∈ WT ∧ Cond.initialized C ∈ WT) ∧
  (∀ (j i x k y : Nat) (z : Int), mt_pl j i = (2, x, k, y, z) → 4 ≤ k ∧ k < 6 → ∃ C, (k = 4 → C = mt_E4) ∧ (k = 5 → C = mt_E5) ∧ Cond.arrayOver (.object C) ∈ WT ∧ Cond.classLink (mt_cn j) i C ∈ WT) ∧
  (∀ (j i x y w : Nat) (z : Int), mt_pl j i = (5, x, y, w, z) → Cond.constant (mt_cn j) i (Int32.ofInt z) ∈ WT) ∧
  (∀ (j i x y w : Nat) (z : Int), mt_pl j i = (6, x, y, w, z) → Cond.constantLong (mt_cn j) i (Int64.ofInt z) ∈ WT) ∧
  (Cond.arrayClass .int ∈ WT ∧ Cond.arrayClass .boolean ∈ WT ∧ Cond.arrayClass .char ∈ WT ∧ Cond.arrayClass .long ∈ WT) ∧
  (∀ (k : Nat), 4 ≤ k ∧ k < 6 → ∀ q, mt_cl[mt_ak k]? = some q → (k = 4 → q.1 = mt_E4) ∧ (k = 5 → q.1 = mt_E5)) ∧
  (∀ (k : Nat), 4 ≤ k ∧ k < 6 → ∃ q, mt_cl[mt_ak k]? = some q)
section MNG
variable {p : Program} {l : Launch} {e : Env} {R : Room} {s : State} {m : MethodId} {args : Array Value} {below : List Frame} {meth : Method} {c : Code} {H : Heap} {locs : List Loc} {Q : State → Prop} {b : Nat × Nat} {n0 m0 : Nat} {D : va_G} {aC : Nat → ClassId} {WT : List Cond} {ls : Array Slot}
set_option maxHeartbeats 8000000 in
theorem mn_opD_ok {j : Nat} {q : Instr × Nat} {pc : Nat} {xs : List (Option Value)} {st : List Value} {ns : Nat} {hs : mn_H} {pc' : Nat} {xs' : List (Option Value)} {st' : List Value} {ns' : Nat} {hs' : mn_H} (hx : p.tables.exec = Jvm.exec) (hb : c.code = mt_code j) (hts : ∀ w ∈ WT, w.before args s = true) (hG : mt_G WT) (hown : s.vm.findClass (mt_cn j) = some m.cls) (hin : mt_in j = true → meth.name = "<init>") (hK : va_K D mt_cl (mn_tys aC mt_E4 mt_E5) s) (hR : mn_R D mt_cl aC b hs H) (hS : va_S (fun q => b.1 ≤ q) s.heap H locs) (hsz : s.heap.size = b.1 + n0) (hn0 : n0 ≤ hs.length) (hm0 : m0 ≤ ns)
    (hd : decode (mt_code j) pc = .ok q) (hop : mn_opD (mt_pl j) mt_ft mt_fi mt_df mt_ak (mt_ow j) (mt_in j) q pc xs st ns hs = some (pc', xs', st', ns', hs')) (hrc : hs'.length - n0 ≤ R.cells) (hrs : ns' - m0 ≤ R.slots)
    (kk : xs' = xs → hs.length ≤ hs'.length → ns ≤ ns' → ∀ (H1 : Heap) (locs1 : List Loc), mn_R D mt_cl aC b hs' H1 → va_S (fun q => b.1 ≤ q) s.heap H1 locs1 → W p l e R s m args below meth c H1 locs1 (hs'.length - n0) (ns' - m0) Q (F0 m pc' ls (st'.map (mn_tr b)))) : W p l e R s m args below meth c H locs (hs.length - n0) (ns - m0) Q (F0 m pc ls (st.map (mn_tr b))) := by
  obtain ⟨G1, G2, G4, G5, G6, GA, GK, GQ⟩ := hG
  unfold mn_opD at hop
  split at hop
  · split at hop
    · next h => cases hop; exact lv_ldc hx hb hown (hts _ (G5 _ _ _ _ _ _ h)) hd (kk rfl (Nat.le_refl _) (Nat.le_refl _) H locs hR hS)
    · cases hop
  · split at hop
    · next h => cases hop; exact lv_ldc2 hx hb hown (hts _ (G6 _ _ _ _ _ _ h)) hd (kk rfl (Nat.le_refl _) (Nat.le_refl _) H locs hR hS)
    · cases hop
  · split at hop
    · next h =>
      split at hop
      · next tg vs ha =>
        split at hop
        · next hc =>
          obtain ⟨rfl, hci⟩ := hc
          split at hop
          · next v hv => cases hop; exact mn_get_ok hx hb hts hown hK hR (G1 _ _ _ _ _ _ h) hd ha hci hv (kk rfl (Nat.le_refl _) (Nat.le_refl _) H locs hR hS)
          · cases hop
        · cases hop
      · cases hop
    · cases hop
  · split at hop
    · next h =>
      split at hop
      · next tg vs ha =>
        split at hop
        · next hc =>
          obtain ⟨rfl, hci, hk, hfk, hfin⟩ := hc
          cases hop
          have kk := kk rfl (by rw [List.length_set]; exact Nat.le_refl _) (Nat.le_refl _)
          rw [List.length_set] at kk
          exact mn_put_ok hx hb hts hown hK hR hS (G1 _ _ _ _ _ _ h) hin hd ha hci hk hfk hfin kk
        · cases hop
      · cases hop
    · cases hop
  · split at hop
    · split at hop
      · next ha =>
        split at hop
        · next hi => cases hop; exact mn_ald_ok hx hb hK hR (Or.inl ⟨hd, ha⟩) hi (kk rfl (Nat.le_refl _) (Nat.le_refl _) H locs hR hS)
        · cases hop
      · cases hop
    · cases hop
  · split at hop
    · split at hop
      · next ha =>
        split at hop
        · next hi => cases hop; exact mn_ald_ok hx hb hK hR (Or.inr (Or.inl ⟨hd, ha⟩)) hi (kk rfl (Nat.le_refl _) (Nat.le_refl _) H locs hR hS)
        · cases hop
      · cases hop
    · cases hop
  · split at hop
    · split at hop
      · next ha =>
        split at hop
        · next hi => cases hop; exact mn_ald_ok hx hb hK hR (Or.inr (Or.inr ⟨hd, ha⟩)) hi (kk rfl (Nat.le_refl _) (Nat.le_refl _) H locs hR hS)
        · cases hop
      · cases hop
    · cases hop
  · split at hop
    · split at hop
      · next ha =>
        split at hop
        · next hi => cases hop; exact mn_lald_ok hx hb hK hR hd ha hi (kk rfl (Nat.le_refl _) (Nat.le_refl _) H locs hR hS)
        · cases hop
      · cases hop
    · cases hop
  · split at hop
    · split at hop
      · next tg vs ha =>
        split at hop
        · next ht =>
          have ha2 := ha
          rw [show tg = 50 + (tg - 50) by omega] at ha2
          split at hop
          · next hi => cases hop; exact mn_aald_ok hx hb hK hR (k := tg - 50) (by omega) hd ha2 hi (Or.inr ⟨_, rfl⟩) (kk rfl (Nat.le_refl _) (Nat.le_refl _) H locs hR hS)
          · next hi => cases hop; exact mn_aald_ok hx hb hK hR (k := tg - 50) (by omega) hd ha2 hi (Or.inl rfl) (kk rfl (Nat.le_refl _) (Nat.le_refl _) H locs hR hS)
          · cases hop
        · cases hop
      · cases hop
    · cases hop
  · split at hop
    · split at hop
      · next ha =>
        split at hop
        · cases hop
        · next hi =>
          cases hop
          have kk := kk rfl (by rw [List.length_set]; exact Nat.le_refl _) (Nat.le_refl _)
          rw [List.length_set] at kk
          exact mn_ast_ok hx hb hK hR hS ha hi (Or.inl ⟨hd, rfl, rfl⟩) kk
      · cases hop
    · cases hop
  · split at hop
    · split at hop
      · next ha =>
        split at hop
        · cases hop
        · next hi =>
          cases hop
          have kk := kk rfl (by rw [List.length_set]; exact Nat.le_refl _) (Nat.le_refl _)
          rw [List.length_set] at kk
          exact mn_ast_ok hx hb hK hR hS ha hi (Or.inr (Or.inl ⟨hd, rfl, rfl⟩)) kk
      · cases hop
    · cases hop
  · split at hop
    · split at hop
      · next ha =>
        split at hop
        · cases hop
        · next hi =>
          cases hop
          have kk := kk rfl (by rw [List.length_set]; exact Nat.le_refl _) (Nat.le_refl _)
          rw [List.length_set] at kk
          exact mn_ast_ok hx hb hK hR hS ha hi (Or.inr (Or.inr ⟨hd, rfl, rfl⟩)) kk
      · cases hop
    · cases hop
  · split at hop
    · split at hop
      · next ha =>
        split at hop
        · cases hop
        · next hi =>
          cases hop
          have kk := kk rfl (by rw [List.length_set]; exact Nat.le_refl _) (Nat.le_refl _)
          rw [List.length_set] at kk
          exact mn_last_ok hx hb hK hR hS ha hi hd kk
      · cases hop
    · cases hop
  · split at hop
    · split at hop
      · next tg vs tv vv ha hv =>
        split at hop
        · next hc =>
          obtain ⟨h1, h2, h3, h4, h5⟩ := hc
          cases hop
          have kk := kk rfl (by rw [List.length_set]; exact Nat.le_refl _) (Nat.le_refl _)
          rw [List.length_set] at kk
          have e50 : 50 + (tg - 50) = tg := by omega
          obtain ⟨q9, hq9⟩ := GQ (tg - 50) (by omega)
          refine mn_aast_ok hx hb hK hR hS (k := tg - 50) (by omega) (by rw [e50]; exact ha) hv h4 h5 (q := q9) (by rw [h3]; exact hq9) (GK (tg - 50) (by omega) q9 hq9) hd ?_
          rw [e50]
          exact kk
        · cases hop
      · cases hop
    · cases hop
  · split at hop
    · split at hop
      · next tg vs ha =>
        split at hop
        · next ht =>
          cases hop
          exact mn_alen_ok hx hb hK hR (k := tg - 50) (by omega) hd (by rw [show 50 + (tg - 50) = tg by omega]; exact ha) (kk rfl (Nat.le_refl _) (Nat.le_refl _) H locs hR hS)
        · cases hop
      · cases hop
    · cases hop
  · split at hop
    · next n r =>
      split at hop
      · cases hop
      · next hn =>
        have hsl : ns + n.toNatClampNeg - m0 = ns - m0 + n.toNatClampNeg := by omega
        split at hop
        · cases hop
          rw [hsl] at hrs kk
          exact mn_newa_ok (at9 := .int) hx hb hK hR hS hsz hn0 hn (hts _ GA.1) (Or.inl ⟨rfl, rfl⟩) hd (by simp at hrc; omega) hrs (fun H1 => kk rfl (by simp) (by omega) H1 locs)
        · cases hop
          rw [hsl] at hrs kk
          exact mn_newa_ok (at9 := .boolean) hx hb hK hR hS hsz hn0 hn (hts _ GA.2.1) (Or.inr (Or.inl ⟨rfl, rfl⟩)) hd (by simp at hrc; omega) hrs (fun H1 => kk rfl (by simp) (by omega) H1 locs)
        · cases hop
          rw [hsl] at hrs kk
          exact mn_newa_ok (at9 := .char) hx hb hK hR hS hsz hn0 hn (hts _ GA.2.2.1) (Or.inr (Or.inr (Or.inl ⟨rfl, rfl⟩))) hd (by simp at hrc; omega) hrs (fun H1 => kk rfl (by simp) (by omega) H1 locs)
        · cases hop
          rw [hsl] at hrs kk
          exact mn_newa_ok (at9 := .long) hx hb hK hR hS hsz hn0 hn (hts _ GA.2.2.2) (Or.inr (Or.inr (Or.inr ⟨rfl, rfl⟩))) hd (by simp at hrc; omega) hrs (fun H1 => kk rfl (by simp) (by omega) H1 locs)
        · cases hop
    · cases hop
  · split at hop
    · next x1 k x2 x3 n r h =>
      split at hop
      · cases hop
      · next hn =>
        cases hop
        have hk9 : 4 ≤ k ∧ k < 6 := Decidable.byContradiction fun h9 => hn (Or.inr (Or.inr h9))
        obtain ⟨C, c1, c2, c3, c4⟩ := G4 _ _ _ _ _ _ h hk9
        have hsl : ns + n.toNatClampNeg - m0 = ns - m0 + n.toNatClampNeg := by omega
        rw [hsl] at hrs kk
        have hn1 : ¬ (n < 0 ∨ 100000 < n.toNatClampNeg) := fun h9 => hn (h9.elim Or.inl (fun h8 => Or.inr (Or.inl h8)))
        exact mn_newr_ok hx hb hown hK hR hS hsz hn0 hk9 ⟨c1, c2⟩ hn1 (hts _ c3) (hts _ c4) hd (by simp at hrc; omega) hrs (fun H1 => kk rfl (by simp) (by omega) H1 locs)
    · cases hop
  · split at hop
    · next ci x1 x2 x3 h =>
      split at hop
      · next hci =>
        cases hop
        obtain ⟨C, T, ty, f1, f3, f4, f5, f6, g1, g2, g3⟩ := G2 _ _ _ _ _ _ h
        have hsl : ns + (mt_df ci).length - m0 = ns - m0 + (mt_df ci).length := by omega
        rw [hsl] at hrs kk
        exact mn_new_ok hx hb hts hown hK hR hS hsz hn0 hci f1 f3 f4 f5 (f6 b) g1 g2 g3 hd (by simp at hrc; omega) hrs (fun H1 => kk rfl (by simp) (by omega) H1 locs)
      · cases hop
    · cases hop
  · cases hop
end MNG
end
section
theorem mn_ent_len (b : Nat × Nat) : ∀ (as : List Value), (lg_sl (as.map (mn_tr b))).length = (mn_ent as).length
  | [] => rfl
  | v :: t => by
    have ih := mn_ent_len b t
    unfold lg_sl at ih ⊢
    unfold mn_ent
    rw [List.map_cons, List.flatMap_cons, List.length_append, ih, mn_tr_cat]
    split <;> simp <;> omega
theorem mn_ent_args (b : Nat × Nat) : ∀ (as : List Value) (k i : Nat) (v : Value), (mn_ent as)[i]? = some (some v) → (k + i, mn_tr b v) ∈ lv_args k (as.map (mn_tr b))
  | [], k, i, v, h => by simp [mn_ent] at h
  | w :: t, k, i, v, h => by
    rw [List.map_cons]
    unfold lv_args
    unfold mn_ent at h
    rw [mn_tr_cat]
    split at h
    · next hc =>
      rw [if_pos hc]
      match i, h with
      | 0, h =>
        simp at h
        subst h
        exact List.mem_cons_self
      | 1, h => simp at h
      | i + 2, h =>
        have h2 : (mn_ent t)[i]? = some (some v) := by simpa using h
        have := mn_ent_args b t (k + 2) i v h2
        rw [show k + 2 + i = k + (i + 2) by omega] at this
        exact List.mem_cons_of_mem _ this
    · next hc =>
      rw [if_neg hc]
      match i, h with
      | 0, h =>
        simp at h
        subst h
        exact List.mem_cons_self
      | i + 1, h =>
        have h2 : (mn_ent t)[i]? = some (some v) := by simpa using h
        have := mn_ent_args b t (k + 1) i v h2
        rw [show k + 1 + i = k + (i + 1) by omega] at this
        exact List.mem_cons_of_mem _ this
theorem mn_pad_len {xs : List (Option Value)} {n : Nat} (h : xs.length ≤ n) : (mn_pad xs n).length = n := by
  unfold mn_pad
  simp
  omega
theorem mn_L_entry (b : Nat × Nat) (as : List Value) {n : Nat} (h : (mn_ent as).length ≤ n) : mn_L b ((lg_sl (as.map (mn_tr b)) ++ List.replicate (n - (lg_sl (as.map (mn_tr b))).length) Slot.unset).toArray) (mn_pad (mn_ent as) n) := by
  have hl := lv_entry (as.map (mn_tr b)) (n := n) (by rw [mn_ent_len]; exact h)
  refine ⟨by rw [mn_pad_len h]; exact hl.1, hl.2.1, fun i v hi => ?_⟩
  unfold mn_pad at hi
  by_cases hi2 : i < (mn_ent as).length
  · rw [List.getElem?_append_left hi2] at hi
    have := mn_ent_args b as 0 i v hi
    rw [Nat.zero_add] at this
    exact hl.2.2 _ this
  · rw [List.getElem?_append_right (by omega), List.getElem?_replicate] at hi
    split at hi <;> cases hi
end
section
section MNT
variable {p : Program} {l : Launch} {e : Env} {R : Room} {s : State} {m : MethodId} {args : Array Value} {below : List Frame} {meth : Method} {c : Code} {T : State} {locs : List Loc} {cells slots : Nat}
/-- the walk as if the method had been entered with the heap as it is now -/
theorem mn_rebase (X : Stand p l e R s m args below meth c T locs cells slots) (hc : cells ≤ R.cells) (hs : slots ≤ R.slots) : Stand p l e { frames := R.frames, cells := R.cells - cells, slots := R.slots - slots, locals := R.locals } ({ s with heap := T.heap, slotsUsed := T.slotsUsed } : State) m args below meth c T [] 0 0 := by
  have hsame := X.same
  obtain ⟨e1, e2, e3, e4, e5, e6⟩ := id hsame
  have hh := X.heapSize
  have hu := X.used
  refine ⟨X.admits, X.cas, X.clock, X.frames, ?_, X.hears, X.method, X.code, X.here, X.tail, X.warmed, X.limits, X.bytes, ?_⟩
  · have hr := X.room
    have hb := X.book
    simp only [State.hasRoom, Bool.and_eq_true, decide_eq_true_eq] at hr ⊢
    refine ⟨⟨⟨⟨hr.1.1.1.1, hr.1.1.1.2⟩, ?_⟩, ?_⟩, hb⟩
    · have := hr.1.1.2
      show T.heap.size + (R.cells - cells) ≤ _
      omega
    · have := hr.1.2
      show T.slotsUsed + (R.slots - slots) ≤ _
      omega
  · refine ⟨?_, Nat.le_refl _, Nat.le_refl _, ?_, ?_, ?_⟩
    · exact e1
    · show T.slotsUsed = T.slotsUsed + _
      have : List.drop T.heap.size T.heap.toList = [] := List.drop_eq_nil_of_le (by simp)
      show T.slotsUsed = T.slotsUsed + ((List.drop T.heap.size T.heap.toList).map (·.slots.size)).sum
      rw [this]
      simp
    · have : List.drop T.heap.size T.heap.toList = [] := List.drop_eq_nil_of_le (by simp)
      show ((List.drop T.heap.size T.heap.toList).map (·.slots.size)).sum ≤ 0
      rw [this]
      simp
    · intro a c hc
      exact ⟨c, hc, rfl, rfl, fun _ _ => rfl⟩
end MNT
end
section
section MNU
variable {p : Program} {l : Launch} {e : Env} {R : Room} {s : State} {m : MethodId} {args : Array Value} {below : List Frame} {meth : Method} {c : Code} {H : Heap} {locs : List Loc} {cells slots : Nat} {Q : State → Prop} {cc : ByteArray} {pc : Nat} {ls : Array Slot} {st : List Value} {own cls : String}
def mn_up : List String := ["java/lang/RuntimeException", "java/lang/Exception"]
set_option maxHeartbeats 4000000 in
/-- new X, dup, X's constructor, athrow, where no handler of the method's own is near: the method ends so; nothing but the new cell has come -/
theorem mn_throw_W (hx : p.tables.exec = Jvm.exec) (hb : c.code = cc) (hml : ls.size = c.maxLocals) (htr : l.stackTraces = false) (hlocks : meth.locks = false) (hown : s.vm.findClass own = some m.cls) {i ic : Nat} (hcls : Bundle.fit cls = true)
    (hat : ∀ su : Nat, ∀ a ∈ Bundle.ownAtoms0 own ic cls mn_up, a.before args ({ s with heap := H, slotsUsed := su } : State) = true)
    (g1 : ∀ su : Nat, (Cond.classLink own i cls).before args ({ s with heap := H, slotsUsed := su } : State) = true) (g3 : ∀ su : Nat, (Cond.initialized cls).before args ({ s with heap := H, slotsUsed := su } : State) = true)
    (hd0 : decode cc pc = .ok (.new i, 3)) (hd1 : decode cc (pc + 3) = .ok (.dup, 1)) (hd2 : decode cc (pc + 4) = .ok (.invokespecial ic, 3)) (hd3 : decode cc (pc + 7) = .ok (.athrow, 1)) (hout : ∀ x ∈ c.exceptionTable.toList, covers x (pc + 7) = false)
    (hfr : 5 < R.frames) (hlo : (st.map fun v => v.category).sum + 81 ≤ R.locals) (hcells : cells + 1 ≤ R.cells) (hslots : slots + 6 ≤ R.slots)
    (kk : ∀ U : State, U.status = .running → Ended U below (.threw H.size) → s.WarmedH U.vm → s.sameButNew ({ U with vm := s.vm } : State) locs (cells + 1) (slots + 6) → H.size + 1 ≤ U.heap.size → (∀ q, q < H.size → U.heap[q]? = H[q]?) → (∃ ce : Cell, U.heap[H.size]? = some ce ∧ ce.vm = .none ∧ s.vm.findClass cls = some ce.cls) → Q U) :
    W p l e R s m args below meth c H locs cells slots Q (F0 m pc ls st) := by
  intro T hT X
  subst hT
  have X0 := mn_rebase X (by omega) (by omega)
  have hat := hat T.slotsUsed
  have g1 := g1 T.slotsUsed
  have g3 := g3 T.slotsUsed
  have htr' : e.platform.stackTraces = false := by
    have h9 := X.admits.2.2.2.2.1
    rw [h9]
    exact htr
  obtain ⟨e1, e2, e3, e4, e5, e6⟩ := id X.same
  generalize hs' : ({ s with heap := T.heap, slotsUsed := T.slotsUsed } : State) = s' at X0 hat g1 g3
  have hvm : s'.vm = s.vm := by rw [← hs']
  have hheap : s'.heap = T.heap := by rw [← hs']
  have hown' : s'.vm.findClass own = some m.cls := by rw [hvm]; exact hown
  obtain ⟨vm₁, cX, kX, hfX, hkX, -, -, X₁, st1⟩ := X0.newCold hx (own := own) (C := cls) (index := i) (n := 6) hown' g1 (hat (.instantiable cls 6) (by simp [Bundle.ownAtoms0])) g3
    (g := F0 m pc ls st) rfl (by rw [hb]; exact hd0) (by show 0 + 1 ≤ R.cells - cells; omega) (by show 0 + 6 ≤ R.slots - slots; omega)
  generalize hT1 : (T.setVm vm₁).pushCell { cls := cX, slots := kX.instanceTypes.map defaultValue, vm := .none } = T1 at X₁ st1
  have hcellA : T1.heap[T.heap.size]? = some (freshCell cX kX) := by rw [← hT1]; exact State.heap_pushCell_size _ _
  obtain ⟨U, hsteps, hrun, hend, hW, hsame, ce, hce, K⟩ := X₁.ctorThrow0 hx htr' (own := own) (cls := cls) (names := mn_up) (ic := ic) hown' hcls (by decide +kernel)
    hat (fun y hy => by cases hy) hfX hkX hcellA (by rw [hheap]; exact Nat.le_refl _)
    (g := F0 m (pc + 4) ls (.ref T.heap.size :: .ref T.heap.size :: st)) rfl hml rfl rfl (rest := st) rfl
    (by rw [hb]; exact hd2) (by rw [hb]; exact hd3) hout (by show 2 + 3 < R.frames; omega) (by
      show 2 * 0 + ((Value.ref T.heap.size :: st).map fun v => v.category).sum + (13 * (2 + 1) + 41) ≤ R.locals
      simp [Value.category] at hlo ⊢
      omega) hlocks
  have hsT : (T.setVm s.vm).sameButNew ({ U with vm := s.vm } : State) [] 1 6 := by
    obtain ⟨a1, a2, a3, a4, a5, a6⟩ := hsame
    rw [hvm] at a1
    have key : ∀ (F G : List Frame) (h1 h2 : Heap) (u1 u2 : Nat), ({ (({ s.setFrames G with heap := h1, slotsUsed := u1 } : State).setFrames F) with heap := h2, slotsUsed := u2 } : State) = { s.setFrames F with heap := h2, slotsUsed := u2 } := by
      intro F G h1 h2 u1 u2
      show ({ ((s.setFrames G).setFrames F) with heap := h2, slotsUsed := u2 } : State) = _
      rw [State.setFrames_setFrames]
    refine ⟨?_, by rw [hheap] at a2; exact a2, by rw [hheap] at a3; exact a3, by rw [hheap, ← hs'] at a4; exact a4, by rw [hheap] at a5; exact a5, fun a c hc => by rw [hheap] at a6; exact a6 a c hc⟩
    refine a1.trans ?_
    rw [e1, key, ← hs']
    rfl
  refine ⟨U, ?_, kk U hrun hend (by have h9 := hW; rw [← hs'] at h9; exact h9) (by have h9 := X.same.trans hsT; rw [List.append_nil] at h9; exact h9) ?_ ?_ ⟨ce, hce, K.vm, by rw [← hvm]; exact K.cls⟩⟩
  · refine st1 _ ?_
    show Steps p.tables e below (T1.setTop (F0 m (pc + 3) ls (.ref T.heap.size :: st))) _
    jvm_step X₁.here [X₁.here.top, hx, hb, hd1, Value.category]
    exact hsteps
  · exact (Array.getElem?_eq_some_iff.mp hce).1
  · intro q hq
    obtain ⟨cq, hcq⟩ : ∃ cq, T.heap[q]? = some cq := ⟨_, Array.getElem?_eq_getElem hq⟩
    rw [hcq]
    exact State.sameButNew.old_cell hsT hcq
end MNU
end
section
section MNX
variable {e : Env} {s : State} {f : JFrame} {a : Addr}
/-- what the search for a handler gives, and the tables that it leaves -/
def mn_fd (e : Env) (s : State) (f : JFrame) (a : Addr) (h : Handler) (vm' : Vm) : Prop :=
  ∀ (Q : Handler → Pre) (E : CtlPost) (d : Bool) (acts : List Action), wp (findHandler f a) Q E e d acts s ↔ Q h d acts (s.setVm vm')
theorem mn_find_go {Q : Handler → Pre} {E : CtlPost} {d : Bool} {acts : List Action} {x : ExceptionTableEntry} {t : List ExceptionTableEntry} {c : ClassId} {cell : Cell} {vm' : Vm} (hx : covers x f.pc = true) (h0 : x.catchType ≠ 0)
    (hg : (Jvm.resolveClass f.method.cls x.catchType).Gives e.toSetting s.vm (.ok c) vm') (hsz : vm'.classes.size ≤ s.vm.classes.size) (hcell : s.heap[a]? = some cell) (hobj : ∀ k, cell.vm ≠ .statics k)
    (hk : ∃ k, vm'.classes[cell.cls]? = some k) (hc : ∃ k, vm'.classes[c]? = some k) :
    wp (findHandler.go f a (x :: t)) Q E e d acts s ↔
      if vm'.assignable cell.cls c = true then Q (.found x.handlerPc) d acts (s.setVm vm') else wp (findHandler.go f a t) Q E e d acts (s.setVm vm') := by
  simp only [covers] at hx
  obtain ⟨ha, ht⟩ := hg.op (op := VmOp.resolveClass f.method.cls x.catchType) rfl
  have hcell' : (s.setVm vm').heap[a]? = some cell := hcell
  cases hfit : vm'.assignable cell.cls c <;>
    simp [findHandler.go, hx, h0, ha, ht, hsz, hcell, hcell', hobj, hk, hc, hfit, VmOp.dirties, VmOp.acts]
theorem mn_step_catch {r : List Frame} {pc : Nat} {vm' : Vm} (hfind : mn_fd e s f a (.found pc) vm') :
    (stepThrowing e s a (.java f :: r)).Is ((s.setVm vm').setFrames (.java { f with pc := pc, stack := [.ref a] } :: r)) [] := by
  simp only [stepThrowing, searchFrame, vmDo]
  generalize hr : Sem.go _ e false [] s = res
  obtain ⟨as, rfl, ha⟩ := Sem.eq_ok_of hr (a := Handler.found pc) (s' := s.setVm vm') (acts' := []) (by simp [hfind _ _ _ _])
  exact ⟨rfl, ha⟩
end MNX
section MNY
variable {tb : Tables} {e : Env} {s target : State} {g : JFrame} {c : Code} {below : List Frame} {a : Addr}
theorem mn_caught (h : At s g.method c below) {pc : Nat} {vm' : Vm} (hfind : mn_fd e ((s.setTop g).pushFrame (.throwing a)) g a (.found pc) vm')
    (hrest : Steps tb e below ((s.setVm vm').setTop { g with pc := pc, stack := [.ref a] }) target) :
    Steps tb e below ((s.setTop g).pushFrame (.throwing a)) target := by
  obtain ⟨hgo, hw⟩ := h.throwing a
  refine Steps.head hgo hw ?_
  rw [stepThread_throwing (frames_entered h.top _), (mn_step_catch (s := (s.setTop g).pushFrame (.throwing a)) hfind).1]
  obtain ⟨g₀, hg⟩ := Option.isSome_iff_exists.mp h.top
  obtain ⟨r, hr⟩ := State.topJava?_eq_some.mp hg
  have hr' : (s.setVm vm').frames = .java g₀ :: r := hr
  rw [State.setTop_of_frames _ hr'] at hrest
  rw [State.pushFrame, State.setTop_of_frames _ hr, State.setFrames_setFrames]
  rw [hr]
  have e1 : ((s.setFrames (.throwing a :: .java g :: r)).setVm vm').setFrames (.java { g with pc := pc, stack := [.ref a] } :: r) = (s.setVm vm').setFrames (.java { g with pc := pc, stack := [.ref a] } :: r) := by
    show ((s.setVm vm').setFrames (.throwing a :: .java g :: r)).setFrames _ = _
    rw [State.setFrames_setFrames]
  rw [show ((s.setFrames (.java g :: r)).frames) = .java g :: r from ?_]
  · show Steps tb e below (((s.setFrames (Frame.throwing a :: Frame.java g :: r)).setVm vm').setFrames (.java { g with pc := pc, stack := [.ref a] } :: r)) target
    rw [e1]
    exact hrest
  · exact State.frames_setFrames _ (State.cur_lt_of_frames hr)
end MNY
end
section
theorem mn_opA_mono {q : Instr × Nat} {pc : Nat} {xs : List (Option Value)} {st : List Value} {ns : Nat} {hs : mn_H} {S : mn_S} (h : mn_opA q pc xs st ns hs = some S) : S.2.2.2.1 = ns ∧ S.2.2.2.2 = hs := by
  unfold mn_opA at h
  repeat' split at h
  all_goals first | (cases h; done) | (cases h; exact ⟨rfl, rfl⟩) | (obtain ⟨ys, h1, h2⟩ := Option.map_eq_some_iff.mp h; cases h2; exact ⟨rfl, rfl⟩)
theorem mn_opB_mono {q : Instr × Nat} {pc : Nat} {xs : List (Option Value)} {st : List Value} {ns : Nat} {hs : mn_H} {S : mn_S} (h : mn_opB q pc xs st ns hs = some S) : S.2.2.2.1 = ns ∧ S.2.2.2.2 = hs := by
  unfold mn_opB at h
  repeat' split at h
  all_goals first | (cases h; done) | (cases h; exact ⟨rfl, rfl⟩) | (obtain ⟨ys, h1, h2⟩ := Option.map_eq_some_iff.mp h; cases h2; exact ⟨rfl, rfl⟩)
theorem mn_opB1_mono {q : Instr × Nat} {pc : Nat} {xs : List (Option Value)} {st : List Value} {ns : Nat} {hs : mn_H} {S : mn_S} (h : mn_opB1 q pc xs st ns hs = some S) : S.2.2.2.1 = ns ∧ S.2.2.2.2 = hs := by
  unfold mn_opB1 at h
  repeat' split at h
  all_goals first | (cases h; done) | (cases h; exact ⟨rfl, rfl⟩)
theorem mn_opC_mono {q : Instr × Nat} {pc : Nat} {xs : List (Option Value)} {st : List Value} {ns : Nat} {hs : mn_H} {S : mn_S} (h : mn_opC q pc xs st ns hs = some S) : S.2.2.2.1 = ns ∧ S.2.2.2.2 = hs := by
  unfold mn_opC at h
  repeat' split at h
  all_goals first | (cases h; done) | (cases h; exact ⟨rfl, rfl⟩)
theorem mn_opS_mono {sc : Option (List Int32)} {q : Instr × Nat} {pc : Nat} {xs : List (Option Value)} {st : List Value} {ns : Nat} {hs : mn_H} {S : mn_S} (h : mn_opS sc q pc xs st ns hs = some S) : S.2.2.2.1 = ns ∧ S.2.2.2.2 = hs := by
  unfold mn_opS at h
  repeat' split at h
  all_goals first | (cases h; done) | (cases h; exact ⟨rfl, rfl⟩)
theorem mn_opD_mono {pl : Nat → mn_K} {ft : Nat → Nat → Nat} {fi : Nat → Nat → Bool} {df : Nat → List Value} {ak : Nat → Nat} {ow : Nat} {ini : Bool} {q : Instr × Nat} {pc : Nat} {xs : List (Option Value)} {st : List Value} {ns : Nat} {hs : mn_H} {S : mn_S} (h : mn_opD pl ft fi df ak ow ini q pc xs st ns hs = some S) : ns ≤ S.2.2.2.1 ∧ hs.length ≤ S.2.2.2.2.length := by
  unfold mn_opD at h
  repeat' split at h
  all_goals first | (cases h; done) | (cases h; exact ⟨Nat.le_refl _, Nat.le_refl _⟩) | (cases h; exact ⟨Nat.le_refl _, by simp⟩) | (cases h; exact ⟨by simp, by simp⟩)
theorem mn_opE_mono {pl : Nat → mn_K} {fr lo : Nat} {q : Instr × Nat} {pc : Nat} {xs : List (Option Value)} {st : List Value} {ns : Nat} {hs : mn_H} {S : mn_S} (h : mn_opE pl fr lo q pc xs st ns hs = some S) : S.2.2.2.1 = ns ∧ S.2.2.2.2.length = hs.length := by
  unfold mn_opE at h
  repeat' split at h
  all_goals first | (cases h; done) | (cases h; exact ⟨rfl, rfl⟩) | (cases h; exact ⟨rfl, by simp⟩)
theorem mn_op_mono {j fr lo : Nat} {sc : Option (List Int32)} {q : Instr × Nat} {pc : Nat} {xs : List (Option Value)} {st : List Value} {ns : Nat} {hs : mn_H} {S : mn_S} (h : mn_op j fr lo sc q pc xs st ns hs = some S) : ns ≤ S.2.2.2.1 ∧ hs.length ≤ S.2.2.2.2.length := by
  unfold mn_op at h
  split at h
  · next h1 => cases h; have h9 := mn_opA_mono h1; exact ⟨by rw [h9.1]; exact Nat.le_refl _, by rw [h9.2]; exact Nat.le_refl _⟩
  · split at h
    · next h1 => cases h; have h9 := mn_opB_mono h1; exact ⟨by rw [h9.1]; exact Nat.le_refl _, by rw [h9.2]; exact Nat.le_refl _⟩
    · split at h
      · next h1 => cases h; have h9 := mn_opB1_mono h1; exact ⟨by rw [h9.1]; exact Nat.le_refl _, by rw [h9.2]; exact Nat.le_refl _⟩
      · split at h
        · next h1 => cases h; have h9 := mn_opC_mono h1; exact ⟨by rw [h9.1]; exact Nat.le_refl _, by rw [h9.2]; exact Nat.le_refl _⟩
        · split at h
          · next h1 => cases h; exact mn_opD_mono h1
          · split at h
            · next h1 => cases h; have h9 := mn_opE_mono h1; exact ⟨by rw [h9.1]; exact Nat.le_refl _, by rw [h9.2]; exact Nat.le_refl _⟩
            · have h9 := mn_opS_mono h; exact ⟨by rw [h9.1]; exact Nat.le_refl _, by rw [h9.2]; exact Nat.le_refl _⟩
theorem mn_run_mono : ∀ (n : Nat) (sc : Option (List Int32)) (fr lo j pc : Nat) (xs : List (Option Value)) (st : List Value) (ns : Nat) (hs : mn_H) (res : Nat × Option Value) (ns' : Nat) (hs' : mn_H), mn_run n sc fr lo j (pc, xs, st, ns, hs) = some (res, ns', hs') → ns ≤ ns' ∧ hs.length ≤ hs'.length := by
  intro n
  induction n with
  | zero => intro sc fr lo j pc xs st ns hs res ns' hs' h; cases h
  | succ n ih =>
    intro sc fr lo j pc xs st ns hs res ns' hs' h
    unfold mn_run at h
    split at h
    · cases h
    · split at h
      · next S hS =>
        obtain ⟨pc1, xs1, st1, ns1, hs1⟩ := S
        have h1 := mn_op_mono hS
        have h2 := ih _ _ _ _ _ _ _ _ _ _ _ _ h
        exact ⟨Nat.le_trans h1.1 h2.1, Nat.le_trans h1.2 h2.2⟩
      · split at h
        · cases h; exact ⟨Nat.le_refl _, Nat.le_refl _⟩
        · split at h
          · cases h; exact ⟨by omega, by simp⟩
          · split at h
            · cases h
            · split at h
              · split at h
                · cases h
                · next h1 =>
                  have h2 := ih _ _ _ _ _ _ _ _ _ _ _ _ h1
                  have h3 := ih _ _ _ _ _ _ _ _ _ _ _ _ h
                  exact ⟨Nat.le_trans h2.1 h3.1, Nat.le_trans h2.2 h3.2⟩
                · next h1 =>
                  split at h
                  · have h2 := ih _ _ _ _ _ _ _ _ _ _ _ _ h1
                    have h3 := ih _ _ _ _ _ _ _ _ _ _ _ _ h
                    exact ⟨Nat.le_trans h2.1 h3.1, Nat.le_trans h2.2 h3.2⟩
                  · cases h
              · cases h
end
section
section MNV
variable {p : Program} {l : Launch} {e : Env} {R : Room} {s : State} {m : MethodId} {args : Array Value} {below : List Frame} {meth : Method} {c : Code} {T : State} {locs : List Loc} {cells slots : Nat}
set_option maxHeartbeats 4000000 in
/-- a call, by its receiver, of a method whose contract says that it throws: the note lies over the caller's frame, the invocation stands as before -/
theorem mn_callT (X : Stand p l e R s m args below meth c T locs cells slots) (hx : p.tables.exec = Jvm.exec) {own C : String} {i : Nat} {y : MethodName} {bytes : ByteArray} {maxL : Nat} {ret : Option FieldType}
    (hown : s.vm.findClass own = some m.cls) (hlink : (Cond.methodLink own i y).before args s = true) (hinst : (Cond.instanceMethod y).before args s = true) (hsel : (Cond.selects C y y).before args s = true) (hini : ∀ (a' : Array Value) (U : State), s.WarmedH U.vm → (Cond.initialized y.cls).before a' U = true)
    (hcode : ∀ (a' : Array Value) (U : State), s.WarmedH U.vm → (Cond.code y bytes maxL ret).before a' U = true) (hy : y.cls ≠ "java/lang/invoke/MethodHandle" ∧ y.cls ≠ "java/lang/invoke/VarHandle")
    {ws : List Cond} {rm : Room} {Pc : Array Value → State → Prop} {Qc : Array Value → State → Outcome → State → Prop} {free : Addr → Prop} {x : Addr} {PH : State → State → Prop}
    (hM : MetFree l y (headSpec ws rm) Pc (fun _ _ _ _ _ => True) Qc) (hblind : FrameBlind Pc) (hfr : rm.frames + 1 ≤ R.frames) (hlo : 8 + (maxL + 11) + rm.locals ≤ R.locals) (hws : ∀ w ∈ ws, ∀ (a' : Array Value) (U : State), s.WarmedH U.vm → w.before a' U = true)
    {b : Addr} {cellB : Cell} (hcell : T.heap[b]? = some cellB) (hobj : cellB.vm.isStatics = false) (hcls : s.vm.findClass C = some cellB.cls)
    {g : JFrame} (hg : g.method = m) (hsize : g.locals.size = c.maxLocals) {argsL rest : List Value} (hlen : ∀ sig, parseMethodDescriptor y.desc = some sig → argsL.length = sig.parameters.length)
    (hstack : g.stack = argsL.reverse ++ .ref b :: rest) (hWt : 2 * g.monitorRoom + (rest.map fun v => v.category).sum ≤ 8) (hdg : decode c.code g.pc = .ok (.invokevirtual i, 3)) (hroom : cells + rm.cells ≤ R.cells ∧ slots + rm.slots ≤ R.slots)
    (hpre : ∀ vm₁, s.WarmedH vm₁ → Pc (Value.ref b :: argsL).toArray (T.setVm vm₁))
    (hQ : ∀ a st o t, Qc a st o t → o = .threw x ∧ PH st t ∧ ∃ L, st.WarmedH t.vm ∧ st.sameButNew ({ t with vm := st.vm } : State) L rm.cells rm.slots ∧ ∀ q ∈ L, free q.base) :
    ∃ (st t T' : State) (L : List Loc), st.heap = T.heap ∧ s.vm.Alike st.vm ∧ Stand p l e R s m args below meth c T' (locs ++ L) (cells + rm.cells) (slots + rm.slots) ∧ (∀ q ∈ L, free q.base) ∧ T'.heap = t.heap ∧ T'.vm = t.vm ∧ PH st t ∧ Steps p.tables e below (T.setTop g) ((T'.setTop { g with stack := rest }).pushFrame (.throwing x)) := by
  obtain ⟨mk, methM, hnamed, hmethM, hstM, habM⟩ := Cond.instanceMethod_spec hinst
  obtain ⟨methM', cM, hmethM', -, -, -, -, -, -, hsigM⟩ := Cond.code_spec hnamed (hcode args s (State.WarmedH.refl s))
  cases hmethM.symm.trans hmethM'
  obtain ⟨c2, r2, m2, q1, q2, q3, q4, kP, hkP, hkPi⟩ := Cond.selects_spec hsel
  cases hcls.symm.trans q1
  cases (State.methodFound?_of_named hnamed hy).symm.trans q2
  cases hnamed.symm.trans q3
  have hselP : selectMethod e.platform s.vm cellB.cls mk = .method mk := by rw [Launch.admits_selectMethod X.admits]; exact q4
  obtain ⟨vm₁, X₁, hstep₁⟩ := X.invokevirtual hx hown hlink hnamed hmethM hstM hkP hkPi hy (a := b) (cell := cellB) hcell
    (fun z h => by rw [h] at hobj; cases hobj) hselP hmethM habM hkP hkPi (g := g) hg (argsL := argsL) (rest := rest) (hlen _ hsigM) hstack hdg
  generalize hU : T.setVm vm₁ = U at X₁ hstep₁
  have hUh : U.heap = T.heap := by rw [← hU]; rfl
  have hPc := hpre vm₁ (by have h9 := X₁.warmed; rw [← hU] at h9; exact h9)
  rw [hU] at hPc
  generalize ha : (Value.ref b :: argsL).toArray = a at hPc hstep₁
  generalize hg1 : ({ g with stack := rest } : JFrame) = g1 at hstep₁ ⊢
  have hg1m : g1.method = m := by rw [← hg1]; exact hg
  have hg1s : g1.locals.size = c.maxLocals := by rw [← hg1]; exact hsize
  have hg1d : decode c.code g1.pc = .ok (.invokevirtual i, 3) := by rw [← hg1]; exact hdg
  have hg1w : 2 * g1.monitorRoom + (g1.stack.map fun v => v.category).sum ≤ 8 := by rw [← hg1]; exact hWt
  have hnU : U.methodNamed? y = some mk := X₁.named hnamed
  have hcU := hcode a U X₁.warmed
  obtain ⟨methY, cY, hmY, hcY, -, hlY, -, -, -, -⟩ := Cond.code_spec hnU hcU
  obtain ⟨kY, hkY, -⟩ := className_of_methodNamed hnU
  have hinitY : kY.init = .initialized := Cond.initialized_spec (findClass_of_methodNamed hnU) hkY (hini a U X₁.warmed)
  have h : At U g1.method c below := by rw [hg1m]; exact X₁.here
  have happ : (headSpec ws rm).appliesLoose y e.platform (U.calling g1 mk a) = true :=
    Spec.appliesLoose_calling (g := g1) h hg1d hnU hkY hinitY
      (X₁.room_calling (g := g1) (R' := rm) hg1s hmY hcY hfr (by rw [hlY]; omega) hroom.1 hroom.2) (atoms_intro fun w hw => hws w hw _ _ X₁.warmed)
  obtain ⟨mid, hmid⟩ := h.above
  have hfr1 : (U.setTop g1).frames = (.java g1 :: mid) ++ below := by rw [State.frames_setTop' g1 h.top, hmid]; rfl
  obtain ⟨o, s₂, hsteps, -, hend, hq⟩ := Steps.callFree hM p X₁.admits X₁.cas X₁.clock (acts := []) hfr1 happ (hblind _ _ _ _ hPc) trivial
  have hq' : Qc a (U.calling g1 mk a) o s₂ := hq
  obtain ⟨rfl, hPH, L, hW₂, e2, hL⟩ := hQ _ _ _ _ hq'
  rw [State.frames_setTop' g1 h.top] at hend
  obtain ⟨e2, q2', q3', q4', q5', q6'⟩ := e2
  have e3 : s₂ = ({ (U.calling g1 mk a).setFrames s₂.frames with heap := s₂.heap, slotsUsed := s₂.slotsUsed } : State).setVm s₂.vm := by
    have h9 : s₂ = ({ s₂ with vm := (U.calling g1 mk a).vm } : State).setVm s₂.vm := rfl
    rw [e2] at h9
    exact h9
  have hf₂ : s₂.frames = .throwing x :: .java g1 :: U.frames.tail := hend
  have hW' : U.WarmedH s₂.vm := hW₂
  obtain ⟨g₀, hg0⟩ := Option.isSome_iff_exists.mp h.top
  obtain ⟨r, hr⟩ := State.topJava?_eq_some.mp hg0
  generalize hT' : (({ U with heap := s₂.heap, slotsUsed := s₂.slotsUsed } : State).setVm s₂.vm) = T'
  have hr' : T'.frames = .java g₀ :: r := by rw [← hT']; exact hr
  have hs₂ : s₂ = (T'.setTop g1).pushFrame (.throwing x) := by
    rw [State.pushFrame, State.frames_setTop _ hr', State.setTop_of_frames _ hr', State.setFrames_setFrames, ← hT']
    refine e3.trans ?_
    rw [hf₂, State.calling_eq h.top, State.setFrames_setFrames, hr]
    rfl
  have hsame : U.sameButNew ({ U with heap := s₂.heap, slotsUsed := s₂.slotsUsed } : State) L rm.cells rm.slots := by
    refine ⟨?_, q2', q3', q4', q5', q6'⟩
    obtain ⟨t, ht, -⟩ := State.frames_cons hr
    show ({ U with heap := s₂.heap, slotsUsed := s₂.slotsUsed } : State) = { U.setFrames U.frames with heap := s₂.heap, slotsUsed := s₂.slotsUsed }
    rw [State.setFrames_self ht]
  refine ⟨U.calling g1 mk a, s₂, T', L, hUh, X₁.warmed.alike, ?_, hL, by rw [← hT']; rfl, by rw [← hT']; rfl, hPH, ?_⟩
  · rw [← hT']
    exact ⟨X₁.admits, X₁.cas, X₁.clock, X₁.frames, X₁.room, X₁.hears, X₁.method, X₁.code, (X₁.here.setHeapUsed s₂.heap s₂.slotsUsed).setVm hW'.alike, X₁.tail, State.WarmedH.trans X₁.warmed hW', X₁.limits, X₁.bytes, X₁.same.trans (hsame.setVm s.vm)⟩
  · refine hstep₁ _ fun acts => ?_
    rw [doInvoke_state, ← hs₂]
    exact hsteps
end MNV
end
section
section MNW
variable {e : Env} {s : State} {args : Array Value} {m : MethodId} {own X : String} {cX : ClassId} {k pc hp : Nat} {a : Addr} {cell : Cell}
theorem mn_find_list (hown : s.vm.findClass own = some m.cls) (hpl : e.platform.magicAccessors = ({} : Platform).magicAccessors) (hcX : s.vm.findClass X = some cX) (hcell : cell.cls = cX) (hobj : ∀ k, cell.vm ≠ .statics k) (hself : s.vm.assignable cX cX = true) :
    ∀ (es : List ExceptionTableEntry) (hl : List (Nat × Nat × Nat × Nat × Nat)), es.map (fun h => (h.startPc, h.endPc, h.handlerPc, h.catchType)) = hl.map (fun t => (t.1, t.2.1, t.2.2.1, t.2.2.2.1)) →
      (∀ t ∈ hl, t.2.2.2.1 ≠ 0 ∧ ∃ C, (Cond.classLink own t.2.2.2.1 C).before args s = true ∧ (t.2.2.2.2 = k → C = X) ∧ (t.2.2.2.2 ≠ k → va_Nc X C s)) → mn_hd hl pc k = some hp →
      ∀ vm0, s.WarmedH vm0 → ∃ vm', s.WarmedH vm' ∧ ∀ (U : State) (f : JFrame), U.vm = vm0 → U.heap[a]? = some cell → f.method = m → f.pc = pc → ∀ (Q : Handler → Pre) (E : CtlPost) (d : Bool) (acts : List Action), wp (findHandler.go f a es) Q E e d acts U ↔ Q (.found hp) d acts (U.setVm vm') := by
  obtain ⟨kX, hkX, -⟩ := Vm.findClass_spec hcX
  intro es
  induction es with
  | nil =>
    intro hl hm _ hh
    cases hl with
    | nil => cases hh
    | cons t r => cases hm
  | cons x es ih =>
    intro hl hm hw hh vm0 hW0
    cases hl with
    | nil => cases hm
    | cons t r =>
      simp only [List.map_cons, List.cons.injEq, Prod.mk.injEq] at hm
      obtain ⟨⟨m1, m2, m3, m4⟩, hm⟩ := hm
      obtain ⟨hn0, C, hlink, hC1, hC2⟩ := hw t List.mem_cons_self
      obtain ⟨cC, hfC, hcl⟩ := Cond.classLink_spec hown hlink e.platform hpl
      obtain ⟨hg1, hwarm1, -⟩ := State.classEntry (e := e) hW0 hcl
      obtain ⟨kC, hkC, -⟩ := Vm.findClass_spec hfC
      have hsz : (vm0.noted m.cls t.2.2.2.1 (.cls cC)).classes.size ≤ vm0.classes.size := by simp [Vm.noted]
      generalize vm0.noted m.cls t.2.2.2.1 (.cls cC) = vm1 at hg1 hwarm1 hsz
      have hk1 : ∃ k, vm1.classes[cell.cls]? = some k := by
        obtain ⟨k', hk', -⟩ := hwarm1.alike.2.2 _ _ hkX
        exact ⟨k', by rw [hcell]; exact hk'⟩
      have hk2 : ∃ k, vm1.classes[cC]? = some k := by
        obtain ⟨k', hk', -⟩ := hwarm1.alike.2.2 _ _ hkC
        exact ⟨k', hk'⟩
      unfold mn_hd at hh
      split at hh
      · next hc =>
        have hgo : ∀ (U : State) (f : JFrame), U.vm = vm0 → U.heap[a]? = some cell → f.method = m → f.pc = pc → ∀ (Q : Handler → Pre) (E : CtlPost) (d : Bool) (acts : List Action), wp (findHandler.go f a (x :: es)) Q E e d acts U ↔ if vm1.assignable cell.cls cC = true then Q (.found x.handlerPc) d acts (U.setVm vm1) else wp (findHandler.go f a es) Q E e d acts (U.setVm vm1) := by
          intro U f hU hUc hfm hfp Q E d acts
          refine mn_find_go (by unfold covers; rw [hfp, m1, m2]; simp [hc]) (by rw [m4]; exact hn0) (by rw [hfm, m4, hU]; exact hg1) (by rw [hU]; exact hsz) hUc hobj hk1 hk2
        split at hh
        · next hk =>
          cases hh
          have hCX := hC1 hk
          subst hCX
          have hcc : cC = cX := Option.some.inj (hfC.symm.trans hcX)
          refine ⟨vm1, hwarm1, fun U f hU hUc hfm hfp Q E d acts => ?_⟩
          rw [hgo U f hU hUc hfm hfp, hcell, hcc, hwarm1.alike.assignable, if_pos hself, m3]
        · next hk =>
          obtain ⟨c1, t1, n1, n2, n3⟩ := hC2 hk
          have e1 : c1 = cX := Option.some.inj (n1.symm.trans hcX)
          have e2 : t1 = cC := Option.some.inj (n2.symm.trans hfC)
          subst e1
          subst e2
          obtain ⟨vm2, hw2, hrest⟩ := ih r hm (fun t ht => hw t (List.mem_cons_of_mem _ ht)) hh vm1 hwarm1
          refine ⟨vm2, hw2, fun U f hU hUc hfm hfp Q E d acts => ?_⟩
          rw [hgo U f hU hUc hfm hfp, hcell, hwarm1.alike.assignable, n3, if_neg (by decide)]
          exact hrest (U.setVm vm1) f rfl hUc hfm hfp Q E d acts
      · cases hh
end MNW
end
section
def mn_is1 : Cond := .isRef (.static Bundle.tN "UNASSIGNED_STACK" Bundle.steD)
def mn_is2 : Cond := .isRef (.static Bundle.tN "SUPPRESSED_SENTINEL" Bundle.listD)
def mn_ls1 : Cond := .laysStatic Bundle.tN "UNASSIGNED_STACK" Bundle.steD
def mn_ls2 : Cond := .laysStatic Bundle.tN "SUPPRESSED_SENTINEL" Bundle.listD
/-- a static's place, in a cell outside our heap -/
def mn_LS (C n d : String) (A : Nat → Prop) (U : State) (H : Heap) : Prop := ∃ (c : ClassId) (k : Class) (i : Nat) (f : Field) (a : Nat) (cell : Cell), U.vm.findClass C = some c ∧ U.fieldFound? C n d = some (c, k, i, f) ∧ f.isStatic = true ∧ k.statics = some a ∧ H[a]? = some cell ∧ cell.vm.isStatics = true ∧ cell.cls = c ∧ f.slot < cell.slots.size ∧ k.staticTypes[f.slot]? = some f.type ∧ ¬ A a
theorem mn_LS.of {C n d : String} {A : Nat → Prop} {args : Array Value} {s : State} (h : (Cond.laysStatic C n d).before args s = true) (hA : ∀ a : Nat, a < s.heap.size → ¬ A a) : mn_LS C n d A s s.heap := by
  obtain ⟨c, k, i, f, a, cell, h1, h2, h3, h4, h5, h6, h7, h8, h9⟩ := Cond.laysStatic_spec h
  exact ⟨c, k, i, f, a, cell, h1, h2, h3, h4, h5, h6, h7, h8, h9, hA a (Array.getElem?_eq_some_iff.mp h5).1⟩
theorem mn_LS.moved {C n d : String} {A : Nat → Prop} {u U : State} {H : Heap} (hvm : u.vm.Alike U.vm) (h : mn_LS C n d A u H) : mn_LS C n d A U H := by
  obtain ⟨c, k, i, f, a, cell, h1, h2, h3, h4, h5, h6, h7, h8, h9, h10⟩ := h
  obtain ⟨k', hi', he⟩ := State.fieldFound?_setVm hvm h2
  exact ⟨c, k', i, f, a, cell, by rw [hvm.findClass]; exact h1, hi', h3, by rw [he]; exact h4, h5, h6, h7, h8, by rw [he]; exact h9, h10⟩
theorem mn_LS.kept {C n d : String} {A : Nat → Prop} {U : State} {H H1 : Heap} (h : mn_LS C n d A U H) (hq : ∀ a : Nat, a < H.size → ¬ A a → H1[a]? = H[a]?) : mn_LS C n d A U H1 := by
  obtain ⟨c, k, i, f, a, cell, h1, h2, h3, h4, h5, h6, h7, h8, h9, h10⟩ := h
  exact ⟨c, k, i, f, a, cell, h1, h2, h3, h4, by rw [hq a (Array.getElem?_eq_some_iff.mp h5).1 h10]; exact h5, h6, h7, h8, h9, h10⟩
theorem mn_LS.use {C n d : String} {A : Nat → Prop} {s : State} {H : Heap} {args : Array Value} (h : mn_LS C n d A s H) (su : Nat) : (Cond.laysStatic C n d).before args ({ s with heap := H, slotsUsed := su } : State) = true := by
  obtain ⟨c, k, i, f, a, cell, h1, h2, h3, h4, h5, h6, h7, h8, h9, h10⟩ := h
  have h2' : ({ s with heap := H, slotsUsed := su } : State).fieldFound? C n d = some (c, k, i, f) := h2
  simp [Cond.before, Cond.holds, Cond.value, h1, h2', h3, h4, h5, h6, h7, h8, h9]
/-- what stays true outside our heap: two statics of Throwable's are there and are references, the exceptions' classes are apart -/
def mn_X (b : Nat × Nat) (U : State) (H : Heap) : Prop :=
  va_Zq Bundle.tN "UNASSIGNED_STACK" Bundle.steD (fun q => b.1 ≤ q) U H ∧ va_Zq Bundle.tN "SUPPRESSED_SENTINEL" Bundle.listD (fun q => b.1 ≤ q) U H ∧ (∀ (k k2 : Nat) (X C : String), k ≠ k2 → mt_ex[k]? = some X → mt_ex[k2]? = some C → va_Nc X C U) ∧
  mn_LS Bundle.tN "UNASSIGNED_STACK" Bundle.steD (fun q => b.1 ≤ q) U H ∧ mn_LS Bundle.tN "SUPPRESSED_SENTINEL" Bundle.listD (fun q => b.1 ≤ q) U H
theorem mn_X.moved {b : Nat × Nat} {u U : State} {H : Heap} (hvm : u.vm.Alike U.vm) (h : mn_X b u H) : mn_X b U H :=
  ⟨h.1.moved hvm, h.2.1.moved hvm, fun k k2 X C h1 h2 h3 => (h.2.2.1 k k2 X C h1 h2 h3).moved hvm, h.2.2.2.1.moved hvm, h.2.2.2.2.moved hvm⟩
theorem mn_X.kept {b : Nat × Nat} {U : State} {H0 H : Heap} {locs : List Loc} (h : mn_X b U H0) (hS : va_S (fun q => b.1 ≤ q) H0 H locs) : mn_X b U H :=
  ⟨h.1.kept (fun a h1 h2 => hS.2.1 a h1 h2), h.2.1.kept (fun a h1 h2 => hS.2.1 a h1 h2), h.2.2.1, h.2.2.2.1.kept (fun a h1 h2 => hS.2.1 a h1 h2), h.2.2.2.2.kept (fun a h1 h2 => hS.2.1 a h1 h2)⟩
theorem mn_isref {C n d : String} {A : Nat → Prop} {s : State} {H : Heap} {args : Array Value} (h : va_Zq C n d A s H) (su : Nat) : (Cond.isRef (.static C n d)).before args ({ s with heap := H, slotsUsed := su } : State) = true := by
  have key : ∀ v : Value, va_Z C n d v A s H → (Term.static C n d).eval args ({ s with heap := H, slotsUsed := su } : State) none [] ({ s with heap := H, slotsUsed := su } : State) = some v := by
    intro v hz
    obtain ⟨cf, kf, fi, f, a, cell, h1, h2, h3, h4, h5, h6, h7, h8⟩ := hz
    have h1' : ({ s with heap := H, slotsUsed := su } : State).fieldFound? C n d = some (cf, kf, fi, f) := h1
    simp [Term.eval, State.fieldNamed?, h1', h2, h4, h5, h6, h7]
  rcases h with h | ⟨t, h⟩
  · simp [Cond.before, Cond.holds, Cond.value, key _ h]
  · simp [Cond.before, Cond.holds, Cond.value, key _ h]
/-- how a run ends, as the machine has it -/
def mn_O (b : Nat × Nat) (res : Nat × Option Value) (hs' : mn_H) (s : State) (o : Outcome) (t : State) : Prop := match res.1 with
  | 0 => o = .returned (res.2.map (mn_tr b))
  | k + 1 => o = .threw (b.1 + (hs'.length - 1)) ∧ ∃ (X : String) (ce : Cell), mt_ex[k]? = some X ∧ t.heap[b.1 + (hs'.length - 1)]? = some ce ∧ ce.vm = .none ∧ s.vm.findClass X = some ce.cls
def mn_Q (D : va_G) (aC : Nat → ClassId) (b : Nat × Nat) (res : Nat × Option Value) (hs' : mn_H) (mc ms : Nat) : Array Value → State → Outcome → State → Prop := fun _ s o t =>
  mn_O b res hs' s o t ∧ mn_R D mt_cl aC b hs' t.heap ∧ va_F (fun q => b.1 ≤ q) s t ∧ ∃ L, s.WarmedH t.vm ∧ s.sameButNew ({ t with vm := s.vm } : State) L mc ms ∧ ∀ q ∈ L, b.1 ≤ q.base
def mn_Z (D : va_G) (aC : Nat → ClassId) (b : Nat × Nat) (below : List Frame) (res : Nat × Option Value) (hs' : mn_H) (args : Array Value) (s : State) (mc ms : Nat) : State → Prop := fun t =>
  ∃ o, t.status = .running ∧ Ended t below o ∧ mn_Q D aC b res hs' mc ms args s o t
def mn_Pc (D : va_G) (aC : Nat → ClassId) (b : Nat × Nat) (hs : mn_H) (as : List Value) : Array Value → State → Prop := fun a U =>
  a = (as.map (mn_tr b)).toArray ∧ U.heap.size = b.1 + hs.length ∧ mn_R D mt_cl aC b hs U.heap ∧ va_K D mt_cl (mn_tys aC mt_E4 mt_E5) U ∧ mn_X b U U.heap
theorem mn_Pc_blind (D : va_G) (aC : Nat → ClassId) (b : Nat × Nat) (hs : mn_H) (as : List Value) : FrameBlind (mn_Pc D aC b hs as) := by
  intro a U g mk h
  obtain ⟨h1, h2, h3, h4, h5⟩ := h
  exact ⟨h1, h2, h3, va_K.moved (u := U) (U := U.calling g mk a) (Vm.Alike.refl U.vm) h4, mn_X.moved (u := U) (U := U.calling g mk a) (Vm.Alike.refl U.vm) h5⟩
def mt_cw (j : Nat) : Cond := if mt_hl j = [] then .code (mt_y j) (mt_code j) (mt_ml j) (mt_rt j) else .codeWith (mt_y j) (mt_code j) (mt_ml j) (mt_rt j) ((mt_hl j).map (fun t => (t.1, t.2.1, t.2.2.1, t.2.2.2.1)))
/-- method j's contract at this heap and these arguments -/
def mn_Con (l : Launch) (WT : List Cond) (D : va_G) (aC : Nat → ClassId) (b : Nat × Nat) (j fr lo : Nat) (as : List Value) (ns : Nat) (hs : mn_H) (res : Nat × Option Value) (ns' : Nat) (hs' : mn_H) : Prop :=
  MetFree l (mt_y j) (headSpec (mt_cw j :: WT) { frames := fr, cells := hs'.length - hs.length, slots := ns' - ns, locals := lo }) (mn_Pc D aC b hs as) (fun _ _ _ _ _ => True) (mn_Q D aC b res hs' (hs'.length - hs.length) (ns' - ns))
def mn_Qr (D : va_G) (aC : Nat → ClassId) (b : Nat × Nat) (v : Option Value) (hs' : mn_H) : Array Value → State → Outcome → State → Prop := fun _ s o t => o = .returned (v.map (mn_tr b)) ∧ mn_R D mt_cl aC b hs' t.heap ∧ va_F (fun q => b.1 ≤ q) s t
theorem mn_Con.met {l : Launch} {WT : List Cond} {D : va_G} {aC : Nat → ClassId} {b : Nat × Nat} {j fr lo : Nat} {as : List Value} {ns : Nat} {hs : mn_H} {v : Option Value} {ns' : Nat} {hs' : mn_H} (h : mn_Con l WT D aC b j fr lo as ns hs (0, v) ns' hs') :
    Met l (mt_y j) (mt_cw j :: WT) { frames := fr, cells := hs'.length - hs.length, slots := ns' - ns, locals := lo } (mn_Pc D aC b hs as) (mn_Qr D aC b v hs') (hs'.length - hs.length) (ns' - ns) (fun q => b.1 ≤ q) := by
  intro p e h1 h2 h3 s m args below h4 h5 h6 h7
  obtain ⟨n, o, g1, g2, g3, g4, g5, g6, L, g7, g8, g9⟩ := h p e h1 h2 h3 s m args below h4 h5 h6 h7
  exact ⟨n, o, g1, g2, g3, ⟨g4, g5, g6⟩, L, ⟨⟨_, g4⟩, g7, g8⟩, g9⟩
/-- W, with another end -/
theorem mn_W_mono {p : Program} {l : Launch} {e : Env} {R : Room} {s : State} {m : MethodId} {args : Array Value} {below : List Frame} {meth : Method} {c : Code} {H : Heap} {locs : List Loc} {cells slots : Nat} {Q Q' : State → Prop} {g : JFrame} (hQ : ∀ t, Q t → Q' t) (h : W p l e R s m args below meth c H locs cells slots Q g) : W p l e R s m args below meth c H locs cells slots Q' g := by
  intro T hT X
  obtain ⟨t, a, b⟩ := h T hT X
  exact ⟨t, a, hQ t b⟩
section MNO
variable {p : Program} {l : Launch} {e : Env} {R : Room} {s : State} {m : MethodId} {args : Array Value} {below : List Frame} {meth : Method} {c : Code} {H : Heap} {locs : List Loc} {cells slots : Nat} {Q : State → Prop} {cc : ByteArray} {pc : Nat} {ls : Array Slot} {rest st0 : List Value} {mc ms : Nat} {free : Addr → Prop}
variable {WT : List Cond} {own : String} {y : MethodName} {bytes : ByteArray} {maxL n i : Nat} {ret : Option FieldType} {rm : Room} {Pc : Array Value → State → Prop} {Qc : Array Value → State → Outcome → State → Prop} {nL : Nat} {As : List Value} {hh : List (Nat × Nat × Nat × Nat)}
/-- a static method that has handlers is called, and returns -/
theorem mn_runSW (hx : p.tables.exec = Jvm.exec) (hb : c.code = cc) (hml : c.maxLocals = nL) (hown : s.vm.findClass own = some m.cls) (hts : ∀ w ∈ WT, w.before args s = true) (hW : mn_GW WT) (hc : Cond.codeWith y bytes maxL ret hh ∈ WT) (g1 : y.cls ≠ "java/lang/invoke/MethodHandle" ∧ y.cls ≠ "java/lang/invoke/VarHandle") (g2 : (parseMethodDescriptor y.desc).map (fun d => d.parameters.length) = some n) (g3 : Cond.initialized y.cls ∈ WT) (g4 : Cond.static y ∈ WT) (g5 : Cond.methodLink own i y ∈ WT)
    (hM : Met l y (Cond.codeWith y bytes maxL ret hh :: WT) rm Pc Qc mc ms free) (hrc : rm.cells = mc) (hrs : rm.slots = ms) (hR : rm.frames + 1 ≤ R.frames ∧ 8 + (maxL + 11) + rm.locals ≤ R.locals) (hp : PreS s H Pc As) (hn : As.length = n) (hsize : ls.size = nL) (hst : st0 = As.reverse ++ rest) (hcat : (rest.map fun v => v.category).sum ≤ 8) (hd : decode cc pc = .ok (.invokestatic i, 3)) (hf : cells + mc ≤ R.cells ∧ slots + ms ≤ R.slots) :
    va_Run p l e R s m args below meth c H locs cells slots mc ms (F0 m pc ls st0) rest (Qc As.toArray) free := by
  have hws : ∀ w ∈ (Cond.codeWith y bytes maxL ret hh :: WT), ∀ (a' : Array Value) (U : State), s.WarmedH U.vm → w.before a' U = true := by
    intro w hw a' U hU
    rcases List.mem_cons.mp hw with rfl | hw
    · exact hW _ hc _ _ _ _ hU (hts _ hc)
    · exact hW _ hw _ _ _ _ hU (hts _ hw)
  have hK : Back l R p e below s args y 3 8 (PreOf R mc ms Pc) (PostOf Qc mc ms free) := va_backW (hh := hh) (bytes := bytes) (maxL := maxL) (ret := ret) hM hp.1 hrc hrs hR.1 hR.2 hws List.mem_cons_self (fun a' U hU => hW _ g3 _ _ _ _ hU (hts _ g3))
  intro T hT X
  obtain ⟨mk, methM, cM, hnamed, hmethM, -, -, -, -, -, -, hsigM⟩ := Cond.codeWith_spec (hts _ hc)
  have hstatic : methM.isStatic = true := Cond.static_spec hnamed hmethM (hts _ g4)
  obtain ⟨kP, hkP, -⟩ := className_of_methodNamed hnamed
  have hinitP : kP.init = .initialized := Cond.initialized_spec (findClass_of_methodNamed hnamed) hkP (hts _ g3)
  obtain ⟨vm₁, X₁, hstep₁⟩ := X.invokestatic hx hown (hts _ g5) hnamed hmethM hstatic hkP hinitP g1 (g := F0 m pc ls st0) rfl (argsL := As) (rest := rest) (hn.trans (mn_len g2 _ hsigM)) hst (by rw [hb]; exact hd)
  obtain ⟨v, ⟨U', l2, c2, s2⟩, X', ⟨g', mk', t, L, e1, e2, hq, h1, hL, h2, h3⟩, hsteps⟩ := hK m meth c ⟨T.setVm vm₁, locs, cells, slots⟩ (F0 m pc ls rest) (.invokestatic i) mk As.toArray X₁ rfl (hsize.trans hml.symm) (by rw [hb]; exact hd) (lv_room hcat) (X₁.named hnamed) ⟨hf.1, hf.2, hp.2 (T.setVm vm₁) hT X₁.warmed⟩
  dsimp only [Pt.U, Pt.locs, Pt.cells, Pt.slots] at X' e1 e2 h1 h2 h3 hsteps hq
  subst h1; subst h2; subst h3
  exact ⟨v, (T.setVm vm₁).calling g' mk' As.toArray, t, U', L, hT, X', hL, e1, e2, hq, fun target h => hstep₁ _ fun acts => by rw [doInvoke_state]; exact hsteps.trans h⟩
end MNO
end
section
/-- what the tables' calls, members of the JDK, exceptions and handlers must be true to -/
def mt_H (WT : List Cond) : Prop :=
  (∀ (j i j2 x nn : Nat) (z : Int), mt_pl j i = (7, j2, x, nn, z) → mn_GS WT (mt_cn j) i (mt_y j2) (mt_na j2) ∧ (mt_hl j2 = [] ∨ Cond.methodLink (mt_cn j) i (mt_y j2) ∈ WT) ∧ mt_cw j2 ∈ WT) ∧
  (∀ (j i j2 ci nn : Nat) (z : Int), mt_pl j i = (8, j2, ci, nn, z) → ∃ (q : vw_C), mt_cl[ci]? = some q ∧ mn_GV WT (mt_cn j) i (mt_y j2) (mt_na j2) q.1 ∧ mt_hl j2 = [] ∧ mt_cw j2 ∈ WT ∧ (mt_hl j ≠ [] → Cond.methodLink (mt_cn j) i (mt_y j2) ∈ WT)) ∧
  (∀ (j i j2 ci nn : Nat) (z : Int), mt_pl j i = (9, j2, ci, nn, z) → mn_GI WT (mt_cn j) i (mt_y j2) (mt_na j2) ∧ mt_hl j2 = [] ∧ mt_rt j2 = none ∧ mt_cw j2 ∈ WT) ∧
  (∀ (j i x y w : Nat) (z : Int), mt_pl j i = (10, x, y, w, z) → Cond.methodLink (mt_cn j) i Lib.objectInit ∈ WT ∧ Cond.instanceMethod Lib.objectInit ∈ WT ∧ Cond.code Lib.objectInit ⟨#[0xb1]⟩ 1 none ∈ WT) ∧
  (∀ (j i x y w : Nat) (z : Int), mt_pl j i = (11, x, y, w, z) → Cond.methodLink (mt_cn j) i arraycopyName ∈ WT ∧ Cond.native arraycopyName ∈ WT ∧ Cond.static arraycopyName ∈ WT ∧ Cond.initialized "java/lang/System" ∈ WT) ∧
  (∀ (j i x y w : Nat) (z : Int), mt_pl j i = (12, x, y, w, z) → Cond.methodLink (mt_cn j) i Lib.Math.max.name ∈ WT ∧ Cond.static Lib.Math.max.name ∈ WT ∧ Cond.initialized "java/lang/Math" ∈ WT ∧ Cond.code Lib.Math.max.name Lib.Math.max.code 2 (some .int) ∈ WT) ∧
  (∀ (j i x y w : Nat) (z : Int), mt_pl j i = (13, x, y, w, z) → Cond.methodLink (mt_cn j) i Lib.Math.min.name ∈ WT ∧ Cond.static Lib.Math.min.name ∈ WT ∧ Cond.initialized "java/lang/Math" ∈ WT ∧ Cond.code Lib.Math.min.name Lib.Math.min.code 2 (some .int) ∈ WT) ∧
  (∀ (j i k ic w : Nat) (z : Int), mt_pl j i = (3, k, ic, w, z) → ∃ X, mt_ex[k]? = some X ∧ Bundle.fit X = true ∧ Cond.classLink (mt_cn j) i X ∈ WT ∧ Cond.initialized X ∈ WT ∧ ∀ a ∈ Bundle.ownAtoms0 (mt_cn j) ic X mn_up, a ∈ WT ∨ a = mn_is1 ∨ a = mn_is2 ∨ a = mn_ls1 ∨ a = mn_ls2) ∧
  (∀ (j : Nat), ∀ t ∈ mt_hl j, t.2.2.2.1 ≠ 0 ∧ ∃ C, mt_ex[t.2.2.2.2]? = some C ∧ Cond.classLink (mt_cn j) t.2.2.2.1 C ∈ WT) ∧
  (∀ (k : Nat) (X : String), mt_ex[k]? = some X → Cond.castable X X ∈ WT) ∧
  (∀ (j : Nat), plainName (mt_y j).cls = true ∧ (mt_in j = true → (mt_y j).name = "<init>"))
/-- what holds all along method j's own walk -/
def mn_cx (WT : List Cond) (D : va_G) (aC : Nat → ClassId) (b : Nat × Nat) (p : Program) (s : State) (m : MethodId) (args : Array Value) (meth : Method) (c : Code) (j n0 : Nat) (sc : Option (List Int32)) : Prop :=
  p.tables.exec = Jvm.exec ∧ c.code = mt_code j ∧ c.maxLocals = mt_ml j ∧ s.vm.findClass (mt_cn j) = some m.cls ∧ (∀ w ∈ WT, w.before args s = true) ∧ va_K D mt_cl (mn_tys aC mt_E4 mt_E5) s ∧ s.heap.size = b.1 + n0 ∧ mn_X b s s.heap ∧ (mt_in j = true → meth.name = "<init>") ∧ meth.sig.returnType = mt_rt j ∧ meth.locks = false ∧
  c.exceptionTable.toList.map (fun h => (h.startPc, h.endPc, h.handlerPc, h.catchType)) = (mt_hl j).map (fun t => (t.1, t.2.1, t.2.2.1, t.2.2.2.1)) ∧ (∀ l', sc = some l' → va_X b.2 l'.length (fun i => l'.getD i 0) s s.heap ∧ b.2 < b.1 ∧ b.2 < s.heap.size)
section MNS
variable {l : Launch} {WT : List Cond} {D : va_G} {aC : Nat → ClassId} {b : Nat × Nat}
section STEP
variable {p : Program} {e : Env} {R : Room} {s : State} {m : MethodId} {args : Array Value} {below : List Frame} {meth : Method} {c : Code} {H : Heap} {locs : List Loc} {Q : State → Prop} {n0 m0 : Nat} {ls : Array Slot}
set_option maxHeartbeats 4000000 in
theorem mn_opE_ok {j : Nat} {sc : Option (List Int32)} {q : Instr × Nat} {pc : Nat} {xs : List (Option Value)} {st : List Value} {ns : Nat} {hs : mn_H} {pc' : Nat} {xs' : List (Option Value)} {st' : List Value} {ns' : Nat} {hs' : mn_H} (hH : mt_H WT) (C : mn_cx WT D aC b p s m args meth c j n0 sc) (hR : mn_R D mt_cl aC b hs H) (hS : va_S (fun q => b.1 ≤ q) s.heap H locs) (hls : ls.size = mt_ml j)
    (hd : decode (mt_code j) pc = .ok q) (hop : mn_opE (mt_pl j) R.frames R.locals q pc xs st ns hs = some (pc', xs', st', ns', hs')) (hrc : hs'.length - n0 ≤ R.cells) (hrs : ns' - m0 ≤ R.slots)
    (kk : xs' = xs → ∀ (H1 : Heap) (locs1 : List Loc), mn_R D mt_cl aC b hs' H1 → va_S (fun q => b.1 ≤ q) s.heap H1 locs1 → W p l e R s m args below meth c H1 locs1 (hs'.length - n0) (ns' - m0) Q (F0 m pc' ls (st'.map (mn_tr b)))) : W p l e R s m args below meth c H locs (hs.length - n0) (ns - m0) Q (F0 m pc ls (st.map (mn_tr b))) := by
  obtain ⟨-, -, -, H10, H11, H12, H13, -⟩ := hH
  obtain ⟨hx, hb, hml, hown, hts, hK, -⟩ := C
  have hml' : c.maxLocals = ls.size := hml.trans hls.symm
  unfold mn_opE at hop
  split at hop
  · split at hop
    · next h =>
      split at hop
      · next hc =>
        cases hop
        obtain ⟨g1, g2, g3⟩ := H10 _ _ _ _ _ _ h
        exact mn_oinit_ok hx hb hml' hts hown g1 g2 g3 hd hc.1 hc.2 (kk rfl H locs hR hS)
      · cases hop
    · cases hop
  · split at hop
    · next h =>
      split at hop
      · next hc =>
        cases hop
        obtain ⟨g1, g2, g3, g4⟩ := H12 _ _ _ _ _ _ h
        exact mn_max_ok hx hb hml' hts hown g1 g2 g3 g4 hd hc.1 hc.2 hrc hrs (kk rfl H locs hR hS)
      · cases hop
    · next h =>
      split at hop
      · next hc =>
        cases hop
        obtain ⟨g1, g2, g3, g4⟩ := H13 _ _ _ _ _ _ h
        exact mn_min_ok hx hb hml' hts hown g1 g2 g3 g4 hd hc.1 hc.2 hrc hrs (kk rfl H locs hR hS)
      · cases hop
    · next h =>
      split at hop
      · next ha0 ha =>
        split at hop
        · next hc =>
          cases hop
          obtain ⟨g1, g2, g3, g4⟩ := H11 _ _ _ _ _ _ h
          obtain ⟨c1, c2, c3, c4, c5, c6, c7⟩ := hc
          have kk := kk rfl
          rw [List.length_set] at kk
          exact mn_acopy_ok hx hb hml' hts hown hK hR hS g1 g2 g3 g4 ha0 ha hd c1 c2 c3 c4 c5 c6 c7 kk
        · cases hop
      · cases hop
    · cases hop
  · cases hop
theorem mn_opS_ok {j : Nat} {sc : Option (List Int32)} {q : Instr × Nat} {pc : Nat} {xs : List (Option Value)} {st : List Value} {ns : Nat} {hs : mn_H} {pc' : Nat} {xs' : List (Option Value)} {st' : List Value} {ns' : Nat} {hs' : mn_H} {cells slots : Nat} (C : mn_cx WT D aC b p s m args meth c j n0 sc) (hS : va_S (fun q => b.1 ≤ q) s.heap H locs)
    (hd : decode (mt_code j) pc = .ok q) (hop : mn_opS sc q pc xs st ns hs = some (pc', xs', st', ns', hs'))
    (kk : xs' = xs → ns' = ns → hs' = hs → W p l e R s m args below meth c H locs cells slots Q (F0 m pc' ls (st'.map (mn_tr b)))) : W p l e R s m args below meth c H locs cells slots Q (F0 m pc ls (st.map (mn_tr b))) := by
  obtain ⟨hx, hb, -, -, -, -, -, -, -, -, -, -, hsc⟩ := C
  unfold mn_opS at hop
  split at hop
  · cases hop
  · next l' =>
    obtain ⟨hX, hlt, hlt2⟩ := hsc l' rfl
    have hbA : ¬ (b.1 ≤ b.2) := by omega
    split at hop
    · split at hop
      · split at hop
        · cases hop
        · next hi =>
          cases hop
          exact va_sld hx hb hX hlt2 hbA hS hi hd (kk rfl rfl rfl)
      · cases hop
    · split at hop
      · cases hop
        exact va_slen hx hb hX hlt2 hbA hS hd (kk rfl rfl rfl)
      · cases hop
    · cases hop
end STEP
end MNS
end
section
section MNC
variable {l : Launch} {WT : List Cond} {D : va_G} {aC : Nat → ClassId} {b : Nat × Nat}
/-- a method's table of handlers and its code, by its word -/
theorem mt_cw_spec {j : Nat} {args : Array Value} {s : State} {m : MethodId} (h : (mt_cw j).before args s = true) (hn : s.methodNamed? (mt_y j) = some m) : ∃ meth c, s.vm.method? m = some meth ∧ meth.code = some c ∧ c.code = mt_code j ∧ c.maxLocals = mt_ml j ∧ meth.sig.returnType = mt_rt j ∧ meth.locks = false ∧ c.exceptionTable.toList.map (fun h => (h.startPc, h.endPc, h.handlerPc, h.catchType)) = (mt_hl j).map (fun t => (t.1, t.2.1, t.2.2.1, t.2.2.2.1)) := by
  unfold mt_cw at h
  split at h
  · next h0 =>
    obtain ⟨meth, c, h1, h2, h3, h4, h5, h6, h7, -⟩ := Cond.code_spec hn h
    refine ⟨meth, c, h1, h2, h3, h4, h5, h6, ?_⟩
    rw [h0, Array.isEmpty_iff.mp h7]
    rfl
  · obtain ⟨m9, meth, c, hn9, h1, h2, h3, h4, h5, h6, h7, -⟩ := Cond.codeWith_spec h
    cases hn.symm.trans hn9
    exact ⟨meth, c, h1, h2, h3, h4, h6, h7, h5⟩
theorem mn_con_of {j fr lo : Nat} {as : List Value} {ns : Nat} {hs : mn_H} {res : Nat × Option Value} {ns' : Nat} {hs' : mn_H} (hH : mt_H WT) (hent : (mn_ent as).length ≤ mt_ml j)
    (hw : ∀ {p : Program} {e : Env} {s : State} {m : MethodId} {args : Array Value} {below : List Frame} {meth : Method} {c : Code} {H : Heap} {locs : List Loc} {ls : Array Slot} {n0 m0 : Nat}, mn_cx WT D aC b p s m args meth c j n0 none → mn_R D mt_cl aC b hs H → va_S (fun q => b.1 ≤ q) s.heap H locs → mn_L b ls (mn_pad (mn_ent as) (mt_ml j)) → (mn_pad (mn_ent as) (mt_ml j)).length = mt_ml j → n0 ≤ hs.length → m0 ≤ ns →
      W p l e { frames := fr, cells := hs'.length - n0, slots := ns' - m0, locals := lo } s m args below meth c H locs (hs.length - n0) (ns - m0) (mn_Z D aC b below res hs' args s (hs'.length - n0) (ns' - m0)) (F0 m 0 ls (([] : List Value).map (mn_tr b)))) :
    mn_Con l WT D aC b j fr lo as ns hs res ns' hs' := by
  obtain ⟨-, -, -, -, -, -, -, -, -, -, hpl⟩ := hH
  refine MetFree.of_bodyS (code := mt_code j) (maxLocals := mt_ml j) (ret := mt_rt j) (hpl j).1 ?_ ?_
  · intro args s m h hn
    obtain ⟨meth, c, h1, h2, h3, h4, h5, h6, -⟩ := mt_cw_spec (atoms_spec (ws := mt_cw j :: WT) h _ List.mem_cons_self) hn
    exact ⟨meth, c, h1, h2, h3, h4, h5, h6⟩
  · intro p e s m args below meth c s₁ B hml hP _
    have hh0 : s₁.heap = s.heap := by rw [B.state]; rfl
    have hts0 := atoms_spec (ws := mt_cw j :: WT) B.pre
    obtain ⟨rfl, hsz, hR, hK, hX⟩ := hP
    obtain ⟨meth', c', h1, h2, -, -, -, -, h7⟩ := mt_cw_spec (hts0 _ List.mem_cons_self) B.named
    cases B.method.symm.trans h1
    cases (Stand.of_body B).code.symm.trans h2
    have hown : s.vm.findClass (mt_cn j) = some m.cls := findClass_of_methodNamed B.named
    have hname := (name_of_methodNamed B.named B.method).1
    have C : mn_cx WT D aC b p s m (as.map (mn_tr b)).toArray meth c j hs.length none := ⟨B.exec, B.bytes, hml, hown, fun w hw => hts0 w (List.mem_cons_of_mem _ hw), hK, hsz, hX, fun h => hname.trans ((hpl j).2 h), B.returns, B.notSynchronized, h7, fun l' h => by cases h⟩
    have h9 := hw (p := p) (e := e) (below := below) (n0 := hs.length) (m0 := ns) C hR (va_S.rf (A := fun q => b.1 ≤ q)) (mn_L_entry b as hent) (mn_pad_len hent) (Nat.le_refl _) (Nat.le_refl _)
    rw [Nat.sub_self, Nat.sub_self] at h9
    obtain ⟨t, a1, o, b1, b2, b3⟩ := h9 s₁ hh0 (Stand.of_body B)
    refine ⟨t, o, ?_, b1, b2, b3⟩
    rw [lg_entry_eq]
    exact a1
end MNC
end
section
section MNM
variable {l : Launch} {WT : List Cond} {D : va_G} {aC : Nat → ClassId} {b : Nat × Nat}
section ENDS
variable {p : Program} {e : Env} {R : Room} {s : State} {m : MethodId} {args : Array Value} {below : List Frame} {meth : Method} {c : Code} {H : Heap} {locs : List Loc} {n0 m0 : Nat} {ls : Array Slot} {sc : Option (List Int32)}
/-- an end of W's own kind is an end of ours -/
theorem mn_end_Z {v : Option Value} {hs : mn_H} {cells slots : Nat} {t : State} (h : MQ below (mn_Qr D aC b v hs) args s cells slots (fun q => b.1 ≤ q) t) : mn_Z D aC b below (0, v) hs args s cells slots t := by
  obtain ⟨o, h1, h2, ⟨h3, h4, h5⟩, L, ⟨-, h6, h7⟩, h8⟩ := h
  exact ⟨o, h1, h2, h3, h4, h5, L, h6, h7, h8⟩
theorem mn_ret_ok {j : Nat} {q : Instr × Nat} {pc : Nat} {st : List Value} {hs : mn_H} {v : Option Value} {cells slots : Nat} (C : mn_cx WT D aC b p s m args meth c j n0 sc) (hR : mn_R D mt_cl aC b hs H) (hS : va_S (fun q => b.1 ≤ q) s.heap H locs) (hd : decode (mt_code j) pc = .ok q) (hv : mn_end (mt_rt j) q st = some v) :
    W p l e R s m args below meth c H locs cells slots (mn_Z D aC b below (0, v) hs args s cells slots) (F0 m pc ls (st.map (mn_tr b))) := by
  obtain ⟨hx, hb, -, -, -, -, -, -, -, hr, hlocks, -⟩ := C
  refine mn_W_mono (fun t h => mn_end_Z h) ?_
  have hq : ∀ (w : Option Value) (t : State), t.heap = H → s.WarmedH t.vm → mn_Qr D aC b w hs args s (.returned (w.map (mn_tr b))) t := fun w t ht _ => ⟨rfl, by rw [ht]; exact hR, hS.F ht⟩
  unfold mn_end at hv
  split at hv
  · next h9 => cases hv; exact W.vret hx hb (by rw [hr, h9]) (hq none) hS.2.2 hd hlocks
  · next ty x h9 =>
    split at hv
    · next hn => cases hv; exact W.zret hx hb (by rw [hr, h9]) hn (hq (some (.int x))) hS.2.2 hd hlocks
    · cases hv
  · next a h9 => cases hv; exact W.aret hx hb (by rw [hr, h9]) (Or.inl ⟨_, rfl⟩) (Or.inr ⟨_, rfl⟩) (hq (some (.ref a))) hS.2.2 hd hlocks
  · next h9 => cases hv; exact W.aret hx hb (by rw [hr, h9]) (Or.inl ⟨_, rfl⟩) (Or.inl rfl) (hq (some .null)) hS.2.2 hd hlocks
  · cases hv
theorem mn_thr_ok {j fr lo : Nat} {q : Instr × Nat} {pc : Nat} {xs : List (Option Value)} {st : List Value} {ns : Nat} {hs : mn_H} {k : Nat} (htr : l.stackTraces = false) (hW : mn_GW WT) (hH : mt_H WT) (C : mn_cx WT D aC b p s m args meth c j n0 sc) (hR : mn_R D mt_cl aC b hs H) (hS : va_S (fun q => b.1 ≤ q) s.heap H locs) (hls : ls.size = mt_ml j) (hn0 : n0 ≤ hs.length) (hm0 : m0 ≤ ns)
    (hd : decode (mt_code j) pc = .ok q) (hk : mn_thr (mt_code j) (mt_pl j) (mt_hl j).isEmpty fr lo q pc st = some k) :
    W p l e { frames := fr, cells := (hs ++ [((99, []) : mn_C)]).length - n0, slots := ns + 6 - m0, locals := lo } s m args below meth c H locs (hs.length - n0) (ns - m0) (mn_Z D aC b below (k + 1, none) (hs ++ [(99, [])]) args s ((hs ++ [((99, []) : mn_C)]).length - n0) (ns + 6 - m0)) (F0 m pc ls (st.map (mn_tr b))) := by
  obtain ⟨hx, hb, hml, hown, hts, hK, hsz, hX, hin, hr, hlocks, hexc, -⟩ := C
  obtain ⟨-, -, -, -, -, -, -, H3, -⟩ := hH
  unfold mn_thr at hk
  split at hk
  · next i =>
    split at hk
    · next k' ic x1 x2 h =>
      split at hk
      · next hc =>
        cases hk
        obtain ⟨c0, c1, c2, c3, c4, c5⟩ := hc
        obtain ⟨X, e1, e2, e3, e4, e5⟩ := H3 _ _ _ _ _ _ h
        have hhl : mt_hl j = [] := List.isEmpty_iff.mp c0
        rw [hhl] at hexc
        have hexc' : c.exceptionTable.toList = [] := List.map_eq_nil_iff.mp hexc
        refine mn_sized hsz hR.1 hn0 fun hz => ?_
        have hXH := hX.kept hS
        have hl1 : (hs ++ [((99, []) : mn_C)]).length - n0 = hs.length - n0 + 1 := by simp; omega
        have hl2 : ns + 6 - m0 = ns - m0 + 6 := by omega
        rw [hl1, hl2]
        have word : ∀ (su : Nat) (w : Cond), w ∈ WT → w.before args ({ s with heap := H, slotsUsed := su } : State) = true := fun su w hw => hW w hw args args s ({ s with heap := H, slotsUsed := su } : State) (State.WarmedH.refl s) (hts w hw)
        refine mn_throw_W hx hb (hls.trans hml.symm) htr hlocks hown e2 (fun su a ha => ?_) (fun su => word su _ e3) (fun su => word su _ e4) hd c1 c2 c3 (by rw [hexc']; intro x hx; cases hx) c4 (by rw [mn_cat_tr]; exact c5) (Nat.le_refl _) (Nat.le_refl _) (fun U u1 u2 u3 u4 u5 u6 u7 => ?_)
        · rcases e5 a ha with h1 | h1 | h1 | h1 | h1
          · exact word su a h1
          · rw [h1]; exact mn_isref hXH.1 su
          · rw [h1]; exact mn_isref hXH.2.1 su
          · rw [h1]; exact hXH.2.2.2.1.use su
          · rw [h1]; exact hXH.2.2.2.2.use su
        · have hlast : b.1 + ((hs ++ [((99, []) : mn_C)]).length - 1) = H.size := by rw [hz]; simp
          obtain ⟨ce, v1, v2, v3⟩ := u7
          refine ⟨.threw H.size, u1, u2, ⟨by rw [hlast], X, ce, e1, by rw [hlast]; exact v1, v2, v3⟩, hR.hole hz u5 (fun q hq _ => u6 q hq) rfl, ⟨Nat.le_trans hS.1 (by omega), fun q h1 h2 => ?_⟩, locs, u3, u4, hS.2.2⟩
          rw [u6 q (Nat.lt_of_lt_of_le h1 hS.1)]
          exact hS.2.1 q h1 h2
      · cases hk
    · cases hk
  · cases hk
end ENDS
end MNM
end
section
section MNK
variable {l : Launch} {WT : List Cond} {D : va_G} {aC : Nat → ClassId} {b : Nat × Nat}
variable {p : Program} {e : Env} {R : Room} {s : State} {m : MethodId} {args : Array Value} {below : List Frame} {meth : Method} {c : Code} {H : Heap} {locs : List Loc} {n0 m0 : Nat} {ls : Array Slot} {sc : Option (List Int32)} {Q : State → Prop}
theorem mn_pre (hX : mn_X b s s.heap) (hK : va_K D mt_cl (mn_tys aC mt_E4 mt_E5) s) {hs : mn_H} (hR : mn_R D mt_cl aC b hs H) (hS : va_S (fun q => b.1 ≤ q) s.heap H locs) (hz : H.size = b.1 + hs.length) (as : List Value) : ∀ U : State, U.heap = H → s.WarmedH U.vm → mn_Pc D aC b hs as (as.map (mn_tr b)).toArray U := by
  intro U hU hW
  refine ⟨rfl, by rw [hU]; exact hz, by rw [hU]; exact hR, hK.moved hW.alike, ?_⟩
  rw [hU]
  exact (hX.kept hS).moved hW.alike
theorem mn_recv (hK : va_K D mt_cl (mn_tys aC mt_E4 mt_E5) s) {hs : mn_H} (hR : mn_R D mt_cl aC b hs H) {a ci : Nat} {vs : List Value} {q : vw_C} (ha : hs[a]? = some (ci, vs)) (hci : ci < 50) (hc : mt_cl[ci]? = some q) : ∃ cellB : Cell, H[b.1 + a]? = some cellB ∧ cellB.vm.isStatics = false ∧ s.vm.findClass q.1 = some cellB.cls := by
  obtain ⟨hz, ws, hP, hD, hm⟩ := hR
  obtain ⟨q0, hq⟩ := mn_wat hm ha (by simp; omega)
  rw [mn_E_o hci] at hq
  exact va_recv hK hP hc hq
theorem mn_stk (b : Nat × Nat) (st : List Value) (n : Nat) : st.map (mn_tr b) = (((st.take n).reverse).map (mn_tr b)).reverse ++ (st.drop n).map (mn_tr b) := by
  rw [← List.map_reverse, List.reverse_reverse, ← List.map_append, List.take_append_drop]
set_option maxHeartbeats 4000000 in
/-- a call of a method of ours that comes back -/
theorem mn_cret_ok {j : Nat} {q : Instr × Nat} {pc : Nat} {st : List Value} {ns : Nat} {hs : mn_H} {j2 : Nat} {as r : List Value} {v : Option Value} {ns1 : Nat} {hs1 : mn_H} (hW : mn_GW WT) (hH : mt_H WT) (C : mn_cx WT D aC b p s m args meth c j n0 sc) (hR : mn_R D mt_cl aC b hs H) (hS : va_S (fun q => b.1 ≤ q) s.heap H locs) (hls : ls.size = mt_ml j) (hn0 : n0 ≤ hs.length) (hm0 : m0 ≤ ns)
    (hd : decode (mt_code j) pc = .ok q) (hcal : mn_cal (mt_pl j) mt_na q st hs = some (j2, as, r)) (h1 : 1 ≤ R.frames) (h2 : 19 + mt_ml j2 ≤ R.locals) (h3 : mn_cat r ≤ 8)
    (hcon : mn_Con l WT D aC b j2 (R.frames - 1) (R.locals - (19 + mt_ml j2)) as ns hs (0, v) ns1 hs1) (hmono : ns ≤ ns1 ∧ hs.length ≤ hs1.length) (hrc : hs1.length - n0 ≤ R.cells) (hrs : ns1 - m0 ≤ R.slots)
    (kk : ∀ (H1 : Heap) (locs1 : List Loc), mn_R D mt_cl aC b hs1 H1 → va_S (fun q => b.1 ≤ q) s.heap H1 locs1 → W p l e R s m args below meth c H1 locs1 (hs1.length - n0) (ns1 - m0) Q (F0 m (pc + 3) ls ((v.toList ++ r).map (mn_tr b)))) :
    W p l e R s m args below meth c H locs (hs.length - n0) (ns - m0) Q (F0 m pc ls (st.map (mn_tr b))) := by
  obtain ⟨H7, H8, H9, -⟩ := hH
  obtain ⟨hx, hb, hml, hown, hts, hK, hsz, hX, -⟩ := C
  refine mn_sized hsz hR.1 hn0 fun hz => ?_
  have hM := hcon.met
  have hroom : (R.frames - 1) + 1 ≤ R.frames ∧ 8 + (mt_ml j2 + 11) + (R.locals - (19 + mt_ml j2)) ≤ R.locals := by omega
  have hf : hs.length - n0 + (hs1.length - hs.length) ≤ R.cells ∧ ns - m0 + (ns1 - ns) ≤ R.slots := by omega
  have hcat : ((r.map (mn_tr b)).map fun v => v.category).sum ≤ 8 := by rw [mn_cat_tr]; exact h3
  have hgo : ∀ {Qa : State → Outcome → State → Prop}, (∀ st' o t, Qa st' o t ↔ mn_Qr D aC b v hs1 #[] st' o t) → va_Run p l e R s m args below meth c H locs (hs.length - n0) (ns - m0) (hs1.length - hs.length) (ns1 - ns) (F0 m pc ls (st.map (mn_tr b))) (r.map (mn_tr b)) Qa (fun q => b.1 ≤ q) → W p l e R s m args below meth c H locs (hs.length - n0) (ns - m0) Q (F0 m pc ls (st.map (mn_tr b))) := by
    intro Qa hQa hrun
    refine mn_after (A := fun q => b.1 ≤ q) (v0 := v.map (mn_tr b)) (PH := fun H1 => mn_R D mt_cl aC b hs1 H1) hrun hS (fun q h => h) (fun st' w t hq => ?_) (fun H1 locs1 r1 s1 => ?_)
    · obtain ⟨g1, g2, g3⟩ := (hQa _ _ _).mp hq
      exact ⟨by cases g1; rfl, g2, g3⟩
    · have h9 := kk H1 locs1 r1 s1
      rw [show hs.length - n0 + (hs1.length - hs.length) = hs1.length - n0 by omega, show ns - m0 + (ns1 - ns) = ns1 - m0 by omega]
      rw [List.map_append] at h9
      have hv : (v.map (mn_tr b)).toList = v.toList.map (mn_tr b) := by cases v <;> rfl
      rw [hv]
      exact h9
  unfold mn_cal at hcal
  split at hcal
  · split at hcal
    · next jj x1 x2 x3 h =>
      split at hcal
      · next hlen =>
        cases hcal
        obtain ⟨g1, g2, g3⟩ := H7 _ _ _ _ _ _ h
        have hAs : (((st.take (mt_na j2)).reverse).map (mn_tr b)).length = mt_na j2 := by simp; omega
        by_cases hh : mt_hl j2 = []
        · have hcw : mt_cw j2 = .code (mt_y j2) (mt_code j2) (mt_ml j2) (mt_rt j2) := by unfold mt_cw; rw [if_pos hh]
          rw [hcw] at hM g3
          exact hgo (Qa := mn_Qr D aC b v hs1 _) (fun _ _ _ => Iff.rfl) (mn_runS (As := ((st.take (mt_na j2)).reverse).map (mn_tr b)) hx hb hml hown hts hW g3 g1 hM rfl rfl hroom ⟨mn_Pc_blind _ _ _ _ _, mn_pre hX hK hR hS hz _⟩ hAs hls (mn_stk b st _) hcat hd hf)
        · have hcw : mt_cw j2 = .codeWith (mt_y j2) (mt_code j2) (mt_ml j2) (mt_rt j2) ((mt_hl j2).map (fun t => (t.1, t.2.1, t.2.2.1, t.2.2.2.1))) := by unfold mt_cw; rw [if_neg hh]
          rw [hcw] at hM g3
          have g2' : Cond.methodLink (mt_cn j) _ (mt_y j2) ∈ WT := g2.resolve_left hh
          obtain ⟨k1, k2, k3, k4, -⟩ := g1
          exact hgo (Qa := mn_Qr D aC b v hs1 _) (fun _ _ _ => Iff.rfl) (mn_runSW (As := ((st.take (mt_na j2)).reverse).map (mn_tr b)) hx hb hml hown hts hW g3 k1 k2 k3 k4 g2' hM rfl rfl hroom ⟨mn_Pc_blind _ _ _ _ _, mn_pre hX hK hR hS hz _⟩ hAs hls (mn_stk b st _) hcat hd hf)
      · cases hcal
    · cases hcal
  · split at hcal
    · next jj ci x2 x3 h =>
      split at hcal
      · next a r' hdrop =>
        split at hcal
        · next tg vs ha =>
          split at hcal
          · next hc =>
            cases hcal
            obtain ⟨rfl, hci⟩ := hc
            obtain ⟨qc, k1, k2, k3, k4, -⟩ := H8 _ _ _ _ _ _ h
            have hcw : mt_cw j2 = .code (mt_y j2) (mt_code j2) (mt_ml j2) (mt_rt j2) := by unfold mt_cw; rw [if_pos k3]
            rw [hcw] at hM k4
            have hlen : mt_na j2 < st.length := by
              rcases Nat.lt_or_ge (mt_na j2) st.length with h9 | h9
              · exact h9
              · rw [List.drop_eq_nil_of_le h9] at hdrop; cases hdrop
            have hAs : (((st.take (mt_na j2)).reverse).map (mn_tr b)).length = mt_na j2 := by simp; omega
            have hst : st.map (mn_tr b) = (((st.take (mt_na j2)).reverse).map (mn_tr b)).reverse ++ .ref (b.1 + a) :: r.map (mn_tr b) := by
              rw [mn_stk b st (mt_na j2), hdrop]
              rfl
            exact hgo (fun _ _ _ => Iff.rfl) (mn_runV hx hb hml hown hts hW k4 k2 hM rfl rfl hroom ⟨mn_Pc_blind _ _ _ _ _, mn_recv hK hR ha hci k1, mn_pre hX hK hR hS hz _⟩ hAs hls hst hcat hd hf)
          · cases hcal
        · cases hcal
      · cases hcal
    · cases hcal
  · split at hcal
    · next jj ci x2 x3 h =>
      split at hcal
      · next a r' hdrop =>
        cases hcal
        obtain ⟨k2, k3, k5, k4⟩ := H9 _ _ _ _ _ _ h
        have hcw : mt_cw j2 = .code (mt_y j2) (mt_code j2) (mt_ml j2) none := by unfold mt_cw; rw [if_pos k3, k5]
        rw [hcw] at hM k4
        have hlen : mt_na j2 < st.length := by
          rcases Nat.lt_or_ge (mt_na j2) st.length with h9 | h9
          · exact h9
          · rw [List.drop_eq_nil_of_le h9] at hdrop; cases hdrop
        have hAs : (((st.take (mt_na j2)).reverse).map (mn_tr b)).length = mt_na j2 := by simp; omega
        have hst : st.map (mn_tr b) = (((st.take (mt_na j2)).reverse).map (mn_tr b)).reverse ++ .ref (b.1 + a) :: r.map (mn_tr b) := by
          rw [mn_stk b st (mt_na j2), hdrop]
          rfl
        exact hgo (fun _ _ _ => Iff.rfl) (mn_runI hx hb hml hown hts hW k4 k2 hM rfl rfl hroom ⟨mn_Pc_blind _ _ _ _ _, mn_pre hX hK hR hS hz _⟩ hAs hls hst hcat hd hf)
      · cases hcal
    · cases hcal
  · cases hcal
end MNK
end
section
section MNJ
variable {l : Launch} {WT : List Cond} {D : va_G} {aC : Nat → ClassId} {b : Nat × Nat}
variable {p : Program} {e : Env} {R : Room} {s : State} {m : MethodId} {args : Array Value} {below : List Frame} {meth : Method} {c : Code} {H : Heap} {locs : List Loc} {n0 m0 : Nat} {ls : Array Slot} {sc : Option (List Int32)} {Q : State → Prop}
set_option maxHeartbeats 4000000 in
/-- a call of a method of ours that throws, caught where it was called -/
theorem mn_cthr_ok {j i : Nat} {pc : Nat} {st : List Value} {ns : Nat} {hs : mn_H} {j2 : Nat} {as r : List Value} {k hp : Nat} {w : Option Value} {ns1 : Nat} {hs1 : mn_H} (hW : mn_GW WT) (hH : mt_H WT) (C : mn_cx WT D aC b p s m args meth c j n0 sc) (hR : mn_R D mt_cl aC b hs H) (hS : va_S (fun q => b.1 ≤ q) s.heap H locs) (hls : ls.size = mt_ml j) (hn0 : n0 ≤ hs.length) (hm0 : m0 ≤ ns)
    (hd : decode (mt_code j) pc = .ok (.invokevirtual i, 3)) (hcal : mn_cal (mt_pl j) mt_na (.invokevirtual i, 3) st hs = some (j2, as, r)) (h1 : 1 ≤ R.frames) (h2 : 19 + mt_ml j2 ≤ R.locals) (h3 : mn_cat r ≤ 8) (hhd : mn_hd (mt_hl j) pc k = some hp)
    (hcon : mn_Con l WT D aC b j2 (R.frames - 1) (R.locals - (19 + mt_ml j2)) as ns hs (k + 1, w) ns1 hs1) (hmono : ns ≤ ns1 ∧ hs.length ≤ hs1.length) (hrc : hs1.length - n0 ≤ R.cells) (hrs : ns1 - m0 ≤ R.slots)
    (kk : ∀ (H1 : Heap) (locs1 : List Loc), mn_R D mt_cl aC b hs1 H1 → va_S (fun q => b.1 ≤ q) s.heap H1 locs1 → W p l e R s m args below meth c H1 locs1 (hs1.length - n0) (ns1 - m0) Q (F0 m hp ls (([.ref (hs1.length - 1)] : List Value).map (mn_tr b)))) :
    W p l e R s m args below meth c H locs (hs.length - n0) (ns - m0) Q (F0 m pc ls (st.map (mn_tr b))) := by
  obtain ⟨-, H8, -, -, -, -, -, -, HH, HC, -⟩ := hH
  obtain ⟨hx, hb, hml, hown, hts, hK, hsz, hX, -, -, -, hexc, -⟩ := C
  have hne : mt_hl j ≠ [] := by
    intro h9
    rw [h9] at hhd
    cases hhd
  refine mn_sized hsz hR.1 hn0 fun hz => ?_
  have hroom : (R.frames - 1) + 1 ≤ R.frames ∧ 8 + (mt_ml j2 + 11) + (R.locals - (19 + mt_ml j2)) ≤ R.locals := by omega
  have hf : hs.length - n0 + (hs1.length - hs.length) ≤ R.cells ∧ ns - m0 + (ns1 - ns) ≤ R.slots := by omega
  have hcat : ((r.map (mn_tr b)).map fun v => v.category).sum ≤ 8 := by rw [mn_cat_tr]; exact h3
  simp only [mn_cal] at hcal
  split at hcal
  · next jj ci x2 x3 h =>
    split at hcal
    · next a r' hdrop =>
      split at hcal
      · next tg vs ha =>
        split at hcal
        · next hc =>
          cases hcal
          obtain ⟨rfl, hci⟩ := hc
          obtain ⟨qc, k1, k2, k3, k4, k5⟩ := H8 _ _ _ _ _ _ h
          have k5 := k5 hne
          have hcw : mt_cw j2 = .code (mt_y j2) (mt_code j2) (mt_ml j2) (mt_rt j2) := by unfold mt_cw; rw [if_pos k3]
          obtain ⟨y1, y2, y3, y4, y5, -⟩ := k2
          have hlen : mt_na j2 < st.length := by
            rcases Nat.lt_or_ge (mt_na j2) st.length with h9 | h9
            · exact h9
            · rw [List.drop_eq_nil_of_le h9] at hdrop; cases hdrop
          have hAs : (((st.take (mt_na j2)).reverse).map (mn_tr b)).length = mt_na j2 := by simp; omega
          have hst : st.map (mn_tr b) = (((st.take (mt_na j2)).reverse).map (mn_tr b)).reverse ++ .ref (b.1 + a) :: r.map (mn_tr b) := by
            rw [mn_stk b st (mt_na j2), hdrop]
            rfl
          obtain ⟨cellB, v1, v2, v3⟩ := mn_recv hK hR ha hci k1
          have hws : ∀ w ∈ (mt_cw j2 :: WT), ∀ (a' : Array Value) (U : State), s.WarmedH U.vm → w.before a' U = true := by
            intro w hw a' U hU
            rcases List.mem_cons.mp hw with rfl | hw
            · exact hW _ k4 _ _ _ _ hU (hts _ k4)
            · exact hW _ hw _ _ _ _ hU (hts _ hw)
          rw [hcw] at k4
          intro T hT X
          obtain ⟨st', t, T', L, t1, t2, X', t3, t4, t5, ⟨⟨Xn, ce, p1, p2, p3, p4⟩, p5, p6⟩, hsteps⟩ := mn_callT (free := fun q => b.1 ≤ q) (x := b.1 + (hs1.length - 1))
            (PH := fun st' t => (∃ (X : String) (ce : Cell), mt_ex[k]? = some X ∧ t.heap[b.1 + (hs1.length - 1)]? = some ce ∧ ce.vm = .none ∧ st'.vm.findClass X = some ce.cls) ∧ mn_R D mt_cl aC b hs1 t.heap ∧ va_F (fun q => b.1 ≤ q) st' t)
            X hx hown (hts _ k5) (hts _ y4) (hts _ y5) (fun a' U hU => hW _ y3 _ _ _ _ hU (hts _ y3)) (fun a' U hU => hW _ k4 _ _ _ _ hU (hts _ k4)) y1 hcon (mn_Pc_blind _ _ _ _ _) hroom.1 hroom.2 hws
            (b := b.1 + a) (cellB := cellB) (by rw [hT]; exact v1) v2 v3 (g := F0 m pc ls (st.map (mn_tr b))) rfl (hls.trans hml.symm) (argsL := ((st.take (mt_na j2)).reverse).map (mn_tr b)) (rest := r.map (mn_tr b)) (fun sig hsig => hAs.trans (mn_len y2 sig hsig)) hst (lv_room hcat) (by rw [hb]; exact hd) hf
            (fun vm₁ hvm => mn_pre hX hK hR hS hz (.ref a :: (st.take (mt_na j2)).reverse) (T.setVm vm₁) hT hvm)
            (fun _ st' o t hq => by
              obtain ⟨⟨q1, q2⟩, q3, q4, L, q5, q6, q7⟩ := hq
              exact ⟨q1, ⟨q2, q3, q4⟩, L, q5, q6, q7⟩)
          have hfX : s.vm.findClass Xn = some ce.cls := by rw [← t2.findClass]; exact p4
          have hself : s.vm.assignable ce.cls ce.cls = true := by
            obtain ⟨c1, c2, z1, z2, z3⟩ := Cond.castable_spec (hts _ (HC k Xn p1))
            rw [hfX] at z1 z2
            cases z1
            cases z2
            exact z3
          obtain ⟨vm', w1, w2⟩ := mn_find_list (e := e) (a := b.1 + (hs1.length - 1)) hown (by rw [X.admits.platform]) hfX rfl (fun k' h9 => by rw [p3] at h9; cases h9) hself c.exceptionTable.toList (mt_hl j) hexc (fun t ht => by
            obtain ⟨u1, C, u2, u3⟩ := HH j t ht
            refine ⟨u1, C, hts _ u3, fun h9 => ?_, fun h9 => hX.2.2.1 k t.2.2.2.2 Xn C (fun h8 => h9 h8.symm) p1 u2⟩
            rw [h9, p1] at u2
            exact (Option.some.inj u2).symm) hhd T'.vm X'.warmed
          have hT'h : T'.heap[b.1 + (hs1.length - 1)]? = some ce := by rw [t4]; exact p2
          have hFs : va_S (fun q => b.1 ≤ q) s.heap T'.heap (locs ++ L) := by
            rw [t4]
            have hzz : st'.heap = H := t1.trans hT
            refine ⟨Nat.le_trans hS.1 (by rw [← hzz]; exact p6.1), fun q g1 g2 => ?_, fun q hq => ?_⟩
            · have h8 := p6.2 q (by rw [hzz]; exact Nat.lt_of_lt_of_le g1 hS.1) g2
              rw [h8, hzz]
              exact hS.2.1 q g1 g2
            · rcases List.mem_append.mp hq with h | h
              · exact hS.2.2 q h
              · exact t3 q h
          have X2 := X'.noted w1
          have hcc : hs.length - n0 + (hs1.length - hs.length) = hs1.length - n0 := by omega
          have hss : ns - m0 + (ns1 - ns) = ns1 - m0 := by omega
          rw [show hs.length - n0 + ({ frames := R.frames - 1, cells := hs1.length - hs.length, slots := ns1 - ns, locals := R.locals - (19 + mt_ml j2) } : Room).cells = hs1.length - n0 from hcc, show ns - m0 + ({ frames := R.frames - 1, cells := hs1.length - hs.length, slots := ns1 - ns, locals := R.locals - (19 + mt_ml j2) } : Room).slots = ns1 - m0 from hss] at X2
          obtain ⟨tt, s1, s2⟩ := kk T'.heap (locs ++ L) (by rw [t4]; exact p5) hFs (T'.setVm vm') rfl X2
          refine ⟨tt, hsteps.trans ?_, s2⟩
          refine mn_caught (c := c) (vm' := vm') (pc := hp) X'.here (fun Q9 E9 d9 acts9 => ?_) s1
          have hm9 : ((T'.setTop { F0 m pc ls (st.map (mn_tr b)) with stack := r.map (mn_tr b) }).pushFrame (.throwing (b.1 + (hs1.length - 1)))).vm.method? m = some meth := by
            rw [Stand.throwing_vm]
            exact X'.method'
          rw [W.findHandler_eq (f := { F0 m pc ls (st.map (mn_tr b)) with stack := r.map (mn_tr b) }) hm9 X'.code]
          exact w2 _ _ (Stand.throwing_vm _ _ _) (by rw [Stand.throwing_heap]; exact hT'h) rfl rfl Q9 E9 d9 acts9
        · cases hcal
      · cases hcal
    · cases hcal
  · cases hcal
end MNJ
end
section
section MNZ
variable {l : Launch} {WT : List Cond} {D : va_G} {aC : Nat → ClassId} {b : Nat × Nat}
set_option maxHeartbeats 8000000 in
/-- THE SMALL MACHINE IS TRUE: what it runs to an end, the machine runs to that end -/
theorem mn_sound (htr : l.stackTraces = false) (hW : mn_GW WT) (hG : mt_G WT) (hH : mt_H WT) : ∀ (n : Nat) (sc : Option (List Int32)) (fr lo j pc : Nat) (xs : List (Option Value)) (st : List Value) (ns : Nat) (hs : mn_H) (res : Nat × Option Value) (ns' : Nat) (hs' : mn_H), mn_run n sc fr lo j (pc, xs, st, ns, hs) = some (res, ns', hs') →
    ∀ {p : Program} {e : Env} {s : State} {m : MethodId} {args : Array Value} {below : List Frame} {meth : Method} {c : Code} {H : Heap} {locs : List Loc} {ls : Array Slot} {n0 m0 : Nat}, mn_cx WT D aC b p s m args meth c j n0 sc → mn_R D mt_cl aC b hs H → va_S (fun q => b.1 ≤ q) s.heap H locs → mn_L b ls xs → xs.length = mt_ml j → n0 ≤ hs.length → m0 ≤ ns →
      W p l e { frames := fr, cells := hs'.length - n0, slots := ns' - m0, locals := lo } s m args below meth c H locs (hs.length - n0) (ns - m0) (mn_Z D aC b below res hs' args s (hs'.length - n0) (ns' - m0)) (F0 m pc ls (st.map (mn_tr b))) := by
  intro n
  induction n with
  | zero => intro sc fr lo j pc xs st ns hs res ns' hs' h; cases h
  | succ n ih =>
    intro sc fr lo j pc xs st ns hs res ns' hs' h p e s m args below meth c H locs ls n0 m0 C hR hS hL hxl hn0 hm0
    have hls : ls.size = mt_ml j := hL.1.trans hxl
    obtain ⟨hx, hb, hml, hown, hts, hK, hsz, hX, hin, hr, hlocks, hexc, hsc⟩ := id C
    unfold mn_run at h
    split at h
    · cases h
    · next q hd =>
      split at h
      · next S hop =>
        obtain ⟨pc1, xs1, st1, ns1, hs1⟩ := S
        have hmono := mn_run_mono _ _ _ _ _ _ _ _ _ _ _ _ _ h
        have IH := @ih _ _ _ _ _ _ _ _ _ _ _ _ h
        have hgrow := mn_op_mono hop
        dsimp only at hgrow
        unfold mn_op at hop
        split at hop
        · next h1 =>
          cases hop
          exact mn_opA_ok hx hb hd h1 hL (fun e1 e2 ls' hL' hlen => by subst e1; subst e2; exact IH C hR hS hL' (hlen.trans hxl) hn0 hm0)
        · split at hop
          · next h1 =>
            cases hop
            exact mn_opB_ok hx hb hd h1 (fun e1 e2 e3 => by subst e1; subst e2; subst e3; exact IH C hR hS hL hxl hn0 hm0)
          · split at hop
            · next h1 =>
              cases hop
              exact mn_opB1_ok hx hb hd h1 (fun e1 e2 e3 => by subst e1; subst e2; subst e3; exact IH C hR hS hL hxl hn0 hm0)
            · split at hop
              · next h1 =>
                cases hop
                exact mn_opC_ok hx hb hd h1 (fun e1 e2 e3 => by subst e1; subst e2; subst e3; exact IH C hR hS hL hxl hn0 hm0)
              · split at hop
                · next h1 =>
                  cases hop
                  exact mn_opD_ok hx hb hts hG hown hin hK hR hS hsz hn0 hm0 hd h1 (by show _ ≤ hs'.length - n0; omega) (by show _ ≤ ns' - m0; omega) (fun e1 l1 l2 H1 locs1 r1 s1 => by subst e1; exact IH C r1 s1 hL hxl (Nat.le_trans hn0 l1) (Nat.le_trans hm0 l2))
                · split at hop
                  · next h1 =>
                    cases hop
                    have h9 := mn_opE_mono h1
                    dsimp only at h9
                    exact mn_opE_ok (R := { frames := fr, cells := hs'.length - n0, slots := ns' - m0, locals := lo }) hH C hR hS hls hd h1 (by show _ ≤ hs'.length - n0; omega) (by show _ ≤ ns' - m0; omega) (fun e1 H1 locs1 r1 s1 => by subst e1; exact IH C r1 s1 hL hxl (by omega) (by omega))
                  · exact mn_opS_ok C hS hd hop (fun e1 e2 e3 => by subst e1; subst e2; subst e3; exact IH C hR hS hL hxl hn0 hm0)
      · split at h
        · next v hv =>
          cases h
          exact mn_ret_ok C hR hS hd hv
        · split at h
          · next k hk =>
            cases h
            exact mn_thr_ok (xs := xs) htr hW hH C hR hS hls hn0 hm0 hd hk
          · split at h
            · cases h
            · next j2 as r hcal =>
              split at h
              · next hc =>
                obtain ⟨c1, c2, c3, c4⟩ := hc
                split at h
                · cases h
                · next v ns1 hs1 h1 =>
                  have hmono1 := mn_run_mono _ _ _ _ _ _ _ _ _ _ _ _ _ h1
                  have hmono := mn_run_mono _ _ _ _ _ _ _ _ _ _ _ _ _ h
                  have IH := @ih _ _ _ _ _ _ _ _ _ _ _ _ h
                  have IH1 := @ih _ _ _ _ _ _ _ _ _ _ _ _ h1
                  have hcon : mn_Con l WT D aC b j2 (fr - 1) (lo - (19 + mt_ml j2)) as ns hs (0, v) ns1 hs1 := mn_con_of hH c4 IH1
                  exact mn_cret_ok (R := { frames := fr, cells := hs'.length - n0, slots := ns' - m0, locals := lo }) hW hH C hR hS hls hn0 hm0 hd hcal c1 c2 c3 hcon hmono1 (by show _ ≤ hs'.length - n0; omega) (by show _ ≤ ns' - m0; omega) (fun H1 locs1 r1 s1 => IH C r1 s1 hL hxl (Nat.le_trans hn0 hmono1.2) (Nat.le_trans hm0 hmono1.1))
                · next k w ns1 hs1 h1 =>
                  split at h
                  · have hhd := ‹mn_hd (mt_hl j) pc k = some _›
                    have hmono1 := mn_run_mono _ _ _ _ _ _ _ _ _ _ _ _ _ h1
                    have hmono := mn_run_mono _ _ _ _ _ _ _ _ _ _ _ _ _ h
                    have IH := @ih _ _ _ _ _ _ _ _ _ _ _ _ h
                    have IH1 := @ih _ _ _ _ _ _ _ _ _ _ _ _ h1
                    have hcon : mn_Con l WT D aC b j2 (fr - 1) (lo - (19 + mt_ml j2)) as ns hs (k + 1, w) ns1 hs1 := mn_con_of hH c4 IH1
                    exact mn_cthr_ok (R := { frames := fr, cells := hs'.length - n0, slots := ns' - m0, locals := lo }) hW hH C hR hS hls hn0 hm0 hd hcal c1 c2 c3 hhd hcon hmono1 (by show _ ≤ hs'.length - n0; omega) (by show _ ≤ ns' - m0; omega) (fun H1 locs1 r1 s1 => IH C r1 s1 hL hxl (Nat.le_trans hn0 hmono1.2) (Nat.le_trans hm0 hmono1.1))
                  · cases h
              · cases h
end MNZ
end
section
/-- a word that stays where the tables grow warmer -/
def mt_okw (w : Cond) : Bool := (w.onTables && w.keeps) || match w with
  | .arrayClass _ => true
  | .methodLinkNest _ _ _ _ => true
  | .castable _ _ => true
  | .declares _ => true
  | .arrayOver (.object _) => true
  | _ => false
/-- the words that the small machine takes from the tables -/
def mt_WT : List Cond := lw_tbl.filter mt_okw
theorem mt_GW : mn_GW mt_WT := by
  intro w hw args a' s U hU hb
  have h := (List.mem_filter.mp hw).2
  unfold mt_okw at h
  rw [Bool.or_eq_true] at h
  rcases h with h | h
  · exact mn_GW_keep (Or.inl h) args a' s U hU hb
  · split at h
    · exact mn_GW_keep (Or.inr ⟨_, rfl⟩) args a' s U hU hb
    · exact mn_GW_nm _ _ _ _ args a' s U hU hb
    · exact va_Nw.use rfl (va_Nw.warmC hU (va_tabs rfl rfl hb))
    · exact va_Nw.use rfl (va_Nw.warmD hU (va_tabs rfl rfl hb))
    · exact va_AO.use (va_AO.moved hU.alike (va_AO.of hb))
    · cases h
theorem mt_in_of {w : Cond} (i : Nat) (h : tables_1[i]? = some w) (ho : mt_okw w = true) : w ∈ mt_WT := List.mem_filter.mpr ⟨List.mem_append_right _ (List.mem_of_getElem? h), ho⟩
/-- a row of tables_1 is this word, and it stays -/
def mt_row (i : Nat) (w : Cond) : Bool := decide (tables_1[i]? = some w) && mt_okw w
theorem mt_row_in {i : Nat} {w : Cond} (h : mt_row i w = true) : w ∈ mt_WT := by
  unfold mt_row at h
  rw [Bool.and_eq_true, decide_eq_true_eq] at h
  exact mt_in_of i h.1 h.2
def mn_kd (ty : FieldType) : Nat := match ty with
  | .int => 0
  | .boolean => 1
  | .object _ => 2
  | .array _ => 2
  | _ => 9
theorem mn_kd_ok {ty : FieldType} {v : Value} (b : Nat × Nat) (hk : mn_kd ty < 9) (h : mn_fk (mn_kd ty) v = true) : narrow ty (mn_tr b v) = mn_tr b v ∧ fits ty (mn_tr b v) = true := by
  cases ty <;> simp [mn_kd] at hk <;> cases v <;> simp [mn_fk, mn_kd] at h <;> first | exact ⟨rfl, rfl⟩ | (rcases h with h | h <;> subst h <;> exact ⟨rfl, rfl⟩)
end
section
/-- a class of ours, as the tables have it -/
def mt_CF (ci : Nat) (C : String) (T : u_T) (N : Nat) (ty : Nat → FieldType) : Prop :=
  mt_cl[ci]? = some (C, T, N) ∧ (∀ w ∈ u_ws C T N, w ∈ mt_WT) ∧ (∀ k, k < N → parseFieldDescriptor (T k).2.2.1 = some (ty k)) ∧ (∀ x, x < N → ∀ y, y < N → x ≠ y → (T x).2.1 ≠ (T y).2.1) ∧
  (∀ k, k < N → mt_ft ci k = mn_kd (ty k)) ∧ (∀ k, k < N → mn_kd (ty k) < 9) ∧ (∀ k, k < N → mt_fi ci k = (T k).2.2.2) ∧ (∀ k, k < N → (T k).1 = C) ∧ (mt_df ci).length = N ∧ (∀ k, k < N → defaultValue (ty k) = vp_V (mt_df ci) k) ∧ (∀ v ∈ mt_df ci, v = .int 0 ∨ v = .null) ∧
  Cond.instantiable C N ∈ mt_WT ∧ Cond.initialized C ∈ mt_WT
theorem mt_sub {ws : List Cond} (ps : List Nat) (h : ws = ps.filterMap (fun i => tables_1[i]?)) (ho : ws.all mt_okw = true) : ∀ w ∈ ws, w ∈ mt_WT := by
  intro w hw
  have h1 := List.all_eq_true.mp ho w hw
  rw [h] at hw
  obtain ⟨i, -, hi⟩ := List.mem_filterMap.mp hw
  exact mt_in_of i hi h1
set_option maxRecDepth 100000 in
theorem mt_c0 : mt_CF 0 "RefutationDesk" mt_T0 7 mt_y0 := ⟨rfl, mt_sub [288, 290, 292, 294, 296, 298, 300] (by decide +kernel) (by decide +kernel), by decide +kernel, by decide +kernel, by decide +kernel, by decide +kernel, by decide +kernel, by decide +kernel, by decide +kernel, by decide +kernel, by decide +kernel, mt_in_of 22 (by decide +kernel) (by decide +kernel), mt_in_of 1 (by decide +kernel) (by decide +kernel)⟩
set_option maxRecDepth 100000 in
theorem mt_c1 : mt_CF 1 "RefutationDesk$Reader" mt_T1 13 mt_y1 := ⟨rfl, mt_sub [89, 91, 93, 95, 97, 99, 101, 103, 105, 107, 109, 111, 113] (by decide +kernel) (by decide +kernel), by decide +kernel, by decide +kernel, by decide +kernel, by decide +kernel, by decide +kernel, by decide +kernel, by decide +kernel, by decide +kernel, by decide +kernel, mt_in_of 30 (by decide +kernel) (by decide +kernel), mt_in_of 2 (by decide +kernel) (by decide +kernel)⟩
set_option maxRecDepth 100000 in
theorem mt_c2 : mt_CF 2 "RefutationDesk$Tree" mt_T2 8 mt_y2 := ⟨rfl, mt_sub [52, 54, 56, 58, 60, 62, 64, 66] (by decide +kernel) (by decide +kernel), by decide +kernel, by decide +kernel, by decide +kernel, by decide +kernel, by decide +kernel, by decide +kernel, by decide +kernel, by decide +kernel, by decide +kernel, mt_in_of 36 (by decide +kernel) (by decide +kernel), mt_in_of 3 (by decide +kernel) (by decide +kernel)⟩
set_option maxRecDepth 100000 in
theorem mt_c3 : mt_CF 3 "RefutationDesk$Search" mt_T3 13 mt_y3 := ⟨rfl, mt_sub [234, 236, 238, 240, 242, 244, 246, 248, 250, 252, 254, 256, 258] (by decide +kernel) (by decide +kernel), by decide +kernel, by decide +kernel, by decide +kernel, by decide +kernel, by decide +kernel, by decide +kernel, by decide +kernel, by decide +kernel, by decide +kernel, mt_in_of 117 (by decide +kernel) (by decide +kernel), mt_in_of 4 (by decide +kernel) (by decide +kernel)⟩
set_option maxRecDepth 100000 in
theorem mt_c4 : mt_CF 4 "RefutationDesk$Draft" mt_T4 4 mt_y4 := ⟨rfl, mt_sub [174, 176, 178, 180] (by decide +kernel) (by decide +kernel), by decide +kernel, by decide +kernel, by decide +kernel, by decide +kernel, by decide +kernel, by decide +kernel, by decide +kernel, by decide +kernel, by decide +kernel, mt_in_of 125 (by decide +kernel) (by decide +kernel), mt_in_of 5 (by decide +kernel) (by decide +kernel)⟩
set_option maxRecDepth 100000 in
theorem mt_c5 : mt_CF 5 "RefutationDesk$Clause" mt_T5 4 mt_y5 := ⟨rfl, mt_sub [157, 159, 161, 163] (by decide +kernel) (by decide +kernel), by decide +kernel, by decide +kernel, by decide +kernel, by decide +kernel, by decide +kernel, by decide +kernel, by decide +kernel, by decide +kernel, by decide +kernel, mt_in_of 131 (by decide +kernel) (by decide +kernel), mt_in_of 6 (by decide +kernel) (by decide +kernel)⟩
set_option maxRecDepth 100000 in
theorem mt_c6 : mt_CF 6 "RefutationDesk$Unifier" mt_T6 2 mt_y6 := ⟨rfl, mt_sub [191, 193] (by decide +kernel) (by decide +kernel), by decide +kernel, by decide +kernel, by decide +kernel, by decide +kernel, by decide +kernel, by decide +kernel, by decide +kernel, by decide +kernel, by decide +kernel, mt_in_of 184 (by decide +kernel) (by decide +kernel), mt_in_of 7 (by decide +kernel) (by decide +kernel)⟩
set_option maxRecDepth 100000 in
theorem mt_c7 : mt_CF 7 "RefutationDesk$Matcher" mt_T7 3 mt_y7 := ⟨rfl, mt_sub [205, 207, 209] (by decide +kernel) (by decide +kernel), by decide +kernel, by decide +kernel, by decide +kernel, by decide +kernel, by decide +kernel, by decide +kernel, by decide +kernel, by decide +kernel, by decide +kernel, mt_in_of 197 (by decide +kernel) (by decide +kernel), mt_in_of 8 (by decide +kernel) (by decide +kernel)⟩
set_option maxRecDepth 100000 in
theorem mt_c8 : mt_CF 8 "RefutationDesk$Printer" mt_T8 2 mt_y8 := ⟨rfl, mt_sub [272, 274] (by decide +kernel) (by decide +kernel), by decide +kernel, by decide +kernel, by decide +kernel, by decide +kernel, by decide +kernel, by decide +kernel, by decide +kernel, by decide +kernel, by decide +kernel, mt_in_of 263 (by decide +kernel) (by decide +kernel), mt_in_of 9 (by decide +kernel) (by decide +kernel)⟩
set_option maxRecDepth 100000 in
theorem mt_c9 : mt_CF 9 "RefutationDesk$Kept" mt_T9 7 mt_y9 := ⟨rfl, mt_sub [640, 642, 644, 646, 648, 650, 652] (by decide +kernel) (by decide +kernel), by decide +kernel, by decide +kernel, by decide +kernel, by decide +kernel, by decide +kernel, by decide +kernel, by decide +kernel, by decide +kernel, by decide +kernel, mt_in_of 610 (by decide +kernel) (by decide +kernel), mt_in_of 18 (by decide +kernel) (by decide +kernel)⟩
set_option maxRecDepth 100000 in
theorem mt_c10 : mt_CF 10 "RefutationDeskModel" mt_T10 59 mt_y10 := ⟨rfl, mt_sub [911, 913, 915, 917, 919, 921, 923, 925, 927, 929, 931, 933, 935, 937, 939, 941, 943, 945, 947, 949, 951, 953, 955, 957, 959, 961, 963, 965, 967, 969, 971, 973, 975, 977, 979, 981, 983, 985, 987, 989, 991, 993, 995, 997, 999, 1001, 1003, 1005, 1007, 1009, 1011, 1013, 1015, 1017, 1019, 1021, 1023, 1025, 1027] (by decide +kernel) (by decide +kernel), by decide +kernel, by decide +kernel, by decide +kernel, by decide +kernel, by decide +kernel, by decide +kernel, by decide +kernel, by decide +kernel, by decide +kernel, mt_in_of 847 (by decide +kernel) (by decide +kernel), mt_in_of 10 (by decide +kernel) (by decide +kernel)⟩
theorem mt_cf : ∀ ci, ci < 11 → ∃ (C : String) (T : u_T) (N : Nat) (ty : Nat → FieldType), mt_CF ci C T N ty
  | 0, _ => ⟨_, _, _, _, mt_c0⟩
  | 1, _ => ⟨_, _, _, _, mt_c1⟩
  | 2, _ => ⟨_, _, _, _, mt_c2⟩
  | 3, _ => ⟨_, _, _, _, mt_c3⟩
  | 4, _ => ⟨_, _, _, _, mt_c4⟩
  | 5, _ => ⟨_, _, _, _, mt_c5⟩
  | 6, _ => ⟨_, _, _, _, mt_c6⟩
  | 7, _ => ⟨_, _, _, _, mt_c7⟩
  | 8, _ => ⟨_, _, _, _, mt_c8⟩
  | 9, _ => ⟨_, _, _, _, mt_c9⟩
  | 10, _ => ⟨_, _, _, _, mt_c10⟩
  | n + 11, h => absurd h (by omega)
/-- the word that a place of the pool stands on -/
def mt_word (c i : Nat) (K : mn_K) : Cond := match K with
  | (1, ci, k, _, _) => .fieldLink (mt_cns.getD c "") i ((mt_cl.getD ci ("", mt_T0, 0)).2.1 k).1 ((mt_cl.getD ci ("", mt_T0, 0)).2.1 k).2.1 ((mt_cl.getD ci ("", mt_T0, 0)).2.1 k).2.2.1
  | (2, ci, _, _, _) => .classLink (mt_cns.getD c "") i (mt_cl.getD ci ("", mt_T0, 0)).1
  | (3, k, _, _, _) => .classLink (mt_cns.getD c "") i (mt_ex.getD k "")
  | (5, _, _, _, z) => .constant (mt_cns.getD c "") i (Int32.ofInt z)
  | (6, _, _, _, z) => .constantLong (mt_cns.getD c "") i (Int64.ofInt z)
  | (10, _, _, _, _) => .methodLink (mt_cns.getD c "") i Lib.objectInit
  | (11, _, _, _, _) => .methodLink (mt_cns.getD c "") i arraycopyName
  | (12, _, _, _, _) => .methodLink (mt_cns.getD c "") i Lib.Math.max.name
  | (13, _, _, _, _) => .methodLink (mt_cns.getD c "") i Lib.Math.min.name
  | (_, j, _, nn, _) => if nn = 0 then .methodLink (mt_cns.getD c "") i (mt_y j) else .methodLinkNest (mt_cns.getD c "") i (mt_y j) "RefutationDesk"
/-- and what else it must be -/
def mt_else (c : Nat) (K : mn_K) : Bool := match K with
  | (1, ci, k, _, _) => decide (ci < 11) && decide (k < (mt_cl.getD ci ("", mt_T0, 0)).2.2)
  | (2, ci, k, _, _) => decide (ci < 11) && (decide (k ≠ 4) || decide ((mt_cl.getD ci ("", mt_T0, 0)).1 = mt_E4)) && (decide (k ≠ 5) || decide ((mt_cl.getD ci ("", mt_T0, 0)).1 = mt_E5))
  | (7, j, _, nn, _) => decide (j < 172) && (decide (mt_hl j = []) || decide (nn = 0))
  | (8, j, ci, nn, _) => decide (j < 172) && decide (ci < 11) && decide ((mt_cl.getD ci ("", mt_T0, 0)).1 = (mt_y j).cls) && decide (mt_hl j = []) && (decide (c ≠ 11) || decide (nn = 0))
  | (9, j, _, _, _) => decide (j < 172) && decide (mt_hl j = []) && decide (mt_rt j = none)
  | (3, k, _, _, _) => decide (k < 4) && decide (c = 0)
  | _ => true
def mt_ck (c : Nat) (q : Nat × mn_K × Nat) : Bool := mt_row q.2.2 (mt_word c q.1 q.2.1) && mt_else c q.2.1
set_option maxRecDepth 100000 in
theorem mt_k0_0 : ((mt_pl0.drop 0).take 20).all (mt_ck 0) = true := by decide +kernel
set_option maxRecDepth 100000 in
theorem mt_k0_1 : ((mt_pl0.drop 20).take 20).all (mt_ck 0) = true := by decide +kernel
set_option maxRecDepth 100000 in
theorem mt_k0_2 : ((mt_pl0.drop 40).take 20).all (mt_ck 0) = true := by decide +kernel
set_option maxRecDepth 100000 in
theorem mt_k0_3 : ((mt_pl0.drop 60).take 20).all (mt_ck 0) = true := by decide +kernel
theorem mt_k0 : ∀ q ∈ mt_pl0, mt_ck 0 q = true := by
  intro q hq
  have h : mt_pl0 = (mt_pl0.drop 0).take 20 ++ (mt_pl0.drop 20).take 20 ++ (mt_pl0.drop 40).take 20 ++ (mt_pl0.drop 60).take 20 := rfl
  rw [h] at hq
  simp only [List.mem_append] at hq
  rcases hq with (((h0) | h1) | h2) | h3
  · exact List.all_eq_true.mp mt_k0_0 q h0
  · exact List.all_eq_true.mp mt_k0_1 q h1
  · exact List.all_eq_true.mp mt_k0_2 q h2
  · exact List.all_eq_true.mp mt_k0_3 q h3
set_option maxRecDepth 100000 in
theorem mt_k1_0 : ((mt_pl1.drop 0).take 20).all (mt_ck 1) = true := by decide +kernel
set_option maxRecDepth 100000 in
theorem mt_k1_1 : ((mt_pl1.drop 20).take 20).all (mt_ck 1) = true := by decide +kernel
theorem mt_k1 : ∀ q ∈ mt_pl1, mt_ck 1 q = true := by
  intro q hq
  have h : mt_pl1 = (mt_pl1.drop 0).take 20 ++ (mt_pl1.drop 20).take 20 := rfl
  rw [h] at hq
  simp only [List.mem_append] at hq
  rcases hq with (h0) | h1
  · exact List.all_eq_true.mp mt_k1_0 q h0
  · exact List.all_eq_true.mp mt_k1_1 q h1
set_option maxRecDepth 100000 in
theorem mt_k2_0 : ((mt_pl2.drop 0).take 20).all (mt_ck 2) = true := by decide +kernel
theorem mt_k2 : ∀ q ∈ mt_pl2, mt_ck 2 q = true := by
  intro q hq
  have h : mt_pl2 = (mt_pl2.drop 0).take 20 := rfl
  rw [h] at hq
  exact List.all_eq_true.mp mt_k2_0 q hq
set_option maxRecDepth 100000 in
theorem mt_k3_0 : ((mt_pl3.drop 0).take 20).all (mt_ck 3) = true := by decide +kernel
set_option maxRecDepth 100000 in
theorem mt_k3_1 : ((mt_pl3.drop 20).take 20).all (mt_ck 3) = true := by decide +kernel
set_option maxRecDepth 100000 in
theorem mt_k3_2 : ((mt_pl3.drop 40).take 20).all (mt_ck 3) = true := by decide +kernel
theorem mt_k3 : ∀ q ∈ mt_pl3, mt_ck 3 q = true := by
  intro q hq
  have h : mt_pl3 = (mt_pl3.drop 0).take 20 ++ (mt_pl3.drop 20).take 20 ++ (mt_pl3.drop 40).take 20 := rfl
  rw [h] at hq
  simp only [List.mem_append] at hq
  rcases hq with ((h0) | h1) | h2
  · exact List.all_eq_true.mp mt_k3_0 q h0
  · exact List.all_eq_true.mp mt_k3_1 q h1
  · exact List.all_eq_true.mp mt_k3_2 q h2
set_option maxRecDepth 100000 in
theorem mt_k4_0 : ((mt_pl4.drop 0).take 20).all (mt_ck 4) = true := by decide +kernel
theorem mt_k4 : ∀ q ∈ mt_pl4, mt_ck 4 q = true := by
  intro q hq
  have h : mt_pl4 = (mt_pl4.drop 0).take 20 := rfl
  rw [h] at hq
  exact List.all_eq_true.mp mt_k4_0 q hq
set_option maxRecDepth 100000 in
theorem mt_k5_0 : ((mt_pl5.drop 0).take 20).all (mt_ck 5) = true := by decide +kernel
theorem mt_k5 : ∀ q ∈ mt_pl5, mt_ck 5 q = true := by
  intro q hq
  have h : mt_pl5 = (mt_pl5.drop 0).take 20 := rfl
  rw [h] at hq
  exact List.all_eq_true.mp mt_k5_0 q hq
set_option maxRecDepth 100000 in
theorem mt_k6_0 : ((mt_pl6.drop 0).take 20).all (mt_ck 6) = true := by decide +kernel
theorem mt_k6 : ∀ q ∈ mt_pl6, mt_ck 6 q = true := by
  intro q hq
  have h : mt_pl6 = (mt_pl6.drop 0).take 20 := rfl
  rw [h] at hq
  exact List.all_eq_true.mp mt_k6_0 q hq
set_option maxRecDepth 100000 in
theorem mt_k7_0 : ((mt_pl7.drop 0).take 20).all (mt_ck 7) = true := by decide +kernel
theorem mt_k7 : ∀ q ∈ mt_pl7, mt_ck 7 q = true := by
  intro q hq
  have h : mt_pl7 = (mt_pl7.drop 0).take 20 := rfl
  rw [h] at hq
  exact List.all_eq_true.mp mt_k7_0 q hq
set_option maxRecDepth 100000 in
theorem mt_k8_0 : ((mt_pl8.drop 0).take 20).all (mt_ck 8) = true := by decide +kernel
theorem mt_k8 : ∀ q ∈ mt_pl8, mt_ck 8 q = true := by
  intro q hq
  have h : mt_pl8 = (mt_pl8.drop 0).take 20 := rfl
  rw [h] at hq
  exact List.all_eq_true.mp mt_k8_0 q hq
set_option maxRecDepth 100000 in
theorem mt_k9_0 : ((mt_pl9.drop 0).take 20).all (mt_ck 9) = true := by decide +kernel
theorem mt_k9 : ∀ q ∈ mt_pl9, mt_ck 9 q = true := by
  intro q hq
  have h : mt_pl9 = (mt_pl9.drop 0).take 20 := rfl
  rw [h] at hq
  exact List.all_eq_true.mp mt_k9_0 q hq
set_option maxRecDepth 100000 in
theorem mt_k10_0 : ((mt_pl10.drop 0).take 20).all (mt_ck 10) = true := by decide +kernel
set_option maxRecDepth 100000 in
theorem mt_k10_1 : ((mt_pl10.drop 20).take 20).all (mt_ck 10) = true := by decide +kernel
set_option maxRecDepth 100000 in
theorem mt_k10_2 : ((mt_pl10.drop 40).take 20).all (mt_ck 10) = true := by decide +kernel
set_option maxRecDepth 100000 in
theorem mt_k10_3 : ((mt_pl10.drop 60).take 20).all (mt_ck 10) = true := by decide +kernel
set_option maxRecDepth 100000 in
theorem mt_k10_4 : ((mt_pl10.drop 80).take 20).all (mt_ck 10) = true := by decide +kernel
set_option maxRecDepth 100000 in
theorem mt_k10_5 : ((mt_pl10.drop 100).take 20).all (mt_ck 10) = true := by decide +kernel
theorem mt_k10 : ∀ q ∈ mt_pl10, mt_ck 10 q = true := by
  intro q hq
  have h : mt_pl10 = (mt_pl10.drop 0).take 20 ++ (mt_pl10.drop 20).take 20 ++ (mt_pl10.drop 40).take 20 ++ (mt_pl10.drop 60).take 20 ++ (mt_pl10.drop 80).take 20 ++ (mt_pl10.drop 100).take 20 := rfl
  rw [h] at hq
  simp only [List.mem_append] at hq
  rcases hq with (((((h0) | h1) | h2) | h3) | h4) | h5
  · exact List.all_eq_true.mp mt_k10_0 q h0
  · exact List.all_eq_true.mp mt_k10_1 q h1
  · exact List.all_eq_true.mp mt_k10_2 q h2
  · exact List.all_eq_true.mp mt_k10_3 q h3
  · exact List.all_eq_true.mp mt_k10_4 q h4
  · exact List.all_eq_true.mp mt_k10_5 q h5
set_option maxRecDepth 100000 in
theorem mt_k11_0 : ((mt_pl11.drop 0).take 20).all (mt_ck 11) = true := by decide +kernel
set_option maxRecDepth 100000 in
theorem mt_k11_1 : ((mt_pl11.drop 20).take 20).all (mt_ck 11) = true := by decide +kernel
set_option maxRecDepth 100000 in
theorem mt_k11_2 : ((mt_pl11.drop 40).take 20).all (mt_ck 11) = true := by decide +kernel
theorem mt_k11 : ∀ q ∈ mt_pl11, mt_ck 11 q = true := by
  intro q hq
  have h : mt_pl11 = (mt_pl11.drop 0).take 20 ++ (mt_pl11.drop 20).take 20 ++ (mt_pl11.drop 40).take 20 := rfl
  rw [h] at hq
  simp only [List.mem_append] at hq
  rcases hq with ((h0) | h1) | h2
  · exact List.all_eq_true.mp mt_k11_0 q h0
  · exact List.all_eq_true.mp mt_k11_1 q h1
  · exact List.all_eq_true.mp mt_k11_2 q h2
theorem mt_kall : ∀ (c : Nat) (q : Nat × mn_K × Nat), q ∈ mt_pls.getD c [] → mt_ck c q = true
  | 0, q, h => mt_k0 q h
  | 1, q, h => mt_k1 q h
  | 2, q, h => mt_k2 q h
  | 3, q, h => mt_k3 q h
  | 4, q, h => mt_k4 q h
  | 5, q, h => mt_k5 q h
  | 6, q, h => mt_k6 q h
  | 7, q, h => mt_k7 q h
  | 8, q, h => mt_k8 q h
  | 9, q, h => mt_k9 q h
  | 10, q, h => mt_k10 q h
  | 11, q, h => mt_k11 q h
  | n + 12, q, h => by simp [mt_pls] at h
theorem mt_pool_ck {c i : Nat} {K : mn_K} (h : mt_pool c i = K) (h0 : K.1 ≠ 0) : mt_word c i K ∈ mt_WT ∧ mt_else c K = true := by
  unfold mt_pool at h
  split at h
  · next q hq =>
    subst h
    have h1 := mt_kall c q (List.mem_of_find?_eq_some hq)
    have h2 : q.1 = i := by have h9 := List.find?_some hq; simpa using h9
    unfold mt_ck at h1
    rw [Bool.and_eq_true, h2] at h1
    exact ⟨mt_row_in h1.1, h1.2⟩
  · subst h
    exact absurd rfl h0
theorem mt_getD_mem (j : Nat) : mt_m j ∈ mt_ms := by
  unfold mt_m
  rw [List.getD_eq_getElem?_getD]
  cases h : mt_ms[j]? with
  | none => exact List.mem_of_getElem? (i := 0) rfl
  | some x => exact List.mem_of_getElem? h
set_option maxRecDepth 100000 in
theorem mt_mok : mt_ms.all (fun x => decide (x.1.cls = mt_cns.getD x.2.1 "") && plainName x.1.cls && decide (x.1.cls ≠ "java/lang/invoke/MethodHandle") && decide (x.1.cls ≠ "java/lang/invoke/VarHandle") && decide ((parseMethodDescriptor x.1.desc).map (fun d => d.parameters.length) = some x.2.2.2.1) && (!x.2.2.2.2.2 || decide (x.1.name = "<init>"))) = true := by decide +kernel
theorem mt_m_ok (j : Nat) : mt_cn j = mt_cns.getD (mt_ow j) "" ∧ plainName (mt_y j).cls = true ∧ ((mt_y j).cls ≠ "java/lang/invoke/MethodHandle" ∧ (mt_y j).cls ≠ "java/lang/invoke/VarHandle") ∧ (parseMethodDescriptor (mt_y j).desc).map (fun d => d.parameters.length) = some (mt_na j) ∧ (mt_in j = true → (mt_y j).name = "<init>") := by
  have h := List.all_eq_true.mp mt_mok _ (mt_getD_mem j)
  simp only [Bool.and_eq_true, decide_eq_true_eq, Bool.or_eq_true, Bool.not_eq_true'] at h
  obtain ⟨⟨⟨⟨⟨h1, h2⟩, h3⟩, h4⟩, h5⟩, h6⟩ := h
  exact ⟨h1, h2, ⟨h3, h4⟩, h5, fun h9 => h6.resolve_left (by intro h8; unfold mt_in at h9; rw [h8] at h9; cases h9)⟩
end
section
/-- of each method: is it static, the rows of tables_1 of its code, of its kind, of its class' start, and 1 + the place of its 'selects' in lw_tbl, or 0 -/
def mt_mr : List (Bool × Nat × Nat × Nat × Nat) := [(false, 25, 24, 1, 0), (false, 33, 32, 2, 0), (false, 39, 38, 3, 0), (false, 120, 119, 4, 0), (false, 128, 127, 5, 0), (false, 134, 133, 6, 0), (false, 187, 186, 7, 0), (false, 200, 199, 8, 0), (false, 266, 265, 9, 0), (false, 306, 304, 1, 399), (false, 310, 308, 1, 403), (false, 314, 312, 1, 407), (false, 318, 316, 4, 411), (false, 322, 320, 4, 415), (false, 326, 324, 1, 419), (false, 330, 328, 4, 423), (false, 334, 333, 4, 1), (false, 343, 341, 1, 436), (true, 346, 345, 1, 0), (false, 433, 431, 1, 526), (false, 437, 435, 2, 530), (false, 441, 439, 3, 534), (false, 445, 444, 2, 3), (false, 449, 448, 2, 4), (false, 453, 452, 2, 5), (false, 457, 456, 2, 6), (false, 462, 461, 2, 7), (false, 466, 465, 2, 8), (false, 470, 469, 2, 9), (false, 474, 473, 2, 10), (false, 478, 477, 2, 11), (false, 483, 482, 2, 12), (false, 487, 485, 3, 580), (false, 491, 490, 3, 13), (false, 495, 494, 2, 14), (false, 499, 497, 3, 592), (true, 502, 501, 3, 0), (false, 512, 511, 2, 15), (false, 517, 516, 2, 16), (false, 536, 534, 4, 629), (false, 540, 538, 3, 633), (false, 544, 542, 5, 637), (false, 548, 547, 3, 17), (false, 552, 550, 5, 645), (false, 556, 554, 5, 649), (false, 560, 558, 5, 653), (false, 564, 563, 5, 18), (true, 567, 566, 1, 0), (false, 571, 569, 5, 664), (false, 576, 575, 4, 19), (false, 580, 578, 5, 673), (false, 584, 582, 5, 677), (false, 588, 587, 5, 20), (false, 592, 591, 4, 21), (false, 596, 594, 8, 689), (false, 600, 599, 8, 22), (false, 604, 603, 8, 23), (true, 608, 607, 1, 0), (false, 614, 612, 5, 707), (false, 620, 619, 18, 0), (false, 661, 659, 1, 754), (false, 665, 663, 4, 758), (false, 669, 668, 4, 24), (false, 673, 672, 4, 25), (false, 677, 676, 4, 26), (false, 681, 680, 4, 27), (false, 685, 684, 4, 28), (false, 689, 687, 7, 782), (false, 693, 692, 7, 29), (false, 698, 697, 7, 30), (false, 702, 701, 7, 31), (false, 706, 705, 7, 32), (false, 712, 711, 7, 33), (false, 716, 715, 7, 34), (false, 723, 722, 4, 35), (false, 727, 725, 7, 820), (false, 734, 732, 1, 827), (false, 742, 740, 1, 835), (false, 761, 759, 9, 854), (false, 765, 764, 9, 36), (false, 769, 768, 9, 37), (false, 773, 772, 9, 38), (false, 779, 778, 9, 39), (false, 788, 786, 1, 881), (false, 795, 793, 1, 888), (false, 802, 800, 1, 895), (false, 810, 808, 1, 903), (false, 814, 812, 2, 907), (false, 819, 818, 2, 40), (false, 825, 824, 1, 41), (false, 829, 828, 1, 42), (false, 834, 833, 1, 43), (false, 844, 842, 1, 937), (false, 850, 849, 10, 0), (false, 1033, 1031, 10, 1126), (false, 1037, 1035, 10, 1130), (false, 1044, 1042, 10, 1137), (false, 1048, 1046, 10, 1141), (false, 1052, 1050, 10, 1145), (false, 1056, 1055, 10, 44), (false, 1060, 1059, 10, 45), (false, 1064, 1063, 10, 46), (false, 1068, 1067, 10, 47), (false, 1072, 1071, 10, 48), (false, 1076, 1075, 10, 49), (false, 1080, 1079, 10, 50), (false, 1084, 1083, 10, 51), (false, 1088, 1087, 10, 52), (false, 1092, 1091, 10, 53), (false, 1096, 1095, 10, 54), (false, 1100, 1099, 10, 55), (false, 1104, 1103, 10, 56), (false, 1108, 1107, 10, 57), (false, 1112, 1111, 10, 58), (false, 1116, 1115, 10, 59), (false, 1120, 1119, 10, 60), (false, 1124, 1123, 10, 61), (false, 1128, 1127, 10, 62), (false, 1132, 1131, 10, 63), (false, 1136, 1135, 10, 64), (false, 1140, 1139, 10, 65), (false, 1144, 1143, 10, 66), (true, 1147, 1146, 10, 0), (true, 1150, 1149, 10, 0), (false, 1154, 1153, 10, 67), (true, 1157, 1156, 10, 0), (false, 1161, 1160, 10, 68), (false, 1165, 1164, 10, 69), (false, 1169, 1168, 10, 70), (false, 1173, 1172, 10, 71), (false, 1177, 1176, 10, 72), (false, 1181, 1180, 10, 73), (false, 1185, 1184, 10, 74), (false, 1189, 1187, 10, 1282), (false, 1193, 1192, 10, 75), (false, 1197, 1196, 10, 76), (false, 1201, 1199, 10, 1294), (false, 1205, 1204, 10, 77), (false, 1209, 1208, 10, 78), (false, 1213, 1212, 10, 79), (false, 1217, 1216, 10, 80), (false, 1221, 1220, 10, 81), (false, 1225, 1224, 10, 82), (false, 1229, 1228, 10, 83), (false, 1233, 1232, 10, 84), (false, 1237, 1236, 10, 85), (false, 1241, 1240, 10, 86), (false, 1245, 1243, 10, 1338), (false, 1249, 1247, 10, 1342), (false, 1253, 1252, 10, 87), (false, 1257, 1256, 10, 88), (false, 1261, 1260, 10, 89), (false, 1265, 1264, 10, 90), (false, 1269, 1267, 10, 1362), (false, 1273, 1271, 10, 1366), (false, 1277, 1275, 10, 1370), (false, 1281, 1279, 10, 1374), (false, 1285, 1283, 10, 1378), (false, 1289, 1287, 10, 1382), (false, 1293, 1292, 10, 91), (false, 1297, 1296, 10, 92), (false, 1301, 1300, 10, 93), (true, 337, 336, 0, 0), (true, 428, 427, 0, 0), (true, 657, 656, 0, 0), (true, 730, 729, 0, 0), (true, 737, 736, 0, 0), (true, 784, 783, 0, 0), (true, 791, 790, 0, 0), (true, 798, 797, 0, 0), (true, 806, 805, 0, 0), (true, 840, 839, 0, 0)]
def mt_rowL (i : Nat) (w : Cond) : Bool := decide (lw_tbl[i]? = some w) && mt_okw w
theorem mt_rowL_in {i : Nat} {w : Cond} (h : mt_rowL i w = true) : w ∈ mt_WT := by
  unfold mt_rowL at h
  rw [Bool.and_eq_true, decide_eq_true_eq] at h
  exact List.mem_filter.mpr ⟨List.mem_of_getElem? h.1, h.2⟩
def mt_mck (j : Nat) : Bool := match mt_mr[j]? with
  | some (st, _, b, d, e) => mt_row b (if st then .static (mt_y j) else .instanceMethod (mt_y j)) && mt_row d (.initialized (mt_y j).cls) && (decide (e = 0) || mt_rowL (e - 1) (.selects (mt_y j).cls (mt_y j) (mt_y j)))
  | none => false
set_option maxRecDepth 100000 in
theorem mt_mc0 : ((List.range 20).drop 0).all mt_mck = true := by decide +kernel
set_option maxRecDepth 100000 in
theorem mt_mc1 : ((List.range 40).drop 20).all mt_mck = true := by decide +kernel
set_option maxRecDepth 100000 in
theorem mt_mc2 : ((List.range 60).drop 40).all mt_mck = true := by decide +kernel
set_option maxRecDepth 100000 in
theorem mt_mc3 : ((List.range 80).drop 60).all mt_mck = true := by decide +kernel
set_option maxRecDepth 100000 in
theorem mt_mc4 : ((List.range 100).drop 80).all mt_mck = true := by decide +kernel
set_option maxRecDepth 100000 in
theorem mt_mc5 : ((List.range 120).drop 100).all mt_mck = true := by decide +kernel
set_option maxRecDepth 100000 in
theorem mt_mc6 : ((List.range 140).drop 120).all mt_mck = true := by decide +kernel
set_option maxRecDepth 100000 in
theorem mt_mc7 : ((List.range 160).drop 140).all mt_mck = true := by decide +kernel
set_option maxRecDepth 100000 in
theorem mt_mc8 : ((List.range 172).drop 160).all mt_mck = true := by decide +kernel
theorem mt_mcall : ∀ j, j < 172 → mt_mck j = true := by
  intro j hj
  by_cases h0 : 0 ≤ j ∧ j < 20
  · exact List.all_eq_true.mp mt_mc0 j (by rw [List.mem_drop_iff_getElem]; exact ⟨j - 0, by simp <;> omega, by simp <;> omega⟩)
  by_cases h1 : 20 ≤ j ∧ j < 40
  · exact List.all_eq_true.mp mt_mc1 j (by rw [List.mem_drop_iff_getElem]; exact ⟨j - 20, by simp <;> omega, by simp <;> omega⟩)
  by_cases h2 : 40 ≤ j ∧ j < 60
  · exact List.all_eq_true.mp mt_mc2 j (by rw [List.mem_drop_iff_getElem]; exact ⟨j - 40, by simp <;> omega, by simp <;> omega⟩)
  by_cases h3 : 60 ≤ j ∧ j < 80
  · exact List.all_eq_true.mp mt_mc3 j (by rw [List.mem_drop_iff_getElem]; exact ⟨j - 60, by simp <;> omega, by simp <;> omega⟩)
  by_cases h4 : 80 ≤ j ∧ j < 100
  · exact List.all_eq_true.mp mt_mc4 j (by rw [List.mem_drop_iff_getElem]; exact ⟨j - 80, by simp <;> omega, by simp <;> omega⟩)
  by_cases h5 : 100 ≤ j ∧ j < 120
  · exact List.all_eq_true.mp mt_mc5 j (by rw [List.mem_drop_iff_getElem]; exact ⟨j - 100, by simp <;> omega, by simp <;> omega⟩)
  by_cases h6 : 120 ≤ j ∧ j < 140
  · exact List.all_eq_true.mp mt_mc6 j (by rw [List.mem_drop_iff_getElem]; exact ⟨j - 120, by simp <;> omega, by simp <;> omega⟩)
  by_cases h7 : 140 ≤ j ∧ j < 160
  · exact List.all_eq_true.mp mt_mc7 j (by rw [List.mem_drop_iff_getElem]; exact ⟨j - 140, by simp <;> omega, by simp <;> omega⟩)
  by_cases h8 : 160 ≤ j ∧ j < 172
  · exact List.all_eq_true.mp mt_mc8 j (by rw [List.mem_drop_iff_getElem]; exact ⟨j - 160, by simp <;> omega, by simp <;> omega⟩)
  omega
set_option maxRecDepth 100000 in
theorem mt_w0 : tables_1[25]? = some (mt_cw 0) := rfl
set_option maxRecDepth 100000 in
theorem mt_w1 : tables_1[33]? = some (mt_cw 1) := rfl
set_option maxRecDepth 100000 in
theorem mt_w2 : tables_1[39]? = some (mt_cw 2) := rfl
set_option maxRecDepth 100000 in
theorem mt_w3 : tables_1[120]? = some (mt_cw 3) := rfl
set_option maxRecDepth 100000 in
theorem mt_w4 : tables_1[128]? = some (mt_cw 4) := rfl
set_option maxRecDepth 100000 in
theorem mt_w5 : tables_1[134]? = some (mt_cw 5) := rfl
set_option maxRecDepth 100000 in
theorem mt_w6 : tables_1[187]? = some (mt_cw 6) := rfl
set_option maxRecDepth 100000 in
theorem mt_w7 : tables_1[200]? = some (mt_cw 7) := rfl
set_option maxRecDepth 100000 in
theorem mt_w8 : tables_1[266]? = some (mt_cw 8) := rfl
set_option maxRecDepth 100000 in
theorem mt_w9 : tables_1[306]? = some (mt_cw 9) := rfl
set_option maxRecDepth 100000 in
theorem mt_w10 : tables_1[310]? = some (mt_cw 10) := rfl
set_option maxRecDepth 100000 in
theorem mt_w11 : tables_1[314]? = some (mt_cw 11) := rfl
set_option maxRecDepth 100000 in
theorem mt_w12 : tables_1[318]? = some (mt_cw 12) := rfl
set_option maxRecDepth 100000 in
theorem mt_w13 : tables_1[322]? = some (mt_cw 13) := rfl
set_option maxRecDepth 100000 in
theorem mt_w14 : tables_1[326]? = some (mt_cw 14) := rfl
set_option maxRecDepth 100000 in
theorem mt_w15 : tables_1[330]? = some (mt_cw 15) := rfl
set_option maxRecDepth 100000 in
theorem mt_w16 : tables_1[334]? = some (mt_cw 16) := rfl
set_option maxRecDepth 100000 in
theorem mt_w17 : tables_1[343]? = some (mt_cw 17) := rfl
set_option maxRecDepth 100000 in
theorem mt_w18 : tables_1[346]? = some (mt_cw 18) := rfl
set_option maxRecDepth 100000 in
theorem mt_w19 : tables_1[433]? = some (mt_cw 19) := rfl
set_option maxRecDepth 100000 in
theorem mt_w20 : tables_1[437]? = some (mt_cw 20) := rfl
set_option maxRecDepth 100000 in
theorem mt_w21 : tables_1[441]? = some (mt_cw 21) := rfl
set_option maxRecDepth 100000 in
theorem mt_w22 : tables_1[445]? = some (mt_cw 22) := rfl
set_option maxRecDepth 100000 in
theorem mt_w23 : tables_1[449]? = some (mt_cw 23) := rfl
set_option maxRecDepth 100000 in
theorem mt_w24 : tables_1[453]? = some (mt_cw 24) := rfl
set_option maxRecDepth 100000 in
theorem mt_w25 : tables_1[457]? = some (mt_cw 25) := rfl
set_option maxRecDepth 100000 in
theorem mt_w26 : tables_1[462]? = some (mt_cw 26) := rfl
set_option maxRecDepth 100000 in
theorem mt_w27 : tables_1[466]? = some (mt_cw 27) := rfl
set_option maxRecDepth 100000 in
theorem mt_w28 : tables_1[470]? = some (mt_cw 28) := rfl
set_option maxRecDepth 100000 in
theorem mt_w29 : tables_1[474]? = some (mt_cw 29) := rfl
set_option maxRecDepth 100000 in
theorem mt_w30 : tables_1[478]? = some (mt_cw 30) := rfl
set_option maxRecDepth 100000 in
theorem mt_w31 : tables_1[483]? = some (mt_cw 31) := rfl
set_option maxRecDepth 100000 in
theorem mt_w32 : tables_1[487]? = some (mt_cw 32) := rfl
set_option maxRecDepth 100000 in
theorem mt_w33 : tables_1[491]? = some (mt_cw 33) := rfl
set_option maxRecDepth 100000 in
theorem mt_w34 : tables_1[495]? = some (mt_cw 34) := rfl
set_option maxRecDepth 100000 in
theorem mt_w35 : tables_1[499]? = some (mt_cw 35) := rfl
set_option maxRecDepth 100000 in
theorem mt_w36 : tables_1[502]? = some (mt_cw 36) := rfl
set_option maxRecDepth 100000 in
theorem mt_w37 : tables_1[512]? = some (mt_cw 37) := rfl
set_option maxRecDepth 100000 in
theorem mt_w38 : tables_1[517]? = some (mt_cw 38) := rfl
set_option maxRecDepth 100000 in
theorem mt_w39 : tables_1[536]? = some (mt_cw 39) := rfl
set_option maxRecDepth 100000 in
theorem mt_w40 : tables_1[540]? = some (mt_cw 40) := rfl
set_option maxRecDepth 100000 in
theorem mt_w41 : tables_1[544]? = some (mt_cw 41) := rfl
set_option maxRecDepth 100000 in
theorem mt_w42 : tables_1[548]? = some (mt_cw 42) := rfl
set_option maxRecDepth 100000 in
theorem mt_w43 : tables_1[552]? = some (mt_cw 43) := rfl
set_option maxRecDepth 100000 in
theorem mt_w44 : tables_1[556]? = some (mt_cw 44) := rfl
set_option maxRecDepth 100000 in
theorem mt_w45 : tables_1[560]? = some (mt_cw 45) := rfl
set_option maxRecDepth 100000 in
theorem mt_w46 : tables_1[564]? = some (mt_cw 46) := rfl
set_option maxRecDepth 100000 in
theorem mt_w47 : tables_1[567]? = some (mt_cw 47) := rfl
set_option maxRecDepth 100000 in
theorem mt_w48 : tables_1[571]? = some (mt_cw 48) := rfl
set_option maxRecDepth 100000 in
theorem mt_w49 : tables_1[576]? = some (mt_cw 49) := rfl
set_option maxRecDepth 100000 in
theorem mt_w50 : tables_1[580]? = some (mt_cw 50) := rfl
set_option maxRecDepth 100000 in
theorem mt_w51 : tables_1[584]? = some (mt_cw 51) := rfl
set_option maxRecDepth 100000 in
theorem mt_w52 : tables_1[588]? = some (mt_cw 52) := rfl
set_option maxRecDepth 100000 in
theorem mt_w53 : tables_1[592]? = some (mt_cw 53) := rfl
set_option maxRecDepth 100000 in
theorem mt_w54 : tables_1[596]? = some (mt_cw 54) := rfl
set_option maxRecDepth 100000 in
theorem mt_w55 : tables_1[600]? = some (mt_cw 55) := rfl
set_option maxRecDepth 100000 in
theorem mt_w56 : tables_1[604]? = some (mt_cw 56) := rfl
set_option maxRecDepth 100000 in
theorem mt_w57 : tables_1[608]? = some (mt_cw 57) := rfl
set_option maxRecDepth 100000 in
theorem mt_w58 : tables_1[614]? = some (mt_cw 58) := rfl
set_option maxRecDepth 100000 in
theorem mt_w59 : tables_1[620]? = some (mt_cw 59) := rfl
set_option maxRecDepth 100000 in
theorem mt_w60 : tables_1[661]? = some (mt_cw 60) := rfl
set_option maxRecDepth 100000 in
theorem mt_w61 : tables_1[665]? = some (mt_cw 61) := rfl
set_option maxRecDepth 100000 in
theorem mt_w62 : tables_1[669]? = some (mt_cw 62) := rfl
set_option maxRecDepth 100000 in
theorem mt_w63 : tables_1[673]? = some (mt_cw 63) := rfl
set_option maxRecDepth 100000 in
theorem mt_w64 : tables_1[677]? = some (mt_cw 64) := rfl
set_option maxRecDepth 100000 in
theorem mt_w65 : tables_1[681]? = some (mt_cw 65) := rfl
set_option maxRecDepth 100000 in
theorem mt_w66 : tables_1[685]? = some (mt_cw 66) := rfl
set_option maxRecDepth 100000 in
theorem mt_w67 : tables_1[689]? = some (mt_cw 67) := rfl
set_option maxRecDepth 100000 in
theorem mt_w68 : tables_1[693]? = some (mt_cw 68) := rfl
set_option maxRecDepth 100000 in
theorem mt_w69 : tables_1[698]? = some (mt_cw 69) := rfl
set_option maxRecDepth 100000 in
theorem mt_w70 : tables_1[702]? = some (mt_cw 70) := rfl
set_option maxRecDepth 100000 in
theorem mt_w71 : tables_1[706]? = some (mt_cw 71) := rfl
set_option maxRecDepth 100000 in
theorem mt_w72 : tables_1[712]? = some (mt_cw 72) := rfl
set_option maxRecDepth 100000 in
theorem mt_w73 : tables_1[716]? = some (mt_cw 73) := rfl
set_option maxRecDepth 100000 in
theorem mt_w74 : tables_1[723]? = some (mt_cw 74) := rfl
set_option maxRecDepth 100000 in
theorem mt_w75 : tables_1[727]? = some (mt_cw 75) := rfl
set_option maxRecDepth 100000 in
theorem mt_w76 : tables_1[734]? = some (mt_cw 76) := rfl
set_option maxRecDepth 100000 in
theorem mt_w77 : tables_1[742]? = some (mt_cw 77) := rfl
set_option maxRecDepth 100000 in
theorem mt_w78 : tables_1[761]? = some (mt_cw 78) := rfl
set_option maxRecDepth 100000 in
theorem mt_w79 : tables_1[765]? = some (mt_cw 79) := rfl
set_option maxRecDepth 100000 in
theorem mt_w80 : tables_1[769]? = some (mt_cw 80) := rfl
set_option maxRecDepth 100000 in
theorem mt_w81 : tables_1[773]? = some (mt_cw 81) := rfl
set_option maxRecDepth 100000 in
theorem mt_w82 : tables_1[779]? = some (mt_cw 82) := rfl
set_option maxRecDepth 100000 in
theorem mt_w83 : tables_1[788]? = some (mt_cw 83) := rfl
set_option maxRecDepth 100000 in
theorem mt_w84 : tables_1[795]? = some (mt_cw 84) := rfl
set_option maxRecDepth 100000 in
theorem mt_w85 : tables_1[802]? = some (mt_cw 85) := rfl
set_option maxRecDepth 100000 in
theorem mt_w86 : tables_1[810]? = some (mt_cw 86) := rfl
set_option maxRecDepth 100000 in
theorem mt_w87 : tables_1[814]? = some (mt_cw 87) := rfl
set_option maxRecDepth 100000 in
theorem mt_w88 : tables_1[819]? = some (mt_cw 88) := rfl
set_option maxRecDepth 100000 in
theorem mt_w89 : tables_1[825]? = some (mt_cw 89) := rfl
set_option maxRecDepth 100000 in
theorem mt_w90 : tables_1[829]? = some (mt_cw 90) := rfl
set_option maxRecDepth 100000 in
theorem mt_w91 : tables_1[834]? = some (mt_cw 91) := rfl
set_option maxRecDepth 100000 in
theorem mt_w92 : tables_1[844]? = some (mt_cw 92) := rfl
set_option maxRecDepth 100000 in
theorem mt_w93 : tables_1[850]? = some (mt_cw 93) := rfl
set_option maxRecDepth 100000 in
theorem mt_w94 : tables_1[1033]? = some (mt_cw 94) := rfl
set_option maxRecDepth 100000 in
theorem mt_w95 : tables_1[1037]? = some (mt_cw 95) := rfl
set_option maxRecDepth 100000 in
theorem mt_w96 : tables_1[1044]? = some (mt_cw 96) := rfl
set_option maxRecDepth 100000 in
theorem mt_w97 : tables_1[1048]? = some (mt_cw 97) := rfl
set_option maxRecDepth 100000 in
theorem mt_w98 : tables_1[1052]? = some (mt_cw 98) := rfl
set_option maxRecDepth 100000 in
theorem mt_w99 : tables_1[1056]? = some (mt_cw 99) := rfl
set_option maxRecDepth 100000 in
theorem mt_w100 : tables_1[1060]? = some (mt_cw 100) := rfl
set_option maxRecDepth 100000 in
theorem mt_w101 : tables_1[1064]? = some (mt_cw 101) := rfl
set_option maxRecDepth 100000 in
theorem mt_w102 : tables_1[1068]? = some (mt_cw 102) := rfl
set_option maxRecDepth 100000 in
theorem mt_w103 : tables_1[1072]? = some (mt_cw 103) := rfl
set_option maxRecDepth 100000 in
theorem mt_w104 : tables_1[1076]? = some (mt_cw 104) := rfl
set_option maxRecDepth 100000 in
theorem mt_w105 : tables_1[1080]? = some (mt_cw 105) := rfl
set_option maxRecDepth 100000 in
theorem mt_w106 : tables_1[1084]? = some (mt_cw 106) := rfl
set_option maxRecDepth 100000 in
theorem mt_w107 : tables_1[1088]? = some (mt_cw 107) := rfl
set_option maxRecDepth 100000 in
theorem mt_w108 : tables_1[1092]? = some (mt_cw 108) := rfl
set_option maxRecDepth 100000 in
theorem mt_w109 : tables_1[1096]? = some (mt_cw 109) := rfl
set_option maxRecDepth 100000 in
theorem mt_w110 : tables_1[1100]? = some (mt_cw 110) := rfl
set_option maxRecDepth 100000 in
theorem mt_w111 : tables_1[1104]? = some (mt_cw 111) := rfl
set_option maxRecDepth 100000 in
theorem mt_w112 : tables_1[1108]? = some (mt_cw 112) := rfl
set_option maxRecDepth 100000 in
theorem mt_w113 : tables_1[1112]? = some (mt_cw 113) := rfl
set_option maxRecDepth 100000 in
theorem mt_w114 : tables_1[1116]? = some (mt_cw 114) := rfl
set_option maxRecDepth 100000 in
theorem mt_w115 : tables_1[1120]? = some (mt_cw 115) := rfl
set_option maxRecDepth 100000 in
theorem mt_w116 : tables_1[1124]? = some (mt_cw 116) := rfl
set_option maxRecDepth 100000 in
theorem mt_w117 : tables_1[1128]? = some (mt_cw 117) := rfl
set_option maxRecDepth 100000 in
theorem mt_w118 : tables_1[1132]? = some (mt_cw 118) := rfl
set_option maxRecDepth 100000 in
theorem mt_w119 : tables_1[1136]? = some (mt_cw 119) := rfl
set_option maxRecDepth 100000 in
theorem mt_w120 : tables_1[1140]? = some (mt_cw 120) := rfl
set_option maxRecDepth 100000 in
theorem mt_w121 : tables_1[1144]? = some (mt_cw 121) := rfl
set_option maxRecDepth 100000 in
theorem mt_w122 : tables_1[1147]? = some (mt_cw 122) := rfl
set_option maxRecDepth 100000 in
theorem mt_w123 : tables_1[1150]? = some (mt_cw 123) := rfl
set_option maxRecDepth 100000 in
theorem mt_w124 : tables_1[1154]? = some (mt_cw 124) := rfl
set_option maxRecDepth 100000 in
theorem mt_w125 : tables_1[1157]? = some (mt_cw 125) := rfl
set_option maxRecDepth 100000 in
theorem mt_w126 : tables_1[1161]? = some (mt_cw 126) := rfl
set_option maxRecDepth 100000 in
theorem mt_w127 : tables_1[1165]? = some (mt_cw 127) := rfl
set_option maxRecDepth 100000 in
theorem mt_w128 : tables_1[1169]? = some (mt_cw 128) := rfl
set_option maxRecDepth 100000 in
theorem mt_w129 : tables_1[1173]? = some (mt_cw 129) := rfl
set_option maxRecDepth 100000 in
theorem mt_w130 : tables_1[1177]? = some (mt_cw 130) := rfl
set_option maxRecDepth 100000 in
theorem mt_w131 : tables_1[1181]? = some (mt_cw 131) := rfl
set_option maxRecDepth 100000 in
theorem mt_w132 : tables_1[1185]? = some (mt_cw 132) := rfl
set_option maxRecDepth 100000 in
theorem mt_w133 : tables_1[1189]? = some (mt_cw 133) := rfl
set_option maxRecDepth 100000 in
theorem mt_w134 : tables_1[1193]? = some (mt_cw 134) := rfl
set_option maxRecDepth 100000 in
theorem mt_w135 : tables_1[1197]? = some (mt_cw 135) := rfl
set_option maxRecDepth 100000 in
theorem mt_w136 : tables_1[1201]? = some (mt_cw 136) := rfl
set_option maxRecDepth 100000 in
theorem mt_w137 : tables_1[1205]? = some (mt_cw 137) := rfl
set_option maxRecDepth 100000 in
theorem mt_w138 : tables_1[1209]? = some (mt_cw 138) := rfl
set_option maxRecDepth 100000 in
theorem mt_w139 : tables_1[1213]? = some (mt_cw 139) := rfl
set_option maxRecDepth 100000 in
theorem mt_w140 : tables_1[1217]? = some (mt_cw 140) := rfl
set_option maxRecDepth 100000 in
theorem mt_w141 : tables_1[1221]? = some (mt_cw 141) := rfl
set_option maxRecDepth 100000 in
theorem mt_w142 : tables_1[1225]? = some (mt_cw 142) := rfl
set_option maxRecDepth 100000 in
theorem mt_w143 : tables_1[1229]? = some (mt_cw 143) := rfl
set_option maxRecDepth 100000 in
theorem mt_w144 : tables_1[1233]? = some (mt_cw 144) := rfl
set_option maxRecDepth 100000 in
theorem mt_w145 : tables_1[1237]? = some (mt_cw 145) := rfl
set_option maxRecDepth 100000 in
theorem mt_w146 : tables_1[1241]? = some (mt_cw 146) := rfl
set_option maxRecDepth 100000 in
theorem mt_w147 : tables_1[1245]? = some (mt_cw 147) := rfl
set_option maxRecDepth 100000 in
theorem mt_w148 : tables_1[1249]? = some (mt_cw 148) := rfl
set_option maxRecDepth 100000 in
theorem mt_w149 : tables_1[1253]? = some (mt_cw 149) := rfl
set_option maxRecDepth 100000 in
theorem mt_w150 : tables_1[1257]? = some (mt_cw 150) := rfl
set_option maxRecDepth 100000 in
theorem mt_w151 : tables_1[1261]? = some (mt_cw 151) := rfl
set_option maxRecDepth 100000 in
theorem mt_w152 : tables_1[1265]? = some (mt_cw 152) := rfl
set_option maxRecDepth 100000 in
theorem mt_w153 : tables_1[1269]? = some (mt_cw 153) := rfl
set_option maxRecDepth 100000 in
theorem mt_w154 : tables_1[1273]? = some (mt_cw 154) := rfl
set_option maxRecDepth 100000 in
theorem mt_w155 : tables_1[1277]? = some (mt_cw 155) := rfl
set_option maxRecDepth 100000 in
theorem mt_w156 : tables_1[1281]? = some (mt_cw 156) := rfl
set_option maxRecDepth 100000 in
theorem mt_w157 : tables_1[1285]? = some (mt_cw 157) := rfl
set_option maxRecDepth 100000 in
theorem mt_w158 : tables_1[1289]? = some (mt_cw 158) := rfl
set_option maxRecDepth 100000 in
theorem mt_w159 : tables_1[1293]? = some (mt_cw 159) := rfl
set_option maxRecDepth 100000 in
theorem mt_w160 : tables_1[1297]? = some (mt_cw 160) := rfl
set_option maxRecDepth 100000 in
theorem mt_w161 : tables_1[1301]? = some (mt_cw 161) := rfl
set_option maxRecDepth 100000 in
theorem mt_w162 : tables_1[337]? = some (mt_cw 162) := rfl
set_option maxRecDepth 100000 in
theorem mt_w163 : tables_1[428]? = some (mt_cw 163) := rfl
set_option maxRecDepth 100000 in
theorem mt_w164 : tables_1[657]? = some (mt_cw 164) := rfl
set_option maxRecDepth 100000 in
theorem mt_w165 : tables_1[730]? = some (mt_cw 165) := rfl
set_option maxRecDepth 100000 in
theorem mt_w166 : tables_1[737]? = some (mt_cw 166) := rfl
set_option maxRecDepth 100000 in
theorem mt_w167 : tables_1[784]? = some (mt_cw 167) := rfl
set_option maxRecDepth 100000 in
theorem mt_w168 : tables_1[791]? = some (mt_cw 168) := rfl
set_option maxRecDepth 100000 in
theorem mt_w169 : tables_1[798]? = some (mt_cw 169) := rfl
set_option maxRecDepth 100000 in
theorem mt_w170 : tables_1[806]? = some (mt_cw 170) := rfl
set_option maxRecDepth 100000 in
theorem mt_w171 : tables_1[840]? = some (mt_cw 171) := rfl
theorem mt_wall : ∀ j, j < 172 → mt_cw j ∈ mt_WT
  | 0, _ => mt_in_of 25 mt_w0 rfl
  | 1, _ => mt_in_of 33 mt_w1 rfl
  | 2, _ => mt_in_of 39 mt_w2 rfl
  | 3, _ => mt_in_of 120 mt_w3 rfl
  | 4, _ => mt_in_of 128 mt_w4 rfl
  | 5, _ => mt_in_of 134 mt_w5 rfl
  | 6, _ => mt_in_of 187 mt_w6 rfl
  | 7, _ => mt_in_of 200 mt_w7 rfl
  | 8, _ => mt_in_of 266 mt_w8 rfl
  | 9, _ => mt_in_of 306 mt_w9 rfl
  | 10, _ => mt_in_of 310 mt_w10 rfl
  | 11, _ => mt_in_of 314 mt_w11 rfl
  | 12, _ => mt_in_of 318 mt_w12 rfl
  | 13, _ => mt_in_of 322 mt_w13 rfl
  | 14, _ => mt_in_of 326 mt_w14 rfl
  | 15, _ => mt_in_of 330 mt_w15 rfl
  | 16, _ => mt_in_of 334 mt_w16 rfl
  | 17, _ => mt_in_of 343 mt_w17 rfl
  | 18, _ => mt_in_of 346 mt_w18 rfl
  | 19, _ => mt_in_of 433 mt_w19 rfl
  | 20, _ => mt_in_of 437 mt_w20 rfl
  | 21, _ => mt_in_of 441 mt_w21 rfl
  | 22, _ => mt_in_of 445 mt_w22 rfl
  | 23, _ => mt_in_of 449 mt_w23 rfl
  | 24, _ => mt_in_of 453 mt_w24 rfl
  | 25, _ => mt_in_of 457 mt_w25 rfl
  | 26, _ => mt_in_of 462 mt_w26 rfl
  | 27, _ => mt_in_of 466 mt_w27 rfl
  | 28, _ => mt_in_of 470 mt_w28 rfl
  | 29, _ => mt_in_of 474 mt_w29 rfl
  | 30, _ => mt_in_of 478 mt_w30 rfl
  | 31, _ => mt_in_of 483 mt_w31 rfl
  | 32, _ => mt_in_of 487 mt_w32 rfl
  | 33, _ => mt_in_of 491 mt_w33 rfl
  | 34, _ => mt_in_of 495 mt_w34 rfl
  | 35, _ => mt_in_of 499 mt_w35 rfl
  | 36, _ => mt_in_of 502 mt_w36 rfl
  | 37, _ => mt_in_of 512 mt_w37 rfl
  | 38, _ => mt_in_of 517 mt_w38 rfl
  | 39, _ => mt_in_of 536 mt_w39 rfl
  | 40, _ => mt_in_of 540 mt_w40 rfl
  | 41, _ => mt_in_of 544 mt_w41 rfl
  | 42, _ => mt_in_of 548 mt_w42 rfl
  | 43, _ => mt_in_of 552 mt_w43 rfl
  | 44, _ => mt_in_of 556 mt_w44 rfl
  | 45, _ => mt_in_of 560 mt_w45 rfl
  | 46, _ => mt_in_of 564 mt_w46 rfl
  | 47, _ => mt_in_of 567 mt_w47 rfl
  | 48, _ => mt_in_of 571 mt_w48 rfl
  | 49, _ => mt_in_of 576 mt_w49 rfl
  | 50, _ => mt_in_of 580 mt_w50 rfl
  | 51, _ => mt_in_of 584 mt_w51 rfl
  | 52, _ => mt_in_of 588 mt_w52 rfl
  | 53, _ => mt_in_of 592 mt_w53 rfl
  | 54, _ => mt_in_of 596 mt_w54 rfl
  | 55, _ => mt_in_of 600 mt_w55 rfl
  | 56, _ => mt_in_of 604 mt_w56 rfl
  | 57, _ => mt_in_of 608 mt_w57 rfl
  | 58, _ => mt_in_of 614 mt_w58 rfl
  | 59, _ => mt_in_of 620 mt_w59 rfl
  | 60, _ => mt_in_of 661 mt_w60 rfl
  | 61, _ => mt_in_of 665 mt_w61 rfl
  | 62, _ => mt_in_of 669 mt_w62 rfl
  | 63, _ => mt_in_of 673 mt_w63 rfl
  | 64, _ => mt_in_of 677 mt_w64 rfl
  | 65, _ => mt_in_of 681 mt_w65 rfl
  | 66, _ => mt_in_of 685 mt_w66 rfl
  | 67, _ => mt_in_of 689 mt_w67 rfl
  | 68, _ => mt_in_of 693 mt_w68 rfl
  | 69, _ => mt_in_of 698 mt_w69 rfl
  | 70, _ => mt_in_of 702 mt_w70 rfl
  | 71, _ => mt_in_of 706 mt_w71 rfl
  | 72, _ => mt_in_of 712 mt_w72 rfl
  | 73, _ => mt_in_of 716 mt_w73 rfl
  | 74, _ => mt_in_of 723 mt_w74 rfl
  | 75, _ => mt_in_of 727 mt_w75 rfl
  | 76, _ => mt_in_of 734 mt_w76 rfl
  | 77, _ => mt_in_of 742 mt_w77 rfl
  | 78, _ => mt_in_of 761 mt_w78 rfl
  | 79, _ => mt_in_of 765 mt_w79 rfl
  | 80, _ => mt_in_of 769 mt_w80 rfl
  | 81, _ => mt_in_of 773 mt_w81 rfl
  | 82, _ => mt_in_of 779 mt_w82 rfl
  | 83, _ => mt_in_of 788 mt_w83 rfl
  | 84, _ => mt_in_of 795 mt_w84 rfl
  | 85, _ => mt_in_of 802 mt_w85 rfl
  | 86, _ => mt_in_of 810 mt_w86 rfl
  | 87, _ => mt_in_of 814 mt_w87 rfl
  | 88, _ => mt_in_of 819 mt_w88 rfl
  | 89, _ => mt_in_of 825 mt_w89 rfl
  | 90, _ => mt_in_of 829 mt_w90 rfl
  | 91, _ => mt_in_of 834 mt_w91 rfl
  | 92, _ => mt_in_of 844 mt_w92 rfl
  | 93, _ => mt_in_of 850 mt_w93 rfl
  | 94, _ => mt_in_of 1033 mt_w94 rfl
  | 95, _ => mt_in_of 1037 mt_w95 rfl
  | 96, _ => mt_in_of 1044 mt_w96 rfl
  | 97, _ => mt_in_of 1048 mt_w97 rfl
  | 98, _ => mt_in_of 1052 mt_w98 rfl
  | 99, _ => mt_in_of 1056 mt_w99 rfl
  | 100, _ => mt_in_of 1060 mt_w100 rfl
  | 101, _ => mt_in_of 1064 mt_w101 rfl
  | 102, _ => mt_in_of 1068 mt_w102 rfl
  | 103, _ => mt_in_of 1072 mt_w103 rfl
  | 104, _ => mt_in_of 1076 mt_w104 rfl
  | 105, _ => mt_in_of 1080 mt_w105 rfl
  | 106, _ => mt_in_of 1084 mt_w106 rfl
  | 107, _ => mt_in_of 1088 mt_w107 rfl
  | 108, _ => mt_in_of 1092 mt_w108 rfl
  | 109, _ => mt_in_of 1096 mt_w109 rfl
  | 110, _ => mt_in_of 1100 mt_w110 rfl
  | 111, _ => mt_in_of 1104 mt_w111 rfl
  | 112, _ => mt_in_of 1108 mt_w112 rfl
  | 113, _ => mt_in_of 1112 mt_w113 rfl
  | 114, _ => mt_in_of 1116 mt_w114 rfl
  | 115, _ => mt_in_of 1120 mt_w115 rfl
  | 116, _ => mt_in_of 1124 mt_w116 rfl
  | 117, _ => mt_in_of 1128 mt_w117 rfl
  | 118, _ => mt_in_of 1132 mt_w118 rfl
  | 119, _ => mt_in_of 1136 mt_w119 rfl
  | 120, _ => mt_in_of 1140 mt_w120 rfl
  | 121, _ => mt_in_of 1144 mt_w121 rfl
  | 122, _ => mt_in_of 1147 mt_w122 rfl
  | 123, _ => mt_in_of 1150 mt_w123 rfl
  | 124, _ => mt_in_of 1154 mt_w124 rfl
  | 125, _ => mt_in_of 1157 mt_w125 rfl
  | 126, _ => mt_in_of 1161 mt_w126 rfl
  | 127, _ => mt_in_of 1165 mt_w127 rfl
  | 128, _ => mt_in_of 1169 mt_w128 rfl
  | 129, _ => mt_in_of 1173 mt_w129 rfl
  | 130, _ => mt_in_of 1177 mt_w130 rfl
  | 131, _ => mt_in_of 1181 mt_w131 rfl
  | 132, _ => mt_in_of 1185 mt_w132 rfl
  | 133, _ => mt_in_of 1189 mt_w133 rfl
  | 134, _ => mt_in_of 1193 mt_w134 rfl
  | 135, _ => mt_in_of 1197 mt_w135 rfl
  | 136, _ => mt_in_of 1201 mt_w136 rfl
  | 137, _ => mt_in_of 1205 mt_w137 rfl
  | 138, _ => mt_in_of 1209 mt_w138 rfl
  | 139, _ => mt_in_of 1213 mt_w139 rfl
  | 140, _ => mt_in_of 1217 mt_w140 rfl
  | 141, _ => mt_in_of 1221 mt_w141 rfl
  | 142, _ => mt_in_of 1225 mt_w142 rfl
  | 143, _ => mt_in_of 1229 mt_w143 rfl
  | 144, _ => mt_in_of 1233 mt_w144 rfl
  | 145, _ => mt_in_of 1237 mt_w145 rfl
  | 146, _ => mt_in_of 1241 mt_w146 rfl
  | 147, _ => mt_in_of 1245 mt_w147 rfl
  | 148, _ => mt_in_of 1249 mt_w148 rfl
  | 149, _ => mt_in_of 1253 mt_w149 rfl
  | 150, _ => mt_in_of 1257 mt_w150 rfl
  | 151, _ => mt_in_of 1261 mt_w151 rfl
  | 152, _ => mt_in_of 1265 mt_w152 rfl
  | 153, _ => mt_in_of 1269 mt_w153 rfl
  | 154, _ => mt_in_of 1273 mt_w154 rfl
  | 155, _ => mt_in_of 1277 mt_w155 rfl
  | 156, _ => mt_in_of 1281 mt_w156 rfl
  | 157, _ => mt_in_of 1285 mt_w157 rfl
  | 158, _ => mt_in_of 1289 mt_w158 rfl
  | 159, _ => mt_in_of 1293 mt_w159 rfl
  | 160, _ => mt_in_of 1297 mt_w160 rfl
  | 161, _ => mt_in_of 1301 mt_w161 rfl
  | 162, _ => mt_in_of 337 mt_w162 rfl
  | 163, _ => mt_in_of 428 mt_w163 rfl
  | 164, _ => mt_in_of 657 mt_w164 rfl
  | 165, _ => mt_in_of 730 mt_w165 rfl
  | 166, _ => mt_in_of 737 mt_w166 rfl
  | 167, _ => mt_in_of 784 mt_w167 rfl
  | 168, _ => mt_in_of 791 mt_w168 rfl
  | 169, _ => mt_in_of 798 mt_w169 rfl
  | 170, _ => mt_in_of 806 mt_w170 rfl
  | 171, _ => mt_in_of 840 mt_w171 rfl
  | n + 172, h => absurd h (by omega)
def mt_else2 (K : mn_K) : Bool := match K with
  | (7, j, _, _, _) => (mt_mr.getD j (false, 0, 0, 0, 0)).1
  | (8, j, _, _, _) => !(mt_mr.getD j (true, 0, 0, 0, 0)).1 && decide ((mt_mr.getD j (true, 0, 0, 0, 0)).2.2.2.2 ≠ 0)
  | (9, j, _, _, _) => !(mt_mr.getD j (true, 0, 0, 0, 0)).1 && decide ((mt_y j).name = "<init>")
  | _ => true
set_option maxRecDepth 100000 in
theorem mt_e2all : mt_pls.all (fun l => l.all (fun q => mt_else2 q.2.1)) = true := by decide +kernel
theorem mt_e2 {c i : Nat} {K : mn_K} (h : mt_pool c i = K) (h0 : K.1 ≠ 0) : mt_else2 K = true := by
  unfold mt_pool at h
  split at h
  · next q hq =>
    subst h
    have hq := List.mem_of_find?_eq_some hq
    have hl : mt_pls.getD c [] ∈ mt_pls := by
      rw [List.getD_eq_getElem?_getD] at hq ⊢
      cases h9 : mt_pls[c]? with
      | none => rw [h9] at hq; cases hq
      | some x => exact List.mem_of_getElem? h9
    exact List.all_eq_true.mp (List.all_eq_true.mp mt_e2all _ hl) q hq
  · subst h
    exact absurd rfl h0
theorem mt_cns_c : ∀ (ci : Nat) (q : vw_C), mt_cl[ci]? = some q → mt_cns.getD ci "" = q.1
  | 0, q, h => by cases h; rfl
  | 1, q, h => by cases h; rfl
  | 2, q, h => by cases h; rfl
  | 3, q, h => by cases h; rfl
  | 4, q, h => by cases h; rfl
  | 5, q, h => by cases h; rfl
  | 6, q, h => by cases h; rfl
  | 7, q, h => by cases h; rfl
  | 8, q, h => by cases h; rfl
  | 9, q, h => by cases h; rfl
  | 10, q, h => by cases h; rfl
  | n + 11, q, h => by simp [mt_cl] at h
theorem mt_cl_getD {ci : Nat} {q : vw_C} (h : mt_cl[ci]? = some q) : mt_cl.getD ci ("", mt_T0, 0) = q := by rw [List.getD_eq_getElem?_getD, h]; rfl
theorem mt_mr_of {j : Nat} (hj : j < 172) : ∃ (st : Bool) (a b d e : Nat), mt_mr[j]? = some (st, a, b, d, e) ∧ mt_cw j ∈ mt_WT ∧ (if st then Cond.static (mt_y j) else .instanceMethod (mt_y j)) ∈ mt_WT ∧ Cond.initialized (mt_y j).cls ∈ mt_WT ∧ (e ≠ 0 → Cond.selects (mt_y j).cls (mt_y j) (mt_y j) ∈ mt_WT) := by
  have h := mt_mcall j hj
  unfold mt_mck at h
  split at h
  · next st a b d e h1 =>
    simp only [Bool.and_eq_true, Bool.or_eq_true, decide_eq_true_eq] at h
    obtain ⟨⟨h3, h4⟩, h5⟩ := h
    exact ⟨st, a, b, d, e, h1, mt_wall j hj, mt_row_in h3, mt_row_in h4, fun h9 => mt_rowL_in (h5.resolve_left h9)⟩
  · cases h
set_option maxHeartbeats 4000000 in
theorem mt_GT : mt_G mt_WT := by
  refine ⟨?_, ?_, ?_, ?_, ?_, ?_, ?_, ?_⟩
  · intro j i ci k nn z h
    obtain ⟨hw, he⟩ := mt_pool_ck h (by simp)
    simp only [mt_else, Bool.and_eq_true, decide_eq_true_eq] at he
    obtain ⟨C, T, N, ty, f1, f2, f3, f4, f5, f5', f6, f7, f8, f9, f10, f11, f12⟩ := mt_cf ci he.1
    simp only [mt_word, mt_cl_getD f1, ← (mt_m_ok j).1] at hw
    rw [mt_cl_getD f1] at he
    refine ⟨C, T, N, ty, f1, he.2, f2, f3, f4, Or.inl hw, f6 k he.2, fun h9 => ?_, fun v b hv => mn_kd_ok b (f5' k he.2) (by rw [← f5 k he.2]; exact hv)⟩
    rw [f7 k he.2, (mt_m_ok j).1, ← h9]
    exact (mt_cns_c ci _ f1).symm
  · intro j i ci x y z h
    obtain ⟨hw, he⟩ := mt_pool_ck h (by simp)
    simp only [mt_else, Bool.and_eq_true, decide_eq_true_eq] at he
    obtain ⟨C, T, N, ty, f1, f2, f3, f4, f5, f5', f6, f7, f8, f9, f10, f11, f12⟩ := mt_cf ci he.1.1
    simp only [mt_word, mt_cl_getD f1, ← (mt_m_ok j).1] at hw
    refine ⟨C, T, ty, by rw [f8]; exact f1, by rw [f8]; exact f2, by rw [f8]; exact f3, by rw [f8]; exact f9, fun b => ?_, hw, by rw [f8]; exact f11, f12⟩
    have h9 : (mt_df ci).map (mn_tr b) = (mt_df ci).map id := List.map_congr_left fun v hv => by rcases f10 v hv with rfl | rfl <;> rfl
    rw [h9, List.map_id]
  · intro j i ci k y z h hk
    obtain ⟨hw, he⟩ := mt_pool_ck h (by simp)
    simp only [mt_else, Bool.and_eq_true, Bool.or_eq_true, decide_eq_true_eq] at he
    simp only [mt_word, ← (mt_m_ok j).1] at hw
    rcases (show k = 4 ∨ k = 5 by omega) with rfl | rfl
    · have h9 := he.1.2.resolve_left (by simp)
      rw [h9] at hw
      exact ⟨mt_E4, fun _ => rfl, fun h9 => by omega, mt_in_of 280 (by decide +kernel) (by decide +kernel), hw⟩
    · have h9 := he.2.resolve_left (by simp)
      rw [h9] at hw
      exact ⟨mt_E5, fun h9 => by omega, fun _ => rfl, mt_in_of 123 (by decide +kernel) (by decide +kernel), hw⟩
  · intro j i x y w z h
    obtain ⟨hw, he⟩ := mt_pool_ck h (by simp)
    simp only [mt_word, ← (mt_m_ok j).1] at hw
    exact hw
  · intro j i x y w z h
    obtain ⟨hw, he⟩ := mt_pool_ck h (by simp)
    simp only [mt_word, ← (mt_m_ok j).1] at hw
    exact hw
  · exact ⟨mt_in_of 70 (by decide +kernel) (by decide +kernel), mt_in_of 261 (by decide +kernel) (by decide +kernel), mt_in_of 69 (by decide +kernel) (by decide +kernel), mt_in_of 1303 (by decide +kernel) (by decide +kernel)⟩
  · intro k hk q hq
    rcases (show k = 4 ∨ k = 5 by omega) with rfl | rfl
    · have h9 : q = (mt_E4, mt_T5, 4) := by cases hq; rfl
      rw [h9]
      exact ⟨fun _ => rfl, fun h9 => by omega⟩
    · have h9 : q = (mt_E5, mt_T9, 7) := by cases hq; rfl
      rw [h9]
      exact ⟨fun h9 => by omega, fun _ => rfl⟩
  · intro k hk
    rcases (show k = 4 ∨ k = 5 by omega) with rfl | rfl
    · exact ⟨_, rfl⟩
    · exact ⟨_, rfl⟩
def mt_exck (K : mn_K) : Bool := match K with
  | (3, k, ic, _, _) => match mt_ex[k]? with
    | some X => Bundle.fit X && (Bundle.ownAtoms0 "RefutationDesk" ic X mn_up).all (fun a => (decide (a ∈ tables_1) && mt_okw a) || decide (a = mn_is1) || decide (a = mn_is2) || decide (a = mn_ls1) || decide (a = mn_ls2))
    | none => false
  | _ => true
set_option maxRecDepth 100000 in
theorem mt_exall : mt_pls.all (fun l => l.all (fun q => mt_exck q.2.1)) = true := by decide +kernel
theorem mt_exok {c i : Nat} {K : mn_K} (h : mt_pool c i = K) (h0 : K.1 ≠ 0) : mt_exck K = true := by
  unfold mt_pool at h
  split at h
  · next q hq =>
    subst h
    have hq := List.mem_of_find?_eq_some hq
    have hl : mt_pls.getD c [] ∈ mt_pls := by
      rw [List.getD_eq_getElem?_getD] at hq ⊢
      cases h9 : mt_pls[c]? with
      | none => rw [h9] at hq; cases hq
      | some x => exact List.mem_of_getElem? h9
    exact List.all_eq_true.mp (List.all_eq_true.mp mt_exall _ hl) q hq
  · subst h
    exact absurd rfl h0
theorem mt_exini : ∀ (k : Nat) (X : String), mt_ex[k]? = some X → Cond.initialized X ∈ mt_WT ∧ Cond.castable X X ∈ mt_WT
  | 0, X, h => by cases h; exact ⟨mt_in_of 14 (by decide +kernel) (by decide +kernel), mt_in_of 349 (by decide +kernel) (by decide +kernel)⟩
  | 1, X, h => by cases h; exact ⟨mt_in_of 17 (by decide +kernel) (by decide +kernel), mt_in_of 520 (by decide +kernel) (by decide +kernel)⟩
  | 2, X, h => by cases h; exact ⟨mt_in_of 20 (by decide +kernel) (by decide +kernel), mt_in_of 745 (by decide +kernel) (by decide +kernel)⟩
  | 3, X, h => by cases h; exact ⟨mt_in_of 15 (by decide +kernel) (by decide +kernel), mt_in_of 413 (by decide +kernel) (by decide +kernel)⟩
  | n + 4, X, h => by simp [mt_ex] at h
def mt_clr : List (Nat × Nat) := [(8, 21), (13, 338), (15, 339), (21, 429), (35, 738), (57, 846)]
def mt_hck (q : Nat × List (Nat × Nat × Nat × Nat × Nat)) : Bool := q.2.all (fun t => decide (t.2.2.2.1 ≠ 0) && decide (t.2.2.2.2 < 4) && decide (mt_cn q.1 = "RefutationDeskLaw") && mt_row ((mt_clr.lookup t.2.2.2.1).getD 0) (.classLink "RefutationDeskLaw" t.2.2.2.1 (mt_ex.getD t.2.2.2.2 "")))
set_option maxRecDepth 100000 in
theorem mt_hall : mt_hds.all mt_hck = true := by decide +kernel
theorem mt_hok (j : Nat) : ∀ t ∈ mt_hl j, t.2.2.2.1 ≠ 0 ∧ ∃ C, mt_ex[t.2.2.2.2]? = some C ∧ Cond.classLink (mt_cn j) t.2.2.2.1 C ∈ mt_WT := by
  intro t ht
  unfold mt_hl at ht
  split at ht
  · next q hq =>
    have h1 := List.all_eq_true.mp mt_hall q (List.mem_of_find?_eq_some hq)
    have h2 : q.1 = j := by have h9 := List.find?_some hq; simpa using h9
    have h3 := List.all_eq_true.mp h1 t ht
    simp only [Bool.and_eq_true, decide_eq_true_eq] at h3
    obtain ⟨⟨⟨g1, g2⟩, g3⟩, g4⟩ := h3
    rw [h2] at g3
    rw [g3]
    have g5 := mt_row_in g4
    refine ⟨g1, mt_ex.getD t.2.2.2.2 "", ?_, g5⟩
    rw [List.getD_eq_getElem?_getD]
    rw [List.getElem?_eq_getElem (show t.2.2.2.2 < mt_ex.length from g2)]
    rfl
  · cases ht
theorem mt_oi : Cond.instanceMethod Lib.objectInit ∈ mt_WT ∧ Cond.code Lib.objectInit ⟨#[0xb1]⟩ 1 none ∈ mt_WT := ⟨mt_in_of 27 (by decide +kernel) (by decide +kernel), mt_in_of 28 (by decide +kernel) (by decide +kernel)⟩
theorem mt_ac : Cond.native arraycopyName ∈ mt_WT ∧ Cond.static arraycopyName ∈ mt_WT ∧ Cond.initialized "java/lang/System" ∈ mt_WT := ⟨mt_in_of 617 (by decide +kernel) (by decide +kernel), mt_in_of 616 (by decide +kernel) (by decide +kernel), mt_in_of 19 (by decide +kernel) (by decide +kernel)⟩
theorem mt_mx : Cond.static Lib.Math.max.name ∈ mt_WT ∧ Cond.initialized "java/lang/Math" ∈ mt_WT ∧ Cond.code Lib.Math.max.name Lib.Math.max.code 2 (some .int) ∈ mt_WT := ⟨mt_in_of 507 (by decide +kernel) (by decide +kernel), mt_in_of 16 (by decide +kernel) (by decide +kernel), mt_in_of 508 (by decide +kernel) (by decide +kernel)⟩
theorem mt_mi : Cond.static Lib.Math.min.name ∈ mt_WT ∧ Cond.initialized "java/lang/Math" ∈ mt_WT ∧ Cond.code Lib.Math.min.name Lib.Math.min.code 2 (some .int) ∈ mt_WT := ⟨mt_in_of 504 (by decide +kernel) (by decide +kernel), mt_in_of 16 (by decide +kernel) (by decide +kernel), mt_in_of 505 (by decide +kernel) (by decide +kernel)⟩
theorem mt_hlaw : mt_hds.all (fun q => decide (mt_ow q.1 = 11)) = true := by decide +kernel
set_option maxHeartbeats 4000000 in
theorem mt_HT : mt_H mt_WT := by
  refine ⟨?_, ?_, ?_, ?_, ?_, ?_, ?_, ?_, mt_hok, fun k X h => (mt_exini k X h).2, fun j => ⟨(mt_m_ok j).2.1, (mt_m_ok j).2.2.2.2⟩⟩
  · intro j i j2 x nn z h
    obtain ⟨hw, he⟩ := mt_pool_ck h (by simp)
    have he2 := mt_e2 h (by simp)
    simp only [mt_else, Bool.and_eq_true, Bool.or_eq_true, decide_eq_true_eq] at he
    obtain ⟨st, a, b, d, e, r1, r2, r3, r4, r5⟩ := mt_mr_of he.1
    simp only [mt_else2, List.getD_eq_getElem?_getD, r1, Option.getD_some] at he2
    subst he2
    obtain ⟨o1, o2, o3, o4, o5⟩ := mt_m_ok j2
    have hlink : Cond.methodLink (mt_cn j) i (mt_y j2) ∈ mt_WT ∨ ∃ host, Cond.methodLinkNest (mt_cn j) i (mt_y j2) host ∈ mt_WT := by
      simp only [mt_word, ← (mt_m_ok j).1] at hw
      split at hw
      · exact Or.inl hw
      · exact Or.inr ⟨_, hw⟩
    refine ⟨⟨o3, o4, r4, r3, hlink⟩, ?_, r2⟩
    rcases he.2 with h9 | h9
    · exact Or.inl h9
    · simp only [mt_word, ← (mt_m_ok j).1, h9, if_true] at hw
      exact Or.inr hw
  · intro j i j2 ci nn z h
    obtain ⟨hw, he⟩ := mt_pool_ck h (by simp)
    have he2 := mt_e2 h (by simp)
    simp only [mt_else, Bool.and_eq_true, Bool.or_eq_true, decide_eq_true_eq] at he
    obtain ⟨⟨⟨⟨e1, e2⟩, e3⟩, e4⟩, e5⟩ := he
    obtain ⟨st, a, b, d, e, r1, r2, r3, r4, r5⟩ := mt_mr_of e1
    simp only [mt_else2, List.getD_eq_getElem?_getD, r1, Option.getD_some, Bool.and_eq_true, decide_eq_true_eq, Bool.not_eq_true'] at he2
    obtain ⟨e6, e7⟩ := he2
    subst e6
    obtain ⟨o1, o2, o3, o4, o5⟩ := mt_m_ok j2
    obtain ⟨C, T, N, ty, f1, -⟩ := mt_cf ci e2
    rw [mt_cl_getD f1] at e3
    have hlink : Cond.methodLink (mt_cn j) i (mt_y j2) ∈ mt_WT ∨ ∃ host, Cond.methodLinkNest (mt_cn j) i (mt_y j2) host ∈ mt_WT := by
      simp only [mt_word, ← (mt_m_ok j).1] at hw
      split at hw
      · exact Or.inl hw
      · exact Or.inr ⟨_, hw⟩
    refine ⟨_, f1, ⟨o3, o4, r4, r3, by rw [e3]; exact r5 e7, hlink⟩, e4, r2, fun h9 => ?_⟩
    have hlaw : mt_ow j = 11 := by
      unfold mt_hl at h9
      split at h9
      · next q hq =>
        have g1 := List.mem_of_find?_eq_some hq
        have g2 : q.1 = j := by have h8 := List.find?_some hq; simpa using h8
        have g3 := List.all_eq_true.mp mt_hlaw q g1
        rw [decide_eq_true_eq, g2] at g3
        exact g3
      · exact absurd rfl h9
    rcases e5 with e5 | e5
    · exact absurd hlaw e5
    · simp only [mt_word, ← (mt_m_ok j).1, e5, if_true] at hw
      exact hw
  · intro j i j2 ci nn z h
    obtain ⟨hw, he⟩ := mt_pool_ck h (by simp)
    have he2 := mt_e2 h (by simp)
    simp only [mt_else, Bool.and_eq_true, decide_eq_true_eq] at he
    obtain ⟨⟨e1, e2⟩, e3⟩ := he
    obtain ⟨st, a, b, d, e, r1, r2, r3, r4, r5⟩ := mt_mr_of e1
    simp only [mt_else2, List.getD_eq_getElem?_getD, r1, Option.getD_some, Bool.and_eq_true, decide_eq_true_eq, Bool.not_eq_true'] at he2
    obtain ⟨e6, e7⟩ := he2
    subst e6
    obtain ⟨o1, o2, o3, o4, o5⟩ := mt_m_ok j2
    have hlink : Cond.methodLink (mt_cn j) i (mt_y j2) ∈ mt_WT ∨ ∃ host, Cond.methodLinkNest (mt_cn j) i (mt_y j2) host ∈ mt_WT := by
      simp only [mt_word, ← (mt_m_ok j).1] at hw
      split at hw
      · exact Or.inl hw
      · exact Or.inr ⟨_, hw⟩
    exact ⟨⟨o3, o4, r4, r3, e7, hlink⟩, e2, e3, r2⟩
  · intro j i x y w z h
    obtain ⟨hw, -⟩ := mt_pool_ck h (by simp)
    simp only [mt_word, ← (mt_m_ok j).1] at hw
    exact ⟨hw, mt_oi⟩
  · intro j i x y w z h
    obtain ⟨hw, -⟩ := mt_pool_ck h (by simp)
    simp only [mt_word, ← (mt_m_ok j).1] at hw
    exact ⟨hw, mt_ac⟩
  · intro j i x y w z h
    obtain ⟨hw, -⟩ := mt_pool_ck h (by simp)
    simp only [mt_word, ← (mt_m_ok j).1] at hw
    exact ⟨hw, mt_mx⟩
  · intro j i x y w z h
    obtain ⟨hw, -⟩ := mt_pool_ck h (by simp)
    simp only [mt_word, ← (mt_m_ok j).1] at hw
    exact ⟨hw, mt_mi⟩
  · intro j i k ic w z h
    obtain ⟨hw, he⟩ := mt_pool_ck h (by simp)
    have hx := mt_exok h (by simp)
    simp only [mt_else, Bool.and_eq_true, decide_eq_true_eq] at he
    simp only [mt_exck] at hx
    split at hx
    · next X hX =>
      simp only [Bool.and_eq_true] at hx
      simp only [mt_word, ← (mt_m_ok j).1, List.getD_eq_getElem?_getD, hX, Option.getD_some] at hw
      have hcn : mt_cn j = "RefutationDesk" := by rw [(mt_m_ok j).1, he.2]; rfl
      refine ⟨X, hX, hx.1, hw, (mt_exini k X hX).1, fun a ha => ?_⟩
      rw [hcn] at ha
      have h9 := List.all_eq_true.mp hx.2 a ha
      simp only [Bool.or_eq_true, Bool.and_eq_true, decide_eq_true_eq] at h9
      rcases h9 with (((h9 | h9) | h9) | h9) | h9
      · exact Or.inl (List.mem_filter.mpr ⟨List.mem_append_right _ h9.1, h9.2⟩)
      · exact Or.inr (Or.inl h9)
      · exact Or.inr (Or.inr (Or.inl h9))
      · exact Or.inr (Or.inr (Or.inr (Or.inl h9)))
      · exact Or.inr (Or.inr (Or.inr (Or.inr h9)))
    · cases hx
end
section
/-- more fuel does no harm -/
theorem mn_run_succ : ∀ (n : Nat) (sc : Option (List Int32)) (fr lo j : Nat) (S : mn_S) (r : mn_A), mn_run n sc fr lo j S = some r → mn_run (n + 1) sc fr lo j S = some r := by
  intro n
  induction n with
  | zero => intro sc fr lo j S r h; cases h
  | succ n ih =>
    intro sc fr lo j S r h
    obtain ⟨pc, xs, st, ns, hs⟩ := S
    unfold mn_run at h ⊢
    split at h
    · cases h
    · next q hd =>
      split at h
      · next S hop => exact ih _ _ _ _ _ _ h
      · next hop =>
        split at h
        · exact h
        · split at h
          · exact h
          · split at h
            · cases h
            · next j2 as r0 hcal =>
              split at h
              · next hc =>
                split at h
                · cases h
                · next v ns1 hs1 h1 =>
                  simp only [ih _ _ _ _ _ _ h1]
                  rw [if_pos hc]
                  exact ih _ _ _ _ _ _ h
                · next k w ns1 hs1 h1 =>
                  simp only [ih _ _ _ _ _ _ h1]
                  rw [if_pos hc]
                  split at h
                  · exact ih _ _ _ _ _ _ h
                  · cases h
              · cases h
theorem mn_run_le {n n' : Nat} {sc : Option (List Int32)} {fr lo j : Nat} {S : mn_S} {r : mn_A} (h : mn_run n sc fr lo j S = some r) (hn : n ≤ n') : mn_run n' sc fr lo j S = some r := by
  induction hn with
  | refl => exact h
  | step _ ih => exact mn_run_succ _ _ _ _ _ _ _ ih
/-- the small machine comes from S to the end r -/
def Ru (sc : Option (List Int32)) (fr lo j : Nat) (S : mn_S) (r : mn_A) : Prop := ∃ n, mn_run n sc fr lo j S = some r
theorem Ru.of {sc : Option (List Int32)} {fr lo j : Nat} {S : mn_S} {r : mn_A} (n : Nat) (h : mn_run n sc fr lo j S = some r) : Ru sc fr lo j S r := ⟨n, h⟩
section RU
variable {sc : Option (List Int32)} {fr lo j pc : Nat} {xs : List (Option Value)} {st : List Value} {ns : Nat} {hs : mn_H} {r : mn_A} {q : Instr × Nat}
theorem Ru.op {S' : mn_S} (hd : decode (mt_code j) pc = .ok q) (ho : mn_op j fr lo sc q pc xs st ns hs = some S') (h : Ru sc fr lo j S' r) : Ru sc fr lo j (pc, xs, st, ns, hs) r := by
  obtain ⟨n, h⟩ := h
  refine ⟨n + 1, ?_⟩
  unfold mn_run
  rw [hd]
  simp only [ho]
  exact h
theorem Ru.end {v : Option Value} (hd : decode (mt_code j) pc = .ok q) (ho : mn_op j fr lo sc q pc xs st ns hs = none) (he : mn_end (mt_rt j) q st = some v) : Ru sc fr lo j (pc, xs, st, ns, hs) ((0, v), ns, hs) := by
  refine ⟨1, ?_⟩
  unfold mn_run
  rw [hd]
  simp only [ho, he]
theorem Ru.thr {k : Nat} (hd : decode (mt_code j) pc = .ok q) (ho : mn_op j fr lo sc q pc xs st ns hs = none) (he : mn_end (mt_rt j) q st = none) (ht : mn_thr (mt_code j) (mt_pl j) (mt_hl j).isEmpty fr lo q pc st = some k) : Ru sc fr lo j (pc, xs, st, ns, hs) ((k + 1, none), ns + 6, hs ++ [(99, [])]) := by
  refine ⟨1, ?_⟩
  unfold mn_run
  rw [hd]
  simp only [ho, he, ht]
theorem Ru.call {j2 : Nat} {as r0 : List Value} {v : Option Value} {ns1 : Nat} {hs1 : mn_H} (hd : decode (mt_code j) pc = .ok q) (ho : mn_op j fr lo sc q pc xs st ns hs = none) (he : mn_end (mt_rt j) q st = none) (ht : mn_thr (mt_code j) (mt_pl j) (mt_hl j).isEmpty fr lo q pc st = none)
    (hcal : mn_cal (mt_pl j) mt_na q st hs = some (j2, as, r0)) (hc : 1 ≤ fr ∧ 19 + mt_ml j2 ≤ lo ∧ mn_cat r0 ≤ 8 ∧ (mn_ent as).length ≤ mt_ml j2)
    (h1 : Ru none (fr - 1) (lo - (19 + mt_ml j2)) j2 (0, mn_pad (mn_ent as) (mt_ml j2), [], ns, hs) ((0, v), ns1, hs1)) (h2 : Ru sc fr lo j (pc + 3, xs, v.toList ++ r0, ns1, hs1) r) : Ru sc fr lo j (pc, xs, st, ns, hs) r := by
  obtain ⟨n1, h1⟩ := h1
  obtain ⟨n2, h2⟩ := h2
  refine ⟨max n1 n2 + 1, ?_⟩
  have h1' := mn_run_le h1 (Nat.le_max_left n1 n2)
  have h2' := mn_run_le h2 (Nat.le_max_right n1 n2)
  unfold mn_run
  rw [hd]
  simp only [ho, he, ht, hcal]
  rw [if_pos hc]
  simp only [h1']
  exact h2'
theorem Ru.catch {i j2 : Nat} {as r0 : List Value} {k hp : Nat} {w : Option Value} {ns1 : Nat} {hs1 : mn_H} (hd : decode (mt_code j) pc = .ok (.invokevirtual i, 3)) (ho : mn_op j fr lo sc (.invokevirtual i, 3) pc xs st ns hs = none) (he : mn_end (mt_rt j) (.invokevirtual i, 3) st = none) (ht : mn_thr (mt_code j) (mt_pl j) (mt_hl j).isEmpty fr lo (.invokevirtual i, 3) pc st = none)
    (hcal : mn_cal (mt_pl j) mt_na (.invokevirtual i, 3) st hs = some (j2, as, r0)) (hc : 1 ≤ fr ∧ 19 + mt_ml j2 ≤ lo ∧ mn_cat r0 ≤ 8 ∧ (mn_ent as).length ≤ mt_ml j2) (hhd : mn_hd (mt_hl j) pc k = some hp)
    (h1 : Ru none (fr - 1) (lo - (19 + mt_ml j2)) j2 (0, mn_pad (mn_ent as) (mt_ml j2), [], ns, hs) ((k + 1, w), ns1, hs1)) (h2 : Ru sc fr lo j (hp, xs, [.ref (hs1.length - 1)], ns1, hs1) r) : Ru sc fr lo j (pc, xs, st, ns, hs) r := by
  obtain ⟨n1, h1⟩ := h1
  obtain ⟨n2, h2⟩ := h2
  refine ⟨max n1 n2 + 1, ?_⟩
  have h1' := mn_run_le h1 (Nat.le_max_left n1 n2)
  have h2' := mn_run_le h2 (Nat.le_max_right n1 n2)
  unfold mn_run
  rw [hd]
  simp only [ho, he, ht, hcal]
  rw [if_pos hc]
  simp only [h1', hhd]
  exact h2'
end RU
end
section
section RV
variable {sc : Option (List Int32)} {fr lo j pc : Nat} {xs : List (Option Value)} {st : List Value} {ns : Nat} {hs : mn_H} {r : mn_A}
theorem mn_op_C {q : Instr × Nat} {S : mn_S} (hA : mn_opA q pc xs st ns hs = none) (hB : mn_opB q pc xs st ns hs = none) (hB1 : mn_opB1 q pc xs st ns hs = none) (hC : mn_opC q pc xs st ns hs = some S) : mn_op j fr lo sc q pc xs st ns hs = some S := by
  unfold mn_op
  simp only [hA, hB, hB1, hC]
/-- a branch by a number's sign, the answer known -/
theorem Ru.br {k : ClassFile.Cond} {off : Int} {x : Int32} {bb : Bool} {tg : Nat} (hd : decode (mt_code j) pc = .ok (.ifCond k off, 3)) (hg : mn_gook pc off = true) (hc : mn_cmp k x 0 = bb) (ht : (if bb then mn_go pc off else pc + 3) = tg) (h : Ru sc fr lo j (tg, xs, st, ns, hs) r) : Ru sc fr lo j (pc, xs, .int x :: st, ns, hs) r := by
  refine Ru.op hd (mn_op_C rfl rfl rfl ?_) h
  show (if mn_gook pc off = true then some (if mn_cmp k x 0 then mn_go pc off else pc + 3, xs, st, ns, hs) else none) = _
  rw [if_pos hg, hc, ← ht]
theorem Ru.br2 {k : ClassFile.Cond} {off : Int} {x y : Int32} {bb : Bool} {tg : Nat} (hd : decode (mt_code j) pc = .ok (.if_icmp k off, 3)) (hg : mn_gook pc off = true) (hc : mn_cmp k x y = bb) (ht : (if bb then mn_go pc off else pc + 3) = tg) (h : Ru sc fr lo j (tg, xs, st, ns, hs) r) : Ru sc fr lo j (pc, xs, .int y :: .int x :: st, ns, hs) r := by
  refine Ru.op hd (mn_op_C rfl rfl rfl ?_) h
  show (if mn_gook pc off = true then some (if mn_cmp k x y then mn_go pc off else pc + 3, xs, st, ns, hs) else none) = _
  rw [if_pos hg, hc, ← ht]
/-- a switch, its number known -/
theorem Ru.sw {d lo2 hi : Int} {offs : Array Int} {len : Nat} {x : Int32} {tg : Nat} (hd : decode (mt_code j) pc = .ok (.tableswitch d lo2 hi offs, len)) (hx : mn_opC (.tableswitch d lo2 hi offs, len) pc [] [.int x] 0 [] = some (tg, [], [], 0, [])) (h : Ru sc fr lo j (tg, xs, st, ns, hs) r) : Ru sc fr lo j (pc, xs, .int x :: st, ns, hs) r := by
  refine Ru.op hd (mn_op_C (by cases len <;> rfl) ?_ ?_ ?_) h
  · unfold mn_opB
    split
    · next h9 => cases h9; split <;> rfl
    · rfl
  · unfold mn_opB1
    split
    · next h9 => cases h9; rfl
    · rfl
  · simp only [mn_opC] at hx ⊢
    split at hx
    · split at hx
      · simp only [Option.some.injEq, Prod.mk.injEq, and_true] at hx
        next h1 h2 => rw [if_pos h1, if_pos h2, hx]
      · cases hx
    · next h1 =>
      rw [if_neg h1]
      split at hx
      · next o h2 =>
        split at hx
        · next h3 =>
          simp only [Option.some.injEq, Prod.mk.injEq, and_true] at hx
          simp only [h2, h3, if_true, hx]
        · cases hx
      · cases hx
/-- a read of the script -/
theorem Ru.sld {l : List Int32} {i : Int32} {z k L : Nat} {v : Int32} (hsc : sc = some l) (hL : l.length = L) (hd : decode (mt_code j) pc = .ok (.iaload, 1)) (hi : ¬ (i < 0 ∨ L ≤ i.toNatClampNeg)) (hk : i.toNatClampNeg = k) (hv : l.getD k 0 = v) (h : Ru sc fr lo j (pc + 1, xs, .int v :: st, ns, hs) r) : Ru sc fr lo j (pc, xs, .int i :: .retAddr z :: st, ns, hs) r := by
  subst hsc
  refine Ru.op hd ?_ h
  have hi' : ¬ (i < 0 ∨ l.length ≤ i.toNatClampNeg) := by rw [hL]; exact hi
  show (if i < 0 ∨ l.length ≤ i.toNatClampNeg then none else some (pc + 1, xs, Value.int (l.getD i.toNatClampNeg 0) :: st, ns, hs)) = _
  rw [if_neg hi', hk, hv]
theorem Ru.slen {l : List Int32} {z L : Nat} (hsc : sc = some l) (hL : l.length = L) (hd : decode (mt_code j) pc = .ok (.arraylength, 1)) (h : Ru sc fr lo j (pc + 1, xs, .int (Int32.ofNat L) :: st, ns, hs) r) : Ru sc fr lo j (pc, xs, .retAddr z :: st, ns, hs) r := by
  subst hsc
  refine Ru.op hd ?_ h
  show some (pc + 1, xs, Value.int (Int32.ofNat l.length) :: st, ns, hs) = _
  rw [hL]
end RV
end
section
def fh_x : mn_H := [(0, [.ref 1, .ref 13, .ref 28, .ref 30, .ref 35, .int 0, .int (-1)]), (1, [.ref 2, .int 0, .ref 3, .int 0, .int 0, .int 0, .ref 10, .ref 11, .int 0, .int 0, .int 0, .ref 12, .int 0]), (52, List.replicate 160 (.int 0)), (2, [.ref 4, .ref 5, .ref 6, .ref 7, .ref 8, .int 0, .ref 9, .int 0]), (50, List.replicate 160 (.int 0)), (50, List.replicate 160 (.int 0)), (50, List.replicate 160 (.int 0)), (50, List.replicate 160 (.int 0)), (50, List.replicate 160 (.int 0)), (50, List.replicate 1280 (.int 0)), (50, List.replicate 10 (.int 0)), (50, List.replicate 10 (.int 0)), (50, List.replicate 16 (.int 0)), (3, [.ref 14, .int 0, .int 0, .int 0, .int 0, .int 0, .int 0, .int (-1), .int 0, .ref 15, .ref 20, .ref 23, .ref 27]), (55, List.replicate 100 (.null)), (4, [.ref 16, .ref 19, .int 0, .int 0]), (5, [.ref 17, .ref 18, .int 0, .int 0]), (50, List.replicate 80 (.int 0)), (50, [.int 0, .int 0, .int 0, .int 0, .int 0]), (50, List.replicate 128 (.int 0)), (6, [.ref 21, .ref 22]), (50, List.replicate 32 (.int 0)), (50, List.replicate 32 (.int 0)), (7, [.ref 24, .ref 25, .ref 26]), (50, List.replicate 64 (.int 0)), (50, List.replicate 64 (.int 0)), (50, [.int 0, .int 0, .int 0, .int 0]), (51, List.replicate 100 (.int 0)), (8, [.ref 29, .int 0]), (52, List.replicate 128 (.int 0)), (4, [.ref 31, .ref 34, .int 0, .int 0]), (5, [.ref 32, .ref 33, .int 0, .int 0]), (50, List.replicate 80 (.int 0)), (50, [.int 0, .int 0, .int 0, .int 0, .int 0]), (50, List.replicate 128 (.int 0)), (54, List.replicate 24 (.null))]
set_option maxRecDepth 100000 in
theorem p1_x : Ru none 2047 83980 0 (0, mn_pad (mn_ent [.ref 0]) 1, [], 7, [(0, mt_df 0)]) ((0, none), 3314, fh_x) := Ru.of 199 (by decide +kernel)
def fh_m : mn_H := [(0, [.ref 1, .ref 13, .ref 28, .ref 30, .ref 35, .int 0, .int (-1)]), (1, [.ref 2, .int 0, .ref 3, .int 0, .int 0, .int 0, .ref 10, .ref 11, .int 0, .int 0, .int 0, .ref 12, .int 0]), (52, List.replicate 160 (.int 0)), (2, [.ref 4, .ref 5, .ref 6, .ref 7, .ref 8, .int 0, .ref 9, .int 0]), (50, List.replicate 160 (.int 0)), (50, List.replicate 160 (.int 0)), (50, List.replicate 160 (.int 0)), (50, List.replicate 160 (.int 0)), (50, List.replicate 160 (.int 0)), (50, List.replicate 1280 (.int 0)), (50, List.replicate 10 (.int 0)), (50, List.replicate 10 (.int 0)), (50, List.replicate 16 (.int 0)), (3, [.ref 14, .int 0, .int 0, .int 0, .int 0, .int 0, .int 0, .int (-1), .int 0, .ref 15, .ref 20, .ref 23, .ref 27]), (55, List.replicate 100 (.null)), (4, [.ref 16, .ref 19, .int 0, .int 0]), (5, [.ref 17, .ref 18, .int 0, .int 0]), (50, List.replicate 80 (.int 0)), (50, [.int 0, .int 0, .int 0, .int 0, .int 0]), (50, List.replicate 128 (.int 0)), (6, [.ref 21, .ref 22]), (50, List.replicate 32 (.int 0)), (50, List.replicate 32 (.int 0)), (7, [.ref 24, .ref 25, .ref 26]), (50, List.replicate 64 (.int 0)), (50, List.replicate 64 (.int 0)), (50, [.int 0, .int 0, .int 0, .int 0]), (51, List.replicate 100 (.int 0)), (8, [.ref 29, .int 0]), (52, List.replicate 128 (.int 0)), (4, [.ref 31, .ref 34, .int 0, .int 0]), (5, [.ref 32, .ref 33, .int 0, .int 0]), (50, List.replicate 80 (.int 0)), (50, [.int 0, .int 0, .int 0, .int 0, .int 0]), (50, List.replicate 128 (.int 0)), (54, List.replicate 24 (.null)), (10, [.int 0, .int (-1), .int 0, .ref 37, .ref 38, .ref 39, .ref 40, .ref 41, .ref 42, .int 0, .int 0, .ref 43, .ref 44, .ref 45, .int (-1), .int 0, .int 0, .int 0, .int 0, .int 0, .int 0, .ref 46, .int 0, .ref 47, .int 0, .ref 48, .ref 49, .int 0, .int 0, .int 0, .int 0, .ref 50, .ref 51, .ref 52, .int 0, .int 0, .int 0, .ref 53, .ref 54, .ref 55, .ref 56, .ref 57, .int 0, .int 0, .ref 58, .ref 59, .int 0, .ref 60, .ref 61, .ref 62, .ref 63, .ref 64, .ref 65, .ref 66, .ref 67, .ref 68, .int 0, .ref 69, .ref 70]), (50, List.replicate 160 (.int 0)), (50, List.replicate 8032 (.int 0)), (50, List.replicate 504 (.int 0)), (51, List.replicate 504 (.int 0)), (50, List.replicate 125 (.int 0)), (50, List.replicate 125 (.int 0)), (50, List.replicate 100 (.int 0)), (50, List.replicate 100 (.int 0)), (50, List.replicate 400 (.int 0)), (50, List.replicate 1024 (.int 0)), (50, List.replicate 128 (.int 0)), (50, List.replicate 100 (.int 0)), (51, List.replicate 100 (.int 0)), (50, List.replicate 50 (.int 0)), (50, List.replicate 50 (.int 0)), (51, List.replicate 50 (.int 0)), (50, List.replicate 16 (.int 0)), (50, List.replicate 10 (.int 0)), (51, List.replicate 10 (.int 0)), (51, List.replicate 10 (.int 0)), (50, List.replicate 10 (.int 0)), (50, List.replicate 300 (.int 0)), (50, List.replicate 2400 (.int 0)), (50, List.replicate 100 (.int 0)), (51, List.replicate 100 (.int 0)), (50, List.replicate 64 (.int 0)), (50, List.replicate 64 (.int 0)), (50, List.replicate 128 (.int 0)), (50, List.replicate 640 (.int 0)), (50, List.replicate 640 (.int 0)), (50, List.replicate 640 (.int 0)), (50, List.replicate 16 (.int 0)), (50, List.replicate 400 (.int 0)), (51, List.replicate 100 (.int 0))]
set_option maxRecDepth 100000 in
theorem p1_m : Ru none 2047 83980 93 (0, mn_pad (mn_ent [.ref 36]) 1, [], 3373, fh_x ++ [(10, mt_df 10)]) ((0, none), 20573, fh_m) := Ru.of 147 (by decide +kernel)
def fh_0 : mn_H := fh_m ++ [(53, [.long 0])]
set_option maxRecDepth 100000 in
set_option maxHeartbeats 4000000 in
theorem p1_start {sc : List Int32} {r : mn_A} (h : Ru (some sc) 2048 84000 172 (23, [some (.retAddr 0), some (.ref 0), some (.ref 36), some (.ref 71), some (.int 0), none, none], [], 20574, fh_0) r) : Ru (some sc) 2048 84000 172 (0, mn_pad [some (.retAddr 0)] 7, [], 0, []) r := by
  refine Ru.op (q := (.new 8, 3)) (by decide +kernel) rfl ?_
  refine Ru.op (q := (.dup, 1)) (by decide +kernel) rfl ?_
  refine Ru.call (q := (.invokespecial 56, 3)) (by decide +kernel) rfl rfl rfl rfl (by decide) p1_x ?_
  refine Ru.op (q := (.astore_n 1, 1)) (by decide +kernel) rfl ?_
  refine Ru.op (q := (.new 57, 3)) (by decide +kernel) rfl ?_
  refine Ru.op (q := (.dup, 1)) (by decide +kernel) rfl ?_
  refine Ru.call (q := (.invokespecial 59, 3)) (by decide +kernel) rfl rfl rfl rfl (by decide) p1_m ?_
  refine Ru.op (q := (.astore_n 2, 1)) (by decide +kernel) rfl ?_
  refine Ru.op (q := (.iconst 1, 1)) (by decide +kernel) rfl ?_
  refine Ru.op (q := (.newarray .long, 2)) (by decide +kernel) rfl ?_
  refine Ru.op (q := (.astore_n 3, 1)) (by decide +kernel) rfl ?_
  refine Ru.op (q := (.iconst 0, 1)) (by decide +kernel) rfl ?_
  refine Ru.op (q := (.istore 4, 2)) (by decide +kernel) rfl ?_
  exact h
end
section
/-- the law's loop once more, behind its one call, and its end -/
theorem p1_tail {sc : List Int32} {hs : mn_H} {ns : Nat} {x5 x6 : Option Value} (hL : sc.length = 5) : Ru (some sc) 2048 84000 172 (851, [some (.retAddr 0), some (.ref 0), some (.ref 36), some (.ref 71), some (.int 0), x5, x6], [], ns, hs) ((0, some (.int 1)), ns, hs) := by
  refine Ru.op (q := (.iinc 4 5, 3)) (by decide +kernel) rfl ?_
  refine Ru.op (q := (.goto (-831), 3)) (by decide +kernel) rfl ?_
  refine Ru.op (q := (.iload 4, 2)) (by decide +kernel) rfl ?_
  refine Ru.op (q := (.aload_n 0, 1)) (by decide +kernel) rfl ?_
  refine Ru.slen (L := 5) rfl hL (by decide +kernel) ?_
  refine Ru.op (q := (.iconst 5, 1)) (by decide +kernel) rfl ?_
  refine Ru.op (q := (.isub, 1)) (by decide +kernel) rfl ?_
  refine Ru.br2 (k := .gt) (off := 828) (bb := true) (tg := 857) (by decide +kernel) (by decide +kernel) (by decide +kernel) (by decide +kernel) ?_
  refine Ru.op (q := (.iconst 1, 1)) (by decide +kernel) rfl ?_
  exact Ru.end (q := (.ireturn, 1)) (by decide +kernel) rfl rfl
set_option maxRecDepth 100000 in
theorem p1_wipe_0 : Ru none 2047 83979 9 (0, mn_pad (mn_ent [.ref 0]) 2, [], 20574, fh_0) ((0, some (.int 0)), 20574, fh_0) := Ru.of 12 (by decide +kernel)
set_option maxRecDepth 100000 in
theorem p1_wipe_1 : Ru none 2047 83979 96 (0, mn_pad (mn_ent [.ref 36]) 2, [], 20574, fh_0) ((0, some (.int 0)), 20574, fh_0) := Ru.of 13 (by decide +kernel)
set_option maxRecDepth 100000 in
set_option maxHeartbeats 4000000 in
theorem p1_wipe {s0 s1 s2 s3 s4 : Int32} : Ru (some [s0, s1, s2, s3, s4]) 2048 84000 172 (196, [some (.retAddr 0), some (.ref 0), some (.ref 36), some (.ref 71), some (.int 0), none, none], [], 20574, fh_0) ((0, some (.int 1)), 20574, fh_0) := by
  refine Ru.op (q := (.aload_n 1, 1)) (by decide +kernel) rfl ?_
  refine Ru.call (q := (.invokevirtual 71, 3)) (by decide +kernel) rfl rfl rfl rfl ⟨Nat.le_of_ble_eq_true rfl, Nat.le_of_ble_eq_true rfl, Nat.le_of_ble_eq_true rfl, Nat.le_of_ble_eq_true rfl⟩ (p1_wipe_0) ?_
  refine Ru.op (q := (.aload_n 2, 1)) (by decide +kernel) rfl ?_
  refine Ru.call (q := (.invokevirtual 74, 3)) (by decide +kernel) rfl rfl rfl rfl ⟨Nat.le_of_ble_eq_true rfl, Nat.le_of_ble_eq_true rfl, Nat.le_of_ble_eq_true rfl, Nat.le_of_ble_eq_true rfl⟩ (p1_wipe_1) ?_
  refine Ru.br2 (k := .eq) (off := 647) (bb := true) (tg := 851) (by decide +kernel) (by decide +kernel) (by decide +kernel) (by decide +kernel) ?_
  exact p1_tail rfl
set_option maxRecDepth 100000 in
theorem p1_at_0 : Ru none 2047 83980 10 (0, mn_pad (mn_ent [.ref 0]) 1, [], 20574, fh_0) ((0, some (.int (-1))), 20574, fh_0) := Ru.of 5 (by decide +kernel)
set_option maxRecDepth 100000 in
theorem p1_at_1 : Ru none 2047 83980 97 (0, mn_pad (mn_ent [.ref 36]) 1, [], 20574, fh_0) ((0, some (.int (-1))), 20574, fh_0) := Ru.of 8 (by decide +kernel)
set_option maxRecDepth 100000 in
set_option maxHeartbeats 4000000 in
theorem p1_at {s0 s1 s2 s3 s4 : Int32} : Ru (some [s0, s1, s2, s3, s4]) 2048 84000 172 (281, [some (.retAddr 0), some (.ref 0), some (.ref 36), some (.ref 71), some (.int 0), none, none], [], 20574, fh_0) ((0, some (.int 1)), 20574, fh_0) := by
  refine Ru.op (q := (.aload_n 1, 1)) (by decide +kernel) rfl ?_
  refine Ru.call (q := (.invokevirtual 79, 3)) (by decide +kernel) rfl rfl rfl rfl ⟨Nat.le_of_ble_eq_true rfl, Nat.le_of_ble_eq_true rfl, Nat.le_of_ble_eq_true rfl, Nat.le_of_ble_eq_true rfl⟩ (p1_at_0) ?_
  refine Ru.op (q := (.aload_n 2, 1)) (by decide +kernel) rfl ?_
  refine Ru.call (q := (.invokevirtual 82, 3)) (by decide +kernel) rfl rfl rfl rfl ⟨Nat.le_of_ble_eq_true rfl, Nat.le_of_ble_eq_true rfl, Nat.le_of_ble_eq_true rfl, Nat.le_of_ble_eq_true rfl⟩ (p1_at_1) ?_
  refine Ru.br2 (k := .eq) (off := 562) (bb := true) (tg := 851) (by decide +kernel) (by decide +kernel) (by decide +kernel) (by decide +kernel) ?_
  exact p1_tail rfl
set_option maxRecDepth 100000 in
theorem p1_state_0 : Ru none 2047 83980 11 (0, mn_pad (mn_ent [.ref 0]) 1, [], 20574, fh_0) ((0, some (.int 3)), 20574, fh_0) := Ru.of 33 (by decide +kernel)
set_option maxRecDepth 100000 in
theorem p1_state_1 : Ru none 2047 83980 133 (0, mn_pad (mn_ent [.ref 36]) 1, [], 20574, fh_0) ((0, some (.int 3)), 20574, fh_0) := Ru.of 34 (by decide +kernel)
set_option maxRecDepth 100000 in
set_option maxHeartbeats 4000000 in
theorem p1_state {s0 s1 s2 s3 s4 : Int32} : Ru (some [s0, s1, s2, s3, s4]) 2048 84000 172 (294, [some (.retAddr 0), some (.ref 0), some (.ref 36), some (.ref 71), some (.int 0), none, none], [], 20574, fh_0) ((0, some (.int 1)), 20574, fh_0) := by
  refine Ru.op (q := (.aload_n 1, 1)) (by decide +kernel) rfl ?_
  refine Ru.call (q := (.invokevirtual 83, 3)) (by decide +kernel) rfl rfl rfl rfl ⟨Nat.le_of_ble_eq_true rfl, Nat.le_of_ble_eq_true rfl, Nat.le_of_ble_eq_true rfl, Nat.le_of_ble_eq_true rfl⟩ (p1_state_0) ?_
  refine Ru.op (q := (.aload_n 2, 1)) (by decide +kernel) rfl ?_
  refine Ru.call (q := (.invokevirtual 86, 3)) (by decide +kernel) rfl rfl rfl rfl ⟨Nat.le_of_ble_eq_true rfl, Nat.le_of_ble_eq_true rfl, Nat.le_of_ble_eq_true rfl, Nat.le_of_ble_eq_true rfl⟩ (p1_state_1) ?_
  refine Ru.br2 (k := .eq) (off := 549) (bb := true) (tg := 851) (by decide +kernel) (by decide +kernel) (by decide +kernel) (by decide +kernel) ?_
  exact p1_tail rfl
def fh_step_1 : mn_H := [(0, [.ref 1, .ref 13, .ref 28, .ref 30, .ref 35, .int 0, .int (-1)]), (1, [.ref 2, .int 0, .ref 3, .int 0, .int 0, .int 0, .ref 10, .ref 11, .int 0, .int 0, .int 0, .ref 12, .int 0]), (52, List.replicate 160 (.int 0)), (2, [.ref 4, .ref 5, .ref 6, .ref 7, .ref 8, .int 0, .ref 9, .int 0]), (50, List.replicate 160 (.int 0)), (50, List.replicate 160 (.int 0)), (50, List.replicate 160 (.int 0)), (50, List.replicate 160 (.int 0)), (50, List.replicate 160 (.int 0)), (50, List.replicate 1280 (.int 0)), (50, List.replicate 10 (.int 0)), (50, List.replicate 10 (.int 0)), (50, List.replicate 16 (.int 0)), (3, [.ref 14, .int 0, .int 0, .int 0, .int 0, .int 0, .int 0, .int (-1), .int 0, .ref 15, .ref 20, .ref 23, .ref 27]), (55, List.replicate 100 (.null)), (4, [.ref 16, .ref 19, .int 0, .int 0]), (5, [.ref 17, .ref 18, .int 0, .int 0]), (50, List.replicate 80 (.int 0)), (50, [.int 0, .int 0, .int 0, .int 0, .int 0]), (50, List.replicate 128 (.int 0)), (6, [.ref 21, .ref 22]), (50, List.replicate 32 (.int 0)), (50, List.replicate 32 (.int 0)), (7, [.ref 24, .ref 25, .ref 26]), (50, List.replicate 64 (.int 0)), (50, List.replicate 64 (.int 0)), (50, [.int 0, .int 0, .int 0, .int 0]), (51, List.replicate 100 (.int 0)), (8, [.ref 29, .int 0]), (52, List.replicate 128 (.int 0)), (4, [.ref 31, .ref 34, .int 0, .int 0]), (5, [.ref 32, .ref 33, .int 0, .int 0]), (50, List.replicate 80 (.int 0)), (50, [.int 0, .int 0, .int 0, .int 0, .int 0]), (50, List.replicate 128 (.int 0)), (54, List.replicate 24 (.null)), (10, [.int 0, .int (-1), .int 0, .ref 37, .ref 38, .ref 39, .ref 40, .ref 41, .ref 42, .int 0, .int 0, .ref 43, .ref 44, .ref 45, .int (-1), .int 0, .int 0, .int 0, .int 0, .int 0, .int 0, .ref 46, .int 0, .ref 47, .int 0, .ref 48, .ref 49, .int 0, .int 0, .int 0, .int 0, .ref 50, .ref 51, .ref 52, .int 0, .int 0, .int 0, .ref 53, .ref 54, .ref 55, .ref 56, .ref 57, .int 0, .int 0, .ref 58, .ref 59, .int 0, .ref 60, .ref 61, .ref 62, .ref 63, .ref 64, .ref 65, .ref 66, .ref 67, .ref 68, .int 0, .ref 69, .ref 70]), (50, List.replicate 160 (.int 0)), (50, List.replicate 8032 (.int 0)), (50, List.replicate 504 (.int 0)), (51, List.replicate 504 (.int 0)), (50, List.replicate 125 (.int 0)), (50, List.replicate 125 (.int 0)), (50, List.replicate 100 (.int 0)), (50, List.replicate 100 (.int 0)), (50, List.replicate 400 (.int 0)), (50, List.replicate 1024 (.int 0)), (50, List.replicate 128 (.int 0)), (50, List.replicate 100 (.int 0)), (51, List.replicate 100 (.int 0)), (50, List.replicate 50 (.int 0)), (50, List.replicate 50 (.int 0)), (51, List.replicate 50 (.int 0)), (50, List.replicate 16 (.int 0)), (50, List.replicate 10 (.int 0)), (51, List.replicate 10 (.int 0)), (51, List.replicate 10 (.int 0)), (50, List.replicate 10 (.int 0)), (50, List.replicate 300 (.int 0)), (50, List.replicate 2400 (.int 0)), (50, List.replicate 100 (.int 0)), (51, List.replicate 100 (.int 0)), (50, List.replicate 64 (.int 0)), (50, List.replicate 64 (.int 0)), (50, List.replicate 128 (.int 0)), (50, List.replicate 640 (.int 0)), (50, List.replicate 640 (.int 0)), (50, List.replicate 640 (.int 0)), (50, List.replicate 16 (.int 0)), (50, List.replicate 400 (.int 0)), (51, List.replicate 100 (.int 0)), (53, [.long 0]), (99, [])]
set_option maxRecDepth 100000 in
theorem p1_step_0 : Ru none 2047 83978 164 (0, mn_pad (mn_ent [.ref 0, .ref 71]) 3, [], 20574, fh_0) ((0, some (.int 1)), 20580, fh_step_1) := Ru.of 41 (by decide +kernel)
def fh_step_2 : mn_H := [(0, [.ref 1, .ref 13, .ref 28, .ref 30, .ref 35, .int 0, .int (-1)]), (1, [.ref 2, .int 0, .ref 3, .int 0, .int 0, .int 0, .ref 10, .ref 11, .int 0, .int 0, .int 0, .ref 12, .int 0]), (52, List.replicate 160 (.int 0)), (2, [.ref 4, .ref 5, .ref 6, .ref 7, .ref 8, .int 0, .ref 9, .int 0]), (50, List.replicate 160 (.int 0)), (50, List.replicate 160 (.int 0)), (50, List.replicate 160 (.int 0)), (50, List.replicate 160 (.int 0)), (50, List.replicate 160 (.int 0)), (50, List.replicate 1280 (.int 0)), (50, List.replicate 10 (.int 0)), (50, List.replicate 10 (.int 0)), (50, List.replicate 16 (.int 0)), (3, [.ref 14, .int 0, .int 0, .int 0, .int 0, .int 0, .int 0, .int (-1), .int 0, .ref 15, .ref 20, .ref 23, .ref 27]), (55, List.replicate 100 (.null)), (4, [.ref 16, .ref 19, .int 0, .int 0]), (5, [.ref 17, .ref 18, .int 0, .int 0]), (50, List.replicate 80 (.int 0)), (50, [.int 0, .int 0, .int 0, .int 0, .int 0]), (50, List.replicate 128 (.int 0)), (6, [.ref 21, .ref 22]), (50, List.replicate 32 (.int 0)), (50, List.replicate 32 (.int 0)), (7, [.ref 24, .ref 25, .ref 26]), (50, List.replicate 64 (.int 0)), (50, List.replicate 64 (.int 0)), (50, [.int 0, .int 0, .int 0, .int 0]), (51, List.replicate 100 (.int 0)), (8, [.ref 29, .int 0]), (52, List.replicate 128 (.int 0)), (4, [.ref 31, .ref 34, .int 0, .int 0]), (5, [.ref 32, .ref 33, .int 0, .int 0]), (50, List.replicate 80 (.int 0)), (50, [.int 0, .int 0, .int 0, .int 0, .int 0]), (50, List.replicate 128 (.int 0)), (54, List.replicate 24 (.null)), (10, [.int 1, .int (-1), .int 0, .ref 37, .ref 38, .ref 39, .ref 40, .ref 41, .ref 42, .int 0, .int 0, .ref 43, .ref 44, .ref 45, .int (-1), .int 0, .int 0, .int 0, .int 0, .int 0, .int 0, .ref 46, .int 0, .ref 47, .int 0, .ref 48, .ref 49, .int 0, .int 0, .int 0, .int 0, .ref 50, .ref 51, .ref 52, .int 0, .int 0, .int 0, .ref 53, .ref 54, .ref 55, .ref 56, .ref 57, .int 0, .int 0, .ref 58, .ref 59, .int 0, .ref 60, .ref 61, .ref 62, .ref 63, .ref 64, .ref 65, .ref 66, .ref 67, .ref 68, .int 0, .ref 69, .ref 70]), (50, List.replicate 160 (.int 0)), (50, List.replicate 8032 (.int 0)), (50, List.replicate 504 (.int 0)), (51, List.replicate 504 (.int 0)), (50, List.replicate 125 (.int 0)), (50, List.replicate 125 (.int 0)), (50, List.replicate 100 (.int 0)), (50, List.replicate 100 (.int 0)), (50, List.replicate 400 (.int 0)), (50, List.replicate 1024 (.int 0)), (50, List.replicate 128 (.int 0)), (50, List.replicate 100 (.int 0)), (51, List.replicate 100 (.int 0)), (50, List.replicate 50 (.int 0)), (50, List.replicate 50 (.int 0)), (51, List.replicate 50 (.int 0)), (50, List.replicate 16 (.int 0)), (50, List.replicate 10 (.int 0)), (51, List.replicate 10 (.int 0)), (51, List.replicate 10 (.int 0)), (50, List.replicate 10 (.int 0)), (50, List.replicate 300 (.int 0)), (50, List.replicate 2400 (.int 0)), (50, List.replicate 100 (.int 0)), (51, List.replicate 100 (.int 0)), (50, List.replicate 64 (.int 0)), (50, List.replicate 64 (.int 0)), (50, List.replicate 128 (.int 0)), (50, List.replicate 640 (.int 0)), (50, List.replicate 640 (.int 0)), (50, List.replicate 640 (.int 0)), (50, List.replicate 16 (.int 0)), (50, List.replicate 400 (.int 0)), (51, List.replicate 100 (.int 0)), (53, [.long 0]), (99, [])]
set_option maxRecDepth 100000 in
theorem p1_step_1 : Ru none 2047 83980 136 (0, mn_pad (mn_ent [.ref 36]) 1, [], 20580, fh_step_1) ((0, some (.int 0)), 20580, fh_step_2) := Ru.of 39 (by decide +kernel)
set_option maxRecDepth 100000 in
theorem p1_step_2 : Ru none 2047 83980 94 (0, mn_pad (mn_ent [.ref 36]) 1, [], 20580, fh_step_2) ((0, some (.int 1)), 20580, fh_step_2) := Ru.of 5 (by decide +kernel)
set_option maxRecDepth 100000 in
set_option maxHeartbeats 4000000 in
theorem p1_step {s0 s1 s2 s3 s4 : Int32} : Ru (some [s0, s1, s2, s3, s4]) 2048 84000 172 (307, [some (.retAddr 0), some (.ref 0), some (.ref 36), some (.ref 71), some (.int 0), none, none], [], 20574, fh_0) ((0, some (.int 1)), 20580, fh_step_2) := by
  refine Ru.op (q := (.aload_n 1, 1)) (by decide +kernel) rfl ?_
  refine Ru.op (q := (.aload_n 3, 1)) (by decide +kernel) rfl ?_
  refine Ru.call (q := (.invokestatic 87, 3)) (by decide +kernel) rfl rfl rfl rfl ⟨Nat.le_of_ble_eq_true rfl, Nat.le_of_ble_eq_true rfl, Nat.le_of_ble_eq_true rfl, Nat.le_of_ble_eq_true rfl⟩ (p1_step_0) ?_
  refine Ru.op (q := (.istore 5, 2)) (by decide +kernel) rfl ?_
  refine Ru.op (q := (.aload_n 2, 1)) (by decide +kernel) rfl ?_
  refine Ru.call (q := (.invokevirtual 90, 3)) (by decide +kernel) rfl rfl rfl rfl ⟨Nat.le_of_ble_eq_true rfl, Nat.le_of_ble_eq_true rfl, Nat.le_of_ble_eq_true rfl, Nat.le_of_ble_eq_true rfl⟩ (p1_step_1) ?_
  refine Ru.op (q := (.istore 6, 2)) (by decide +kernel) rfl ?_
  refine Ru.op (q := (.aload_n 2, 1)) (by decide +kernel) rfl ?_
  refine Ru.call (q := (.invokevirtual 68, 3)) (by decide +kernel) rfl rfl rfl rfl ⟨Nat.le_of_ble_eq_true rfl, Nat.le_of_ble_eq_true rfl, Nat.le_of_ble_eq_true rfl, Nat.le_of_ble_eq_true rfl⟩ (p1_step_2) ?_
  refine Ru.op (q := (.iload 5, 2)) (by decide +kernel) rfl ?_
  refine Ru.br2 (k := .eq) (off := 5) (bb := true) (tg := 331) (by decide +kernel) (by decide +kernel) (by decide +kernel) (by decide +kernel) ?_
  refine Ru.op (q := (.iload 5, 2)) (by decide +kernel) rfl ?_
  refine Ru.br (k := .ne) (off := 15) (bb := true) (tg := 348) (by decide +kernel) (by decide +kernel) (by decide +kernel) (by decide +kernel) ?_
  refine Ru.op (q := (.goto 503, 3)) (by decide +kernel) rfl ?_
  exact p1_tail rfl
set_option maxRecDepth 100000 in
theorem p1_proof_0 : Ru none 2047 83980 14 (0, mn_pad (mn_ent [.ref 0]) 1, [], 20574, fh_0) ((0, some (.int (-1))), 20574, fh_0) := Ru.of 12 (by decide +kernel)
set_option maxRecDepth 100000 in
theorem p1_proof_1 : Ru none 2047 83978 156 (0, mn_pad (mn_ent [.ref 36]) 3, [], 20574, fh_0) ((0, some (.int (-1))), 20574, fh_0) := Ru.of 10 (by decide +kernel)
set_option maxRecDepth 100000 in
set_option maxHeartbeats 4000000 in
theorem p1_proof {s0 s1 s2 s3 s4 : Int32} : Ru (some [s0, s1, s2, s3, s4]) 2048 84000 172 (690, [some (.retAddr 0), some (.ref 0), some (.ref 36), some (.ref 71), some (.int 0), none, none], [], 20574, fh_0) ((0, some (.int 1)), 20574, fh_0) := by
  refine Ru.op (q := (.aload_n 1, 1)) (by decide +kernel) rfl ?_
  refine Ru.call (q := (.invokevirtual 109, 3)) (by decide +kernel) rfl rfl rfl rfl ⟨Nat.le_of_ble_eq_true rfl, Nat.le_of_ble_eq_true rfl, Nat.le_of_ble_eq_true rfl, Nat.le_of_ble_eq_true rfl⟩ (p1_proof_0) ?_
  refine Ru.op (q := (.aload_n 2, 1)) (by decide +kernel) rfl ?_
  refine Ru.call (q := (.invokevirtual 112, 3)) (by decide +kernel) rfl rfl rfl rfl ⟨Nat.le_of_ble_eq_true rfl, Nat.le_of_ble_eq_true rfl, Nat.le_of_ble_eq_true rfl, Nat.le_of_ble_eq_true rfl⟩ (p1_proof_1) ?_
  refine Ru.br2 (k := .eq) (off := 153) (bb := true) (tg := 851) (by decide +kernel) (by decide +kernel) (by decide +kernel) (by decide +kernel) ?_
  exact p1_tail rfl
def fh_asm0_1 : mn_H := [(0, [.ref 1, .ref 13, .ref 28, .ref 30, .ref 35, .int 0, .int 0]), (1, [.ref 2, .int 0, .ref 3, .int 0, .int 0, .int 0, .ref 10, .ref 11, .int 0, .int 0, .int 0, .ref 12, .int 0]), (52, List.replicate 160 (.int 0)), (2, [.ref 4, .ref 5, .ref 6, .ref 7, .ref 8, .int 0, .ref 9, .int 0]), (50, List.replicate 160 (.int 0)), (50, List.replicate 160 (.int 0)), (50, List.replicate 160 (.int 0)), (50, List.replicate 160 (.int 0)), (50, List.replicate 160 (.int 0)), (50, List.replicate 1280 (.int 0)), (50, List.replicate 10 (.int 0)), (50, List.replicate 10 (.int 0)), (50, List.replicate 16 (.int 0)), (3, [.ref 14, .int 0, .int 0, .int 0, .int 0, .int 0, .int 0, .int (-1), .int 0, .ref 15, .ref 20, .ref 23, .ref 27]), (55, List.replicate 100 (.null)), (4, [.ref 16, .ref 19, .int 0, .int 0]), (5, [.ref 17, .ref 18, .int 0, .int 0]), (50, List.replicate 80 (.int 0)), (50, [.int 0, .int 0, .int 0, .int 0, .int 0]), (50, List.replicate 128 (.int 0)), (6, [.ref 21, .ref 22]), (50, List.replicate 32 (.int 0)), (50, List.replicate 32 (.int 0)), (7, [.ref 24, .ref 25, .ref 26]), (50, List.replicate 64 (.int 0)), (50, List.replicate 64 (.int 0)), (50, [.int 0, .int 0, .int 0, .int 0]), (51, List.replicate 100 (.int 0)), (8, [.ref 29, .int 0]), (52, List.replicate 128 (.int 0)), (4, [.ref 31, .ref 34, .int 0, .int 0]), (5, [.ref 32, .ref 33, .int 0, .int 0]), (50, List.replicate 80 (.int 0)), (50, [.int 0, .int 0, .int 0, .int 0, .int 0]), (50, List.replicate 128 (.int 0)), (54, List.replicate 24 (.null)), (10, [.int 0, .int (-1), .int 0, .ref 37, .ref 38, .ref 39, .ref 40, .ref 41, .ref 42, .int 0, .int 0, .ref 43, .ref 44, .ref 45, .int (-1), .int 0, .int 0, .int 0, .int 0, .int 0, .int 0, .ref 46, .int 0, .ref 47, .int 0, .ref 48, .ref 49, .int 0, .int 0, .int 0, .int 0, .ref 50, .ref 51, .ref 52, .int 0, .int 0, .int 0, .ref 53, .ref 54, .ref 55, .ref 56, .ref 57, .int 0, .int 0, .ref 58, .ref 59, .int 0, .ref 60, .ref 61, .ref 62, .ref 63, .ref 64, .ref 65, .ref 66, .ref 67, .ref 68, .int 0, .ref 69, .ref 70]), (50, List.replicate 160 (.int 0)), (50, List.replicate 8032 (.int 0)), (50, List.replicate 504 (.int 0)), (51, List.replicate 504 (.int 0)), (50, List.replicate 125 (.int 0)), (50, List.replicate 125 (.int 0)), (50, List.replicate 100 (.int 0)), (50, List.replicate 100 (.int 0)), (50, List.replicate 400 (.int 0)), (50, List.replicate 1024 (.int 0)), (50, List.replicate 128 (.int 0)), (50, List.replicate 100 (.int 0)), (51, List.replicate 100 (.int 0)), (50, List.replicate 50 (.int 0)), (50, List.replicate 50 (.int 0)), (51, List.replicate 50 (.int 0)), (50, List.replicate 16 (.int 0)), (50, List.replicate 10 (.int 0)), (51, List.replicate 10 (.int 0)), (51, List.replicate 10 (.int 0)), (50, List.replicate 10 (.int 0)), (50, List.replicate 300 (.int 0)), (50, List.replicate 2400 (.int 0)), (50, List.replicate 100 (.int 0)), (51, List.replicate 100 (.int 0)), (50, List.replicate 64 (.int 0)), (50, List.replicate 64 (.int 0)), (50, List.replicate 128 (.int 0)), (50, List.replicate 640 (.int 0)), (50, List.replicate 640 (.int 0)), (50, List.replicate 640 (.int 0)), (50, List.replicate 16 (.int 0)), (50, List.replicate 400 (.int 0)), (51, List.replicate 100 (.int 0)), (53, [.long 0]), (99, [])]
set_option maxRecDepth 100000 in
theorem p1_asm0_0 : Ru none 2047 83977 163 (0, mn_pad (mn_ent [.ref 0, .int 0, .ref 71]) 4, [], 20574, fh_0) ((0, some (.int 1)), 20580, fh_asm0_1) := Ru.of 93 (by decide +kernel)
def fh_asm0_2 : mn_H := [(0, [.ref 1, .ref 13, .ref 28, .ref 30, .ref 35, .int 0, .int 0]), (1, [.ref 2, .int 0, .ref 3, .int 0, .int 0, .int 0, .ref 10, .ref 11, .int 0, .int 0, .int 0, .ref 12, .int 0]), (52, List.replicate 160 (.int 0)), (2, [.ref 4, .ref 5, .ref 6, .ref 7, .ref 8, .int 0, .ref 9, .int 0]), (50, List.replicate 160 (.int 0)), (50, List.replicate 160 (.int 0)), (50, List.replicate 160 (.int 0)), (50, List.replicate 160 (.int 0)), (50, List.replicate 160 (.int 0)), (50, List.replicate 1280 (.int 0)), (50, List.replicate 10 (.int 0)), (50, List.replicate 10 (.int 0)), (50, List.replicate 16 (.int 0)), (3, [.ref 14, .int 0, .int 0, .int 0, .int 0, .int 0, .int 0, .int (-1), .int 0, .ref 15, .ref 20, .ref 23, .ref 27]), (55, List.replicate 100 (.null)), (4, [.ref 16, .ref 19, .int 0, .int 0]), (5, [.ref 17, .ref 18, .int 0, .int 0]), (50, List.replicate 80 (.int 0)), (50, [.int 0, .int 0, .int 0, .int 0, .int 0]), (50, List.replicate 128 (.int 0)), (6, [.ref 21, .ref 22]), (50, List.replicate 32 (.int 0)), (50, List.replicate 32 (.int 0)), (7, [.ref 24, .ref 25, .ref 26]), (50, List.replicate 64 (.int 0)), (50, List.replicate 64 (.int 0)), (50, [.int 0, .int 0, .int 0, .int 0]), (51, List.replicate 100 (.int 0)), (8, [.ref 29, .int 0]), (52, List.replicate 128 (.int 0)), (4, [.ref 31, .ref 34, .int 0, .int 0]), (5, [.ref 32, .ref 33, .int 0, .int 0]), (50, List.replicate 80 (.int 0)), (50, [.int 0, .int 0, .int 0, .int 0, .int 0]), (50, List.replicate 128 (.int 0)), (54, List.replicate 24 (.null)), (10, [.int 1, .int 0, .int 0, .ref 37, .ref 38, .ref 39, .ref 40, .ref 41, .ref 42, .int 0, .int 0, .ref 43, .ref 44, .ref 45, .int (-1), .int 0, .int 0, .int 0, .int 0, .int 0, .int 0, .ref 46, .int 0, .ref 47, .int 0, .ref 48, .ref 49, .int 0, .int 1, .int 0, .int 0, .ref 50, .ref 51, .ref 52, .int 0, .int 0, .int 0, .ref 53, .ref 54, .ref 55, .ref 56, .ref 57, .int 0, .int 0, .ref 58, .ref 59, .int 0, .ref 60, .ref 61, .ref 62, .ref 63, .ref 64, .ref 65, .ref 66, .ref 67, .ref 68, .int 0, .ref 69, .ref 70]), (50, List.replicate 160 (.int 0)), (50, List.replicate 8032 (.int 0)), (50, List.replicate 504 (.int 0)), (51, List.replicate 504 (.int 0)), (50, List.replicate 125 (.int 0)), (50, List.replicate 125 (.int 0)), (50, List.replicate 100 (.int 0)), (50, List.replicate 100 (.int 0)), (50, List.replicate 400 (.int 0)), (50, List.replicate 1024 (.int 0)), (50, List.replicate 128 (.int (-1))), (50, List.replicate 100 (.int 0)), (51, List.replicate 100 (.int 0)), (50, List.replicate 50 (.int 0)), (50, List.replicate 50 (.int 0)), (51, List.replicate 50 (.int 0)), (50, List.replicate 16 (.int 0)), (50, List.replicate 10 (.int 0)), (51, List.replicate 10 (.int 0)), (51, List.replicate 10 (.int 0)), (50, List.replicate 10 (.int 0)), (50, List.replicate 300 (.int 0)), (50, List.replicate 2400 (.int 0)), (50, List.replicate 100 (.int 0)), (51, List.replicate 100 (.int 0)), (50, List.replicate 64 (.int 0)), (50, List.replicate 64 (.int 0)), (50, List.replicate 128 (.int 0)), (50, List.replicate 640 (.int 0)), (50, List.replicate 640 (.int 0)), (50, List.replicate 640 (.int 0)), (50, List.replicate 16 (.int 0)), (50, List.replicate 400 (.int 0)), (51, List.replicate 100 (.int 0)), (53, [.long 0]), (99, [])]
set_option maxRecDepth 100000 in
theorem p1_asm0_1 : Ru none 2047 83975 98 (0, mn_pad (mn_ent [.ref 36, .int 0]) 6, [], 20580, fh_asm0_1) ((0, some (.int 0)), 20580, fh_asm0_2) := Ru.of 1416 (by decide +kernel)
set_option maxRecDepth 100000 in
theorem p1_asm0_2 : Ru none 2047 83980 94 (0, mn_pad (mn_ent [.ref 36]) 1, [], 20580, fh_asm0_2) ((0, some (.int 1)), 20580, fh_asm0_2) := Ru.of 5 (by decide +kernel)
set_option maxRecDepth 100000 in
set_option maxHeartbeats 4000000 in
theorem p1_asm0 {s0 s1 s2 s3 s4 : Int32} (g0 : mn_cmp .eq s1 0 = true) : Ru (some [s0, s1, s2, s3, s4]) 2048 84000 172 (209, [some (.retAddr 0), some (.ref 0), some (.ref 36), some (.ref 71), some (.int 0), none, none], [], 20574, fh_0) ((0, some (.int 1)), 20580, fh_asm0_2) := by
  refine Ru.op (q := (.aload_n 1, 1)) (by decide +kernel) rfl ?_
  refine Ru.op (q := (.aload_n 0, 1)) (by decide +kernel) rfl ?_
  refine Ru.op (q := (.iload 4, 2)) (by decide +kernel) rfl ?_
  refine Ru.op (q := (.iconst 1, 1)) (by decide +kernel) rfl ?_
  refine Ru.op (q := (.iadd, 1)) (by decide +kernel) rfl ?_
  refine Ru.sld (L := 5) (k := 1) (v := s1) rfl rfl (by decide +kernel) (by decide +kernel) (by decide +kernel) rfl ?_
  refine Ru.br (k := .eq) (off := 7) (bb := true) (tg := 223) (by decide +kernel) (by decide +kernel) g0 (by decide +kernel) ?_
  refine Ru.op (q := (.iconst 0, 1)) (by decide +kernel) rfl ?_
  refine Ru.op (q := (.aload_n 3, 1)) (by decide +kernel) rfl ?_
  refine Ru.call (q := (.invokestatic 75, 3)) (by decide +kernel) rfl rfl rfl rfl ⟨Nat.le_of_ble_eq_true rfl, Nat.le_of_ble_eq_true rfl, Nat.le_of_ble_eq_true rfl, Nat.le_of_ble_eq_true rfl⟩ (p1_asm0_0) ?_
  refine Ru.op (q := (.istore 5, 2)) (by decide +kernel) rfl ?_
  refine Ru.op (q := (.aload_n 2, 1)) (by decide +kernel) rfl ?_
  refine Ru.op (q := (.aload_n 0, 1)) (by decide +kernel) rfl ?_
  refine Ru.op (q := (.iload 4, 2)) (by decide +kernel) rfl ?_
  refine Ru.op (q := (.iconst 1, 1)) (by decide +kernel) rfl ?_
  refine Ru.op (q := (.iadd, 1)) (by decide +kernel) rfl ?_
  refine Ru.sld (L := 5) (k := 1) (v := s1) rfl rfl (by decide +kernel) (by decide +kernel) (by decide +kernel) rfl ?_
  refine Ru.br (k := .eq) (off := 7) (bb := true) (tg := 244) (by decide +kernel) (by decide +kernel) g0 (by decide +kernel) ?_
  refine Ru.op (q := (.iconst 0, 1)) (by decide +kernel) rfl ?_
  refine Ru.call (q := (.invokevirtual 78, 3)) (by decide +kernel) rfl rfl rfl rfl ⟨Nat.le_of_ble_eq_true rfl, Nat.le_of_ble_eq_true rfl, Nat.le_of_ble_eq_true rfl, Nat.le_of_ble_eq_true rfl⟩ (p1_asm0_1) ?_
  refine Ru.op (q := (.istore 6, 2)) (by decide +kernel) rfl ?_
  refine Ru.op (q := (.aload_n 2, 1)) (by decide +kernel) rfl ?_
  refine Ru.call (q := (.invokevirtual 68, 3)) (by decide +kernel) rfl rfl rfl rfl ⟨Nat.le_of_ble_eq_true rfl, Nat.le_of_ble_eq_true rfl, Nat.le_of_ble_eq_true rfl, Nat.le_of_ble_eq_true rfl⟩ (p1_asm0_2) ?_
  refine Ru.op (q := (.iload 5, 2)) (by decide +kernel) rfl ?_
  refine Ru.br2 (k := .eq) (off := 5) (bb := true) (tg := 261) (by decide +kernel) (by decide +kernel) (by decide +kernel) (by decide +kernel) ?_
  refine Ru.op (q := (.iload 5, 2)) (by decide +kernel) rfl ?_
  refine Ru.br (k := .ne) (off := 15) (bb := true) (tg := 278) (by decide +kernel) (by decide +kernel) (by decide +kernel) (by decide +kernel) ?_
  refine Ru.op (q := (.goto 573, 3)) (by decide +kernel) rfl ?_
  exact p1_tail rfl
end
section
def fh_asm1_1 : mn_H := [(0, [.ref 1, .ref 13, .ref 28, .ref 30, .ref 35, .int 0, .int 0]), (1, [.ref 2, .int 0, .ref 3, .int 0, .int 0, .int 0, .ref 10, .ref 11, .int 0, .int 0, .int 0, .ref 12, .int 0]), (52, List.replicate 160 (.int 0)), (2, [.ref 4, .ref 5, .ref 6, .ref 7, .ref 8, .int 0, .ref 9, .int 0]), (50, List.replicate 160 (.int 0)), (50, List.replicate 160 (.int 0)), (50, List.replicate 160 (.int 0)), (50, List.replicate 160 (.int 0)), (50, List.replicate 160 (.int 0)), (50, List.replicate 1280 (.int 0)), (50, List.replicate 10 (.int 0)), (50, List.replicate 10 (.int 0)), (50, List.replicate 16 (.int 0)), (3, [.ref 14, .int 0, .int 0, .int 0, .int 0, .int 0, .int 0, .int (-1), .int 0, .ref 15, .ref 20, .ref 23, .ref 27]), (55, List.replicate 100 (.null)), (4, [.ref 16, .ref 19, .int 0, .int 0]), (5, [.ref 17, .ref 18, .int 0, .int 0]), (50, List.replicate 80 (.int 0)), (50, [.int 0, .int 0, .int 0, .int 0, .int 0]), (50, List.replicate 128 (.int 0)), (6, [.ref 21, .ref 22]), (50, List.replicate 32 (.int 0)), (50, List.replicate 32 (.int 0)), (7, [.ref 24, .ref 25, .ref 26]), (50, List.replicate 64 (.int 0)), (50, List.replicate 64 (.int 0)), (50, [.int 0, .int 0, .int 0, .int 0]), (51, List.replicate 100 (.int 0)), (8, [.ref 29, .int 0]), (52, List.replicate 128 (.int 0)), (4, [.ref 31, .ref 34, .int 0, .int 0]), (5, [.ref 32, .ref 33, .int 0, .int 0]), (50, List.replicate 80 (.int 0)), (50, [.int 0, .int 0, .int 0, .int 0, .int 0]), (50, List.replicate 128 (.int 0)), (54, List.replicate 24 (.null)), (10, [.int 0, .int (-1), .int 0, .ref 37, .ref 38, .ref 39, .ref 40, .ref 41, .ref 42, .int 0, .int 0, .ref 43, .ref 44, .ref 45, .int (-1), .int 0, .int 0, .int 0, .int 0, .int 0, .int 0, .ref 46, .int 0, .ref 47, .int 0, .ref 48, .ref 49, .int 0, .int 0, .int 0, .int 0, .ref 50, .ref 51, .ref 52, .int 0, .int 0, .int 0, .ref 53, .ref 54, .ref 55, .ref 56, .ref 57, .int 0, .int 0, .ref 58, .ref 59, .int 0, .ref 60, .ref 61, .ref 62, .ref 63, .ref 64, .ref 65, .ref 66, .ref 67, .ref 68, .int 0, .ref 69, .ref 70]), (50, List.replicate 160 (.int 0)), (50, List.replicate 8032 (.int 0)), (50, List.replicate 504 (.int 0)), (51, List.replicate 504 (.int 0)), (50, List.replicate 125 (.int 0)), (50, List.replicate 125 (.int 0)), (50, List.replicate 100 (.int 0)), (50, List.replicate 100 (.int 0)), (50, List.replicate 400 (.int 0)), (50, List.replicate 1024 (.int 0)), (50, List.replicate 128 (.int 0)), (50, List.replicate 100 (.int 0)), (51, List.replicate 100 (.int 0)), (50, List.replicate 50 (.int 0)), (50, List.replicate 50 (.int 0)), (51, List.replicate 50 (.int 0)), (50, List.replicate 16 (.int 0)), (50, List.replicate 10 (.int 0)), (51, List.replicate 10 (.int 0)), (51, List.replicate 10 (.int 0)), (50, List.replicate 10 (.int 0)), (50, List.replicate 300 (.int 0)), (50, List.replicate 2400 (.int 0)), (50, List.replicate 100 (.int 0)), (51, List.replicate 100 (.int 0)), (50, List.replicate 64 (.int 0)), (50, List.replicate 64 (.int 0)), (50, List.replicate 128 (.int 0)), (50, List.replicate 640 (.int 0)), (50, List.replicate 640 (.int 0)), (50, List.replicate 640 (.int 0)), (50, List.replicate 16 (.int 0)), (50, List.replicate 400 (.int 0)), (51, List.replicate 100 (.int 0)), (53, [.long 0]), (99, [])]
set_option maxRecDepth 100000 in
theorem p1_asm1_0 : Ru none 2047 83977 163 (0, mn_pad (mn_ent [.ref 0, .int 1, .ref 71]) 4, [], 20574, fh_0) ((0, some (.int 1)), 20580, fh_asm1_1) := Ru.of 93 (by decide +kernel)
def fh_asm1_2 : mn_H := [(0, [.ref 1, .ref 13, .ref 28, .ref 30, .ref 35, .int 0, .int 0]), (1, [.ref 2, .int 0, .ref 3, .int 0, .int 0, .int 0, .ref 10, .ref 11, .int 0, .int 0, .int 0, .ref 12, .int 0]), (52, List.replicate 160 (.int 0)), (2, [.ref 4, .ref 5, .ref 6, .ref 7, .ref 8, .int 0, .ref 9, .int 0]), (50, List.replicate 160 (.int 0)), (50, List.replicate 160 (.int 0)), (50, List.replicate 160 (.int 0)), (50, List.replicate 160 (.int 0)), (50, List.replicate 160 (.int 0)), (50, List.replicate 1280 (.int 0)), (50, List.replicate 10 (.int 0)), (50, List.replicate 10 (.int 0)), (50, List.replicate 16 (.int 0)), (3, [.ref 14, .int 0, .int 0, .int 0, .int 0, .int 0, .int 0, .int (-1), .int 0, .ref 15, .ref 20, .ref 23, .ref 27]), (55, List.replicate 100 (.null)), (4, [.ref 16, .ref 19, .int 0, .int 0]), (5, [.ref 17, .ref 18, .int 0, .int 0]), (50, List.replicate 80 (.int 0)), (50, [.int 0, .int 0, .int 0, .int 0, .int 0]), (50, List.replicate 128 (.int 0)), (6, [.ref 21, .ref 22]), (50, List.replicate 32 (.int 0)), (50, List.replicate 32 (.int 0)), (7, [.ref 24, .ref 25, .ref 26]), (50, List.replicate 64 (.int 0)), (50, List.replicate 64 (.int 0)), (50, [.int 0, .int 0, .int 0, .int 0]), (51, List.replicate 100 (.int 0)), (8, [.ref 29, .int 0]), (52, List.replicate 128 (.int 0)), (4, [.ref 31, .ref 34, .int 0, .int 0]), (5, [.ref 32, .ref 33, .int 0, .int 0]), (50, List.replicate 80 (.int 0)), (50, [.int 0, .int 0, .int 0, .int 0, .int 0]), (50, List.replicate 128 (.int 0)), (54, List.replicate 24 (.null)), (10, [.int 1, .int 0, .int 0, .ref 37, .ref 38, .ref 39, .ref 40, .ref 41, .ref 42, .int 0, .int 0, .ref 43, .ref 44, .ref 45, .int (-1), .int 0, .int 0, .int 0, .int 0, .int 0, .int 0, .ref 46, .int 0, .ref 47, .int 0, .ref 48, .ref 49, .int 0, .int 1, .int 0, .int 0, .ref 50, .ref 51, .ref 52, .int 0, .int 0, .int 0, .ref 53, .ref 54, .ref 55, .ref 56, .ref 57, .int 0, .int 0, .ref 58, .ref 59, .int 0, .ref 60, .ref 61, .ref 62, .ref 63, .ref 64, .ref 65, .ref 66, .ref 67, .ref 68, .int 0, .ref 69, .ref 70]), (50, List.replicate 160 (.int 0)), (50, List.replicate 8032 (.int 0)), (50, List.replicate 504 (.int 0)), (51, List.replicate 504 (.int 0)), (50, List.replicate 125 (.int 0)), (50, List.replicate 125 (.int 0)), (50, List.replicate 100 (.int 0)), (50, List.replicate 100 (.int 0)), (50, List.replicate 400 (.int 0)), (50, List.replicate 1024 (.int 0)), (50, List.replicate 128 (.int (-1))), (50, List.replicate 100 (.int 0)), (51, List.replicate 100 (.int 0)), (50, List.replicate 50 (.int 0)), (50, List.replicate 50 (.int 0)), (51, List.replicate 50 (.int 0)), (50, List.replicate 16 (.int 0)), (50, List.replicate 10 (.int 0)), (51, List.replicate 10 (.int 0)), (51, List.replicate 10 (.int 0)), (50, List.replicate 10 (.int 0)), (50, List.replicate 300 (.int 0)), (50, List.replicate 2400 (.int 0)), (50, List.replicate 100 (.int 0)), (51, List.replicate 100 (.int 0)), (50, List.replicate 64 (.int 0)), (50, List.replicate 64 (.int 0)), (50, List.replicate 128 (.int 0)), (50, List.replicate 640 (.int 0)), (50, List.replicate 640 (.int 0)), (50, List.replicate 640 (.int 0)), (50, List.replicate 16 (.int 0)), (50, List.replicate 400 (.int 0)), (51, List.replicate 100 (.int 0)), (53, [.long 0]), (99, [])]
set_option maxRecDepth 100000 in
theorem p1_asm1_1 : Ru none 2047 83975 98 (0, mn_pad (mn_ent [.ref 36, .int 1]) 6, [], 20580, fh_asm1_1) ((0, some (.int 0)), 20580, fh_asm1_2) := Ru.of 1416 (by decide +kernel)
set_option maxRecDepth 100000 in
theorem p1_asm1_2 : Ru none 2047 83980 94 (0, mn_pad (mn_ent [.ref 36]) 1, [], 20580, fh_asm1_2) ((0, some (.int 1)), 20580, fh_asm1_2) := Ru.of 5 (by decide +kernel)
set_option maxRecDepth 100000 in
set_option maxHeartbeats 4000000 in
theorem p1_asm1 {s0 s1 s2 s3 s4 : Int32} (g0 : mn_cmp .eq s1 0 = false) : Ru (some [s0, s1, s2, s3, s4]) 2048 84000 172 (209, [some (.retAddr 0), some (.ref 0), some (.ref 36), some (.ref 71), some (.int 0), none, none], [], 20574, fh_0) ((0, some (.int 1)), 20580, fh_asm1_2) := by
  refine Ru.op (q := (.aload_n 1, 1)) (by decide +kernel) rfl ?_
  refine Ru.op (q := (.aload_n 0, 1)) (by decide +kernel) rfl ?_
  refine Ru.op (q := (.iload 4, 2)) (by decide +kernel) rfl ?_
  refine Ru.op (q := (.iconst 1, 1)) (by decide +kernel) rfl ?_
  refine Ru.op (q := (.iadd, 1)) (by decide +kernel) rfl ?_
  refine Ru.sld (L := 5) (k := 1) (v := s1) rfl rfl (by decide +kernel) (by decide +kernel) (by decide +kernel) rfl ?_
  refine Ru.br (k := .eq) (off := 7) (bb := false) (tg := 219) (by decide +kernel) (by decide +kernel) g0 (by decide +kernel) ?_
  refine Ru.op (q := (.iconst 1, 1)) (by decide +kernel) rfl ?_
  refine Ru.op (q := (.goto 4, 3)) (by decide +kernel) rfl ?_
  refine Ru.op (q := (.aload_n 3, 1)) (by decide +kernel) rfl ?_
  refine Ru.call (q := (.invokestatic 75, 3)) (by decide +kernel) rfl rfl rfl rfl ⟨Nat.le_of_ble_eq_true rfl, Nat.le_of_ble_eq_true rfl, Nat.le_of_ble_eq_true rfl, Nat.le_of_ble_eq_true rfl⟩ (p1_asm1_0) ?_
  refine Ru.op (q := (.istore 5, 2)) (by decide +kernel) rfl ?_
  refine Ru.op (q := (.aload_n 2, 1)) (by decide +kernel) rfl ?_
  refine Ru.op (q := (.aload_n 0, 1)) (by decide +kernel) rfl ?_
  refine Ru.op (q := (.iload 4, 2)) (by decide +kernel) rfl ?_
  refine Ru.op (q := (.iconst 1, 1)) (by decide +kernel) rfl ?_
  refine Ru.op (q := (.iadd, 1)) (by decide +kernel) rfl ?_
  refine Ru.sld (L := 5) (k := 1) (v := s1) rfl rfl (by decide +kernel) (by decide +kernel) (by decide +kernel) rfl ?_
  refine Ru.br (k := .eq) (off := 7) (bb := false) (tg := 240) (by decide +kernel) (by decide +kernel) g0 (by decide +kernel) ?_
  refine Ru.op (q := (.iconst 1, 1)) (by decide +kernel) rfl ?_
  refine Ru.op (q := (.goto 4, 3)) (by decide +kernel) rfl ?_
  refine Ru.call (q := (.invokevirtual 78, 3)) (by decide +kernel) rfl rfl rfl rfl ⟨Nat.le_of_ble_eq_true rfl, Nat.le_of_ble_eq_true rfl, Nat.le_of_ble_eq_true rfl, Nat.le_of_ble_eq_true rfl⟩ (p1_asm1_1) ?_
  refine Ru.op (q := (.istore 6, 2)) (by decide +kernel) rfl ?_
  refine Ru.op (q := (.aload_n 2, 1)) (by decide +kernel) rfl ?_
  refine Ru.call (q := (.invokevirtual 68, 3)) (by decide +kernel) rfl rfl rfl rfl ⟨Nat.le_of_ble_eq_true rfl, Nat.le_of_ble_eq_true rfl, Nat.le_of_ble_eq_true rfl, Nat.le_of_ble_eq_true rfl⟩ (p1_asm1_2) ?_
  refine Ru.op (q := (.iload 5, 2)) (by decide +kernel) rfl ?_
  refine Ru.br2 (k := .eq) (off := 5) (bb := true) (tg := 261) (by decide +kernel) (by decide +kernel) (by decide +kernel) (by decide +kernel) ?_
  refine Ru.op (q := (.iload 5, 2)) (by decide +kernel) rfl ?_
  refine Ru.br (k := .ne) (off := 15) (bb := true) (tg := 278) (by decide +kernel) (by decide +kernel) (by decide +kernel) (by decide +kernel) ?_
  refine Ru.op (q := (.goto 573, 3)) (by decide +kernel) rfl ?_
  exact p1_tail rfl
def fh_run0_1 : mn_H := [(0, [.ref 1, .ref 13, .ref 28, .ref 30, .ref 35, .int 0, .int (-1)]), (1, [.ref 2, .int 0, .ref 3, .int 0, .int 0, .int 0, .ref 10, .ref 11, .int 0, .int 0, .int 0, .ref 12, .int 0]), (52, List.replicate 160 (.int 0)), (2, [.ref 4, .ref 5, .ref 6, .ref 7, .ref 8, .int 0, .ref 9, .int 0]), (50, List.replicate 160 (.int 0)), (50, List.replicate 160 (.int 0)), (50, List.replicate 160 (.int 0)), (50, List.replicate 160 (.int 0)), (50, List.replicate 160 (.int 0)), (50, List.replicate 1280 (.int 0)), (50, List.replicate 10 (.int 0)), (50, List.replicate 10 (.int 0)), (50, List.replicate 16 (.int 0)), (3, [.ref 14, .int 0, .int 0, .int 0, .int 0, .int 0, .int 0, .int (-1), .int 0, .ref 15, .ref 20, .ref 23, .ref 27]), (55, List.replicate 100 (.null)), (4, [.ref 16, .ref 19, .int 0, .int 0]), (5, [.ref 17, .ref 18, .int 0, .int 0]), (50, List.replicate 80 (.int 0)), (50, [.int 0, .int 0, .int 0, .int 0, .int 0]), (50, List.replicate 128 (.int 0)), (6, [.ref 21, .ref 22]), (50, List.replicate 32 (.int 0)), (50, List.replicate 32 (.int 0)), (7, [.ref 24, .ref 25, .ref 26]), (50, List.replicate 64 (.int 0)), (50, List.replicate 64 (.int 0)), (50, [.int 0, .int 0, .int 0, .int 0]), (51, List.replicate 100 (.int 0)), (8, [.ref 29, .int 0]), (52, List.replicate 128 (.int 0)), (4, [.ref 31, .ref 34, .int 0, .int 0]), (5, [.ref 32, .ref 33, .int 0, .int 0]), (50, List.replicate 80 (.int 0)), (50, [.int 0, .int 0, .int 0, .int 0, .int 0]), (50, List.replicate 128 (.int 0)), (54, List.replicate 24 (.null)), (10, [.int 0, .int (-1), .int 0, .ref 37, .ref 38, .ref 39, .ref 40, .ref 41, .ref 42, .int 0, .int 0, .ref 43, .ref 44, .ref 45, .int (-1), .int 0, .int 0, .int 0, .int 0, .int 0, .int 0, .ref 46, .int 0, .ref 47, .int 0, .ref 48, .ref 49, .int 0, .int 0, .int 0, .int 0, .ref 50, .ref 51, .ref 52, .int 0, .int 0, .int 0, .ref 53, .ref 54, .ref 55, .ref 56, .ref 57, .int 0, .int 0, .ref 58, .ref 59, .int 0, .ref 60, .ref 61, .ref 62, .ref 63, .ref 64, .ref 65, .ref 66, .ref 67, .ref 68, .int 0, .ref 69, .ref 70]), (50, List.replicate 160 (.int 0)), (50, List.replicate 8032 (.int 0)), (50, List.replicate 504 (.int 0)), (51, List.replicate 504 (.int 0)), (50, List.replicate 125 (.int 0)), (50, List.replicate 125 (.int 0)), (50, List.replicate 100 (.int 0)), (50, List.replicate 100 (.int 0)), (50, List.replicate 400 (.int 0)), (50, List.replicate 1024 (.int 0)), (50, List.replicate 128 (.int 0)), (50, List.replicate 100 (.int 0)), (51, List.replicate 100 (.int 0)), (50, List.replicate 50 (.int 0)), (50, List.replicate 50 (.int 0)), (51, List.replicate 50 (.int 0)), (50, List.replicate 16 (.int 0)), (50, List.replicate 10 (.int 0)), (51, List.replicate 10 (.int 0)), (51, List.replicate 10 (.int 0)), (50, List.replicate 10 (.int 0)), (50, List.replicate 300 (.int 0)), (50, List.replicate 2400 (.int 0)), (50, List.replicate 100 (.int 0)), (51, List.replicate 100 (.int 0)), (50, List.replicate 64 (.int 0)), (50, List.replicate 64 (.int 0)), (50, List.replicate 128 (.int 0)), (50, List.replicate 640 (.int 0)), (50, List.replicate 640 (.int 0)), (50, List.replicate 640 (.int 0)), (50, List.replicate 16 (.int 0)), (50, List.replicate 400 (.int 0)), (51, List.replicate 100 (.int 0)), (53, [.long 0]), (99, [])]
set_option maxRecDepth 100000 in
set_option maxHeartbeats 4000000 in
theorem p1_run0_0 (s1 s2 s3 s4 : Int32) (g0 : mn_cmp .lt s1 0 = true) : Ru none 2046 83955 76 (0, mn_pad (mn_ent [.ref 0, .int s1]) 3, [], 20574, fh_0) ((1, none), 20580, fh_run0_1) := by
  refine Ru.op (q := (.iload_n 1, 1)) (by decide +kernel) rfl ?_
  refine Ru.br (k := .lt) (off := 9) (bb := true) (tg := 10) (by decide +kernel) (by decide +kernel) g0 (by decide +kernel) ?_
  exact Ru.thr (q := (.new 51, 3)) (by decide +kernel) rfl rfl (by decide +kernel)
set_option maxRecDepth 100000 in
set_option maxHeartbeats 4000000 in
theorem p1_run0_1 (s1 s2 s3 s4 : Int32) (g0 : mn_cmp .lt s1 0 = true) : Ru none 2047 83977 165 (0, mn_pad (mn_ent [.ref 0, .int s1, .ref 71]) 4, [], 20574, fh_0) ((0, some (.int (Int32.ofInt 1))), 20580, fh_run0_1) := by
  refine Ru.op (q := (.aload_n 2, 1)) (by decide +kernel) rfl ?_
  refine Ru.op (q := (.iconst 0, 1)) (by decide +kernel) rfl ?_
  refine Ru.op (q := (.aload_n 0, 1)) (by decide +kernel) rfl ?_
  refine Ru.op (q := (.iload_n 1, 1)) (by decide +kernel) rfl ?_
  refine Ru.catch (i := 27) (j2 := 76) (k := 0) (hp := 12) (by decide +kernel) rfl rfl rfl rfl ⟨Nat.le_of_ble_eq_true rfl, Nat.le_of_ble_eq_true rfl, Nat.le_of_ble_eq_true rfl, Nat.le_of_ble_eq_true rfl⟩ (by decide +kernel) (p1_run0_0 s1 s2 s3 s4 g0) ?_
  refine Ru.op (q := (.astore_n 3, 1)) (by decide +kernel) rfl ?_
  refine Ru.op (q := (.iconst 1, 1)) (by decide +kernel) rfl ?_
  exact Ru.end (q := (.ireturn, 1)) (by decide +kernel) rfl rfl
def fh_run0_2 : mn_H := [(0, [.ref 1, .ref 13, .ref 28, .ref 30, .ref 35, .int 0, .int (-1)]), (1, [.ref 2, .int 0, .ref 3, .int 0, .int 0, .int 0, .ref 10, .ref 11, .int 0, .int 0, .int 0, .ref 12, .int 0]), (52, List.replicate 160 (.int 0)), (2, [.ref 4, .ref 5, .ref 6, .ref 7, .ref 8, .int 0, .ref 9, .int 0]), (50, List.replicate 160 (.int 0)), (50, List.replicate 160 (.int 0)), (50, List.replicate 160 (.int 0)), (50, List.replicate 160 (.int 0)), (50, List.replicate 160 (.int 0)), (50, List.replicate 1280 (.int 0)), (50, List.replicate 10 (.int 0)), (50, List.replicate 10 (.int 0)), (50, List.replicate 16 (.int 0)), (3, [.ref 14, .int 0, .int 0, .int 0, .int 0, .int 0, .int 0, .int (-1), .int 0, .ref 15, .ref 20, .ref 23, .ref 27]), (55, List.replicate 100 (.null)), (4, [.ref 16, .ref 19, .int 0, .int 0]), (5, [.ref 17, .ref 18, .int 0, .int 0]), (50, List.replicate 80 (.int 0)), (50, [.int 0, .int 0, .int 0, .int 0, .int 0]), (50, List.replicate 128 (.int 0)), (6, [.ref 21, .ref 22]), (50, List.replicate 32 (.int 0)), (50, List.replicate 32 (.int 0)), (7, [.ref 24, .ref 25, .ref 26]), (50, List.replicate 64 (.int 0)), (50, List.replicate 64 (.int 0)), (50, [.int 0, .int 0, .int 0, .int 0]), (51, List.replicate 100 (.int 0)), (8, [.ref 29, .int 0]), (52, List.replicate 128 (.int 0)), (4, [.ref 31, .ref 34, .int 0, .int 0]), (5, [.ref 32, .ref 33, .int 0, .int 0]), (50, List.replicate 80 (.int 0)), (50, [.int 0, .int 0, .int 0, .int 0, .int 0]), (50, List.replicate 128 (.int 0)), (54, List.replicate 24 (.null)), (10, [.int 1, .int (-1), .int 0, .ref 37, .ref 38, .ref 39, .ref 40, .ref 41, .ref 42, .int 0, .int 0, .ref 43, .ref 44, .ref 45, .int (-1), .int 0, .int 0, .int 0, .int 0, .int 0, .int 0, .ref 46, .int 0, .ref 47, .int 0, .ref 48, .ref 49, .int 0, .int 0, .int 0, .int 0, .ref 50, .ref 51, .ref 52, .int 0, .int 0, .int 0, .ref 53, .ref 54, .ref 55, .ref 56, .ref 57, .int 0, .int 0, .ref 58, .ref 59, .int 0, .ref 60, .ref 61, .ref 62, .ref 63, .ref 64, .ref 65, .ref 66, .ref 67, .ref 68, .int 0, .ref 69, .ref 70]), (50, List.replicate 160 (.int 0)), (50, List.replicate 8032 (.int 0)), (50, List.replicate 504 (.int 0)), (51, List.replicate 504 (.int 0)), (50, List.replicate 125 (.int 0)), (50, List.replicate 125 (.int 0)), (50, List.replicate 100 (.int 0)), (50, List.replicate 100 (.int 0)), (50, List.replicate 400 (.int 0)), (50, List.replicate 1024 (.int 0)), (50, List.replicate 128 (.int 0)), (50, List.replicate 100 (.int 0)), (51, List.replicate 100 (.int 0)), (50, List.replicate 50 (.int 0)), (50, List.replicate 50 (.int 0)), (51, List.replicate 50 (.int 0)), (50, List.replicate 16 (.int 0)), (50, List.replicate 10 (.int 0)), (51, List.replicate 10 (.int 0)), (51, List.replicate 10 (.int 0)), (50, List.replicate 10 (.int 0)), (50, List.replicate 300 (.int 0)), (50, List.replicate 2400 (.int 0)), (50, List.replicate 100 (.int 0)), (51, List.replicate 100 (.int 0)), (50, List.replicate 64 (.int 0)), (50, List.replicate 64 (.int 0)), (50, List.replicate 128 (.int 0)), (50, List.replicate 640 (.int 0)), (50, List.replicate 640 (.int 0)), (50, List.replicate 640 (.int 0)), (50, List.replicate 16 (.int 0)), (50, List.replicate 400 (.int 0)), (51, List.replicate 100 (.int 0)), (53, [.long 0]), (99, [])]
set_option maxRecDepth 100000 in
set_option maxHeartbeats 4000000 in
theorem p1_run0_2 (s1 s2 s3 s4 : Int32) (g0 : mn_cmp .lt s1 0 = true) : Ru none 2047 83977 147 (0, mn_pad (mn_ent [.ref 36, .int s1]) 4, [], 20580, fh_run0_1) ((0, some (.int (Int32.ofInt 0))), 20580, fh_run0_2) := by
  refine Ru.op (q := (.aload_n 0, 1)) (by decide +kernel) rfl ?_
  refine Ru.op (q := (.iload_n 1, 1)) (by decide +kernel) rfl ?_
  refine Ru.br (k := .lt) (off := 9) (bb := true) (tg := 11) (by decide +kernel) (by decide +kernel) g0 (by decide +kernel) ?_
  refine Ru.op (q := (.iconst 1, 1)) (by decide +kernel) rfl ?_
  refine Ru.op (q := (.goto 4, 3)) (by decide +kernel) rfl ?_
  refine Ru.op (q := (.putfield 120, 3)) (by decide +kernel) rfl ?_
  refine Ru.op (q := (.iconst 0, 1)) (by decide +kernel) rfl ?_
  refine Ru.op (q := (.istore_n 2, 1)) (by decide +kernel) rfl ?_
  refine Ru.op (q := (.aload_n 0, 1)) (by decide +kernel) rfl ?_
  refine Ru.op (q := (.getfield 120, 3)) (by decide +kernel) rfl ?_
  refine Ru.br (k := .ne) (off := 35) (bb := true) (tg := 60) (by decide +kernel) (by decide +kernel) (by decide +kernel) (by decide +kernel) ?_
  refine Ru.op (q := (.iload_n 2, 1)) (by decide +kernel) rfl ?_
  exact Ru.end (q := (.ireturn, 1)) (by decide +kernel) rfl rfl
set_option maxRecDepth 100000 in
theorem p1_run0_3 : Ru none 2047 83980 94 (0, mn_pad (mn_ent [.ref 36]) 1, [], 20580, fh_run0_2) ((0, some (.int 1)), 20580, fh_run0_2) := Ru.of 5 (by decide +kernel)
set_option maxRecDepth 100000 in
set_option maxHeartbeats 4000000 in
theorem p1_run0 {s0 s1 s2 s3 s4 : Int32} (g0 : mn_cmp .lt s1 0 = true) : Ru (some [s0, s1, s2, s3, s4]) 2048 84000 172 (351, [some (.retAddr 0), some (.ref 0), some (.ref 36), some (.ref 71), some (.int 0), none, none], [], 20574, fh_0) ((0, some (.int 1)), 20580, fh_run0_2) := by
  refine Ru.op (q := (.aload_n 1, 1)) (by decide +kernel) rfl ?_
  refine Ru.op (q := (.aload_n 0, 1)) (by decide +kernel) rfl ?_
  refine Ru.op (q := (.iload 4, 2)) (by decide +kernel) rfl ?_
  refine Ru.op (q := (.iconst 1, 1)) (by decide +kernel) rfl ?_
  refine Ru.op (q := (.iadd, 1)) (by decide +kernel) rfl ?_
  refine Ru.sld (L := 5) (k := 1) (v := s1) rfl rfl (by decide +kernel) (by decide +kernel) (by decide +kernel) rfl ?_
  refine Ru.op (q := (.aload_n 3, 1)) (by decide +kernel) rfl ?_
  refine Ru.call (q := (.invokestatic 91, 3)) (by decide +kernel) rfl rfl rfl rfl ⟨Nat.le_of_ble_eq_true rfl, Nat.le_of_ble_eq_true rfl, Nat.le_of_ble_eq_true rfl, Nat.le_of_ble_eq_true rfl⟩ (p1_run0_1 s1 s2 s3 s4 g0) ?_
  refine Ru.op (q := (.istore 5, 2)) (by decide +kernel) rfl ?_
  refine Ru.op (q := (.aload_n 2, 1)) (by decide +kernel) rfl ?_
  refine Ru.op (q := (.aload_n 0, 1)) (by decide +kernel) rfl ?_
  refine Ru.op (q := (.iload 4, 2)) (by decide +kernel) rfl ?_
  refine Ru.op (q := (.iconst 1, 1)) (by decide +kernel) rfl ?_
  refine Ru.op (q := (.iadd, 1)) (by decide +kernel) rfl ?_
  refine Ru.sld (L := 5) (k := 1) (v := s1) rfl rfl (by decide +kernel) (by decide +kernel) (by decide +kernel) rfl ?_
  refine Ru.call (q := (.invokevirtual 94, 3)) (by decide +kernel) rfl rfl rfl rfl ⟨Nat.le_of_ble_eq_true rfl, Nat.le_of_ble_eq_true rfl, Nat.le_of_ble_eq_true rfl, Nat.le_of_ble_eq_true rfl⟩ (p1_run0_2 s1 s2 s3 s4 g0) ?_
  refine Ru.op (q := (.istore 6, 2)) (by decide +kernel) rfl ?_
  refine Ru.op (q := (.aload_n 2, 1)) (by decide +kernel) rfl ?_
  refine Ru.call (q := (.invokevirtual 68, 3)) (by decide +kernel) rfl rfl rfl rfl ⟨Nat.le_of_ble_eq_true rfl, Nat.le_of_ble_eq_true rfl, Nat.le_of_ble_eq_true rfl, Nat.le_of_ble_eq_true rfl⟩ (p1_run0_3) ?_
  refine Ru.op (q := (.iload 5, 2)) (by decide +kernel) rfl ?_
  refine Ru.br2 (k := .eq) (off := 5) (bb := true) (tg := 387) (by decide +kernel) (by decide +kernel) (by decide +kernel) (by decide +kernel) ?_
  refine Ru.op (q := (.iload 5, 2)) (by decide +kernel) rfl ?_
  refine Ru.br (k := .ne) (off := 15) (bb := true) (tg := 404) (by decide +kernel) (by decide +kernel) (by decide +kernel) (by decide +kernel) ?_
  refine Ru.op (q := (.goto 447, 3)) (by decide +kernel) rfl ?_
  exact p1_tail rfl
def fh_run1_1 : mn_H := [(0, [.ref 1, .ref 13, .ref 28, .ref 30, .ref 35, .int 0, .int (-1)]), (1, [.ref 2, .int 0, .ref 3, .int 0, .int 0, .int 0, .ref 10, .ref 11, .int 0, .int 0, .int 0, .ref 12, .int 0]), (52, List.replicate 160 (.int 0)), (2, [.ref 4, .ref 5, .ref 6, .ref 7, .ref 8, .int 0, .ref 9, .int 0]), (50, List.replicate 160 (.int 0)), (50, List.replicate 160 (.int 0)), (50, List.replicate 160 (.int 0)), (50, List.replicate 160 (.int 0)), (50, List.replicate 160 (.int 0)), (50, List.replicate 1280 (.int 0)), (50, List.replicate 10 (.int 0)), (50, List.replicate 10 (.int 0)), (50, List.replicate 16 (.int 0)), (3, [.ref 14, .int 0, .int 0, .int 0, .int 0, .int 0, .int 0, .int (-1), .int 0, .ref 15, .ref 20, .ref 23, .ref 27]), (55, List.replicate 100 (.null)), (4, [.ref 16, .ref 19, .int 0, .int 0]), (5, [.ref 17, .ref 18, .int 0, .int 0]), (50, List.replicate 80 (.int 0)), (50, [.int 0, .int 0, .int 0, .int 0, .int 0]), (50, List.replicate 128 (.int 0)), (6, [.ref 21, .ref 22]), (50, List.replicate 32 (.int 0)), (50, List.replicate 32 (.int 0)), (7, [.ref 24, .ref 25, .ref 26]), (50, List.replicate 64 (.int 0)), (50, List.replicate 64 (.int 0)), (50, [.int 0, .int 0, .int 0, .int 0]), (51, List.replicate 100 (.int 0)), (8, [.ref 29, .int 0]), (52, List.replicate 128 (.int 0)), (4, [.ref 31, .ref 34, .int 0, .int 0]), (5, [.ref 32, .ref 33, .int 0, .int 0]), (50, List.replicate 80 (.int 0)), (50, [.int 0, .int 0, .int 0, .int 0, .int 0]), (50, List.replicate 128 (.int 0)), (54, List.replicate 24 (.null)), (10, [.int 0, .int (-1), .int 0, .ref 37, .ref 38, .ref 39, .ref 40, .ref 41, .ref 42, .int 0, .int 0, .ref 43, .ref 44, .ref 45, .int (-1), .int 0, .int 0, .int 0, .int 0, .int 0, .int 0, .ref 46, .int 0, .ref 47, .int 0, .ref 48, .ref 49, .int 0, .int 0, .int 0, .int 0, .ref 50, .ref 51, .ref 52, .int 0, .int 0, .int 0, .ref 53, .ref 54, .ref 55, .ref 56, .ref 57, .int 0, .int 0, .ref 58, .ref 59, .int 0, .ref 60, .ref 61, .ref 62, .ref 63, .ref 64, .ref 65, .ref 66, .ref 67, .ref 68, .int 0, .ref 69, .ref 70]), (50, List.replicate 160 (.int 0)), (50, List.replicate 8032 (.int 0)), (50, List.replicate 504 (.int 0)), (51, List.replicate 504 (.int 0)), (50, List.replicate 125 (.int 0)), (50, List.replicate 125 (.int 0)), (50, List.replicate 100 (.int 0)), (50, List.replicate 100 (.int 0)), (50, List.replicate 400 (.int 0)), (50, List.replicate 1024 (.int 0)), (50, List.replicate 128 (.int 0)), (50, List.replicate 100 (.int 0)), (51, List.replicate 100 (.int 0)), (50, List.replicate 50 (.int 0)), (50, List.replicate 50 (.int 0)), (51, List.replicate 50 (.int 0)), (50, List.replicate 16 (.int 0)), (50, List.replicate 10 (.int 0)), (51, List.replicate 10 (.int 0)), (51, List.replicate 10 (.int 0)), (50, List.replicate 10 (.int 0)), (50, List.replicate 300 (.int 0)), (50, List.replicate 2400 (.int 0)), (50, List.replicate 100 (.int 0)), (51, List.replicate 100 (.int 0)), (50, List.replicate 64 (.int 0)), (50, List.replicate 64 (.int 0)), (50, List.replicate 128 (.int 0)), (50, List.replicate 640 (.int 0)), (50, List.replicate 640 (.int 0)), (50, List.replicate 640 (.int 0)), (50, List.replicate 16 (.int 0)), (50, List.replicate 400 (.int 0)), (51, List.replicate 100 (.int 0)), (53, [.long 0]), (99, [])]
set_option maxRecDepth 100000 in
set_option maxHeartbeats 4000000 in
theorem p1_run1_0 (s1 s2 s3 s4 : Int32) (g0 : mn_cmp .lt s1 0 = false) (g1 : mn_cmp .le s1 (Int8.ofInt 50).toInt32 = false) : Ru none 2046 83955 76 (0, mn_pad (mn_ent [.ref 0, .int s1]) 3, [], 20574, fh_0) ((1, none), 20580, fh_run1_1) := by
  refine Ru.op (q := (.iload_n 1, 1)) (by decide +kernel) rfl ?_
  refine Ru.br (k := .lt) (off := 9) (bb := false) (tg := 4) (by decide +kernel) (by decide +kernel) g0 (by decide +kernel) ?_
  refine Ru.op (q := (.iload_n 1, 1)) (by decide +kernel) rfl ?_
  refine Ru.op (q := (.bipush 50, 2)) (by decide +kernel) rfl ?_
  refine Ru.br2 (k := .le) (off := 11) (bb := false) (tg := 10) (by decide +kernel) (by decide +kernel) g1 (by decide +kernel) ?_
  exact Ru.thr (q := (.new 51, 3)) (by decide +kernel) rfl rfl (by decide +kernel)
set_option maxRecDepth 100000 in
set_option maxHeartbeats 4000000 in
theorem p1_run1_1 (s1 s2 s3 s4 : Int32) (g0 : mn_cmp .lt s1 0 = false) (g1 : mn_cmp .le s1 (Int8.ofInt 50).toInt32 = false) : Ru none 2047 83977 165 (0, mn_pad (mn_ent [.ref 0, .int s1, .ref 71]) 4, [], 20574, fh_0) ((0, some (.int (Int32.ofInt 1))), 20580, fh_run1_1) := by
  refine Ru.op (q := (.aload_n 2, 1)) (by decide +kernel) rfl ?_
  refine Ru.op (q := (.iconst 0, 1)) (by decide +kernel) rfl ?_
  refine Ru.op (q := (.aload_n 0, 1)) (by decide +kernel) rfl ?_
  refine Ru.op (q := (.iload_n 1, 1)) (by decide +kernel) rfl ?_
  refine Ru.catch (i := 27) (j2 := 76) (k := 0) (hp := 12) (by decide +kernel) rfl rfl rfl rfl ⟨Nat.le_of_ble_eq_true rfl, Nat.le_of_ble_eq_true rfl, Nat.le_of_ble_eq_true rfl, Nat.le_of_ble_eq_true rfl⟩ (by decide +kernel) (p1_run1_0 s1 s2 s3 s4 g0 g1) ?_
  refine Ru.op (q := (.astore_n 3, 1)) (by decide +kernel) rfl ?_
  refine Ru.op (q := (.iconst 1, 1)) (by decide +kernel) rfl ?_
  exact Ru.end (q := (.ireturn, 1)) (by decide +kernel) rfl rfl
def fh_run1_2 : mn_H := [(0, [.ref 1, .ref 13, .ref 28, .ref 30, .ref 35, .int 0, .int (-1)]), (1, [.ref 2, .int 0, .ref 3, .int 0, .int 0, .int 0, .ref 10, .ref 11, .int 0, .int 0, .int 0, .ref 12, .int 0]), (52, List.replicate 160 (.int 0)), (2, [.ref 4, .ref 5, .ref 6, .ref 7, .ref 8, .int 0, .ref 9, .int 0]), (50, List.replicate 160 (.int 0)), (50, List.replicate 160 (.int 0)), (50, List.replicate 160 (.int 0)), (50, List.replicate 160 (.int 0)), (50, List.replicate 160 (.int 0)), (50, List.replicate 1280 (.int 0)), (50, List.replicate 10 (.int 0)), (50, List.replicate 10 (.int 0)), (50, List.replicate 16 (.int 0)), (3, [.ref 14, .int 0, .int 0, .int 0, .int 0, .int 0, .int 0, .int (-1), .int 0, .ref 15, .ref 20, .ref 23, .ref 27]), (55, List.replicate 100 (.null)), (4, [.ref 16, .ref 19, .int 0, .int 0]), (5, [.ref 17, .ref 18, .int 0, .int 0]), (50, List.replicate 80 (.int 0)), (50, [.int 0, .int 0, .int 0, .int 0, .int 0]), (50, List.replicate 128 (.int 0)), (6, [.ref 21, .ref 22]), (50, List.replicate 32 (.int 0)), (50, List.replicate 32 (.int 0)), (7, [.ref 24, .ref 25, .ref 26]), (50, List.replicate 64 (.int 0)), (50, List.replicate 64 (.int 0)), (50, [.int 0, .int 0, .int 0, .int 0]), (51, List.replicate 100 (.int 0)), (8, [.ref 29, .int 0]), (52, List.replicate 128 (.int 0)), (4, [.ref 31, .ref 34, .int 0, .int 0]), (5, [.ref 32, .ref 33, .int 0, .int 0]), (50, List.replicate 80 (.int 0)), (50, [.int 0, .int 0, .int 0, .int 0, .int 0]), (50, List.replicate 128 (.int 0)), (54, List.replicate 24 (.null)), (10, [.int 1, .int (-1), .int 0, .ref 37, .ref 38, .ref 39, .ref 40, .ref 41, .ref 42, .int 0, .int 0, .ref 43, .ref 44, .ref 45, .int (-1), .int 0, .int 0, .int 0, .int 0, .int 0, .int 0, .ref 46, .int 0, .ref 47, .int 0, .ref 48, .ref 49, .int 0, .int 0, .int 0, .int 0, .ref 50, .ref 51, .ref 52, .int 0, .int 0, .int 0, .ref 53, .ref 54, .ref 55, .ref 56, .ref 57, .int 0, .int 0, .ref 58, .ref 59, .int 0, .ref 60, .ref 61, .ref 62, .ref 63, .ref 64, .ref 65, .ref 66, .ref 67, .ref 68, .int 0, .ref 69, .ref 70]), (50, List.replicate 160 (.int 0)), (50, List.replicate 8032 (.int 0)), (50, List.replicate 504 (.int 0)), (51, List.replicate 504 (.int 0)), (50, List.replicate 125 (.int 0)), (50, List.replicate 125 (.int 0)), (50, List.replicate 100 (.int 0)), (50, List.replicate 100 (.int 0)), (50, List.replicate 400 (.int 0)), (50, List.replicate 1024 (.int 0)), (50, List.replicate 128 (.int 0)), (50, List.replicate 100 (.int 0)), (51, List.replicate 100 (.int 0)), (50, List.replicate 50 (.int 0)), (50, List.replicate 50 (.int 0)), (51, List.replicate 50 (.int 0)), (50, List.replicate 16 (.int 0)), (50, List.replicate 10 (.int 0)), (51, List.replicate 10 (.int 0)), (51, List.replicate 10 (.int 0)), (50, List.replicate 10 (.int 0)), (50, List.replicate 300 (.int 0)), (50, List.replicate 2400 (.int 0)), (50, List.replicate 100 (.int 0)), (51, List.replicate 100 (.int 0)), (50, List.replicate 64 (.int 0)), (50, List.replicate 64 (.int 0)), (50, List.replicate 128 (.int 0)), (50, List.replicate 640 (.int 0)), (50, List.replicate 640 (.int 0)), (50, List.replicate 640 (.int 0)), (50, List.replicate 16 (.int 0)), (50, List.replicate 400 (.int 0)), (51, List.replicate 100 (.int 0)), (53, [.long 0]), (99, [])]
set_option maxRecDepth 100000 in
set_option maxHeartbeats 4000000 in
theorem p1_run1_2 (s1 s2 s3 s4 : Int32) (g0 : mn_cmp .lt s1 0 = false) (g1 : mn_cmp .le s1 (Int8.ofInt 50).toInt32 = false) : Ru none 2047 83977 147 (0, mn_pad (mn_ent [.ref 36, .int s1]) 4, [], 20580, fh_run1_1) ((0, some (.int (Int32.ofInt 0))), 20580, fh_run1_2) := by
  refine Ru.op (q := (.aload_n 0, 1)) (by decide +kernel) rfl ?_
  refine Ru.op (q := (.iload_n 1, 1)) (by decide +kernel) rfl ?_
  refine Ru.br (k := .lt) (off := 9) (bb := false) (tg := 5) (by decide +kernel) (by decide +kernel) g0 (by decide +kernel) ?_
  refine Ru.op (q := (.iload_n 1, 1)) (by decide +kernel) rfl ?_
  refine Ru.op (q := (.bipush 50, 2)) (by decide +kernel) rfl ?_
  refine Ru.br2 (k := .le) (off := 7) (bb := false) (tg := 11) (by decide +kernel) (by decide +kernel) g1 (by decide +kernel) ?_
  refine Ru.op (q := (.iconst 1, 1)) (by decide +kernel) rfl ?_
  refine Ru.op (q := (.goto 4, 3)) (by decide +kernel) rfl ?_
  refine Ru.op (q := (.putfield 120, 3)) (by decide +kernel) rfl ?_
  refine Ru.op (q := (.iconst 0, 1)) (by decide +kernel) rfl ?_
  refine Ru.op (q := (.istore_n 2, 1)) (by decide +kernel) rfl ?_
  refine Ru.op (q := (.aload_n 0, 1)) (by decide +kernel) rfl ?_
  refine Ru.op (q := (.getfield 120, 3)) (by decide +kernel) rfl ?_
  refine Ru.br (k := .ne) (off := 35) (bb := true) (tg := 60) (by decide +kernel) (by decide +kernel) (by decide +kernel) (by decide +kernel) ?_
  refine Ru.op (q := (.iload_n 2, 1)) (by decide +kernel) rfl ?_
  exact Ru.end (q := (.ireturn, 1)) (by decide +kernel) rfl rfl
set_option maxRecDepth 100000 in
theorem p1_run1_3 : Ru none 2047 83980 94 (0, mn_pad (mn_ent [.ref 36]) 1, [], 20580, fh_run1_2) ((0, some (.int 1)), 20580, fh_run1_2) := Ru.of 5 (by decide +kernel)
set_option maxRecDepth 100000 in
set_option maxHeartbeats 4000000 in
theorem p1_run1 {s0 s1 s2 s3 s4 : Int32} (g0 : mn_cmp .lt s1 0 = false) (g1 : mn_cmp .le s1 (Int8.ofInt 50).toInt32 = false) : Ru (some [s0, s1, s2, s3, s4]) 2048 84000 172 (351, [some (.retAddr 0), some (.ref 0), some (.ref 36), some (.ref 71), some (.int 0), none, none], [], 20574, fh_0) ((0, some (.int 1)), 20580, fh_run1_2) := by
  refine Ru.op (q := (.aload_n 1, 1)) (by decide +kernel) rfl ?_
  refine Ru.op (q := (.aload_n 0, 1)) (by decide +kernel) rfl ?_
  refine Ru.op (q := (.iload 4, 2)) (by decide +kernel) rfl ?_
  refine Ru.op (q := (.iconst 1, 1)) (by decide +kernel) rfl ?_
  refine Ru.op (q := (.iadd, 1)) (by decide +kernel) rfl ?_
  refine Ru.sld (L := 5) (k := 1) (v := s1) rfl rfl (by decide +kernel) (by decide +kernel) (by decide +kernel) rfl ?_
  refine Ru.op (q := (.aload_n 3, 1)) (by decide +kernel) rfl ?_
  refine Ru.call (q := (.invokestatic 91, 3)) (by decide +kernel) rfl rfl rfl rfl ⟨Nat.le_of_ble_eq_true rfl, Nat.le_of_ble_eq_true rfl, Nat.le_of_ble_eq_true rfl, Nat.le_of_ble_eq_true rfl⟩ (p1_run1_1 s1 s2 s3 s4 g0 g1) ?_
  refine Ru.op (q := (.istore 5, 2)) (by decide +kernel) rfl ?_
  refine Ru.op (q := (.aload_n 2, 1)) (by decide +kernel) rfl ?_
  refine Ru.op (q := (.aload_n 0, 1)) (by decide +kernel) rfl ?_
  refine Ru.op (q := (.iload 4, 2)) (by decide +kernel) rfl ?_
  refine Ru.op (q := (.iconst 1, 1)) (by decide +kernel) rfl ?_
  refine Ru.op (q := (.iadd, 1)) (by decide +kernel) rfl ?_
  refine Ru.sld (L := 5) (k := 1) (v := s1) rfl rfl (by decide +kernel) (by decide +kernel) (by decide +kernel) rfl ?_
  refine Ru.call (q := (.invokevirtual 94, 3)) (by decide +kernel) rfl rfl rfl rfl ⟨Nat.le_of_ble_eq_true rfl, Nat.le_of_ble_eq_true rfl, Nat.le_of_ble_eq_true rfl, Nat.le_of_ble_eq_true rfl⟩ (p1_run1_2 s1 s2 s3 s4 g0 g1) ?_
  refine Ru.op (q := (.istore 6, 2)) (by decide +kernel) rfl ?_
  refine Ru.op (q := (.aload_n 2, 1)) (by decide +kernel) rfl ?_
  refine Ru.call (q := (.invokevirtual 68, 3)) (by decide +kernel) rfl rfl rfl rfl ⟨Nat.le_of_ble_eq_true rfl, Nat.le_of_ble_eq_true rfl, Nat.le_of_ble_eq_true rfl, Nat.le_of_ble_eq_true rfl⟩ (p1_run1_3) ?_
  refine Ru.op (q := (.iload 5, 2)) (by decide +kernel) rfl ?_
  refine Ru.br2 (k := .eq) (off := 5) (bb := true) (tg := 387) (by decide +kernel) (by decide +kernel) (by decide +kernel) (by decide +kernel) ?_
  refine Ru.op (q := (.iload 5, 2)) (by decide +kernel) rfl ?_
  refine Ru.br (k := .ne) (off := 15) (bb := true) (tg := 404) (by decide +kernel) (by decide +kernel) (by decide +kernel) (by decide +kernel) ?_
  refine Ru.op (q := (.goto 447, 3)) (by decide +kernel) rfl ?_
  exact p1_tail rfl
set_option maxRecDepth 100000 in
set_option maxHeartbeats 4000000 in
theorem p1_run2_0 (s1 s2 s3 s4 : Int32) (g0 : mn_cmp .lt s1 0 = false) (g1 : mn_cmp .le s1 (Int8.ofInt 50).toInt32 = true) (g2 : mn_cmp .ge (Int32.ofInt 0) s1 = true) : Ru none 2046 83955 76 (0, mn_pad (mn_ent [.ref 0, .int s1]) 3, [], 20574, fh_0) ((0, some (.int (Int32.ofInt 0))), 20574, fh_0) := by
  refine Ru.op (q := (.iload_n 1, 1)) (by decide +kernel) rfl ?_
  refine Ru.br (k := .lt) (off := 9) (bb := false) (tg := 4) (by decide +kernel) (by decide +kernel) g0 (by decide +kernel) ?_
  refine Ru.op (q := (.iload_n 1, 1)) (by decide +kernel) rfl ?_
  refine Ru.op (q := (.bipush 50, 2)) (by decide +kernel) rfl ?_
  refine Ru.br2 (k := .le) (off := 11) (bb := true) (tg := 18) (by decide +kernel) (by decide +kernel) g1 (by decide +kernel) ?_
  refine Ru.op (q := (.iconst 0, 1)) (by decide +kernel) rfl ?_
  refine Ru.op (q := (.istore_n 2, 1)) (by decide +kernel) rfl ?_
  refine Ru.op (q := (.iload_n 2, 1)) (by decide +kernel) rfl ?_
  refine Ru.op (q := (.iload_n 1, 1)) (by decide +kernel) rfl ?_
  refine Ru.br2 (k := .ge) (off := 27) (bb := true) (tg := 49) (by decide +kernel) (by decide +kernel) g2 (by decide +kernel) ?_
  refine Ru.op (q := (.iload_n 2, 1)) (by decide +kernel) rfl ?_
  exact Ru.end (q := (.ireturn, 1)) (by decide +kernel) rfl rfl
set_option maxRecDepth 100000 in
set_option maxHeartbeats 4000000 in
theorem p1_run2_1 (s1 s2 s3 s4 : Int32) (g0 : mn_cmp .lt s1 0 = false) (g1 : mn_cmp .le s1 (Int8.ofInt 50).toInt32 = true) (g2 : mn_cmp .ge (Int32.ofInt 0) s1 = true) : Ru none 2047 83977 165 (0, mn_pad (mn_ent [.ref 0, .int s1, .ref 71]) 4, [], 20574, fh_0) ((0, some (.int (Int32.ofInt 0))), 20574, fh_0) := by
  refine Ru.op (q := (.aload_n 2, 1)) (by decide +kernel) rfl ?_
  refine Ru.op (q := (.iconst 0, 1)) (by decide +kernel) rfl ?_
  refine Ru.op (q := (.aload_n 0, 1)) (by decide +kernel) rfl ?_
  refine Ru.op (q := (.iload_n 1, 1)) (by decide +kernel) rfl ?_
  refine Ru.call (q := (.invokevirtual 27, 3)) (by decide +kernel) rfl rfl rfl rfl ⟨Nat.le_of_ble_eq_true rfl, Nat.le_of_ble_eq_true rfl, Nat.le_of_ble_eq_true rfl, Nat.le_of_ble_eq_true rfl⟩ (p1_run2_0 s1 s2 s3 s4 g0 g1 g2) ?_
  refine Ru.op (q := (.i2l, 1)) (by decide +kernel) rfl ?_
  refine Ru.op (q := (.lastore, 1)) (by decide +kernel) rfl ?_
  refine Ru.op (q := (.goto 6, 3)) (by decide +kernel) rfl ?_
  refine Ru.op (q := (.iconst 0, 1)) (by decide +kernel) rfl ?_
  exact Ru.end (q := (.ireturn, 1)) (by decide +kernel) rfl rfl
set_option maxRecDepth 100000 in
set_option maxHeartbeats 4000000 in
theorem p1_run2_2 (s1 s2 s3 s4 : Int32) (g0 : mn_cmp .lt s1 0 = false) (g1 : mn_cmp .le s1 (Int8.ofInt 50).toInt32 = true) (g2 : mn_cmp .ge (Int32.ofInt 0) s1 = true) : Ru none 2047 83977 147 (0, mn_pad (mn_ent [.ref 36, .int s1]) 4, [], 20574, fh_0) ((0, some (.int (Int32.ofInt 0))), 20574, fh_0) := by
  refine Ru.op (q := (.aload_n 0, 1)) (by decide +kernel) rfl ?_
  refine Ru.op (q := (.iload_n 1, 1)) (by decide +kernel) rfl ?_
  refine Ru.br (k := .lt) (off := 9) (bb := false) (tg := 5) (by decide +kernel) (by decide +kernel) g0 (by decide +kernel) ?_
  refine Ru.op (q := (.iload_n 1, 1)) (by decide +kernel) rfl ?_
  refine Ru.op (q := (.bipush 50, 2)) (by decide +kernel) rfl ?_
  refine Ru.br2 (k := .le) (off := 7) (bb := true) (tg := 15) (by decide +kernel) (by decide +kernel) g1 (by decide +kernel) ?_
  refine Ru.op (q := (.iconst 0, 1)) (by decide +kernel) rfl ?_
  refine Ru.op (q := (.putfield 120, 3)) (by decide +kernel) rfl ?_
  refine Ru.op (q := (.iconst 0, 1)) (by decide +kernel) rfl ?_
  refine Ru.op (q := (.istore_n 2, 1)) (by decide +kernel) rfl ?_
  refine Ru.op (q := (.aload_n 0, 1)) (by decide +kernel) rfl ?_
  refine Ru.op (q := (.getfield 120, 3)) (by decide +kernel) rfl ?_
  refine Ru.br (k := .ne) (off := 35) (bb := false) (tg := 28) (by decide +kernel) (by decide +kernel) (by decide +kernel) (by decide +kernel) ?_
  refine Ru.op (q := (.iload_n 2, 1)) (by decide +kernel) rfl ?_
  refine Ru.op (q := (.iload_n 1, 1)) (by decide +kernel) rfl ?_
  refine Ru.br2 (k := .ge) (off := 30) (bb := true) (tg := 60) (by decide +kernel) (by decide +kernel) g2 (by decide +kernel) ?_
  refine Ru.op (q := (.iload_n 2, 1)) (by decide +kernel) rfl ?_
  exact Ru.end (q := (.ireturn, 1)) (by decide +kernel) rfl rfl
set_option maxRecDepth 100000 in
theorem p1_run2_3 : Ru none 2047 83980 94 (0, mn_pad (mn_ent [.ref 36]) 1, [], 20574, fh_0) ((0, some (.int 0)), 20574, fh_0) := Ru.of 5 (by decide +kernel)
set_option maxRecDepth 100000 in
set_option maxHeartbeats 4000000 in
theorem p1_run2 {s0 s1 s2 s3 s4 : Int32} (g0 : mn_cmp .lt s1 0 = false) (g1 : mn_cmp .le s1 (Int8.ofInt 50).toInt32 = true) (g2 : mn_cmp .ge (Int32.ofInt 0) s1 = true) : Ru (some [s0, s1, s2, s3, s4]) 2048 84000 172 (351, [some (.retAddr 0), some (.ref 0), some (.ref 36), some (.ref 71), some (.int 0), none, none], [], 20574, fh_0) ((0, some (.int 1)), 20574, fh_0) := by
  refine Ru.op (q := (.aload_n 1, 1)) (by decide +kernel) rfl ?_
  refine Ru.op (q := (.aload_n 0, 1)) (by decide +kernel) rfl ?_
  refine Ru.op (q := (.iload 4, 2)) (by decide +kernel) rfl ?_
  refine Ru.op (q := (.iconst 1, 1)) (by decide +kernel) rfl ?_
  refine Ru.op (q := (.iadd, 1)) (by decide +kernel) rfl ?_
  refine Ru.sld (L := 5) (k := 1) (v := s1) rfl rfl (by decide +kernel) (by decide +kernel) (by decide +kernel) rfl ?_
  refine Ru.op (q := (.aload_n 3, 1)) (by decide +kernel) rfl ?_
  refine Ru.call (q := (.invokestatic 91, 3)) (by decide +kernel) rfl rfl rfl rfl ⟨Nat.le_of_ble_eq_true rfl, Nat.le_of_ble_eq_true rfl, Nat.le_of_ble_eq_true rfl, Nat.le_of_ble_eq_true rfl⟩ (p1_run2_1 s1 s2 s3 s4 g0 g1 g2) ?_
  refine Ru.op (q := (.istore 5, 2)) (by decide +kernel) rfl ?_
  refine Ru.op (q := (.aload_n 2, 1)) (by decide +kernel) rfl ?_
  refine Ru.op (q := (.aload_n 0, 1)) (by decide +kernel) rfl ?_
  refine Ru.op (q := (.iload 4, 2)) (by decide +kernel) rfl ?_
  refine Ru.op (q := (.iconst 1, 1)) (by decide +kernel) rfl ?_
  refine Ru.op (q := (.iadd, 1)) (by decide +kernel) rfl ?_
  refine Ru.sld (L := 5) (k := 1) (v := s1) rfl rfl (by decide +kernel) (by decide +kernel) (by decide +kernel) rfl ?_
  refine Ru.call (q := (.invokevirtual 94, 3)) (by decide +kernel) rfl rfl rfl rfl ⟨Nat.le_of_ble_eq_true rfl, Nat.le_of_ble_eq_true rfl, Nat.le_of_ble_eq_true rfl, Nat.le_of_ble_eq_true rfl⟩ (p1_run2_2 s1 s2 s3 s4 g0 g1 g2) ?_
  refine Ru.op (q := (.istore 6, 2)) (by decide +kernel) rfl ?_
  refine Ru.op (q := (.aload_n 2, 1)) (by decide +kernel) rfl ?_
  refine Ru.call (q := (.invokevirtual 68, 3)) (by decide +kernel) rfl rfl rfl rfl ⟨Nat.le_of_ble_eq_true rfl, Nat.le_of_ble_eq_true rfl, Nat.le_of_ble_eq_true rfl, Nat.le_of_ble_eq_true rfl⟩ (p1_run2_3) ?_
  refine Ru.op (q := (.iload 5, 2)) (by decide +kernel) rfl ?_
  refine Ru.br2 (k := .eq) (off := 5) (bb := true) (tg := 387) (by decide +kernel) (by decide +kernel) (by decide +kernel) (by decide +kernel) ?_
  refine Ru.op (q := (.iload 5, 2)) (by decide +kernel) rfl ?_
  refine Ru.br (k := .ne) (off := 15) (bb := false) (tg := 392) (by decide +kernel) (by decide +kernel) (by decide +kernel) (by decide +kernel) ?_
  refine Ru.op (q := (.aload_n 3, 1)) (by decide +kernel) rfl ?_
  refine Ru.op (q := (.iconst 0, 1)) (by decide +kernel) rfl ?_
  refine Ru.op (q := (.laload, 1)) (by decide +kernel) rfl ?_
  refine Ru.op (q := (.iload 6, 2)) (by decide +kernel) rfl ?_
  refine Ru.op (q := (.i2l, 1)) (by decide +kernel) rfl ?_
  refine Ru.op (q := (.lcmp, 1)) (by decide +kernel) rfl ?_
  refine Ru.br (k := .eq) (off := 5) (bb := true) (tg := 404) (by decide +kernel) (by decide +kernel) (by decide +kernel) (by decide +kernel) ?_
  refine Ru.op (q := (.goto 447, 3)) (by decide +kernel) rfl ?_
  exact p1_tail rfl
set_option maxRecDepth 100000 in
theorem p1_run3_0 : Ru none 2045 83935 12 (0, mn_pad (mn_ent [.ref 13]) 1, [], 20574, fh_0) ((0, some (.int 3)), 20574, fh_0) := Ru.of 29 (by decide +kernel)
set_option maxRecDepth 100000 in
set_option maxHeartbeats 4000000 in
theorem p1_run3_1 (s1 s2 s3 s4 : Int32) (g0 : mn_cmp .lt s1 0 = false) (g1 : mn_cmp .le s1 (Int8.ofInt 50).toInt32 = true) (g2 : mn_cmp .ge (Int32.ofInt 0) s1 = false) : Ru none 2046 83955 76 (0, mn_pad (mn_ent [.ref 0, .int s1]) 3, [], 20574, fh_0) ((0, some (.int (Int32.ofInt 0))), 20574, fh_0) := by
  refine Ru.op (q := (.iload_n 1, 1)) (by decide +kernel) rfl ?_
  refine Ru.br (k := .lt) (off := 9) (bb := false) (tg := 4) (by decide +kernel) (by decide +kernel) g0 (by decide +kernel) ?_
  refine Ru.op (q := (.iload_n 1, 1)) (by decide +kernel) rfl ?_
  refine Ru.op (q := (.bipush 50, 2)) (by decide +kernel) rfl ?_
  refine Ru.br2 (k := .le) (off := 11) (bb := true) (tg := 18) (by decide +kernel) (by decide +kernel) g1 (by decide +kernel) ?_
  refine Ru.op (q := (.iconst 0, 1)) (by decide +kernel) rfl ?_
  refine Ru.op (q := (.istore_n 2, 1)) (by decide +kernel) rfl ?_
  refine Ru.op (q := (.iload_n 2, 1)) (by decide +kernel) rfl ?_
  refine Ru.op (q := (.iload_n 1, 1)) (by decide +kernel) rfl ?_
  refine Ru.br2 (k := .ge) (off := 27) (bb := false) (tg := 25) (by decide +kernel) (by decide +kernel) g2 (by decide +kernel) ?_
  refine Ru.op (q := (.aload_n 0, 1)) (by decide +kernel) rfl ?_
  refine Ru.op (q := (.getfield 19, 3)) (by decide +kernel) rfl ?_
  refine Ru.call (q := (.invokevirtual 95, 3)) (by decide +kernel) rfl rfl rfl rfl ⟨Nat.le_of_ble_eq_true rfl, Nat.le_of_ble_eq_true rfl, Nat.le_of_ble_eq_true rfl, Nat.le_of_ble_eq_true rfl⟩ (p1_run3_0) ?_
  refine Ru.br (k := .ne) (off := 17) (bb := true) (tg := 49) (by decide +kernel) (by decide +kernel) (by decide +kernel) (by decide +kernel) ?_
  refine Ru.op (q := (.iload_n 2, 1)) (by decide +kernel) rfl ?_
  exact Ru.end (q := (.ireturn, 1)) (by decide +kernel) rfl rfl
set_option maxRecDepth 100000 in
set_option maxHeartbeats 4000000 in
theorem p1_run3_2 (s1 s2 s3 s4 : Int32) (g0 : mn_cmp .lt s1 0 = false) (g1 : mn_cmp .le s1 (Int8.ofInt 50).toInt32 = true) (g2 : mn_cmp .ge (Int32.ofInt 0) s1 = false) : Ru none 2047 83977 165 (0, mn_pad (mn_ent [.ref 0, .int s1, .ref 71]) 4, [], 20574, fh_0) ((0, some (.int (Int32.ofInt 0))), 20574, fh_0) := by
  refine Ru.op (q := (.aload_n 2, 1)) (by decide +kernel) rfl ?_
  refine Ru.op (q := (.iconst 0, 1)) (by decide +kernel) rfl ?_
  refine Ru.op (q := (.aload_n 0, 1)) (by decide +kernel) rfl ?_
  refine Ru.op (q := (.iload_n 1, 1)) (by decide +kernel) rfl ?_
  refine Ru.call (q := (.invokevirtual 27, 3)) (by decide +kernel) rfl rfl rfl rfl ⟨Nat.le_of_ble_eq_true rfl, Nat.le_of_ble_eq_true rfl, Nat.le_of_ble_eq_true rfl, Nat.le_of_ble_eq_true rfl⟩ (p1_run3_1 s1 s2 s3 s4 g0 g1 g2) ?_
  refine Ru.op (q := (.i2l, 1)) (by decide +kernel) rfl ?_
  refine Ru.op (q := (.lastore, 1)) (by decide +kernel) rfl ?_
  refine Ru.op (q := (.goto 6, 3)) (by decide +kernel) rfl ?_
  refine Ru.op (q := (.iconst 0, 1)) (by decide +kernel) rfl ?_
  exact Ru.end (q := (.ireturn, 1)) (by decide +kernel) rfl rfl
set_option maxRecDepth 100000 in
theorem p1_run3_3 : Ru none 2046 83957 134 (0, mn_pad (mn_ent [.ref 36]) 1, [], 20574, fh_0) ((0, some (.int 3)), 20574, fh_0) := Ru.of 28 (by decide +kernel)
set_option maxRecDepth 100000 in
set_option maxHeartbeats 4000000 in
theorem p1_run3_4 (s1 s2 s3 s4 : Int32) (g0 : mn_cmp .lt s1 0 = false) (g1 : mn_cmp .le s1 (Int8.ofInt 50).toInt32 = true) (g2 : mn_cmp .ge (Int32.ofInt 0) s1 = false) : Ru none 2047 83977 147 (0, mn_pad (mn_ent [.ref 36, .int s1]) 4, [], 20574, fh_0) ((0, some (.int (Int32.ofInt 0))), 20574, fh_0) := by
  refine Ru.op (q := (.aload_n 0, 1)) (by decide +kernel) rfl ?_
  refine Ru.op (q := (.iload_n 1, 1)) (by decide +kernel) rfl ?_
  refine Ru.br (k := .lt) (off := 9) (bb := false) (tg := 5) (by decide +kernel) (by decide +kernel) g0 (by decide +kernel) ?_
  refine Ru.op (q := (.iload_n 1, 1)) (by decide +kernel) rfl ?_
  refine Ru.op (q := (.bipush 50, 2)) (by decide +kernel) rfl ?_
  refine Ru.br2 (k := .le) (off := 7) (bb := true) (tg := 15) (by decide +kernel) (by decide +kernel) g1 (by decide +kernel) ?_
  refine Ru.op (q := (.iconst 0, 1)) (by decide +kernel) rfl ?_
  refine Ru.op (q := (.putfield 120, 3)) (by decide +kernel) rfl ?_
  refine Ru.op (q := (.iconst 0, 1)) (by decide +kernel) rfl ?_
  refine Ru.op (q := (.istore_n 2, 1)) (by decide +kernel) rfl ?_
  refine Ru.op (q := (.aload_n 0, 1)) (by decide +kernel) rfl ?_
  refine Ru.op (q := (.getfield 120, 3)) (by decide +kernel) rfl ?_
  refine Ru.br (k := .ne) (off := 35) (bb := false) (tg := 28) (by decide +kernel) (by decide +kernel) (by decide +kernel) (by decide +kernel) ?_
  refine Ru.op (q := (.iload_n 2, 1)) (by decide +kernel) rfl ?_
  refine Ru.op (q := (.iload_n 1, 1)) (by decide +kernel) rfl ?_
  refine Ru.br2 (k := .ge) (off := 30) (bb := false) (tg := 33) (by decide +kernel) (by decide +kernel) g2 (by decide +kernel) ?_
  refine Ru.op (q := (.aload_n 0, 1)) (by decide +kernel) rfl ?_
  refine Ru.call (q := (.invokevirtual 308, 3)) (by decide +kernel) rfl rfl rfl rfl ⟨Nat.le_of_ble_eq_true rfl, Nat.le_of_ble_eq_true rfl, Nat.le_of_ble_eq_true rfl, Nat.le_of_ble_eq_true rfl⟩ (p1_run3_3) ?_
  refine Ru.br (k := .ne) (off := 23) (bb := true) (tg := 60) (by decide +kernel) (by decide +kernel) (by decide +kernel) (by decide +kernel) ?_
  refine Ru.op (q := (.iload_n 2, 1)) (by decide +kernel) rfl ?_
  exact Ru.end (q := (.ireturn, 1)) (by decide +kernel) rfl rfl
set_option maxRecDepth 100000 in
theorem p1_run3_5 : Ru none 2047 83980 94 (0, mn_pad (mn_ent [.ref 36]) 1, [], 20574, fh_0) ((0, some (.int 0)), 20574, fh_0) := Ru.of 5 (by decide +kernel)
set_option maxRecDepth 100000 in
set_option maxHeartbeats 4000000 in
theorem p1_run3 {s0 s1 s2 s3 s4 : Int32} (g0 : mn_cmp .lt s1 0 = false) (g1 : mn_cmp .le s1 (Int8.ofInt 50).toInt32 = true) (g2 : mn_cmp .ge (Int32.ofInt 0) s1 = false) : Ru (some [s0, s1, s2, s3, s4]) 2048 84000 172 (351, [some (.retAddr 0), some (.ref 0), some (.ref 36), some (.ref 71), some (.int 0), none, none], [], 20574, fh_0) ((0, some (.int 1)), 20574, fh_0) := by
  refine Ru.op (q := (.aload_n 1, 1)) (by decide +kernel) rfl ?_
  refine Ru.op (q := (.aload_n 0, 1)) (by decide +kernel) rfl ?_
  refine Ru.op (q := (.iload 4, 2)) (by decide +kernel) rfl ?_
  refine Ru.op (q := (.iconst 1, 1)) (by decide +kernel) rfl ?_
  refine Ru.op (q := (.iadd, 1)) (by decide +kernel) rfl ?_
  refine Ru.sld (L := 5) (k := 1) (v := s1) rfl rfl (by decide +kernel) (by decide +kernel) (by decide +kernel) rfl ?_
  refine Ru.op (q := (.aload_n 3, 1)) (by decide +kernel) rfl ?_
  refine Ru.call (q := (.invokestatic 91, 3)) (by decide +kernel) rfl rfl rfl rfl ⟨Nat.le_of_ble_eq_true rfl, Nat.le_of_ble_eq_true rfl, Nat.le_of_ble_eq_true rfl, Nat.le_of_ble_eq_true rfl⟩ (p1_run3_2 s1 s2 s3 s4 g0 g1 g2) ?_
  refine Ru.op (q := (.istore 5, 2)) (by decide +kernel) rfl ?_
  refine Ru.op (q := (.aload_n 2, 1)) (by decide +kernel) rfl ?_
  refine Ru.op (q := (.aload_n 0, 1)) (by decide +kernel) rfl ?_
  refine Ru.op (q := (.iload 4, 2)) (by decide +kernel) rfl ?_
  refine Ru.op (q := (.iconst 1, 1)) (by decide +kernel) rfl ?_
  refine Ru.op (q := (.iadd, 1)) (by decide +kernel) rfl ?_
  refine Ru.sld (L := 5) (k := 1) (v := s1) rfl rfl (by decide +kernel) (by decide +kernel) (by decide +kernel) rfl ?_
  refine Ru.call (q := (.invokevirtual 94, 3)) (by decide +kernel) rfl rfl rfl rfl ⟨Nat.le_of_ble_eq_true rfl, Nat.le_of_ble_eq_true rfl, Nat.le_of_ble_eq_true rfl, Nat.le_of_ble_eq_true rfl⟩ (p1_run3_4 s1 s2 s3 s4 g0 g1 g2) ?_
  refine Ru.op (q := (.istore 6, 2)) (by decide +kernel) rfl ?_
  refine Ru.op (q := (.aload_n 2, 1)) (by decide +kernel) rfl ?_
  refine Ru.call (q := (.invokevirtual 68, 3)) (by decide +kernel) rfl rfl rfl rfl ⟨Nat.le_of_ble_eq_true rfl, Nat.le_of_ble_eq_true rfl, Nat.le_of_ble_eq_true rfl, Nat.le_of_ble_eq_true rfl⟩ (p1_run3_5) ?_
  refine Ru.op (q := (.iload 5, 2)) (by decide +kernel) rfl ?_
  refine Ru.br2 (k := .eq) (off := 5) (bb := true) (tg := 387) (by decide +kernel) (by decide +kernel) (by decide +kernel) (by decide +kernel) ?_
  refine Ru.op (q := (.iload 5, 2)) (by decide +kernel) rfl ?_
  refine Ru.br (k := .ne) (off := 15) (bb := false) (tg := 392) (by decide +kernel) (by decide +kernel) (by decide +kernel) (by decide +kernel) ?_
  refine Ru.op (q := (.aload_n 3, 1)) (by decide +kernel) rfl ?_
  refine Ru.op (q := (.iconst 0, 1)) (by decide +kernel) rfl ?_
  refine Ru.op (q := (.laload, 1)) (by decide +kernel) rfl ?_
  refine Ru.op (q := (.iload 6, 2)) (by decide +kernel) rfl ?_
  refine Ru.op (q := (.i2l, 1)) (by decide +kernel) rfl ?_
  refine Ru.op (q := (.lcmp, 1)) (by decide +kernel) rfl ?_
  refine Ru.br (k := .eq) (off := 5) (bb := true) (tg := 404) (by decide +kernel) (by decide +kernel) (by decide +kernel) (by decide +kernel) ?_
  refine Ru.op (q := (.goto 447, 3)) (by decide +kernel) rfl ?_
  exact p1_tail rfl
end
section
def fh_prt0_1 : mn_H := [(0, [.ref 1, .ref 13, .ref 28, .ref 30, .ref 35, .int 0, .int (-1)]), (1, [.ref 2, .int 0, .ref 3, .int 0, .int 0, .int 0, .ref 10, .ref 11, .int 0, .int 0, .int 0, .ref 12, .int 0]), (52, List.replicate 160 (.int 0)), (2, [.ref 4, .ref 5, .ref 6, .ref 7, .ref 8, .int 0, .ref 9, .int 0]), (50, List.replicate 160 (.int 0)), (50, List.replicate 160 (.int 0)), (50, List.replicate 160 (.int 0)), (50, List.replicate 160 (.int 0)), (50, List.replicate 160 (.int 0)), (50, List.replicate 1280 (.int 0)), (50, List.replicate 10 (.int 0)), (50, List.replicate 10 (.int 0)), (50, List.replicate 16 (.int 0)), (3, [.ref 14, .int 0, .int 0, .int 0, .int 0, .int 0, .int 0, .int (-1), .int 0, .ref 15, .ref 20, .ref 23, .ref 27]), (55, List.replicate 100 (.null)), (4, [.ref 16, .ref 19, .int 0, .int 0]), (5, [.ref 17, .ref 18, .int 0, .int 0]), (50, List.replicate 80 (.int 0)), (50, [.int 0, .int 0, .int 0, .int 0, .int 0]), (50, List.replicate 128 (.int 0)), (6, [.ref 21, .ref 22]), (50, List.replicate 32 (.int 0)), (50, List.replicate 32 (.int 0)), (7, [.ref 24, .ref 25, .ref 26]), (50, List.replicate 64 (.int 0)), (50, List.replicate 64 (.int 0)), (50, [.int 0, .int 0, .int 0, .int 0]), (51, List.replicate 100 (.int 0)), (8, [.ref 29, .int 0]), (52, List.replicate 128 (.int 0)), (4, [.ref 31, .ref 34, .int 0, .int 0]), (5, [.ref 32, .ref 33, .int 0, .int 0]), (50, List.replicate 80 (.int 0)), (50, [.int 0, .int 0, .int 0, .int 0, .int 0]), (50, List.replicate 128 (.int 0)), (54, List.replicate 24 (.null)), (10, [.int 0, .int (-1), .int 0, .ref 37, .ref 38, .ref 39, .ref 40, .ref 41, .ref 42, .int 0, .int 0, .ref 43, .ref 44, .ref 45, .int (-1), .int 0, .int 0, .int 0, .int 0, .int 0, .int 0, .ref 46, .int 0, .ref 47, .int 0, .ref 48, .ref 49, .int 0, .int 0, .int 0, .int 0, .ref 50, .ref 51, .ref 52, .int 0, .int 0, .int 0, .ref 53, .ref 54, .ref 55, .ref 56, .ref 57, .int 0, .int 0, .ref 58, .ref 59, .int 0, .ref 60, .ref 61, .ref 62, .ref 63, .ref 64, .ref 65, .ref 66, .ref 67, .ref 68, .int 0, .ref 69, .ref 70]), (50, List.replicate 160 (.int 0)), (50, List.replicate 8032 (.int 0)), (50, List.replicate 504 (.int 0)), (51, List.replicate 504 (.int 0)), (50, List.replicate 125 (.int 0)), (50, List.replicate 125 (.int 0)), (50, List.replicate 100 (.int 0)), (50, List.replicate 100 (.int 0)), (50, List.replicate 400 (.int 0)), (50, List.replicate 1024 (.int 0)), (50, List.replicate 128 (.int 0)), (50, List.replicate 100 (.int 0)), (51, List.replicate 100 (.int 0)), (50, List.replicate 50 (.int 0)), (50, List.replicate 50 (.int 0)), (51, List.replicate 50 (.int 0)), (50, List.replicate 16 (.int 0)), (50, List.replicate 10 (.int 0)), (51, List.replicate 10 (.int 0)), (51, List.replicate 10 (.int 0)), (50, List.replicate 10 (.int 0)), (50, List.replicate 300 (.int 0)), (50, List.replicate 2400 (.int 0)), (50, List.replicate 100 (.int 0)), (51, List.replicate 100 (.int 0)), (50, List.replicate 64 (.int 0)), (50, List.replicate 64 (.int 0)), (50, List.replicate 128 (.int 0)), (50, List.replicate 640 (.int 0)), (50, List.replicate 640 (.int 0)), (50, List.replicate 640 (.int 0)), (50, List.replicate 16 (.int 0)), (50, List.replicate 400 (.int 0)), (51, List.replicate 100 (.int 0)), (53, [.long 0]), (99, [])]
set_option maxRecDepth 100000 in
set_option maxHeartbeats 4000000 in
theorem p1_prt0_0 (s1 s2 s3 s4 : Int32) (g1 : mn_cmp .lt s2 0 = true) : Ru none 2046 83953 77 (0, mn_pad (mn_ent [.ref 0, .int (Int32.ofInt 0), .int s2]) 4, [], 20574, fh_0) ((3, none), 20580, fh_prt0_1) := by
  refine Ru.op (q := (.iload_n 1, 1)) (by decide +kernel) rfl ?_
  refine Ru.br (k := .eq) (off := 10) (bb := true) (tg := 11) (by decide +kernel) (by decide +kernel) (by decide +kernel) (by decide +kernel) ?_
  refine Ru.op (q := (.aload_n 0, 1)) (by decide +kernel) rfl ?_
  refine Ru.op (q := (.getfield 19, 3)) (by decide +kernel) rfl ?_
  refine Ru.op (q := (.getfield 105, 3)) (by decide +kernel) rfl ?_
  refine Ru.op (q := (.istore_n 3, 1)) (by decide +kernel) rfl ?_
  refine Ru.op (q := (.iload_n 2, 1)) (by decide +kernel) rfl ?_
  refine Ru.br (k := .lt) (off := 8) (bb := true) (tg := 28) (by decide +kernel) (by decide +kernel) g1 (by decide +kernel) ?_
  exact Ru.thr (q := (.new 108, 3)) (by decide +kernel) rfl rfl (by decide +kernel)
set_option maxRecDepth 100000 in
set_option maxHeartbeats 4000000 in
theorem p1_prt0_1 (s1 s2 s3 s4 : Int32) (g1 : mn_cmp .lt s2 0 = true) : Ru none 2047 83976 166 (0, mn_pad (mn_ent [.ref 0, .int (Int32.ofInt 0), .int s2, .ref 71]) 5, [], 20574, fh_0) ((0, some (.int (Int32.ofInt 1))), 20580, fh_prt0_1) := by
  refine Ru.op (q := (.aload_n 3, 1)) (by decide +kernel) rfl ?_
  refine Ru.op (q := (.iconst 0, 1)) (by decide +kernel) rfl ?_
  refine Ru.op (q := (.aload_n 0, 1)) (by decide +kernel) rfl ?_
  refine Ru.op (q := (.iload_n 1, 1)) (by decide +kernel) rfl ?_
  refine Ru.op (q := (.iload_n 2, 1)) (by decide +kernel) rfl ?_
  refine Ru.catch (i := 31) (j2 := 77) (k := 2) (hp := 13) (by decide +kernel) rfl rfl rfl rfl ⟨Nat.le_of_ble_eq_true rfl, Nat.le_of_ble_eq_true rfl, Nat.le_of_ble_eq_true rfl, Nat.le_of_ble_eq_true rfl⟩ (by decide +kernel) (p1_prt0_0 s1 s2 s3 s4 g1) ?_
  refine Ru.op (q := (.astore 4, 2)) (by decide +kernel) rfl ?_
  refine Ru.op (q := (.iconst 1, 1)) (by decide +kernel) rfl ?_
  exact Ru.end (q := (.ireturn, 1)) (by decide +kernel) rfl rfl
def fh_prt0_2 : mn_H := [(0, [.ref 1, .ref 13, .ref 28, .ref 30, .ref 35, .int 0, .int (-1)]), (1, [.ref 2, .int 0, .ref 3, .int 0, .int 0, .int 0, .ref 10, .ref 11, .int 0, .int 0, .int 0, .ref 12, .int 0]), (52, List.replicate 160 (.int 0)), (2, [.ref 4, .ref 5, .ref 6, .ref 7, .ref 8, .int 0, .ref 9, .int 0]), (50, List.replicate 160 (.int 0)), (50, List.replicate 160 (.int 0)), (50, List.replicate 160 (.int 0)), (50, List.replicate 160 (.int 0)), (50, List.replicate 160 (.int 0)), (50, List.replicate 1280 (.int 0)), (50, List.replicate 10 (.int 0)), (50, List.replicate 10 (.int 0)), (50, List.replicate 16 (.int 0)), (3, [.ref 14, .int 0, .int 0, .int 0, .int 0, .int 0, .int 0, .int (-1), .int 0, .ref 15, .ref 20, .ref 23, .ref 27]), (55, List.replicate 100 (.null)), (4, [.ref 16, .ref 19, .int 0, .int 0]), (5, [.ref 17, .ref 18, .int 0, .int 0]), (50, List.replicate 80 (.int 0)), (50, [.int 0, .int 0, .int 0, .int 0, .int 0]), (50, List.replicate 128 (.int 0)), (6, [.ref 21, .ref 22]), (50, List.replicate 32 (.int 0)), (50, List.replicate 32 (.int 0)), (7, [.ref 24, .ref 25, .ref 26]), (50, List.replicate 64 (.int 0)), (50, List.replicate 64 (.int 0)), (50, [.int 0, .int 0, .int 0, .int 0]), (51, List.replicate 100 (.int 0)), (8, [.ref 29, .int 0]), (52, List.replicate 128 (.int 0)), (4, [.ref 31, .ref 34, .int 0, .int 0]), (5, [.ref 32, .ref 33, .int 0, .int 0]), (50, List.replicate 80 (.int 0)), (50, [.int 0, .int 0, .int 0, .int 0, .int 0]), (50, List.replicate 128 (.int 0)), (54, List.replicate 24 (.null)), (10, [.int 1, .int (-1), .int 0, .ref 37, .ref 38, .ref 39, .ref 40, .ref 41, .ref 42, .int 0, .int 0, .ref 43, .ref 44, .ref 45, .int (-1), .int 0, .int 0, .int 0, .int 0, .int 0, .int 0, .ref 46, .int 0, .ref 47, .int 0, .ref 48, .ref 49, .int 0, .int 0, .int 0, .int 0, .ref 50, .ref 51, .ref 52, .int 0, .int 0, .int 0, .ref 53, .ref 54, .ref 55, .ref 56, .ref 57, .int 0, .int 0, .ref 58, .ref 59, .int 0, .ref 60, .ref 61, .ref 62, .ref 63, .ref 64, .ref 65, .ref 66, .ref 67, .ref 68, .int 0, .ref 69, .ref 70]), (50, List.replicate 160 (.int 0)), (50, List.replicate 8032 (.int 0)), (50, List.replicate 504 (.int 0)), (51, List.replicate 504 (.int 0)), (50, List.replicate 125 (.int 0)), (50, List.replicate 125 (.int 0)), (50, List.replicate 100 (.int 0)), (50, List.replicate 100 (.int 0)), (50, List.replicate 400 (.int 0)), (50, List.replicate 1024 (.int 0)), (50, List.replicate 128 (.int 0)), (50, List.replicate 100 (.int 0)), (51, List.replicate 100 (.int 0)), (50, List.replicate 50 (.int 0)), (50, List.replicate 50 (.int 0)), (51, List.replicate 50 (.int 0)), (50, List.replicate 16 (.int 0)), (50, List.replicate 10 (.int 0)), (51, List.replicate 10 (.int 0)), (51, List.replicate 10 (.int 0)), (50, List.replicate 10 (.int 0)), (50, List.replicate 300 (.int 0)), (50, List.replicate 2400 (.int 0)), (50, List.replicate 100 (.int 0)), (51, List.replicate 100 (.int 0)), (50, List.replicate 64 (.int 0)), (50, List.replicate 64 (.int 0)), (50, List.replicate 128 (.int 0)), (50, List.replicate 640 (.int 0)), (50, List.replicate 640 (.int 0)), (50, List.replicate 640 (.int 0)), (50, List.replicate 16 (.int 0)), (50, List.replicate 400 (.int 0)), (51, List.replicate 100 (.int 0)), (53, [.long 0]), (99, [])]
set_option maxRecDepth 100000 in
set_option maxHeartbeats 4000000 in
theorem p1_prt0_2 (s1 s2 s3 s4 : Int32) (g1 : mn_cmp .lt s2 0 = true) : Ru none 2047 83976 148 (0, mn_pad (mn_ent [.ref 36, .int (Int32.ofInt 0), .int s2]) 5, [], 20580, fh_prt0_1) ((0, some (.int (Int32.ofInt 0))), 20580, fh_prt0_2) := by
  refine Ru.op (q := (.aload_n 0, 1)) (by decide +kernel) rfl ?_
  refine Ru.op (q := (.iload_n 2, 1)) (by decide +kernel) rfl ?_
  refine Ru.br (k := .lt) (off := 22) (bb := true) (tg := 24) (by decide +kernel) (by decide +kernel) g1 (by decide +kernel) ?_
  refine Ru.op (q := (.iconst 1, 1)) (by decide +kernel) rfl ?_
  refine Ru.op (q := (.goto 4, 3)) (by decide +kernel) rfl ?_
  refine Ru.op (q := (.putfield 120, 3)) (by decide +kernel) rfl ?_
  refine Ru.op (q := (.aload_n 0, 1)) (by decide +kernel) rfl ?_
  refine Ru.op (q := (.getfield 120, 3)) (by decide +kernel) rfl ?_
  refine Ru.br (k := .le) (off := 5) (bb := false) (tg := 39) (by decide +kernel) (by decide +kernel) (by decide +kernel) (by decide +kernel) ?_
  refine Ru.op (q := (.iconst 0, 1)) (by decide +kernel) rfl ?_
  exact Ru.end (q := (.ireturn, 1)) (by decide +kernel) rfl rfl
set_option maxRecDepth 100000 in
theorem p1_prt0_3 : Ru none 2047 83980 94 (0, mn_pad (mn_ent [.ref 36]) 1, [], 20580, fh_prt0_2) ((0, some (.int 1)), 20580, fh_prt0_2) := Ru.of 5 (by decide +kernel)
set_option maxRecDepth 100000 in
set_option maxHeartbeats 4000000 in
theorem p1_prt0 {s0 s1 s2 s3 s4 : Int32} (g0 : mn_cmp .eq s1 0 = true) (g1 : mn_cmp .lt s2 0 = true) : Ru (some [s0, s1, s2, s3, s4]) 2048 84000 172 (407, [some (.retAddr 0), some (.ref 0), some (.ref 36), some (.ref 71), some (.int 0), none, none], [], 20574, fh_0) ((0, some (.int 1)), 20580, fh_prt0_2) := by
  refine Ru.op (q := (.aload_n 1, 1)) (by decide +kernel) rfl ?_
  refine Ru.op (q := (.aload_n 0, 1)) (by decide +kernel) rfl ?_
  refine Ru.op (q := (.iload 4, 2)) (by decide +kernel) rfl ?_
  refine Ru.op (q := (.iconst 1, 1)) (by decide +kernel) rfl ?_
  refine Ru.op (q := (.iadd, 1)) (by decide +kernel) rfl ?_
  refine Ru.sld (L := 5) (k := 1) (v := s1) rfl rfl (by decide +kernel) (by decide +kernel) (by decide +kernel) rfl ?_
  refine Ru.br (k := .eq) (off := 7) (bb := true) (tg := 421) (by decide +kernel) (by decide +kernel) g0 (by decide +kernel) ?_
  refine Ru.op (q := (.iconst 0, 1)) (by decide +kernel) rfl ?_
  refine Ru.op (q := (.aload_n 0, 1)) (by decide +kernel) rfl ?_
  refine Ru.op (q := (.iload 4, 2)) (by decide +kernel) rfl ?_
  refine Ru.op (q := (.iconst 2, 1)) (by decide +kernel) rfl ?_
  refine Ru.op (q := (.iadd, 1)) (by decide +kernel) rfl ?_
  refine Ru.sld (L := 5) (k := 2) (v := s2) rfl rfl (by decide +kernel) (by decide +kernel) (by decide +kernel) rfl ?_
  refine Ru.op (q := (.aload_n 3, 1)) (by decide +kernel) rfl ?_
  refine Ru.call (q := (.invokestatic 95, 3)) (by decide +kernel) rfl rfl rfl rfl ⟨Nat.le_of_ble_eq_true rfl, Nat.le_of_ble_eq_true rfl, Nat.le_of_ble_eq_true rfl, Nat.le_of_ble_eq_true rfl⟩ (p1_prt0_1 s1 s2 s3 s4 g1) ?_
  refine Ru.op (q := (.istore 5, 2)) (by decide +kernel) rfl ?_
  refine Ru.op (q := (.aload_n 2, 1)) (by decide +kernel) rfl ?_
  refine Ru.op (q := (.aload_n 0, 1)) (by decide +kernel) rfl ?_
  refine Ru.op (q := (.iload 4, 2)) (by decide +kernel) rfl ?_
  refine Ru.op (q := (.iconst 1, 1)) (by decide +kernel) rfl ?_
  refine Ru.op (q := (.iadd, 1)) (by decide +kernel) rfl ?_
  refine Ru.sld (L := 5) (k := 1) (v := s1) rfl rfl (by decide +kernel) (by decide +kernel) (by decide +kernel) rfl ?_
  refine Ru.br (k := .eq) (off := 7) (bb := true) (tg := 448) (by decide +kernel) (by decide +kernel) g0 (by decide +kernel) ?_
  refine Ru.op (q := (.iconst 0, 1)) (by decide +kernel) rfl ?_
  refine Ru.op (q := (.aload_n 0, 1)) (by decide +kernel) rfl ?_
  refine Ru.op (q := (.iload 4, 2)) (by decide +kernel) rfl ?_
  refine Ru.op (q := (.iconst 2, 1)) (by decide +kernel) rfl ?_
  refine Ru.op (q := (.iadd, 1)) (by decide +kernel) rfl ?_
  refine Ru.sld (L := 5) (k := 2) (v := s2) rfl rfl (by decide +kernel) (by decide +kernel) (by decide +kernel) rfl ?_
  refine Ru.call (q := (.invokevirtual 98, 3)) (by decide +kernel) rfl rfl rfl rfl ⟨Nat.le_of_ble_eq_true rfl, Nat.le_of_ble_eq_true rfl, Nat.le_of_ble_eq_true rfl, Nat.le_of_ble_eq_true rfl⟩ (p1_prt0_2 s1 s2 s3 s4 g1) ?_
  refine Ru.op (q := (.istore 6, 2)) (by decide +kernel) rfl ?_
  refine Ru.op (q := (.aload_n 2, 1)) (by decide +kernel) rfl ?_
  refine Ru.call (q := (.invokevirtual 68, 3)) (by decide +kernel) rfl rfl rfl rfl ⟨Nat.le_of_ble_eq_true rfl, Nat.le_of_ble_eq_true rfl, Nat.le_of_ble_eq_true rfl, Nat.le_of_ble_eq_true rfl⟩ (p1_prt0_3) ?_
  refine Ru.op (q := (.iload 5, 2)) (by decide +kernel) rfl ?_
  refine Ru.br2 (k := .eq) (off := 5) (bb := true) (tg := 471) (by decide +kernel) (by decide +kernel) (by decide +kernel) (by decide +kernel) ?_
  refine Ru.op (q := (.iload 5, 2)) (by decide +kernel) rfl ?_
  refine Ru.br (k := .ne) (off := 15) (bb := true) (tg := 488) (by decide +kernel) (by decide +kernel) (by decide +kernel) (by decide +kernel) ?_
  refine Ru.op (q := (.goto 363, 3)) (by decide +kernel) rfl ?_
  exact p1_tail rfl
def fh_prt1_1 : mn_H := [(0, [.ref 1, .ref 13, .ref 28, .ref 30, .ref 35, .int 0, .int (-1)]), (1, [.ref 2, .int 0, .ref 3, .int 0, .int 0, .int 0, .ref 10, .ref 11, .int 0, .int 0, .int 0, .ref 12, .int 0]), (52, List.replicate 160 (.int 0)), (2, [.ref 4, .ref 5, .ref 6, .ref 7, .ref 8, .int 0, .ref 9, .int 0]), (50, List.replicate 160 (.int 0)), (50, List.replicate 160 (.int 0)), (50, List.replicate 160 (.int 0)), (50, List.replicate 160 (.int 0)), (50, List.replicate 160 (.int 0)), (50, List.replicate 1280 (.int 0)), (50, List.replicate 10 (.int 0)), (50, List.replicate 10 (.int 0)), (50, List.replicate 16 (.int 0)), (3, [.ref 14, .int 0, .int 0, .int 0, .int 0, .int 0, .int 0, .int (-1), .int 0, .ref 15, .ref 20, .ref 23, .ref 27]), (55, List.replicate 100 (.null)), (4, [.ref 16, .ref 19, .int 0, .int 0]), (5, [.ref 17, .ref 18, .int 0, .int 0]), (50, List.replicate 80 (.int 0)), (50, [.int 0, .int 0, .int 0, .int 0, .int 0]), (50, List.replicate 128 (.int 0)), (6, [.ref 21, .ref 22]), (50, List.replicate 32 (.int 0)), (50, List.replicate 32 (.int 0)), (7, [.ref 24, .ref 25, .ref 26]), (50, List.replicate 64 (.int 0)), (50, List.replicate 64 (.int 0)), (50, [.int 0, .int 0, .int 0, .int 0]), (51, List.replicate 100 (.int 0)), (8, [.ref 29, .int 0]), (52, List.replicate 128 (.int 0)), (4, [.ref 31, .ref 34, .int 0, .int 0]), (5, [.ref 32, .ref 33, .int 0, .int 0]), (50, List.replicate 80 (.int 0)), (50, [.int 0, .int 0, .int 0, .int 0, .int 0]), (50, List.replicate 128 (.int 0)), (54, List.replicate 24 (.null)), (10, [.int 0, .int (-1), .int 0, .ref 37, .ref 38, .ref 39, .ref 40, .ref 41, .ref 42, .int 0, .int 0, .ref 43, .ref 44, .ref 45, .int (-1), .int 0, .int 0, .int 0, .int 0, .int 0, .int 0, .ref 46, .int 0, .ref 47, .int 0, .ref 48, .ref 49, .int 0, .int 0, .int 0, .int 0, .ref 50, .ref 51, .ref 52, .int 0, .int 0, .int 0, .ref 53, .ref 54, .ref 55, .ref 56, .ref 57, .int 0, .int 0, .ref 58, .ref 59, .int 0, .ref 60, .ref 61, .ref 62, .ref 63, .ref 64, .ref 65, .ref 66, .ref 67, .ref 68, .int 0, .ref 69, .ref 70]), (50, List.replicate 160 (.int 0)), (50, List.replicate 8032 (.int 0)), (50, List.replicate 504 (.int 0)), (51, List.replicate 504 (.int 0)), (50, List.replicate 125 (.int 0)), (50, List.replicate 125 (.int 0)), (50, List.replicate 100 (.int 0)), (50, List.replicate 100 (.int 0)), (50, List.replicate 400 (.int 0)), (50, List.replicate 1024 (.int 0)), (50, List.replicate 128 (.int 0)), (50, List.replicate 100 (.int 0)), (51, List.replicate 100 (.int 0)), (50, List.replicate 50 (.int 0)), (50, List.replicate 50 (.int 0)), (51, List.replicate 50 (.int 0)), (50, List.replicate 16 (.int 0)), (50, List.replicate 10 (.int 0)), (51, List.replicate 10 (.int 0)), (51, List.replicate 10 (.int 0)), (50, List.replicate 10 (.int 0)), (50, List.replicate 300 (.int 0)), (50, List.replicate 2400 (.int 0)), (50, List.replicate 100 (.int 0)), (51, List.replicate 100 (.int 0)), (50, List.replicate 64 (.int 0)), (50, List.replicate 64 (.int 0)), (50, List.replicate 128 (.int 0)), (50, List.replicate 640 (.int 0)), (50, List.replicate 640 (.int 0)), (50, List.replicate 640 (.int 0)), (50, List.replicate 16 (.int 0)), (50, List.replicate 400 (.int 0)), (51, List.replicate 100 (.int 0)), (53, [.long 0]), (99, [])]
set_option maxRecDepth 100000 in
set_option maxHeartbeats 4000000 in
theorem p1_prt1_0 (s1 s2 s3 s4 : Int32) (g1 : mn_cmp .lt s2 0 = false) : Ru none 2046 83953 77 (0, mn_pad (mn_ent [.ref 0, .int (Int32.ofInt 0), .int s2]) 4, [], 20574, fh_0) ((3, none), 20580, fh_prt1_1) := by
  refine Ru.op (q := (.iload_n 1, 1)) (by decide +kernel) rfl ?_
  refine Ru.br (k := .eq) (off := 10) (bb := true) (tg := 11) (by decide +kernel) (by decide +kernel) (by decide +kernel) (by decide +kernel) ?_
  refine Ru.op (q := (.aload_n 0, 1)) (by decide +kernel) rfl ?_
  refine Ru.op (q := (.getfield 19, 3)) (by decide +kernel) rfl ?_
  refine Ru.op (q := (.getfield 105, 3)) (by decide +kernel) rfl ?_
  refine Ru.op (q := (.istore_n 3, 1)) (by decide +kernel) rfl ?_
  refine Ru.op (q := (.iload_n 2, 1)) (by decide +kernel) rfl ?_
  refine Ru.br (k := .lt) (off := 8) (bb := false) (tg := 23) (by decide +kernel) (by decide +kernel) g1 (by decide +kernel) ?_
  refine Ru.op (q := (.iload_n 2, 1)) (by decide +kernel) rfl ?_
  refine Ru.op (q := (.iload_n 3, 1)) (by decide +kernel) rfl ?_
  refine Ru.br2 (k := .lt) (off := 11) (bb := false) (tg := 28) (by decide +kernel) (by decide +kernel) g1 (by decide +kernel) ?_
  exact Ru.thr (q := (.new 108, 3)) (by decide +kernel) rfl rfl (by decide +kernel)
set_option maxRecDepth 100000 in
set_option maxHeartbeats 4000000 in
theorem p1_prt1_1 (s1 s2 s3 s4 : Int32) (g1 : mn_cmp .lt s2 0 = false) : Ru none 2047 83976 166 (0, mn_pad (mn_ent [.ref 0, .int (Int32.ofInt 0), .int s2, .ref 71]) 5, [], 20574, fh_0) ((0, some (.int (Int32.ofInt 1))), 20580, fh_prt1_1) := by
  refine Ru.op (q := (.aload_n 3, 1)) (by decide +kernel) rfl ?_
  refine Ru.op (q := (.iconst 0, 1)) (by decide +kernel) rfl ?_
  refine Ru.op (q := (.aload_n 0, 1)) (by decide +kernel) rfl ?_
  refine Ru.op (q := (.iload_n 1, 1)) (by decide +kernel) rfl ?_
  refine Ru.op (q := (.iload_n 2, 1)) (by decide +kernel) rfl ?_
  refine Ru.catch (i := 31) (j2 := 77) (k := 2) (hp := 13) (by decide +kernel) rfl rfl rfl rfl ⟨Nat.le_of_ble_eq_true rfl, Nat.le_of_ble_eq_true rfl, Nat.le_of_ble_eq_true rfl, Nat.le_of_ble_eq_true rfl⟩ (by decide +kernel) (p1_prt1_0 s1 s2 s3 s4 g1) ?_
  refine Ru.op (q := (.astore 4, 2)) (by decide +kernel) rfl ?_
  refine Ru.op (q := (.iconst 1, 1)) (by decide +kernel) rfl ?_
  exact Ru.end (q := (.ireturn, 1)) (by decide +kernel) rfl rfl
def fh_prt1_2 : mn_H := [(0, [.ref 1, .ref 13, .ref 28, .ref 30, .ref 35, .int 0, .int (-1)]), (1, [.ref 2, .int 0, .ref 3, .int 0, .int 0, .int 0, .ref 10, .ref 11, .int 0, .int 0, .int 0, .ref 12, .int 0]), (52, List.replicate 160 (.int 0)), (2, [.ref 4, .ref 5, .ref 6, .ref 7, .ref 8, .int 0, .ref 9, .int 0]), (50, List.replicate 160 (.int 0)), (50, List.replicate 160 (.int 0)), (50, List.replicate 160 (.int 0)), (50, List.replicate 160 (.int 0)), (50, List.replicate 160 (.int 0)), (50, List.replicate 1280 (.int 0)), (50, List.replicate 10 (.int 0)), (50, List.replicate 10 (.int 0)), (50, List.replicate 16 (.int 0)), (3, [.ref 14, .int 0, .int 0, .int 0, .int 0, .int 0, .int 0, .int (-1), .int 0, .ref 15, .ref 20, .ref 23, .ref 27]), (55, List.replicate 100 (.null)), (4, [.ref 16, .ref 19, .int 0, .int 0]), (5, [.ref 17, .ref 18, .int 0, .int 0]), (50, List.replicate 80 (.int 0)), (50, [.int 0, .int 0, .int 0, .int 0, .int 0]), (50, List.replicate 128 (.int 0)), (6, [.ref 21, .ref 22]), (50, List.replicate 32 (.int 0)), (50, List.replicate 32 (.int 0)), (7, [.ref 24, .ref 25, .ref 26]), (50, List.replicate 64 (.int 0)), (50, List.replicate 64 (.int 0)), (50, [.int 0, .int 0, .int 0, .int 0]), (51, List.replicate 100 (.int 0)), (8, [.ref 29, .int 0]), (52, List.replicate 128 (.int 0)), (4, [.ref 31, .ref 34, .int 0, .int 0]), (5, [.ref 32, .ref 33, .int 0, .int 0]), (50, List.replicate 80 (.int 0)), (50, [.int 0, .int 0, .int 0, .int 0, .int 0]), (50, List.replicate 128 (.int 0)), (54, List.replicate 24 (.null)), (10, [.int 1, .int (-1), .int 0, .ref 37, .ref 38, .ref 39, .ref 40, .ref 41, .ref 42, .int 0, .int 0, .ref 43, .ref 44, .ref 45, .int (-1), .int 0, .int 0, .int 0, .int 0, .int 0, .int 0, .ref 46, .int 0, .ref 47, .int 0, .ref 48, .ref 49, .int 0, .int 0, .int 0, .int 0, .ref 50, .ref 51, .ref 52, .int 0, .int 0, .int 0, .ref 53, .ref 54, .ref 55, .ref 56, .ref 57, .int 0, .int 0, .ref 58, .ref 59, .int 0, .ref 60, .ref 61, .ref 62, .ref 63, .ref 64, .ref 65, .ref 66, .ref 67, .ref 68, .int 0, .ref 69, .ref 70]), (50, List.replicate 160 (.int 0)), (50, List.replicate 8032 (.int 0)), (50, List.replicate 504 (.int 0)), (51, List.replicate 504 (.int 0)), (50, List.replicate 125 (.int 0)), (50, List.replicate 125 (.int 0)), (50, List.replicate 100 (.int 0)), (50, List.replicate 100 (.int 0)), (50, List.replicate 400 (.int 0)), (50, List.replicate 1024 (.int 0)), (50, List.replicate 128 (.int 0)), (50, List.replicate 100 (.int 0)), (51, List.replicate 100 (.int 0)), (50, List.replicate 50 (.int 0)), (50, List.replicate 50 (.int 0)), (51, List.replicate 50 (.int 0)), (50, List.replicate 16 (.int 0)), (50, List.replicate 10 (.int 0)), (51, List.replicate 10 (.int 0)), (51, List.replicate 10 (.int 0)), (50, List.replicate 10 (.int 0)), (50, List.replicate 300 (.int 0)), (50, List.replicate 2400 (.int 0)), (50, List.replicate 100 (.int 0)), (51, List.replicate 100 (.int 0)), (50, List.replicate 64 (.int 0)), (50, List.replicate 64 (.int 0)), (50, List.replicate 128 (.int 0)), (50, List.replicate 640 (.int 0)), (50, List.replicate 640 (.int 0)), (50, List.replicate 640 (.int 0)), (50, List.replicate 16 (.int 0)), (50, List.replicate 400 (.int 0)), (51, List.replicate 100 (.int 0)), (53, [.long 0]), (99, [])]
set_option maxRecDepth 100000 in
set_option maxHeartbeats 4000000 in
theorem p1_prt1_2 (s1 s2 s3 s4 : Int32) (g1 : mn_cmp .lt s2 0 = false) : Ru none 2047 83976 148 (0, mn_pad (mn_ent [.ref 36, .int (Int32.ofInt 0), .int s2]) 5, [], 20580, fh_prt1_1) ((0, some (.int (Int32.ofInt 0))), 20580, fh_prt1_2) := by
  refine Ru.op (q := (.aload_n 0, 1)) (by decide +kernel) rfl ?_
  refine Ru.op (q := (.iload_n 2, 1)) (by decide +kernel) rfl ?_
  refine Ru.br (k := .lt) (off := 22) (bb := false) (tg := 5) (by decide +kernel) (by decide +kernel) g1 (by decide +kernel) ?_
  refine Ru.op (q := (.iload_n 2, 1)) (by decide +kernel) rfl ?_
  refine Ru.op (q := (.iload_n 1, 1)) (by decide +kernel) rfl ?_
  refine Ru.br (k := .eq) (off := 10) (bb := true) (tg := 17) (by decide +kernel) (by decide +kernel) (by decide +kernel) (by decide +kernel) ?_
  refine Ru.op (q := (.aload_n 0, 1)) (by decide +kernel) rfl ?_
  refine Ru.op (q := (.getfield 263, 3)) (by decide +kernel) rfl ?_
  refine Ru.br2 (k := .lt) (off := 7) (bb := false) (tg := 24) (by decide +kernel) (by decide +kernel) g1 (by decide +kernel) ?_
  refine Ru.op (q := (.iconst 1, 1)) (by decide +kernel) rfl ?_
  refine Ru.op (q := (.goto 4, 3)) (by decide +kernel) rfl ?_
  refine Ru.op (q := (.putfield 120, 3)) (by decide +kernel) rfl ?_
  refine Ru.op (q := (.aload_n 0, 1)) (by decide +kernel) rfl ?_
  refine Ru.op (q := (.getfield 120, 3)) (by decide +kernel) rfl ?_
  refine Ru.br (k := .le) (off := 5) (bb := false) (tg := 39) (by decide +kernel) (by decide +kernel) (by decide +kernel) (by decide +kernel) ?_
  refine Ru.op (q := (.iconst 0, 1)) (by decide +kernel) rfl ?_
  exact Ru.end (q := (.ireturn, 1)) (by decide +kernel) rfl rfl
set_option maxRecDepth 100000 in
theorem p1_prt1_3 : Ru none 2047 83980 94 (0, mn_pad (mn_ent [.ref 36]) 1, [], 20580, fh_prt1_2) ((0, some (.int 1)), 20580, fh_prt1_2) := Ru.of 5 (by decide +kernel)
set_option maxRecDepth 100000 in
set_option maxHeartbeats 4000000 in
theorem p1_prt1 {s0 s1 s2 s3 s4 : Int32} (g0 : mn_cmp .eq s1 0 = true) (g1 : mn_cmp .lt s2 0 = false) : Ru (some [s0, s1, s2, s3, s4]) 2048 84000 172 (407, [some (.retAddr 0), some (.ref 0), some (.ref 36), some (.ref 71), some (.int 0), none, none], [], 20574, fh_0) ((0, some (.int 1)), 20580, fh_prt1_2) := by
  refine Ru.op (q := (.aload_n 1, 1)) (by decide +kernel) rfl ?_
  refine Ru.op (q := (.aload_n 0, 1)) (by decide +kernel) rfl ?_
  refine Ru.op (q := (.iload 4, 2)) (by decide +kernel) rfl ?_
  refine Ru.op (q := (.iconst 1, 1)) (by decide +kernel) rfl ?_
  refine Ru.op (q := (.iadd, 1)) (by decide +kernel) rfl ?_
  refine Ru.sld (L := 5) (k := 1) (v := s1) rfl rfl (by decide +kernel) (by decide +kernel) (by decide +kernel) rfl ?_
  refine Ru.br (k := .eq) (off := 7) (bb := true) (tg := 421) (by decide +kernel) (by decide +kernel) g0 (by decide +kernel) ?_
  refine Ru.op (q := (.iconst 0, 1)) (by decide +kernel) rfl ?_
  refine Ru.op (q := (.aload_n 0, 1)) (by decide +kernel) rfl ?_
  refine Ru.op (q := (.iload 4, 2)) (by decide +kernel) rfl ?_
  refine Ru.op (q := (.iconst 2, 1)) (by decide +kernel) rfl ?_
  refine Ru.op (q := (.iadd, 1)) (by decide +kernel) rfl ?_
  refine Ru.sld (L := 5) (k := 2) (v := s2) rfl rfl (by decide +kernel) (by decide +kernel) (by decide +kernel) rfl ?_
  refine Ru.op (q := (.aload_n 3, 1)) (by decide +kernel) rfl ?_
  refine Ru.call (q := (.invokestatic 95, 3)) (by decide +kernel) rfl rfl rfl rfl ⟨Nat.le_of_ble_eq_true rfl, Nat.le_of_ble_eq_true rfl, Nat.le_of_ble_eq_true rfl, Nat.le_of_ble_eq_true rfl⟩ (p1_prt1_1 s1 s2 s3 s4 g1) ?_
  refine Ru.op (q := (.istore 5, 2)) (by decide +kernel) rfl ?_
  refine Ru.op (q := (.aload_n 2, 1)) (by decide +kernel) rfl ?_
  refine Ru.op (q := (.aload_n 0, 1)) (by decide +kernel) rfl ?_
  refine Ru.op (q := (.iload 4, 2)) (by decide +kernel) rfl ?_
  refine Ru.op (q := (.iconst 1, 1)) (by decide +kernel) rfl ?_
  refine Ru.op (q := (.iadd, 1)) (by decide +kernel) rfl ?_
  refine Ru.sld (L := 5) (k := 1) (v := s1) rfl rfl (by decide +kernel) (by decide +kernel) (by decide +kernel) rfl ?_
  refine Ru.br (k := .eq) (off := 7) (bb := true) (tg := 448) (by decide +kernel) (by decide +kernel) g0 (by decide +kernel) ?_
  refine Ru.op (q := (.iconst 0, 1)) (by decide +kernel) rfl ?_
  refine Ru.op (q := (.aload_n 0, 1)) (by decide +kernel) rfl ?_
  refine Ru.op (q := (.iload 4, 2)) (by decide +kernel) rfl ?_
  refine Ru.op (q := (.iconst 2, 1)) (by decide +kernel) rfl ?_
  refine Ru.op (q := (.iadd, 1)) (by decide +kernel) rfl ?_
  refine Ru.sld (L := 5) (k := 2) (v := s2) rfl rfl (by decide +kernel) (by decide +kernel) (by decide +kernel) rfl ?_
  refine Ru.call (q := (.invokevirtual 98, 3)) (by decide +kernel) rfl rfl rfl rfl ⟨Nat.le_of_ble_eq_true rfl, Nat.le_of_ble_eq_true rfl, Nat.le_of_ble_eq_true rfl, Nat.le_of_ble_eq_true rfl⟩ (p1_prt1_2 s1 s2 s3 s4 g1) ?_
  refine Ru.op (q := (.istore 6, 2)) (by decide +kernel) rfl ?_
  refine Ru.op (q := (.aload_n 2, 1)) (by decide +kernel) rfl ?_
  refine Ru.call (q := (.invokevirtual 68, 3)) (by decide +kernel) rfl rfl rfl rfl ⟨Nat.le_of_ble_eq_true rfl, Nat.le_of_ble_eq_true rfl, Nat.le_of_ble_eq_true rfl, Nat.le_of_ble_eq_true rfl⟩ (p1_prt1_3) ?_
  refine Ru.op (q := (.iload 5, 2)) (by decide +kernel) rfl ?_
  refine Ru.br2 (k := .eq) (off := 5) (bb := true) (tg := 471) (by decide +kernel) (by decide +kernel) (by decide +kernel) (by decide +kernel) ?_
  refine Ru.op (q := (.iload 5, 2)) (by decide +kernel) rfl ?_
  refine Ru.br (k := .ne) (off := 15) (bb := true) (tg := 488) (by decide +kernel) (by decide +kernel) (by decide +kernel) (by decide +kernel) ?_
  refine Ru.op (q := (.goto 363, 3)) (by decide +kernel) rfl ?_
  exact p1_tail rfl
def fh_prt2_1 : mn_H := [(0, [.ref 1, .ref 13, .ref 28, .ref 30, .ref 35, .int 0, .int (-1)]), (1, [.ref 2, .int 0, .ref 3, .int 0, .int 0, .int 0, .ref 10, .ref 11, .int 0, .int 0, .int 0, .ref 12, .int 0]), (52, List.replicate 160 (.int 0)), (2, [.ref 4, .ref 5, .ref 6, .ref 7, .ref 8, .int 0, .ref 9, .int 0]), (50, List.replicate 160 (.int 0)), (50, List.replicate 160 (.int 0)), (50, List.replicate 160 (.int 0)), (50, List.replicate 160 (.int 0)), (50, List.replicate 160 (.int 0)), (50, List.replicate 1280 (.int 0)), (50, List.replicate 10 (.int 0)), (50, List.replicate 10 (.int 0)), (50, List.replicate 16 (.int 0)), (3, [.ref 14, .int 0, .int 0, .int 0, .int 0, .int 0, .int 0, .int (-1), .int 0, .ref 15, .ref 20, .ref 23, .ref 27]), (55, List.replicate 100 (.null)), (4, [.ref 16, .ref 19, .int 0, .int 0]), (5, [.ref 17, .ref 18, .int 0, .int 0]), (50, List.replicate 80 (.int 0)), (50, [.int 0, .int 0, .int 0, .int 0, .int 0]), (50, List.replicate 128 (.int 0)), (6, [.ref 21, .ref 22]), (50, List.replicate 32 (.int 0)), (50, List.replicate 32 (.int 0)), (7, [.ref 24, .ref 25, .ref 26]), (50, List.replicate 64 (.int 0)), (50, List.replicate 64 (.int 0)), (50, [.int 0, .int 0, .int 0, .int 0]), (51, List.replicate 100 (.int 0)), (8, [.ref 29, .int 0]), (52, List.replicate 128 (.int 0)), (4, [.ref 31, .ref 34, .int 0, .int 0]), (5, [.ref 32, .ref 33, .int 0, .int 0]), (50, List.replicate 80 (.int 0)), (50, [.int 0, .int 0, .int 0, .int 0, .int 0]), (50, List.replicate 128 (.int 0)), (54, List.replicate 24 (.null)), (10, [.int 0, .int (-1), .int 0, .ref 37, .ref 38, .ref 39, .ref 40, .ref 41, .ref 42, .int 0, .int 0, .ref 43, .ref 44, .ref 45, .int (-1), .int 0, .int 0, .int 0, .int 0, .int 0, .int 0, .ref 46, .int 0, .ref 47, .int 0, .ref 48, .ref 49, .int 0, .int 0, .int 0, .int 0, .ref 50, .ref 51, .ref 52, .int 0, .int 0, .int 0, .ref 53, .ref 54, .ref 55, .ref 56, .ref 57, .int 0, .int 0, .ref 58, .ref 59, .int 0, .ref 60, .ref 61, .ref 62, .ref 63, .ref 64, .ref 65, .ref 66, .ref 67, .ref 68, .int 0, .ref 69, .ref 70]), (50, List.replicate 160 (.int 0)), (50, List.replicate 8032 (.int 0)), (50, List.replicate 504 (.int 0)), (51, List.replicate 504 (.int 0)), (50, List.replicate 125 (.int 0)), (50, List.replicate 125 (.int 0)), (50, List.replicate 100 (.int 0)), (50, List.replicate 100 (.int 0)), (50, List.replicate 400 (.int 0)), (50, List.replicate 1024 (.int 0)), (50, List.replicate 128 (.int 0)), (50, List.replicate 100 (.int 0)), (51, List.replicate 100 (.int 0)), (50, List.replicate 50 (.int 0)), (50, List.replicate 50 (.int 0)), (51, List.replicate 50 (.int 0)), (50, List.replicate 16 (.int 0)), (50, List.replicate 10 (.int 0)), (51, List.replicate 10 (.int 0)), (51, List.replicate 10 (.int 0)), (50, List.replicate 10 (.int 0)), (50, List.replicate 300 (.int 0)), (50, List.replicate 2400 (.int 0)), (50, List.replicate 100 (.int 0)), (51, List.replicate 100 (.int 0)), (50, List.replicate 64 (.int 0)), (50, List.replicate 64 (.int 0)), (50, List.replicate 128 (.int 0)), (50, List.replicate 640 (.int 0)), (50, List.replicate 640 (.int 0)), (50, List.replicate 640 (.int 0)), (50, List.replicate 16 (.int 0)), (50, List.replicate 400 (.int 0)), (51, List.replicate 100 (.int 0)), (53, [.long 0]), (99, [])]
set_option maxRecDepth 100000 in
set_option maxHeartbeats 4000000 in
theorem p1_prt2_0 (s1 s2 s3 s4 : Int32) (g1 : mn_cmp .lt s2 0 = true) : Ru none 2046 83953 77 (0, mn_pad (mn_ent [.ref 0, .int (Int32.ofInt 1), .int s2]) 4, [], 20574, fh_0) ((3, none), 20580, fh_prt2_1) := by
  refine Ru.op (q := (.iload_n 1, 1)) (by decide +kernel) rfl ?_
  refine Ru.br (k := .eq) (off := 10) (bb := false) (tg := 4) (by decide +kernel) (by decide +kernel) (by decide +kernel) (by decide +kernel) ?_
  refine Ru.op (q := (.aload_n 0, 1)) (by decide +kernel) rfl ?_
  refine Ru.op (q := (.getfield 102, 3)) (by decide +kernel) rfl ?_
  refine Ru.op (q := (.goto 10, 3)) (by decide +kernel) rfl ?_
  refine Ru.op (q := (.istore_n 3, 1)) (by decide +kernel) rfl ?_
  refine Ru.op (q := (.iload_n 2, 1)) (by decide +kernel) rfl ?_
  refine Ru.br (k := .lt) (off := 8) (bb := true) (tg := 28) (by decide +kernel) (by decide +kernel) g1 (by decide +kernel) ?_
  exact Ru.thr (q := (.new 108, 3)) (by decide +kernel) rfl rfl (by decide +kernel)
set_option maxRecDepth 100000 in
set_option maxHeartbeats 4000000 in
theorem p1_prt2_1 (s1 s2 s3 s4 : Int32) (g1 : mn_cmp .lt s2 0 = true) : Ru none 2047 83976 166 (0, mn_pad (mn_ent [.ref 0, .int (Int32.ofInt 1), .int s2, .ref 71]) 5, [], 20574, fh_0) ((0, some (.int (Int32.ofInt 1))), 20580, fh_prt2_1) := by
  refine Ru.op (q := (.aload_n 3, 1)) (by decide +kernel) rfl ?_
  refine Ru.op (q := (.iconst 0, 1)) (by decide +kernel) rfl ?_
  refine Ru.op (q := (.aload_n 0, 1)) (by decide +kernel) rfl ?_
  refine Ru.op (q := (.iload_n 1, 1)) (by decide +kernel) rfl ?_
  refine Ru.op (q := (.iload_n 2, 1)) (by decide +kernel) rfl ?_
  refine Ru.catch (i := 31) (j2 := 77) (k := 2) (hp := 13) (by decide +kernel) rfl rfl rfl rfl ⟨Nat.le_of_ble_eq_true rfl, Nat.le_of_ble_eq_true rfl, Nat.le_of_ble_eq_true rfl, Nat.le_of_ble_eq_true rfl⟩ (by decide +kernel) (p1_prt2_0 s1 s2 s3 s4 g1) ?_
  refine Ru.op (q := (.astore 4, 2)) (by decide +kernel) rfl ?_
  refine Ru.op (q := (.iconst 1, 1)) (by decide +kernel) rfl ?_
  exact Ru.end (q := (.ireturn, 1)) (by decide +kernel) rfl rfl
def fh_prt2_2 : mn_H := [(0, [.ref 1, .ref 13, .ref 28, .ref 30, .ref 35, .int 0, .int (-1)]), (1, [.ref 2, .int 0, .ref 3, .int 0, .int 0, .int 0, .ref 10, .ref 11, .int 0, .int 0, .int 0, .ref 12, .int 0]), (52, List.replicate 160 (.int 0)), (2, [.ref 4, .ref 5, .ref 6, .ref 7, .ref 8, .int 0, .ref 9, .int 0]), (50, List.replicate 160 (.int 0)), (50, List.replicate 160 (.int 0)), (50, List.replicate 160 (.int 0)), (50, List.replicate 160 (.int 0)), (50, List.replicate 160 (.int 0)), (50, List.replicate 1280 (.int 0)), (50, List.replicate 10 (.int 0)), (50, List.replicate 10 (.int 0)), (50, List.replicate 16 (.int 0)), (3, [.ref 14, .int 0, .int 0, .int 0, .int 0, .int 0, .int 0, .int (-1), .int 0, .ref 15, .ref 20, .ref 23, .ref 27]), (55, List.replicate 100 (.null)), (4, [.ref 16, .ref 19, .int 0, .int 0]), (5, [.ref 17, .ref 18, .int 0, .int 0]), (50, List.replicate 80 (.int 0)), (50, [.int 0, .int 0, .int 0, .int 0, .int 0]), (50, List.replicate 128 (.int 0)), (6, [.ref 21, .ref 22]), (50, List.replicate 32 (.int 0)), (50, List.replicate 32 (.int 0)), (7, [.ref 24, .ref 25, .ref 26]), (50, List.replicate 64 (.int 0)), (50, List.replicate 64 (.int 0)), (50, [.int 0, .int 0, .int 0, .int 0]), (51, List.replicate 100 (.int 0)), (8, [.ref 29, .int 0]), (52, List.replicate 128 (.int 0)), (4, [.ref 31, .ref 34, .int 0, .int 0]), (5, [.ref 32, .ref 33, .int 0, .int 0]), (50, List.replicate 80 (.int 0)), (50, [.int 0, .int 0, .int 0, .int 0, .int 0]), (50, List.replicate 128 (.int 0)), (54, List.replicate 24 (.null)), (10, [.int 1, .int (-1), .int 0, .ref 37, .ref 38, .ref 39, .ref 40, .ref 41, .ref 42, .int 0, .int 0, .ref 43, .ref 44, .ref 45, .int (-1), .int 0, .int 0, .int 0, .int 0, .int 0, .int 0, .ref 46, .int 0, .ref 47, .int 0, .ref 48, .ref 49, .int 0, .int 0, .int 0, .int 0, .ref 50, .ref 51, .ref 52, .int 0, .int 0, .int 0, .ref 53, .ref 54, .ref 55, .ref 56, .ref 57, .int 0, .int 0, .ref 58, .ref 59, .int 0, .ref 60, .ref 61, .ref 62, .ref 63, .ref 64, .ref 65, .ref 66, .ref 67, .ref 68, .int 0, .ref 69, .ref 70]), (50, List.replicate 160 (.int 0)), (50, List.replicate 8032 (.int 0)), (50, List.replicate 504 (.int 0)), (51, List.replicate 504 (.int 0)), (50, List.replicate 125 (.int 0)), (50, List.replicate 125 (.int 0)), (50, List.replicate 100 (.int 0)), (50, List.replicate 100 (.int 0)), (50, List.replicate 400 (.int 0)), (50, List.replicate 1024 (.int 0)), (50, List.replicate 128 (.int 0)), (50, List.replicate 100 (.int 0)), (51, List.replicate 100 (.int 0)), (50, List.replicate 50 (.int 0)), (50, List.replicate 50 (.int 0)), (51, List.replicate 50 (.int 0)), (50, List.replicate 16 (.int 0)), (50, List.replicate 10 (.int 0)), (51, List.replicate 10 (.int 0)), (51, List.replicate 10 (.int 0)), (50, List.replicate 10 (.int 0)), (50, List.replicate 300 (.int 0)), (50, List.replicate 2400 (.int 0)), (50, List.replicate 100 (.int 0)), (51, List.replicate 100 (.int 0)), (50, List.replicate 64 (.int 0)), (50, List.replicate 64 (.int 0)), (50, List.replicate 128 (.int 0)), (50, List.replicate 640 (.int 0)), (50, List.replicate 640 (.int 0)), (50, List.replicate 640 (.int 0)), (50, List.replicate 16 (.int 0)), (50, List.replicate 400 (.int 0)), (51, List.replicate 100 (.int 0)), (53, [.long 0]), (99, [])]
set_option maxRecDepth 100000 in
set_option maxHeartbeats 4000000 in
theorem p1_prt2_2 (s1 s2 s3 s4 : Int32) (g1 : mn_cmp .lt s2 0 = true) : Ru none 2047 83976 148 (0, mn_pad (mn_ent [.ref 36, .int (Int32.ofInt 1), .int s2]) 5, [], 20580, fh_prt2_1) ((0, some (.int (Int32.ofInt 0))), 20580, fh_prt2_2) := by
  refine Ru.op (q := (.aload_n 0, 1)) (by decide +kernel) rfl ?_
  refine Ru.op (q := (.iload_n 2, 1)) (by decide +kernel) rfl ?_
  refine Ru.br (k := .lt) (off := 22) (bb := true) (tg := 24) (by decide +kernel) (by decide +kernel) g1 (by decide +kernel) ?_
  refine Ru.op (q := (.iconst 1, 1)) (by decide +kernel) rfl ?_
  refine Ru.op (q := (.goto 4, 3)) (by decide +kernel) rfl ?_
  refine Ru.op (q := (.putfield 120, 3)) (by decide +kernel) rfl ?_
  refine Ru.op (q := (.aload_n 0, 1)) (by decide +kernel) rfl ?_
  refine Ru.op (q := (.getfield 120, 3)) (by decide +kernel) rfl ?_
  refine Ru.br (k := .le) (off := 5) (bb := false) (tg := 39) (by decide +kernel) (by decide +kernel) (by decide +kernel) (by decide +kernel) ?_
  refine Ru.op (q := (.iconst 0, 1)) (by decide +kernel) rfl ?_
  exact Ru.end (q := (.ireturn, 1)) (by decide +kernel) rfl rfl
set_option maxRecDepth 100000 in
theorem p1_prt2_3 : Ru none 2047 83980 94 (0, mn_pad (mn_ent [.ref 36]) 1, [], 20580, fh_prt2_2) ((0, some (.int 1)), 20580, fh_prt2_2) := Ru.of 5 (by decide +kernel)
set_option maxRecDepth 100000 in
set_option maxHeartbeats 4000000 in
theorem p1_prt2 {s0 s1 s2 s3 s4 : Int32} (g0 : mn_cmp .eq s1 0 = false) (g1 : mn_cmp .lt s2 0 = true) : Ru (some [s0, s1, s2, s3, s4]) 2048 84000 172 (407, [some (.retAddr 0), some (.ref 0), some (.ref 36), some (.ref 71), some (.int 0), none, none], [], 20574, fh_0) ((0, some (.int 1)), 20580, fh_prt2_2) := by
  refine Ru.op (q := (.aload_n 1, 1)) (by decide +kernel) rfl ?_
  refine Ru.op (q := (.aload_n 0, 1)) (by decide +kernel) rfl ?_
  refine Ru.op (q := (.iload 4, 2)) (by decide +kernel) rfl ?_
  refine Ru.op (q := (.iconst 1, 1)) (by decide +kernel) rfl ?_
  refine Ru.op (q := (.iadd, 1)) (by decide +kernel) rfl ?_
  refine Ru.sld (L := 5) (k := 1) (v := s1) rfl rfl (by decide +kernel) (by decide +kernel) (by decide +kernel) rfl ?_
  refine Ru.br (k := .eq) (off := 7) (bb := false) (tg := 417) (by decide +kernel) (by decide +kernel) g0 (by decide +kernel) ?_
  refine Ru.op (q := (.iconst 1, 1)) (by decide +kernel) rfl ?_
  refine Ru.op (q := (.goto 4, 3)) (by decide +kernel) rfl ?_
  refine Ru.op (q := (.aload_n 0, 1)) (by decide +kernel) rfl ?_
  refine Ru.op (q := (.iload 4, 2)) (by decide +kernel) rfl ?_
  refine Ru.op (q := (.iconst 2, 1)) (by decide +kernel) rfl ?_
  refine Ru.op (q := (.iadd, 1)) (by decide +kernel) rfl ?_
  refine Ru.sld (L := 5) (k := 2) (v := s2) rfl rfl (by decide +kernel) (by decide +kernel) (by decide +kernel) rfl ?_
  refine Ru.op (q := (.aload_n 3, 1)) (by decide +kernel) rfl ?_
  refine Ru.call (q := (.invokestatic 95, 3)) (by decide +kernel) rfl rfl rfl rfl ⟨Nat.le_of_ble_eq_true rfl, Nat.le_of_ble_eq_true rfl, Nat.le_of_ble_eq_true rfl, Nat.le_of_ble_eq_true rfl⟩ (p1_prt2_1 s1 s2 s3 s4 g1) ?_
  refine Ru.op (q := (.istore 5, 2)) (by decide +kernel) rfl ?_
  refine Ru.op (q := (.aload_n 2, 1)) (by decide +kernel) rfl ?_
  refine Ru.op (q := (.aload_n 0, 1)) (by decide +kernel) rfl ?_
  refine Ru.op (q := (.iload 4, 2)) (by decide +kernel) rfl ?_
  refine Ru.op (q := (.iconst 1, 1)) (by decide +kernel) rfl ?_
  refine Ru.op (q := (.iadd, 1)) (by decide +kernel) rfl ?_
  refine Ru.sld (L := 5) (k := 1) (v := s1) rfl rfl (by decide +kernel) (by decide +kernel) (by decide +kernel) rfl ?_
  refine Ru.br (k := .eq) (off := 7) (bb := false) (tg := 444) (by decide +kernel) (by decide +kernel) g0 (by decide +kernel) ?_
  refine Ru.op (q := (.iconst 1, 1)) (by decide +kernel) rfl ?_
  refine Ru.op (q := (.goto 4, 3)) (by decide +kernel) rfl ?_
  refine Ru.op (q := (.aload_n 0, 1)) (by decide +kernel) rfl ?_
  refine Ru.op (q := (.iload 4, 2)) (by decide +kernel) rfl ?_
  refine Ru.op (q := (.iconst 2, 1)) (by decide +kernel) rfl ?_
  refine Ru.op (q := (.iadd, 1)) (by decide +kernel) rfl ?_
  refine Ru.sld (L := 5) (k := 2) (v := s2) rfl rfl (by decide +kernel) (by decide +kernel) (by decide +kernel) rfl ?_
  refine Ru.call (q := (.invokevirtual 98, 3)) (by decide +kernel) rfl rfl rfl rfl ⟨Nat.le_of_ble_eq_true rfl, Nat.le_of_ble_eq_true rfl, Nat.le_of_ble_eq_true rfl, Nat.le_of_ble_eq_true rfl⟩ (p1_prt2_2 s1 s2 s3 s4 g1) ?_
  refine Ru.op (q := (.istore 6, 2)) (by decide +kernel) rfl ?_
  refine Ru.op (q := (.aload_n 2, 1)) (by decide +kernel) rfl ?_
  refine Ru.call (q := (.invokevirtual 68, 3)) (by decide +kernel) rfl rfl rfl rfl ⟨Nat.le_of_ble_eq_true rfl, Nat.le_of_ble_eq_true rfl, Nat.le_of_ble_eq_true rfl, Nat.le_of_ble_eq_true rfl⟩ (p1_prt2_3) ?_
  refine Ru.op (q := (.iload 5, 2)) (by decide +kernel) rfl ?_
  refine Ru.br2 (k := .eq) (off := 5) (bb := true) (tg := 471) (by decide +kernel) (by decide +kernel) (by decide +kernel) (by decide +kernel) ?_
  refine Ru.op (q := (.iload 5, 2)) (by decide +kernel) rfl ?_
  refine Ru.br (k := .ne) (off := 15) (bb := true) (tg := 488) (by decide +kernel) (by decide +kernel) (by decide +kernel) (by decide +kernel) ?_
  refine Ru.op (q := (.goto 363, 3)) (by decide +kernel) rfl ?_
  exact p1_tail rfl
def fh_prt3_1 : mn_H := [(0, [.ref 1, .ref 13, .ref 28, .ref 30, .ref 35, .int 0, .int (-1)]), (1, [.ref 2, .int 0, .ref 3, .int 0, .int 0, .int 0, .ref 10, .ref 11, .int 0, .int 0, .int 0, .ref 12, .int 0]), (52, List.replicate 160 (.int 0)), (2, [.ref 4, .ref 5, .ref 6, .ref 7, .ref 8, .int 0, .ref 9, .int 0]), (50, List.replicate 160 (.int 0)), (50, List.replicate 160 (.int 0)), (50, List.replicate 160 (.int 0)), (50, List.replicate 160 (.int 0)), (50, List.replicate 160 (.int 0)), (50, List.replicate 1280 (.int 0)), (50, List.replicate 10 (.int 0)), (50, List.replicate 10 (.int 0)), (50, List.replicate 16 (.int 0)), (3, [.ref 14, .int 0, .int 0, .int 0, .int 0, .int 0, .int 0, .int (-1), .int 0, .ref 15, .ref 20, .ref 23, .ref 27]), (55, List.replicate 100 (.null)), (4, [.ref 16, .ref 19, .int 0, .int 0]), (5, [.ref 17, .ref 18, .int 0, .int 0]), (50, List.replicate 80 (.int 0)), (50, [.int 0, .int 0, .int 0, .int 0, .int 0]), (50, List.replicate 128 (.int 0)), (6, [.ref 21, .ref 22]), (50, List.replicate 32 (.int 0)), (50, List.replicate 32 (.int 0)), (7, [.ref 24, .ref 25, .ref 26]), (50, List.replicate 64 (.int 0)), (50, List.replicate 64 (.int 0)), (50, [.int 0, .int 0, .int 0, .int 0]), (51, List.replicate 100 (.int 0)), (8, [.ref 29, .int 0]), (52, List.replicate 128 (.int 0)), (4, [.ref 31, .ref 34, .int 0, .int 0]), (5, [.ref 32, .ref 33, .int 0, .int 0]), (50, List.replicate 80 (.int 0)), (50, [.int 0, .int 0, .int 0, .int 0, .int 0]), (50, List.replicate 128 (.int 0)), (54, List.replicate 24 (.null)), (10, [.int 0, .int (-1), .int 0, .ref 37, .ref 38, .ref 39, .ref 40, .ref 41, .ref 42, .int 0, .int 0, .ref 43, .ref 44, .ref 45, .int (-1), .int 0, .int 0, .int 0, .int 0, .int 0, .int 0, .ref 46, .int 0, .ref 47, .int 0, .ref 48, .ref 49, .int 0, .int 0, .int 0, .int 0, .ref 50, .ref 51, .ref 52, .int 0, .int 0, .int 0, .ref 53, .ref 54, .ref 55, .ref 56, .ref 57, .int 0, .int 0, .ref 58, .ref 59, .int 0, .ref 60, .ref 61, .ref 62, .ref 63, .ref 64, .ref 65, .ref 66, .ref 67, .ref 68, .int 0, .ref 69, .ref 70]), (50, List.replicate 160 (.int 0)), (50, List.replicate 8032 (.int 0)), (50, List.replicate 504 (.int 0)), (51, List.replicate 504 (.int 0)), (50, List.replicate 125 (.int 0)), (50, List.replicate 125 (.int 0)), (50, List.replicate 100 (.int 0)), (50, List.replicate 100 (.int 0)), (50, List.replicate 400 (.int 0)), (50, List.replicate 1024 (.int 0)), (50, List.replicate 128 (.int 0)), (50, List.replicate 100 (.int 0)), (51, List.replicate 100 (.int 0)), (50, List.replicate 50 (.int 0)), (50, List.replicate 50 (.int 0)), (51, List.replicate 50 (.int 0)), (50, List.replicate 16 (.int 0)), (50, List.replicate 10 (.int 0)), (51, List.replicate 10 (.int 0)), (51, List.replicate 10 (.int 0)), (50, List.replicate 10 (.int 0)), (50, List.replicate 300 (.int 0)), (50, List.replicate 2400 (.int 0)), (50, List.replicate 100 (.int 0)), (51, List.replicate 100 (.int 0)), (50, List.replicate 64 (.int 0)), (50, List.replicate 64 (.int 0)), (50, List.replicate 128 (.int 0)), (50, List.replicate 640 (.int 0)), (50, List.replicate 640 (.int 0)), (50, List.replicate 640 (.int 0)), (50, List.replicate 16 (.int 0)), (50, List.replicate 400 (.int 0)), (51, List.replicate 100 (.int 0)), (53, [.long 0]), (99, [])]
set_option maxRecDepth 100000 in
set_option maxHeartbeats 4000000 in
theorem p1_prt3_0 (s1 s2 s3 s4 : Int32) (g1 : mn_cmp .lt s2 0 = false) : Ru none 2046 83953 77 (0, mn_pad (mn_ent [.ref 0, .int (Int32.ofInt 1), .int s2]) 4, [], 20574, fh_0) ((3, none), 20580, fh_prt3_1) := by
  refine Ru.op (q := (.iload_n 1, 1)) (by decide +kernel) rfl ?_
  refine Ru.br (k := .eq) (off := 10) (bb := false) (tg := 4) (by decide +kernel) (by decide +kernel) (by decide +kernel) (by decide +kernel) ?_
  refine Ru.op (q := (.aload_n 0, 1)) (by decide +kernel) rfl ?_
  refine Ru.op (q := (.getfield 102, 3)) (by decide +kernel) rfl ?_
  refine Ru.op (q := (.goto 10, 3)) (by decide +kernel) rfl ?_
  refine Ru.op (q := (.istore_n 3, 1)) (by decide +kernel) rfl ?_
  refine Ru.op (q := (.iload_n 2, 1)) (by decide +kernel) rfl ?_
  refine Ru.br (k := .lt) (off := 8) (bb := false) (tg := 23) (by decide +kernel) (by decide +kernel) g1 (by decide +kernel) ?_
  refine Ru.op (q := (.iload_n 2, 1)) (by decide +kernel) rfl ?_
  refine Ru.op (q := (.iload_n 3, 1)) (by decide +kernel) rfl ?_
  refine Ru.br2 (k := .lt) (off := 11) (bb := false) (tg := 28) (by decide +kernel) (by decide +kernel) g1 (by decide +kernel) ?_
  exact Ru.thr (q := (.new 108, 3)) (by decide +kernel) rfl rfl (by decide +kernel)
set_option maxRecDepth 100000 in
set_option maxHeartbeats 4000000 in
theorem p1_prt3_1 (s1 s2 s3 s4 : Int32) (g1 : mn_cmp .lt s2 0 = false) : Ru none 2047 83976 166 (0, mn_pad (mn_ent [.ref 0, .int (Int32.ofInt 1), .int s2, .ref 71]) 5, [], 20574, fh_0) ((0, some (.int (Int32.ofInt 1))), 20580, fh_prt3_1) := by
  refine Ru.op (q := (.aload_n 3, 1)) (by decide +kernel) rfl ?_
  refine Ru.op (q := (.iconst 0, 1)) (by decide +kernel) rfl ?_
  refine Ru.op (q := (.aload_n 0, 1)) (by decide +kernel) rfl ?_
  refine Ru.op (q := (.iload_n 1, 1)) (by decide +kernel) rfl ?_
  refine Ru.op (q := (.iload_n 2, 1)) (by decide +kernel) rfl ?_
  refine Ru.catch (i := 31) (j2 := 77) (k := 2) (hp := 13) (by decide +kernel) rfl rfl rfl rfl ⟨Nat.le_of_ble_eq_true rfl, Nat.le_of_ble_eq_true rfl, Nat.le_of_ble_eq_true rfl, Nat.le_of_ble_eq_true rfl⟩ (by decide +kernel) (p1_prt3_0 s1 s2 s3 s4 g1) ?_
  refine Ru.op (q := (.astore 4, 2)) (by decide +kernel) rfl ?_
  refine Ru.op (q := (.iconst 1, 1)) (by decide +kernel) rfl ?_
  exact Ru.end (q := (.ireturn, 1)) (by decide +kernel) rfl rfl
def fh_prt3_2 : mn_H := [(0, [.ref 1, .ref 13, .ref 28, .ref 30, .ref 35, .int 0, .int (-1)]), (1, [.ref 2, .int 0, .ref 3, .int 0, .int 0, .int 0, .ref 10, .ref 11, .int 0, .int 0, .int 0, .ref 12, .int 0]), (52, List.replicate 160 (.int 0)), (2, [.ref 4, .ref 5, .ref 6, .ref 7, .ref 8, .int 0, .ref 9, .int 0]), (50, List.replicate 160 (.int 0)), (50, List.replicate 160 (.int 0)), (50, List.replicate 160 (.int 0)), (50, List.replicate 160 (.int 0)), (50, List.replicate 160 (.int 0)), (50, List.replicate 1280 (.int 0)), (50, List.replicate 10 (.int 0)), (50, List.replicate 10 (.int 0)), (50, List.replicate 16 (.int 0)), (3, [.ref 14, .int 0, .int 0, .int 0, .int 0, .int 0, .int 0, .int (-1), .int 0, .ref 15, .ref 20, .ref 23, .ref 27]), (55, List.replicate 100 (.null)), (4, [.ref 16, .ref 19, .int 0, .int 0]), (5, [.ref 17, .ref 18, .int 0, .int 0]), (50, List.replicate 80 (.int 0)), (50, [.int 0, .int 0, .int 0, .int 0, .int 0]), (50, List.replicate 128 (.int 0)), (6, [.ref 21, .ref 22]), (50, List.replicate 32 (.int 0)), (50, List.replicate 32 (.int 0)), (7, [.ref 24, .ref 25, .ref 26]), (50, List.replicate 64 (.int 0)), (50, List.replicate 64 (.int 0)), (50, [.int 0, .int 0, .int 0, .int 0]), (51, List.replicate 100 (.int 0)), (8, [.ref 29, .int 0]), (52, List.replicate 128 (.int 0)), (4, [.ref 31, .ref 34, .int 0, .int 0]), (5, [.ref 32, .ref 33, .int 0, .int 0]), (50, List.replicate 80 (.int 0)), (50, [.int 0, .int 0, .int 0, .int 0, .int 0]), (50, List.replicate 128 (.int 0)), (54, List.replicate 24 (.null)), (10, [.int 1, .int (-1), .int 0, .ref 37, .ref 38, .ref 39, .ref 40, .ref 41, .ref 42, .int 0, .int 0, .ref 43, .ref 44, .ref 45, .int (-1), .int 0, .int 0, .int 0, .int 0, .int 0, .int 0, .ref 46, .int 0, .ref 47, .int 0, .ref 48, .ref 49, .int 0, .int 0, .int 0, .int 0, .ref 50, .ref 51, .ref 52, .int 0, .int 0, .int 0, .ref 53, .ref 54, .ref 55, .ref 56, .ref 57, .int 0, .int 0, .ref 58, .ref 59, .int 0, .ref 60, .ref 61, .ref 62, .ref 63, .ref 64, .ref 65, .ref 66, .ref 67, .ref 68, .int 0, .ref 69, .ref 70]), (50, List.replicate 160 (.int 0)), (50, List.replicate 8032 (.int 0)), (50, List.replicate 504 (.int 0)), (51, List.replicate 504 (.int 0)), (50, List.replicate 125 (.int 0)), (50, List.replicate 125 (.int 0)), (50, List.replicate 100 (.int 0)), (50, List.replicate 100 (.int 0)), (50, List.replicate 400 (.int 0)), (50, List.replicate 1024 (.int 0)), (50, List.replicate 128 (.int 0)), (50, List.replicate 100 (.int 0)), (51, List.replicate 100 (.int 0)), (50, List.replicate 50 (.int 0)), (50, List.replicate 50 (.int 0)), (51, List.replicate 50 (.int 0)), (50, List.replicate 16 (.int 0)), (50, List.replicate 10 (.int 0)), (51, List.replicate 10 (.int 0)), (51, List.replicate 10 (.int 0)), (50, List.replicate 10 (.int 0)), (50, List.replicate 300 (.int 0)), (50, List.replicate 2400 (.int 0)), (50, List.replicate 100 (.int 0)), (51, List.replicate 100 (.int 0)), (50, List.replicate 64 (.int 0)), (50, List.replicate 64 (.int 0)), (50, List.replicate 128 (.int 0)), (50, List.replicate 640 (.int 0)), (50, List.replicate 640 (.int 0)), (50, List.replicate 640 (.int 0)), (50, List.replicate 16 (.int 0)), (50, List.replicate 400 (.int 0)), (51, List.replicate 100 (.int 0)), (53, [.long 0]), (99, [])]
set_option maxRecDepth 100000 in
set_option maxHeartbeats 4000000 in
theorem p1_prt3_2 (s1 s2 s3 s4 : Int32) (g1 : mn_cmp .lt s2 0 = false) : Ru none 2047 83976 148 (0, mn_pad (mn_ent [.ref 36, .int (Int32.ofInt 1), .int s2]) 5, [], 20580, fh_prt3_1) ((0, some (.int (Int32.ofInt 0))), 20580, fh_prt3_2) := by
  refine Ru.op (q := (.aload_n 0, 1)) (by decide +kernel) rfl ?_
  refine Ru.op (q := (.iload_n 2, 1)) (by decide +kernel) rfl ?_
  refine Ru.br (k := .lt) (off := 22) (bb := false) (tg := 5) (by decide +kernel) (by decide +kernel) g1 (by decide +kernel) ?_
  refine Ru.op (q := (.iload_n 2, 1)) (by decide +kernel) rfl ?_
  refine Ru.op (q := (.iload_n 1, 1)) (by decide +kernel) rfl ?_
  refine Ru.br (k := .eq) (off := 10) (bb := false) (tg := 10) (by decide +kernel) (by decide +kernel) (by decide +kernel) (by decide +kernel) ?_
  refine Ru.op (q := (.aload_n 0, 1)) (by decide +kernel) rfl ?_
  refine Ru.op (q := (.getfield 356, 3)) (by decide +kernel) rfl ?_
  refine Ru.op (q := (.goto 7, 3)) (by decide +kernel) rfl ?_
  refine Ru.br2 (k := .lt) (off := 7) (bb := false) (tg := 24) (by decide +kernel) (by decide +kernel) g1 (by decide +kernel) ?_
  refine Ru.op (q := (.iconst 1, 1)) (by decide +kernel) rfl ?_
  refine Ru.op (q := (.goto 4, 3)) (by decide +kernel) rfl ?_
  refine Ru.op (q := (.putfield 120, 3)) (by decide +kernel) rfl ?_
  refine Ru.op (q := (.aload_n 0, 1)) (by decide +kernel) rfl ?_
  refine Ru.op (q := (.getfield 120, 3)) (by decide +kernel) rfl ?_
  refine Ru.br (k := .le) (off := 5) (bb := false) (tg := 39) (by decide +kernel) (by decide +kernel) (by decide +kernel) (by decide +kernel) ?_
  refine Ru.op (q := (.iconst 0, 1)) (by decide +kernel) rfl ?_
  exact Ru.end (q := (.ireturn, 1)) (by decide +kernel) rfl rfl
set_option maxRecDepth 100000 in
theorem p1_prt3_3 : Ru none 2047 83980 94 (0, mn_pad (mn_ent [.ref 36]) 1, [], 20580, fh_prt3_2) ((0, some (.int 1)), 20580, fh_prt3_2) := Ru.of 5 (by decide +kernel)
set_option maxRecDepth 100000 in
set_option maxHeartbeats 4000000 in
theorem p1_prt3 {s0 s1 s2 s3 s4 : Int32} (g0 : mn_cmp .eq s1 0 = false) (g1 : mn_cmp .lt s2 0 = false) : Ru (some [s0, s1, s2, s3, s4]) 2048 84000 172 (407, [some (.retAddr 0), some (.ref 0), some (.ref 36), some (.ref 71), some (.int 0), none, none], [], 20574, fh_0) ((0, some (.int 1)), 20580, fh_prt3_2) := by
  refine Ru.op (q := (.aload_n 1, 1)) (by decide +kernel) rfl ?_
  refine Ru.op (q := (.aload_n 0, 1)) (by decide +kernel) rfl ?_
  refine Ru.op (q := (.iload 4, 2)) (by decide +kernel) rfl ?_
  refine Ru.op (q := (.iconst 1, 1)) (by decide +kernel) rfl ?_
  refine Ru.op (q := (.iadd, 1)) (by decide +kernel) rfl ?_
  refine Ru.sld (L := 5) (k := 1) (v := s1) rfl rfl (by decide +kernel) (by decide +kernel) (by decide +kernel) rfl ?_
  refine Ru.br (k := .eq) (off := 7) (bb := false) (tg := 417) (by decide +kernel) (by decide +kernel) g0 (by decide +kernel) ?_
  refine Ru.op (q := (.iconst 1, 1)) (by decide +kernel) rfl ?_
  refine Ru.op (q := (.goto 4, 3)) (by decide +kernel) rfl ?_
  refine Ru.op (q := (.aload_n 0, 1)) (by decide +kernel) rfl ?_
  refine Ru.op (q := (.iload 4, 2)) (by decide +kernel) rfl ?_
  refine Ru.op (q := (.iconst 2, 1)) (by decide +kernel) rfl ?_
  refine Ru.op (q := (.iadd, 1)) (by decide +kernel) rfl ?_
  refine Ru.sld (L := 5) (k := 2) (v := s2) rfl rfl (by decide +kernel) (by decide +kernel) (by decide +kernel) rfl ?_
  refine Ru.op (q := (.aload_n 3, 1)) (by decide +kernel) rfl ?_
  refine Ru.call (q := (.invokestatic 95, 3)) (by decide +kernel) rfl rfl rfl rfl ⟨Nat.le_of_ble_eq_true rfl, Nat.le_of_ble_eq_true rfl, Nat.le_of_ble_eq_true rfl, Nat.le_of_ble_eq_true rfl⟩ (p1_prt3_1 s1 s2 s3 s4 g1) ?_
  refine Ru.op (q := (.istore 5, 2)) (by decide +kernel) rfl ?_
  refine Ru.op (q := (.aload_n 2, 1)) (by decide +kernel) rfl ?_
  refine Ru.op (q := (.aload_n 0, 1)) (by decide +kernel) rfl ?_
  refine Ru.op (q := (.iload 4, 2)) (by decide +kernel) rfl ?_
  refine Ru.op (q := (.iconst 1, 1)) (by decide +kernel) rfl ?_
  refine Ru.op (q := (.iadd, 1)) (by decide +kernel) rfl ?_
  refine Ru.sld (L := 5) (k := 1) (v := s1) rfl rfl (by decide +kernel) (by decide +kernel) (by decide +kernel) rfl ?_
  refine Ru.br (k := .eq) (off := 7) (bb := false) (tg := 444) (by decide +kernel) (by decide +kernel) g0 (by decide +kernel) ?_
  refine Ru.op (q := (.iconst 1, 1)) (by decide +kernel) rfl ?_
  refine Ru.op (q := (.goto 4, 3)) (by decide +kernel) rfl ?_
  refine Ru.op (q := (.aload_n 0, 1)) (by decide +kernel) rfl ?_
  refine Ru.op (q := (.iload 4, 2)) (by decide +kernel) rfl ?_
  refine Ru.op (q := (.iconst 2, 1)) (by decide +kernel) rfl ?_
  refine Ru.op (q := (.iadd, 1)) (by decide +kernel) rfl ?_
  refine Ru.sld (L := 5) (k := 2) (v := s2) rfl rfl (by decide +kernel) (by decide +kernel) (by decide +kernel) rfl ?_
  refine Ru.call (q := (.invokevirtual 98, 3)) (by decide +kernel) rfl rfl rfl rfl ⟨Nat.le_of_ble_eq_true rfl, Nat.le_of_ble_eq_true rfl, Nat.le_of_ble_eq_true rfl, Nat.le_of_ble_eq_true rfl⟩ (p1_prt3_2 s1 s2 s3 s4 g1) ?_
  refine Ru.op (q := (.istore 6, 2)) (by decide +kernel) rfl ?_
  refine Ru.op (q := (.aload_n 2, 1)) (by decide +kernel) rfl ?_
  refine Ru.call (q := (.invokevirtual 68, 3)) (by decide +kernel) rfl rfl rfl rfl ⟨Nat.le_of_ble_eq_true rfl, Nat.le_of_ble_eq_true rfl, Nat.le_of_ble_eq_true rfl, Nat.le_of_ble_eq_true rfl⟩ (p1_prt3_3) ?_
  refine Ru.op (q := (.iload 5, 2)) (by decide +kernel) rfl ?_
  refine Ru.br2 (k := .eq) (off := 5) (bb := true) (tg := 471) (by decide +kernel) (by decide +kernel) (by decide +kernel) (by decide +kernel) ?_
  refine Ru.op (q := (.iload 5, 2)) (by decide +kernel) rfl ?_
  refine Ru.br (k := .ne) (off := 15) (bb := true) (tg := 488) (by decide +kernel) (by decide +kernel) (by decide +kernel) (by decide +kernel) ?_
  refine Ru.op (q := (.goto 363, 3)) (by decide +kernel) rfl ?_
  exact p1_tail rfl
def fh_out0_1 : mn_H := [(0, [.ref 1, .ref 13, .ref 28, .ref 30, .ref 35, .int 0, .int (-1)]), (1, [.ref 2, .int 0, .ref 3, .int 0, .int 0, .int 0, .ref 10, .ref 11, .int 0, .int 0, .int 0, .ref 12, .int 0]), (52, List.replicate 160 (.int 0)), (2, [.ref 4, .ref 5, .ref 6, .ref 7, .ref 8, .int 0, .ref 9, .int 0]), (50, List.replicate 160 (.int 0)), (50, List.replicate 160 (.int 0)), (50, List.replicate 160 (.int 0)), (50, List.replicate 160 (.int 0)), (50, List.replicate 160 (.int 0)), (50, List.replicate 1280 (.int 0)), (50, List.replicate 10 (.int 0)), (50, List.replicate 10 (.int 0)), (50, List.replicate 16 (.int 0)), (3, [.ref 14, .int 0, .int 0, .int 0, .int 0, .int 0, .int 0, .int (-1), .int 0, .ref 15, .ref 20, .ref 23, .ref 27]), (55, List.replicate 100 (.null)), (4, [.ref 16, .ref 19, .int 0, .int 0]), (5, [.ref 17, .ref 18, .int 0, .int 0]), (50, List.replicate 80 (.int 0)), (50, [.int 0, .int 0, .int 0, .int 0, .int 0]), (50, List.replicate 128 (.int 0)), (6, [.ref 21, .ref 22]), (50, List.replicate 32 (.int 0)), (50, List.replicate 32 (.int 0)), (7, [.ref 24, .ref 25, .ref 26]), (50, List.replicate 64 (.int 0)), (50, List.replicate 64 (.int 0)), (50, [.int 0, .int 0, .int 0, .int 0]), (51, List.replicate 100 (.int 0)), (8, [.ref 29, .int 0]), (52, List.replicate 128 (.int 0)), (4, [.ref 31, .ref 34, .int 0, .int 0]), (5, [.ref 32, .ref 33, .int 0, .int 0]), (50, List.replicate 80 (.int 0)), (50, [.int 0, .int 0, .int 0, .int 0, .int 0]), (50, List.replicate 128 (.int 0)), (54, List.replicate 24 (.null)), (10, [.int 0, .int (-1), .int 0, .ref 37, .ref 38, .ref 39, .ref 40, .ref 41, .ref 42, .int 0, .int 0, .ref 43, .ref 44, .ref 45, .int (-1), .int 0, .int 0, .int 0, .int 0, .int 0, .int 0, .ref 46, .int 0, .ref 47, .int 0, .ref 48, .ref 49, .int 0, .int 0, .int 0, .int 0, .ref 50, .ref 51, .ref 52, .int 0, .int 0, .int 0, .ref 53, .ref 54, .ref 55, .ref 56, .ref 57, .int 0, .int 0, .ref 58, .ref 59, .int 0, .ref 60, .ref 61, .ref 62, .ref 63, .ref 64, .ref 65, .ref 66, .ref 67, .ref 68, .int 0, .ref 69, .ref 70]), (50, List.replicate 160 (.int 0)), (50, List.replicate 8032 (.int 0)), (50, List.replicate 504 (.int 0)), (51, List.replicate 504 (.int 0)), (50, List.replicate 125 (.int 0)), (50, List.replicate 125 (.int 0)), (50, List.replicate 100 (.int 0)), (50, List.replicate 100 (.int 0)), (50, List.replicate 400 (.int 0)), (50, List.replicate 1024 (.int 0)), (50, List.replicate 128 (.int 0)), (50, List.replicate 100 (.int 0)), (51, List.replicate 100 (.int 0)), (50, List.replicate 50 (.int 0)), (50, List.replicate 50 (.int 0)), (51, List.replicate 50 (.int 0)), (50, List.replicate 16 (.int 0)), (50, List.replicate 10 (.int 0)), (51, List.replicate 10 (.int 0)), (51, List.replicate 10 (.int 0)), (50, List.replicate 10 (.int 0)), (50, List.replicate 300 (.int 0)), (50, List.replicate 2400 (.int 0)), (50, List.replicate 100 (.int 0)), (51, List.replicate 100 (.int 0)), (50, List.replicate 64 (.int 0)), (50, List.replicate 64 (.int 0)), (50, List.replicate 128 (.int 0)), (50, List.replicate 640 (.int 0)), (50, List.replicate 640 (.int 0)), (50, List.replicate 640 (.int 0)), (50, List.replicate 16 (.int 0)), (50, List.replicate 400 (.int 0)), (51, List.replicate 100 (.int 0)), (53, [.long 0]), (99, [])]
set_option maxRecDepth 100000 in
set_option maxHeartbeats 4000000 in
theorem p1_out0_0 (s1 s2 s3 s4 : Int32) (g0 : mn_cmp .lt s1 0 = true) : Ru none 2046 83956 83 (0, mn_pad (mn_ent [.ref 0, .int s1]) 2, [], 20574, fh_0) ((3, none), 20580, fh_out0_1) := by
  refine Ru.op (q := (.iload_n 1, 1)) (by decide +kernel) rfl ?_
  refine Ru.br (k := .lt) (off := 14) (bb := true) (tg := 15) (by decide +kernel) (by decide +kernel) g0 (by decide +kernel) ?_
  exact Ru.thr (q := (.new 108, 3)) (by decide +kernel) rfl rfl (by decide +kernel)
set_option maxRecDepth 100000 in
set_option maxHeartbeats 4000000 in
theorem p1_out0_1 (s1 s2 s3 s4 : Int32) (g0 : mn_cmp .lt s1 0 = true) : Ru none 2047 83977 167 (0, mn_pad (mn_ent [.ref 0, .int s1, .ref 71]) 4, [], 20574, fh_0) ((0, some (.int (Int32.ofInt 1))), 20580, fh_out0_1) := by
  refine Ru.op (q := (.aload_n 2, 1)) (by decide +kernel) rfl ?_
  refine Ru.op (q := (.iconst 0, 1)) (by decide +kernel) rfl ?_
  refine Ru.op (q := (.aload_n 0, 1)) (by decide +kernel) rfl ?_
  refine Ru.op (q := (.iload_n 1, 1)) (by decide +kernel) rfl ?_
  refine Ru.catch (i := 37) (j2 := 83) (k := 2) (hp := 12) (by decide +kernel) rfl rfl rfl rfl ⟨Nat.le_of_ble_eq_true rfl, Nat.le_of_ble_eq_true rfl, Nat.le_of_ble_eq_true rfl, Nat.le_of_ble_eq_true rfl⟩ (by decide +kernel) (p1_out0_0 s1 s2 s3 s4 g0) ?_
  refine Ru.op (q := (.astore_n 3, 1)) (by decide +kernel) rfl ?_
  refine Ru.op (q := (.iconst 1, 1)) (by decide +kernel) rfl ?_
  exact Ru.end (q := (.ireturn, 1)) (by decide +kernel) rfl rfl
def fh_out0_2 : mn_H := [(0, [.ref 1, .ref 13, .ref 28, .ref 30, .ref 35, .int 0, .int (-1)]), (1, [.ref 2, .int 0, .ref 3, .int 0, .int 0, .int 0, .ref 10, .ref 11, .int 0, .int 0, .int 0, .ref 12, .int 0]), (52, List.replicate 160 (.int 0)), (2, [.ref 4, .ref 5, .ref 6, .ref 7, .ref 8, .int 0, .ref 9, .int 0]), (50, List.replicate 160 (.int 0)), (50, List.replicate 160 (.int 0)), (50, List.replicate 160 (.int 0)), (50, List.replicate 160 (.int 0)), (50, List.replicate 160 (.int 0)), (50, List.replicate 1280 (.int 0)), (50, List.replicate 10 (.int 0)), (50, List.replicate 10 (.int 0)), (50, List.replicate 16 (.int 0)), (3, [.ref 14, .int 0, .int 0, .int 0, .int 0, .int 0, .int 0, .int (-1), .int 0, .ref 15, .ref 20, .ref 23, .ref 27]), (55, List.replicate 100 (.null)), (4, [.ref 16, .ref 19, .int 0, .int 0]), (5, [.ref 17, .ref 18, .int 0, .int 0]), (50, List.replicate 80 (.int 0)), (50, [.int 0, .int 0, .int 0, .int 0, .int 0]), (50, List.replicate 128 (.int 0)), (6, [.ref 21, .ref 22]), (50, List.replicate 32 (.int 0)), (50, List.replicate 32 (.int 0)), (7, [.ref 24, .ref 25, .ref 26]), (50, List.replicate 64 (.int 0)), (50, List.replicate 64 (.int 0)), (50, [.int 0, .int 0, .int 0, .int 0]), (51, List.replicate 100 (.int 0)), (8, [.ref 29, .int 0]), (52, List.replicate 128 (.int 0)), (4, [.ref 31, .ref 34, .int 0, .int 0]), (5, [.ref 32, .ref 33, .int 0, .int 0]), (50, List.replicate 80 (.int 0)), (50, [.int 0, .int 0, .int 0, .int 0, .int 0]), (50, List.replicate 128 (.int 0)), (54, List.replicate 24 (.null)), (10, [.int 1, .int (-1), .int 0, .ref 37, .ref 38, .ref 39, .ref 40, .ref 41, .ref 42, .int 0, .int 0, .ref 43, .ref 44, .ref 45, .int (-1), .int 0, .int 0, .int 0, .int 0, .int 0, .int 0, .ref 46, .int 0, .ref 47, .int 0, .ref 48, .ref 49, .int 0, .int 0, .int 0, .int 0, .ref 50, .ref 51, .ref 52, .int 0, .int 0, .int 0, .ref 53, .ref 54, .ref 55, .ref 56, .ref 57, .int 0, .int 0, .ref 58, .ref 59, .int 0, .ref 60, .ref 61, .ref 62, .ref 63, .ref 64, .ref 65, .ref 66, .ref 67, .ref 68, .int 0, .ref 69, .ref 70]), (50, List.replicate 160 (.int 0)), (50, List.replicate 8032 (.int 0)), (50, List.replicate 504 (.int 0)), (51, List.replicate 504 (.int 0)), (50, List.replicate 125 (.int 0)), (50, List.replicate 125 (.int 0)), (50, List.replicate 100 (.int 0)), (50, List.replicate 100 (.int 0)), (50, List.replicate 400 (.int 0)), (50, List.replicate 1024 (.int 0)), (50, List.replicate 128 (.int 0)), (50, List.replicate 100 (.int 0)), (51, List.replicate 100 (.int 0)), (50, List.replicate 50 (.int 0)), (50, List.replicate 50 (.int 0)), (51, List.replicate 50 (.int 0)), (50, List.replicate 16 (.int 0)), (50, List.replicate 10 (.int 0)), (51, List.replicate 10 (.int 0)), (51, List.replicate 10 (.int 0)), (50, List.replicate 10 (.int 0)), (50, List.replicate 300 (.int 0)), (50, List.replicate 2400 (.int 0)), (50, List.replicate 100 (.int 0)), (51, List.replicate 100 (.int 0)), (50, List.replicate 64 (.int 0)), (50, List.replicate 64 (.int 0)), (50, List.replicate 128 (.int 0)), (50, List.replicate 640 (.int 0)), (50, List.replicate 640 (.int 0)), (50, List.replicate 640 (.int 0)), (50, List.replicate 16 (.int 0)), (50, List.replicate 400 (.int 0)), (51, List.replicate 100 (.int 0)), (53, [.long 0]), (99, [])]
set_option maxRecDepth 100000 in
set_option maxHeartbeats 4000000 in
theorem p1_out0_2 (s1 s2 s3 s4 : Int32) (g0 : mn_cmp .lt s1 0 = true) : Ru none 2047 83979 153 (0, mn_pad (mn_ent [.ref 36, .int s1]) 2, [], 20580, fh_out0_1) ((0, some (.int (Int32.ofInt 0))), 20580, fh_out0_2) := by
  refine Ru.op (q := (.aload_n 0, 1)) (by decide +kernel) rfl ?_
  refine Ru.op (q := (.iload_n 1, 1)) (by decide +kernel) rfl ?_
  refine Ru.br (k := .lt) (off := 11) (bb := true) (tg := 13) (by decide +kernel) (by decide +kernel) g0 (by decide +kernel) ?_
  refine Ru.op (q := (.iconst 1, 1)) (by decide +kernel) rfl ?_
  refine Ru.op (q := (.goto 4, 3)) (by decide +kernel) rfl ?_
  refine Ru.op (q := (.putfield 120, 3)) (by decide +kernel) rfl ?_
  refine Ru.op (q := (.aload_n 0, 1)) (by decide +kernel) rfl ?_
  refine Ru.op (q := (.getfield 120, 3)) (by decide +kernel) rfl ?_
  refine Ru.br (k := .le) (off := 7) (bb := false) (tg := 28) (by decide +kernel) (by decide +kernel) (by decide +kernel) (by decide +kernel) ?_
  refine Ru.op (q := (.iconst 0, 1)) (by decide +kernel) rfl ?_
  refine Ru.op (q := (.goto 10, 3)) (by decide +kernel) rfl ?_
  exact Ru.end (q := (.ireturn, 1)) (by decide +kernel) rfl rfl
set_option maxRecDepth 100000 in
theorem p1_out0_3 : Ru none 2047 83980 94 (0, mn_pad (mn_ent [.ref 36]) 1, [], 20580, fh_out0_2) ((0, some (.int 1)), 20580, fh_out0_2) := Ru.of 5 (by decide +kernel)
set_option maxRecDepth 100000 in
set_option maxHeartbeats 4000000 in
theorem p1_out0 {s0 s1 s2 s3 s4 : Int32} (g0 : mn_cmp .lt s1 0 = true) : Ru (some [s0, s1, s2, s3, s4]) 2048 84000 172 (491, [some (.retAddr 0), some (.ref 0), some (.ref 36), some (.ref 71), some (.int 0), none, none], [], 20574, fh_0) ((0, some (.int 1)), 20580, fh_out0_2) := by
  refine Ru.op (q := (.aload_n 1, 1)) (by decide +kernel) rfl ?_
  refine Ru.op (q := (.aload_n 0, 1)) (by decide +kernel) rfl ?_
  refine Ru.op (q := (.iload 4, 2)) (by decide +kernel) rfl ?_
  refine Ru.op (q := (.iconst 1, 1)) (by decide +kernel) rfl ?_
  refine Ru.op (q := (.iadd, 1)) (by decide +kernel) rfl ?_
  refine Ru.sld (L := 5) (k := 1) (v := s1) rfl rfl (by decide +kernel) (by decide +kernel) (by decide +kernel) rfl ?_
  refine Ru.op (q := (.aload_n 3, 1)) (by decide +kernel) rfl ?_
  refine Ru.call (q := (.invokestatic 99, 3)) (by decide +kernel) rfl rfl rfl rfl ⟨Nat.le_of_ble_eq_true rfl, Nat.le_of_ble_eq_true rfl, Nat.le_of_ble_eq_true rfl, Nat.le_of_ble_eq_true rfl⟩ (p1_out0_1 s1 s2 s3 s4 g0) ?_
  refine Ru.op (q := (.istore 5, 2)) (by decide +kernel) rfl ?_
  refine Ru.op (q := (.aload_n 2, 1)) (by decide +kernel) rfl ?_
  refine Ru.op (q := (.aload_n 0, 1)) (by decide +kernel) rfl ?_
  refine Ru.op (q := (.iload 4, 2)) (by decide +kernel) rfl ?_
  refine Ru.op (q := (.iconst 1, 1)) (by decide +kernel) rfl ?_
  refine Ru.op (q := (.iadd, 1)) (by decide +kernel) rfl ?_
  refine Ru.sld (L := 5) (k := 1) (v := s1) rfl rfl (by decide +kernel) (by decide +kernel) (by decide +kernel) rfl ?_
  refine Ru.call (q := (.invokevirtual 101, 3)) (by decide +kernel) rfl rfl rfl rfl ⟨Nat.le_of_ble_eq_true rfl, Nat.le_of_ble_eq_true rfl, Nat.le_of_ble_eq_true rfl, Nat.le_of_ble_eq_true rfl⟩ (p1_out0_2 s1 s2 s3 s4 g0) ?_
  refine Ru.op (q := (.istore 6, 2)) (by decide +kernel) rfl ?_
  refine Ru.op (q := (.aload_n 2, 1)) (by decide +kernel) rfl ?_
  refine Ru.call (q := (.invokevirtual 68, 3)) (by decide +kernel) rfl rfl rfl rfl ⟨Nat.le_of_ble_eq_true rfl, Nat.le_of_ble_eq_true rfl, Nat.le_of_ble_eq_true rfl, Nat.le_of_ble_eq_true rfl⟩ (p1_out0_3) ?_
  refine Ru.op (q := (.iload 5, 2)) (by decide +kernel) rfl ?_
  refine Ru.br2 (k := .eq) (off := 5) (bb := true) (tg := 527) (by decide +kernel) (by decide +kernel) (by decide +kernel) (by decide +kernel) ?_
  refine Ru.op (q := (.iload 5, 2)) (by decide +kernel) rfl ?_
  refine Ru.br (k := .ne) (off := 15) (bb := true) (tg := 544) (by decide +kernel) (by decide +kernel) (by decide +kernel) (by decide +kernel) ?_
  refine Ru.op (q := (.goto 307, 3)) (by decide +kernel) rfl ?_
  exact p1_tail rfl
def fh_out1_1 : mn_H := [(0, [.ref 1, .ref 13, .ref 28, .ref 30, .ref 35, .int 0, .int (-1)]), (1, [.ref 2, .int 0, .ref 3, .int 0, .int 0, .int 0, .ref 10, .ref 11, .int 0, .int 0, .int 0, .ref 12, .int 0]), (52, List.replicate 160 (.int 0)), (2, [.ref 4, .ref 5, .ref 6, .ref 7, .ref 8, .int 0, .ref 9, .int 0]), (50, List.replicate 160 (.int 0)), (50, List.replicate 160 (.int 0)), (50, List.replicate 160 (.int 0)), (50, List.replicate 160 (.int 0)), (50, List.replicate 160 (.int 0)), (50, List.replicate 1280 (.int 0)), (50, List.replicate 10 (.int 0)), (50, List.replicate 10 (.int 0)), (50, List.replicate 16 (.int 0)), (3, [.ref 14, .int 0, .int 0, .int 0, .int 0, .int 0, .int 0, .int (-1), .int 0, .ref 15, .ref 20, .ref 23, .ref 27]), (55, List.replicate 100 (.null)), (4, [.ref 16, .ref 19, .int 0, .int 0]), (5, [.ref 17, .ref 18, .int 0, .int 0]), (50, List.replicate 80 (.int 0)), (50, [.int 0, .int 0, .int 0, .int 0, .int 0]), (50, List.replicate 128 (.int 0)), (6, [.ref 21, .ref 22]), (50, List.replicate 32 (.int 0)), (50, List.replicate 32 (.int 0)), (7, [.ref 24, .ref 25, .ref 26]), (50, List.replicate 64 (.int 0)), (50, List.replicate 64 (.int 0)), (50, [.int 0, .int 0, .int 0, .int 0]), (51, List.replicate 100 (.int 0)), (8, [.ref 29, .int 0]), (52, List.replicate 128 (.int 0)), (4, [.ref 31, .ref 34, .int 0, .int 0]), (5, [.ref 32, .ref 33, .int 0, .int 0]), (50, List.replicate 80 (.int 0)), (50, [.int 0, .int 0, .int 0, .int 0, .int 0]), (50, List.replicate 128 (.int 0)), (54, List.replicate 24 (.null)), (10, [.int 0, .int (-1), .int 0, .ref 37, .ref 38, .ref 39, .ref 40, .ref 41, .ref 42, .int 0, .int 0, .ref 43, .ref 44, .ref 45, .int (-1), .int 0, .int 0, .int 0, .int 0, .int 0, .int 0, .ref 46, .int 0, .ref 47, .int 0, .ref 48, .ref 49, .int 0, .int 0, .int 0, .int 0, .ref 50, .ref 51, .ref 52, .int 0, .int 0, .int 0, .ref 53, .ref 54, .ref 55, .ref 56, .ref 57, .int 0, .int 0, .ref 58, .ref 59, .int 0, .ref 60, .ref 61, .ref 62, .ref 63, .ref 64, .ref 65, .ref 66, .ref 67, .ref 68, .int 0, .ref 69, .ref 70]), (50, List.replicate 160 (.int 0)), (50, List.replicate 8032 (.int 0)), (50, List.replicate 504 (.int 0)), (51, List.replicate 504 (.int 0)), (50, List.replicate 125 (.int 0)), (50, List.replicate 125 (.int 0)), (50, List.replicate 100 (.int 0)), (50, List.replicate 100 (.int 0)), (50, List.replicate 400 (.int 0)), (50, List.replicate 1024 (.int 0)), (50, List.replicate 128 (.int 0)), (50, List.replicate 100 (.int 0)), (51, List.replicate 100 (.int 0)), (50, List.replicate 50 (.int 0)), (50, List.replicate 50 (.int 0)), (51, List.replicate 50 (.int 0)), (50, List.replicate 16 (.int 0)), (50, List.replicate 10 (.int 0)), (51, List.replicate 10 (.int 0)), (51, List.replicate 10 (.int 0)), (50, List.replicate 10 (.int 0)), (50, List.replicate 300 (.int 0)), (50, List.replicate 2400 (.int 0)), (50, List.replicate 100 (.int 0)), (51, List.replicate 100 (.int 0)), (50, List.replicate 64 (.int 0)), (50, List.replicate 64 (.int 0)), (50, List.replicate 128 (.int 0)), (50, List.replicate 640 (.int 0)), (50, List.replicate 640 (.int 0)), (50, List.replicate 640 (.int 0)), (50, List.replicate 16 (.int 0)), (50, List.replicate 400 (.int 0)), (51, List.replicate 100 (.int 0)), (53, [.long 0]), (99, [])]
set_option maxRecDepth 100000 in
set_option maxHeartbeats 4000000 in
theorem p1_out1_0 (s1 s2 s3 s4 : Int32) (g0 : mn_cmp .lt s1 0 = false) : Ru none 2046 83956 83 (0, mn_pad (mn_ent [.ref 0, .int s1]) 2, [], 20574, fh_0) ((3, none), 20580, fh_out1_1) := by
  refine Ru.op (q := (.iload_n 1, 1)) (by decide +kernel) rfl ?_
  refine Ru.br (k := .lt) (off := 14) (bb := false) (tg := 4) (by decide +kernel) (by decide +kernel) g0 (by decide +kernel) ?_
  refine Ru.op (q := (.iload_n 1, 1)) (by decide +kernel) rfl ?_
  refine Ru.op (q := (.aload_n 0, 1)) (by decide +kernel) rfl ?_
  refine Ru.op (q := (.getfield 26, 3)) (by decide +kernel) rfl ?_
  refine Ru.op (q := (.getfield 125, 3)) (by decide +kernel) rfl ?_
  refine Ru.br2 (k := .lt) (off := 11) (bb := false) (tg := 15) (by decide +kernel) (by decide +kernel) g0 (by decide +kernel) ?_
  exact Ru.thr (q := (.new 108, 3)) (by decide +kernel) rfl rfl (by decide +kernel)
set_option maxRecDepth 100000 in
set_option maxHeartbeats 4000000 in
theorem p1_out1_1 (s1 s2 s3 s4 : Int32) (g0 : mn_cmp .lt s1 0 = false) : Ru none 2047 83977 167 (0, mn_pad (mn_ent [.ref 0, .int s1, .ref 71]) 4, [], 20574, fh_0) ((0, some (.int (Int32.ofInt 1))), 20580, fh_out1_1) := by
  refine Ru.op (q := (.aload_n 2, 1)) (by decide +kernel) rfl ?_
  refine Ru.op (q := (.iconst 0, 1)) (by decide +kernel) rfl ?_
  refine Ru.op (q := (.aload_n 0, 1)) (by decide +kernel) rfl ?_
  refine Ru.op (q := (.iload_n 1, 1)) (by decide +kernel) rfl ?_
  refine Ru.catch (i := 37) (j2 := 83) (k := 2) (hp := 12) (by decide +kernel) rfl rfl rfl rfl ⟨Nat.le_of_ble_eq_true rfl, Nat.le_of_ble_eq_true rfl, Nat.le_of_ble_eq_true rfl, Nat.le_of_ble_eq_true rfl⟩ (by decide +kernel) (p1_out1_0 s1 s2 s3 s4 g0) ?_
  refine Ru.op (q := (.astore_n 3, 1)) (by decide +kernel) rfl ?_
  refine Ru.op (q := (.iconst 1, 1)) (by decide +kernel) rfl ?_
  exact Ru.end (q := (.ireturn, 1)) (by decide +kernel) rfl rfl
def fh_out1_2 : mn_H := [(0, [.ref 1, .ref 13, .ref 28, .ref 30, .ref 35, .int 0, .int (-1)]), (1, [.ref 2, .int 0, .ref 3, .int 0, .int 0, .int 0, .ref 10, .ref 11, .int 0, .int 0, .int 0, .ref 12, .int 0]), (52, List.replicate 160 (.int 0)), (2, [.ref 4, .ref 5, .ref 6, .ref 7, .ref 8, .int 0, .ref 9, .int 0]), (50, List.replicate 160 (.int 0)), (50, List.replicate 160 (.int 0)), (50, List.replicate 160 (.int 0)), (50, List.replicate 160 (.int 0)), (50, List.replicate 160 (.int 0)), (50, List.replicate 1280 (.int 0)), (50, List.replicate 10 (.int 0)), (50, List.replicate 10 (.int 0)), (50, List.replicate 16 (.int 0)), (3, [.ref 14, .int 0, .int 0, .int 0, .int 0, .int 0, .int 0, .int (-1), .int 0, .ref 15, .ref 20, .ref 23, .ref 27]), (55, List.replicate 100 (.null)), (4, [.ref 16, .ref 19, .int 0, .int 0]), (5, [.ref 17, .ref 18, .int 0, .int 0]), (50, List.replicate 80 (.int 0)), (50, [.int 0, .int 0, .int 0, .int 0, .int 0]), (50, List.replicate 128 (.int 0)), (6, [.ref 21, .ref 22]), (50, List.replicate 32 (.int 0)), (50, List.replicate 32 (.int 0)), (7, [.ref 24, .ref 25, .ref 26]), (50, List.replicate 64 (.int 0)), (50, List.replicate 64 (.int 0)), (50, [.int 0, .int 0, .int 0, .int 0]), (51, List.replicate 100 (.int 0)), (8, [.ref 29, .int 0]), (52, List.replicate 128 (.int 0)), (4, [.ref 31, .ref 34, .int 0, .int 0]), (5, [.ref 32, .ref 33, .int 0, .int 0]), (50, List.replicate 80 (.int 0)), (50, [.int 0, .int 0, .int 0, .int 0, .int 0]), (50, List.replicate 128 (.int 0)), (54, List.replicate 24 (.null)), (10, [.int 1, .int (-1), .int 0, .ref 37, .ref 38, .ref 39, .ref 40, .ref 41, .ref 42, .int 0, .int 0, .ref 43, .ref 44, .ref 45, .int (-1), .int 0, .int 0, .int 0, .int 0, .int 0, .int 0, .ref 46, .int 0, .ref 47, .int 0, .ref 48, .ref 49, .int 0, .int 0, .int 0, .int 0, .ref 50, .ref 51, .ref 52, .int 0, .int 0, .int 0, .ref 53, .ref 54, .ref 55, .ref 56, .ref 57, .int 0, .int 0, .ref 58, .ref 59, .int 0, .ref 60, .ref 61, .ref 62, .ref 63, .ref 64, .ref 65, .ref 66, .ref 67, .ref 68, .int 0, .ref 69, .ref 70]), (50, List.replicate 160 (.int 0)), (50, List.replicate 8032 (.int 0)), (50, List.replicate 504 (.int 0)), (51, List.replicate 504 (.int 0)), (50, List.replicate 125 (.int 0)), (50, List.replicate 125 (.int 0)), (50, List.replicate 100 (.int 0)), (50, List.replicate 100 (.int 0)), (50, List.replicate 400 (.int 0)), (50, List.replicate 1024 (.int 0)), (50, List.replicate 128 (.int 0)), (50, List.replicate 100 (.int 0)), (51, List.replicate 100 (.int 0)), (50, List.replicate 50 (.int 0)), (50, List.replicate 50 (.int 0)), (51, List.replicate 50 (.int 0)), (50, List.replicate 16 (.int 0)), (50, List.replicate 10 (.int 0)), (51, List.replicate 10 (.int 0)), (51, List.replicate 10 (.int 0)), (50, List.replicate 10 (.int 0)), (50, List.replicate 300 (.int 0)), (50, List.replicate 2400 (.int 0)), (50, List.replicate 100 (.int 0)), (51, List.replicate 100 (.int 0)), (50, List.replicate 64 (.int 0)), (50, List.replicate 64 (.int 0)), (50, List.replicate 128 (.int 0)), (50, List.replicate 640 (.int 0)), (50, List.replicate 640 (.int 0)), (50, List.replicate 640 (.int 0)), (50, List.replicate 16 (.int 0)), (50, List.replicate 400 (.int 0)), (51, List.replicate 100 (.int 0)), (53, [.long 0]), (99, [])]
set_option maxRecDepth 100000 in
set_option maxHeartbeats 4000000 in
theorem p1_out1_2 (s1 s2 s3 s4 : Int32) (g0 : mn_cmp .lt s1 0 = false) : Ru none 2047 83979 153 (0, mn_pad (mn_ent [.ref 36, .int s1]) 2, [], 20580, fh_out1_1) ((0, some (.int (Int32.ofInt 0))), 20580, fh_out1_2) := by
  refine Ru.op (q := (.aload_n 0, 1)) (by decide +kernel) rfl ?_
  refine Ru.op (q := (.iload_n 1, 1)) (by decide +kernel) rfl ?_
  refine Ru.br (k := .lt) (off := 11) (bb := false) (tg := 5) (by decide +kernel) (by decide +kernel) g0 (by decide +kernel) ?_
  refine Ru.op (q := (.iload_n 1, 1)) (by decide +kernel) rfl ?_
  refine Ru.op (q := (.aload_n 0, 1)) (by decide +kernel) rfl ?_
  refine Ru.op (q := (.getfield 344, 3)) (by decide +kernel) rfl ?_
  refine Ru.br2 (k := .lt) (off := 7) (bb := false) (tg := 13) (by decide +kernel) (by decide +kernel) g0 (by decide +kernel) ?_
  refine Ru.op (q := (.iconst 1, 1)) (by decide +kernel) rfl ?_
  refine Ru.op (q := (.goto 4, 3)) (by decide +kernel) rfl ?_
  refine Ru.op (q := (.putfield 120, 3)) (by decide +kernel) rfl ?_
  refine Ru.op (q := (.aload_n 0, 1)) (by decide +kernel) rfl ?_
  refine Ru.op (q := (.getfield 120, 3)) (by decide +kernel) rfl ?_
  refine Ru.br (k := .le) (off := 7) (bb := false) (tg := 28) (by decide +kernel) (by decide +kernel) (by decide +kernel) (by decide +kernel) ?_
  refine Ru.op (q := (.iconst 0, 1)) (by decide +kernel) rfl ?_
  refine Ru.op (q := (.goto 10, 3)) (by decide +kernel) rfl ?_
  exact Ru.end (q := (.ireturn, 1)) (by decide +kernel) rfl rfl
set_option maxRecDepth 100000 in
theorem p1_out1_3 : Ru none 2047 83980 94 (0, mn_pad (mn_ent [.ref 36]) 1, [], 20580, fh_out1_2) ((0, some (.int 1)), 20580, fh_out1_2) := Ru.of 5 (by decide +kernel)
set_option maxRecDepth 100000 in
set_option maxHeartbeats 4000000 in
theorem p1_out1 {s0 s1 s2 s3 s4 : Int32} (g0 : mn_cmp .lt s1 0 = false) : Ru (some [s0, s1, s2, s3, s4]) 2048 84000 172 (491, [some (.retAddr 0), some (.ref 0), some (.ref 36), some (.ref 71), some (.int 0), none, none], [], 20574, fh_0) ((0, some (.int 1)), 20580, fh_out1_2) := by
  refine Ru.op (q := (.aload_n 1, 1)) (by decide +kernel) rfl ?_
  refine Ru.op (q := (.aload_n 0, 1)) (by decide +kernel) rfl ?_
  refine Ru.op (q := (.iload 4, 2)) (by decide +kernel) rfl ?_
  refine Ru.op (q := (.iconst 1, 1)) (by decide +kernel) rfl ?_
  refine Ru.op (q := (.iadd, 1)) (by decide +kernel) rfl ?_
  refine Ru.sld (L := 5) (k := 1) (v := s1) rfl rfl (by decide +kernel) (by decide +kernel) (by decide +kernel) rfl ?_
  refine Ru.op (q := (.aload_n 3, 1)) (by decide +kernel) rfl ?_
  refine Ru.call (q := (.invokestatic 99, 3)) (by decide +kernel) rfl rfl rfl rfl ⟨Nat.le_of_ble_eq_true rfl, Nat.le_of_ble_eq_true rfl, Nat.le_of_ble_eq_true rfl, Nat.le_of_ble_eq_true rfl⟩ (p1_out1_1 s1 s2 s3 s4 g0) ?_
  refine Ru.op (q := (.istore 5, 2)) (by decide +kernel) rfl ?_
  refine Ru.op (q := (.aload_n 2, 1)) (by decide +kernel) rfl ?_
  refine Ru.op (q := (.aload_n 0, 1)) (by decide +kernel) rfl ?_
  refine Ru.op (q := (.iload 4, 2)) (by decide +kernel) rfl ?_
  refine Ru.op (q := (.iconst 1, 1)) (by decide +kernel) rfl ?_
  refine Ru.op (q := (.iadd, 1)) (by decide +kernel) rfl ?_
  refine Ru.sld (L := 5) (k := 1) (v := s1) rfl rfl (by decide +kernel) (by decide +kernel) (by decide +kernel) rfl ?_
  refine Ru.call (q := (.invokevirtual 101, 3)) (by decide +kernel) rfl rfl rfl rfl ⟨Nat.le_of_ble_eq_true rfl, Nat.le_of_ble_eq_true rfl, Nat.le_of_ble_eq_true rfl, Nat.le_of_ble_eq_true rfl⟩ (p1_out1_2 s1 s2 s3 s4 g0) ?_
  refine Ru.op (q := (.istore 6, 2)) (by decide +kernel) rfl ?_
  refine Ru.op (q := (.aload_n 2, 1)) (by decide +kernel) rfl ?_
  refine Ru.call (q := (.invokevirtual 68, 3)) (by decide +kernel) rfl rfl rfl rfl ⟨Nat.le_of_ble_eq_true rfl, Nat.le_of_ble_eq_true rfl, Nat.le_of_ble_eq_true rfl, Nat.le_of_ble_eq_true rfl⟩ (p1_out1_3) ?_
  refine Ru.op (q := (.iload 5, 2)) (by decide +kernel) rfl ?_
  refine Ru.br2 (k := .eq) (off := 5) (bb := true) (tg := 527) (by decide +kernel) (by decide +kernel) (by decide +kernel) (by decide +kernel) ?_
  refine Ru.op (q := (.iload 5, 2)) (by decide +kernel) rfl ?_
  refine Ru.br (k := .ne) (off := 15) (bb := true) (tg := 544) (by decide +kernel) (by decide +kernel) (by decide +kernel) (by decide +kernel) ?_
  refine Ru.op (q := (.goto 307, 3)) (by decide +kernel) rfl ?_
  exact p1_tail rfl
end
section
def fh_cla0_1 : mn_H := [(0, [.ref 1, .ref 13, .ref 28, .ref 30, .ref 35, .int 0, .int (-1)]), (1, [.ref 2, .int 0, .ref 3, .int 0, .int 0, .int 0, .ref 10, .ref 11, .int 0, .int 0, .int 0, .ref 12, .int 0]), (52, List.replicate 160 (.int 0)), (2, [.ref 4, .ref 5, .ref 6, .ref 7, .ref 8, .int 0, .ref 9, .int 0]), (50, List.replicate 160 (.int 0)), (50, List.replicate 160 (.int 0)), (50, List.replicate 160 (.int 0)), (50, List.replicate 160 (.int 0)), (50, List.replicate 160 (.int 0)), (50, List.replicate 1280 (.int 0)), (50, List.replicate 10 (.int 0)), (50, List.replicate 10 (.int 0)), (50, List.replicate 16 (.int 0)), (3, [.ref 14, .int 0, .int 0, .int 0, .int 0, .int 0, .int 0, .int (-1), .int 0, .ref 15, .ref 20, .ref 23, .ref 27]), (55, List.replicate 100 (.null)), (4, [.ref 16, .ref 19, .int 0, .int 0]), (5, [.ref 17, .ref 18, .int 0, .int 0]), (50, List.replicate 80 (.int 0)), (50, [.int 0, .int 0, .int 0, .int 0, .int 0]), (50, List.replicate 128 (.int 0)), (6, [.ref 21, .ref 22]), (50, List.replicate 32 (.int 0)), (50, List.replicate 32 (.int 0)), (7, [.ref 24, .ref 25, .ref 26]), (50, List.replicate 64 (.int 0)), (50, List.replicate 64 (.int 0)), (50, [.int 0, .int 0, .int 0, .int 0]), (51, List.replicate 100 (.int 0)), (8, [.ref 29, .int 0]), (52, List.replicate 128 (.int 0)), (4, [.ref 31, .ref 34, .int 0, .int 0]), (5, [.ref 32, .ref 33, .int 0, .int 0]), (50, List.replicate 80 (.int 0)), (50, [.int 0, .int 0, .int 0, .int 0, .int 0]), (50, List.replicate 128 (.int 0)), (54, List.replicate 24 (.null)), (10, [.int 0, .int (-1), .int 0, .ref 37, .ref 38, .ref 39, .ref 40, .ref 41, .ref 42, .int 0, .int 0, .ref 43, .ref 44, .ref 45, .int (-1), .int 0, .int 0, .int 0, .int 0, .int 0, .int 0, .ref 46, .int 0, .ref 47, .int 0, .ref 48, .ref 49, .int 0, .int 0, .int 0, .int 0, .ref 50, .ref 51, .ref 52, .int 0, .int 0, .int 0, .ref 53, .ref 54, .ref 55, .ref 56, .ref 57, .int 0, .int 0, .ref 58, .ref 59, .int 0, .ref 60, .ref 61, .ref 62, .ref 63, .ref 64, .ref 65, .ref 66, .ref 67, .ref 68, .int 0, .ref 69, .ref 70]), (50, List.replicate 160 (.int 0)), (50, List.replicate 8032 (.int 0)), (50, List.replicate 504 (.int 0)), (51, List.replicate 504 (.int 0)), (50, List.replicate 125 (.int 0)), (50, List.replicate 125 (.int 0)), (50, List.replicate 100 (.int 0)), (50, List.replicate 100 (.int 0)), (50, List.replicate 400 (.int 0)), (50, List.replicate 1024 (.int 0)), (50, List.replicate 128 (.int 0)), (50, List.replicate 100 (.int 0)), (51, List.replicate 100 (.int 0)), (50, List.replicate 50 (.int 0)), (50, List.replicate 50 (.int 0)), (51, List.replicate 50 (.int 0)), (50, List.replicate 16 (.int 0)), (50, List.replicate 10 (.int 0)), (51, List.replicate 10 (.int 0)), (51, List.replicate 10 (.int 0)), (50, List.replicate 10 (.int 0)), (50, List.replicate 300 (.int 0)), (50, List.replicate 2400 (.int 0)), (50, List.replicate 100 (.int 0)), (51, List.replicate 100 (.int 0)), (50, List.replicate 64 (.int 0)), (50, List.replicate 64 (.int 0)), (50, List.replicate 128 (.int 0)), (50, List.replicate 640 (.int 0)), (50, List.replicate 640 (.int 0)), (50, List.replicate 640 (.int 0)), (50, List.replicate 16 (.int 0)), (50, List.replicate 400 (.int 0)), (51, List.replicate 100 (.int 0)), (53, [.long 0]), (99, [])]
set_option maxRecDepth 100000 in
set_option maxHeartbeats 4000000 in
theorem p1_cla0_0 (s1 s2 s3 s4 : Int32) (g0 : mn_cmp .lt s1 0 = true) : Ru none 2046 83953 84 (0, mn_pad (mn_ent [.ref 0, .int s1, .int s2]) 4, [], 20574, fh_0) ((3, none), 20580, fh_cla0_1) := by
  refine Ru.op (q := (.iload_n 1, 1)) (by decide +kernel) rfl ?_
  refine Ru.br (k := .lt) (off := 14) (bb := true) (tg := 15) (by decide +kernel) (by decide +kernel) g0 (by decide +kernel) ?_
  exact Ru.thr (q := (.new 108, 3)) (by decide +kernel) rfl rfl (by decide +kernel)
set_option maxRecDepth 100000 in
set_option maxHeartbeats 4000000 in
theorem p1_cla0_1 (s1 s2 s3 s4 : Int32) (g0 : mn_cmp .lt s1 0 = true) : Ru none 2047 83976 168 (0, mn_pad (mn_ent [.ref 0, .int s1, .int s2, .ref 71]) 5, [], 20574, fh_0) ((0, some (.int (Int32.ofInt 1))), 20580, fh_cla0_1) := by
  refine Ru.op (q := (.aload_n 3, 1)) (by decide +kernel) rfl ?_
  refine Ru.op (q := (.iconst 0, 1)) (by decide +kernel) rfl ?_
  refine Ru.op (q := (.aload_n 0, 1)) (by decide +kernel) rfl ?_
  refine Ru.op (q := (.iload_n 1, 1)) (by decide +kernel) rfl ?_
  refine Ru.op (q := (.iload_n 2, 1)) (by decide +kernel) rfl ?_
  refine Ru.catch (i := 41) (j2 := 84) (k := 2) (hp := 13) (by decide +kernel) rfl rfl rfl rfl ⟨Nat.le_of_ble_eq_true rfl, Nat.le_of_ble_eq_true rfl, Nat.le_of_ble_eq_true rfl, Nat.le_of_ble_eq_true rfl⟩ (by decide +kernel) (p1_cla0_0 s1 s2 s3 s4 g0) ?_
  refine Ru.op (q := (.astore 4, 2)) (by decide +kernel) rfl ?_
  refine Ru.op (q := (.iconst 1, 1)) (by decide +kernel) rfl ?_
  exact Ru.end (q := (.ireturn, 1)) (by decide +kernel) rfl rfl
def fh_cla0_2 : mn_H := [(0, [.ref 1, .ref 13, .ref 28, .ref 30, .ref 35, .int 0, .int (-1)]), (1, [.ref 2, .int 0, .ref 3, .int 0, .int 0, .int 0, .ref 10, .ref 11, .int 0, .int 0, .int 0, .ref 12, .int 0]), (52, List.replicate 160 (.int 0)), (2, [.ref 4, .ref 5, .ref 6, .ref 7, .ref 8, .int 0, .ref 9, .int 0]), (50, List.replicate 160 (.int 0)), (50, List.replicate 160 (.int 0)), (50, List.replicate 160 (.int 0)), (50, List.replicate 160 (.int 0)), (50, List.replicate 160 (.int 0)), (50, List.replicate 1280 (.int 0)), (50, List.replicate 10 (.int 0)), (50, List.replicate 10 (.int 0)), (50, List.replicate 16 (.int 0)), (3, [.ref 14, .int 0, .int 0, .int 0, .int 0, .int 0, .int 0, .int (-1), .int 0, .ref 15, .ref 20, .ref 23, .ref 27]), (55, List.replicate 100 (.null)), (4, [.ref 16, .ref 19, .int 0, .int 0]), (5, [.ref 17, .ref 18, .int 0, .int 0]), (50, List.replicate 80 (.int 0)), (50, [.int 0, .int 0, .int 0, .int 0, .int 0]), (50, List.replicate 128 (.int 0)), (6, [.ref 21, .ref 22]), (50, List.replicate 32 (.int 0)), (50, List.replicate 32 (.int 0)), (7, [.ref 24, .ref 25, .ref 26]), (50, List.replicate 64 (.int 0)), (50, List.replicate 64 (.int 0)), (50, [.int 0, .int 0, .int 0, .int 0]), (51, List.replicate 100 (.int 0)), (8, [.ref 29, .int 0]), (52, List.replicate 128 (.int 0)), (4, [.ref 31, .ref 34, .int 0, .int 0]), (5, [.ref 32, .ref 33, .int 0, .int 0]), (50, List.replicate 80 (.int 0)), (50, [.int 0, .int 0, .int 0, .int 0, .int 0]), (50, List.replicate 128 (.int 0)), (54, List.replicate 24 (.null)), (10, [.int 1, .int (-1), .int 0, .ref 37, .ref 38, .ref 39, .ref 40, .ref 41, .ref 42, .int 0, .int 0, .ref 43, .ref 44, .ref 45, .int (-1), .int 0, .int 0, .int 0, .int 0, .int 0, .int 0, .ref 46, .int 0, .ref 47, .int 0, .ref 48, .ref 49, .int 0, .int 0, .int 0, .int 0, .ref 50, .ref 51, .ref 52, .int 0, .int 0, .int 0, .ref 53, .ref 54, .ref 55, .ref 56, .ref 57, .int 0, .int 0, .ref 58, .ref 59, .int 0, .ref 60, .ref 61, .ref 62, .ref 63, .ref 64, .ref 65, .ref 66, .ref 67, .ref 68, .int 0, .ref 69, .ref 70]), (50, List.replicate 160 (.int 0)), (50, List.replicate 8032 (.int 0)), (50, List.replicate 504 (.int 0)), (51, List.replicate 504 (.int 0)), (50, List.replicate 125 (.int 0)), (50, List.replicate 125 (.int 0)), (50, List.replicate 100 (.int 0)), (50, List.replicate 100 (.int 0)), (50, List.replicate 400 (.int 0)), (50, List.replicate 1024 (.int 0)), (50, List.replicate 128 (.int 0)), (50, List.replicate 100 (.int 0)), (51, List.replicate 100 (.int 0)), (50, List.replicate 50 (.int 0)), (50, List.replicate 50 (.int 0)), (51, List.replicate 50 (.int 0)), (50, List.replicate 16 (.int 0)), (50, List.replicate 10 (.int 0)), (51, List.replicate 10 (.int 0)), (51, List.replicate 10 (.int 0)), (50, List.replicate 10 (.int 0)), (50, List.replicate 300 (.int 0)), (50, List.replicate 2400 (.int 0)), (50, List.replicate 100 (.int 0)), (51, List.replicate 100 (.int 0)), (50, List.replicate 64 (.int 0)), (50, List.replicate 64 (.int 0)), (50, List.replicate 128 (.int 0)), (50, List.replicate 640 (.int 0)), (50, List.replicate 640 (.int 0)), (50, List.replicate 640 (.int 0)), (50, List.replicate 16 (.int 0)), (50, List.replicate 400 (.int 0)), (51, List.replicate 100 (.int 0)), (53, [.long 0]), (99, [])]
set_option maxRecDepth 100000 in
set_option maxHeartbeats 4000000 in
theorem p1_cla0_2 (s1 s2 s3 s4 : Int32) (g0 : mn_cmp .lt s1 0 = true) : Ru none 2047 83978 154 (0, mn_pad (mn_ent [.ref 36, .int s1, .int s2]) 3, [], 20580, fh_cla0_1) ((0, some (.int (Int32.ofInt 0))), 20580, fh_cla0_2) := by
  refine Ru.op (q := (.aload_n 0, 1)) (by decide +kernel) rfl ?_
  refine Ru.op (q := (.iload_n 1, 1)) (by decide +kernel) rfl ?_
  refine Ru.br (k := .lt) (off := 11) (bb := true) (tg := 13) (by decide +kernel) (by decide +kernel) g0 (by decide +kernel) ?_
  refine Ru.op (q := (.iconst 1, 1)) (by decide +kernel) rfl ?_
  refine Ru.op (q := (.goto 18, 3)) (by decide +kernel) rfl ?_
  refine Ru.op (q := (.putfield 120, 3)) (by decide +kernel) rfl ?_
  refine Ru.op (q := (.aload_n 0, 1)) (by decide +kernel) rfl ?_
  refine Ru.op (q := (.getfield 120, 3)) (by decide +kernel) rfl ?_
  refine Ru.br (k := .le) (off := 5) (bb := false) (tg := 42) (by decide +kernel) (by decide +kernel) (by decide +kernel) (by decide +kernel) ?_
  refine Ru.op (q := (.iconst 0, 1)) (by decide +kernel) rfl ?_
  exact Ru.end (q := (.ireturn, 1)) (by decide +kernel) rfl rfl
set_option maxRecDepth 100000 in
theorem p1_cla0_3 : Ru none 2047 83980 94 (0, mn_pad (mn_ent [.ref 36]) 1, [], 20580, fh_cla0_2) ((0, some (.int 1)), 20580, fh_cla0_2) := Ru.of 5 (by decide +kernel)
set_option maxRecDepth 100000 in
set_option maxHeartbeats 4000000 in
theorem p1_cla0 {s0 s1 s2 s3 s4 : Int32} (g0 : mn_cmp .lt s1 0 = true) : Ru (some [s0, s1, s2, s3, s4]) 2048 84000 172 (547, [some (.retAddr 0), some (.ref 0), some (.ref 36), some (.ref 71), some (.int 0), none, none], [], 20574, fh_0) ((0, some (.int 1)), 20580, fh_cla0_2) := by
  refine Ru.op (q := (.aload_n 1, 1)) (by decide +kernel) rfl ?_
  refine Ru.op (q := (.aload_n 0, 1)) (by decide +kernel) rfl ?_
  refine Ru.op (q := (.iload 4, 2)) (by decide +kernel) rfl ?_
  refine Ru.op (q := (.iconst 1, 1)) (by decide +kernel) rfl ?_
  refine Ru.op (q := (.iadd, 1)) (by decide +kernel) rfl ?_
  refine Ru.sld (L := 5) (k := 1) (v := s1) rfl rfl (by decide +kernel) (by decide +kernel) (by decide +kernel) rfl ?_
  refine Ru.op (q := (.aload_n 0, 1)) (by decide +kernel) rfl ?_
  refine Ru.op (q := (.iload 4, 2)) (by decide +kernel) rfl ?_
  refine Ru.op (q := (.iconst 2, 1)) (by decide +kernel) rfl ?_
  refine Ru.op (q := (.iadd, 1)) (by decide +kernel) rfl ?_
  refine Ru.sld (L := 5) (k := 2) (v := s2) rfl rfl (by decide +kernel) (by decide +kernel) (by decide +kernel) rfl ?_
  refine Ru.op (q := (.aload_n 3, 1)) (by decide +kernel) rfl ?_
  refine Ru.call (q := (.invokestatic 102, 3)) (by decide +kernel) rfl rfl rfl rfl ⟨Nat.le_of_ble_eq_true rfl, Nat.le_of_ble_eq_true rfl, Nat.le_of_ble_eq_true rfl, Nat.le_of_ble_eq_true rfl⟩ (p1_cla0_1 s1 s2 s3 s4 g0) ?_
  refine Ru.op (q := (.istore 5, 2)) (by decide +kernel) rfl ?_
  refine Ru.op (q := (.aload_n 2, 1)) (by decide +kernel) rfl ?_
  refine Ru.op (q := (.aload_n 0, 1)) (by decide +kernel) rfl ?_
  refine Ru.op (q := (.iload 4, 2)) (by decide +kernel) rfl ?_
  refine Ru.op (q := (.iconst 1, 1)) (by decide +kernel) rfl ?_
  refine Ru.op (q := (.iadd, 1)) (by decide +kernel) rfl ?_
  refine Ru.sld (L := 5) (k := 1) (v := s1) rfl rfl (by decide +kernel) (by decide +kernel) (by decide +kernel) rfl ?_
  refine Ru.op (q := (.aload_n 0, 1)) (by decide +kernel) rfl ?_
  refine Ru.op (q := (.iload 4, 2)) (by decide +kernel) rfl ?_
  refine Ru.op (q := (.iconst 2, 1)) (by decide +kernel) rfl ?_
  refine Ru.op (q := (.iadd, 1)) (by decide +kernel) rfl ?_
  refine Ru.sld (L := 5) (k := 2) (v := s2) rfl rfl (by decide +kernel) (by decide +kernel) (by decide +kernel) rfl ?_
  refine Ru.call (q := (.invokevirtual 105, 3)) (by decide +kernel) rfl rfl rfl rfl ⟨Nat.le_of_ble_eq_true rfl, Nat.le_of_ble_eq_true rfl, Nat.le_of_ble_eq_true rfl, Nat.le_of_ble_eq_true rfl⟩ (p1_cla0_2 s1 s2 s3 s4 g0) ?_
  refine Ru.op (q := (.istore 6, 2)) (by decide +kernel) rfl ?_
  refine Ru.op (q := (.aload_n 2, 1)) (by decide +kernel) rfl ?_
  refine Ru.call (q := (.invokevirtual 68, 3)) (by decide +kernel) rfl rfl rfl rfl ⟨Nat.le_of_ble_eq_true rfl, Nat.le_of_ble_eq_true rfl, Nat.le_of_ble_eq_true rfl, Nat.le_of_ble_eq_true rfl⟩ (p1_cla0_3) ?_
  refine Ru.op (q := (.iload 5, 2)) (by decide +kernel) rfl ?_
  refine Ru.br2 (k := .eq) (off := 5) (bb := true) (tg := 595) (by decide +kernel) (by decide +kernel) (by decide +kernel) (by decide +kernel) ?_
  refine Ru.op (q := (.iload 5, 2)) (by decide +kernel) rfl ?_
  refine Ru.br (k := .ne) (off := 15) (bb := true) (tg := 612) (by decide +kernel) (by decide +kernel) (by decide +kernel) (by decide +kernel) ?_
  refine Ru.op (q := (.goto 239, 3)) (by decide +kernel) rfl ?_
  exact p1_tail rfl
def fh_cla1_1 : mn_H := [(0, [.ref 1, .ref 13, .ref 28, .ref 30, .ref 35, .int 0, .int (-1)]), (1, [.ref 2, .int 0, .ref 3, .int 0, .int 0, .int 0, .ref 10, .ref 11, .int 0, .int 0, .int 0, .ref 12, .int 0]), (52, List.replicate 160 (.int 0)), (2, [.ref 4, .ref 5, .ref 6, .ref 7, .ref 8, .int 0, .ref 9, .int 0]), (50, List.replicate 160 (.int 0)), (50, List.replicate 160 (.int 0)), (50, List.replicate 160 (.int 0)), (50, List.replicate 160 (.int 0)), (50, List.replicate 160 (.int 0)), (50, List.replicate 1280 (.int 0)), (50, List.replicate 10 (.int 0)), (50, List.replicate 10 (.int 0)), (50, List.replicate 16 (.int 0)), (3, [.ref 14, .int 0, .int 0, .int 0, .int 0, .int 0, .int 0, .int (-1), .int 0, .ref 15, .ref 20, .ref 23, .ref 27]), (55, List.replicate 100 (.null)), (4, [.ref 16, .ref 19, .int 0, .int 0]), (5, [.ref 17, .ref 18, .int 0, .int 0]), (50, List.replicate 80 (.int 0)), (50, [.int 0, .int 0, .int 0, .int 0, .int 0]), (50, List.replicate 128 (.int 0)), (6, [.ref 21, .ref 22]), (50, List.replicate 32 (.int 0)), (50, List.replicate 32 (.int 0)), (7, [.ref 24, .ref 25, .ref 26]), (50, List.replicate 64 (.int 0)), (50, List.replicate 64 (.int 0)), (50, [.int 0, .int 0, .int 0, .int 0]), (51, List.replicate 100 (.int 0)), (8, [.ref 29, .int 0]), (52, List.replicate 128 (.int 0)), (4, [.ref 31, .ref 34, .int 0, .int 0]), (5, [.ref 32, .ref 33, .int 0, .int 0]), (50, List.replicate 80 (.int 0)), (50, [.int 0, .int 0, .int 0, .int 0, .int 0]), (50, List.replicate 128 (.int 0)), (54, List.replicate 24 (.null)), (10, [.int 0, .int (-1), .int 0, .ref 37, .ref 38, .ref 39, .ref 40, .ref 41, .ref 42, .int 0, .int 0, .ref 43, .ref 44, .ref 45, .int (-1), .int 0, .int 0, .int 0, .int 0, .int 0, .int 0, .ref 46, .int 0, .ref 47, .int 0, .ref 48, .ref 49, .int 0, .int 0, .int 0, .int 0, .ref 50, .ref 51, .ref 52, .int 0, .int 0, .int 0, .ref 53, .ref 54, .ref 55, .ref 56, .ref 57, .int 0, .int 0, .ref 58, .ref 59, .int 0, .ref 60, .ref 61, .ref 62, .ref 63, .ref 64, .ref 65, .ref 66, .ref 67, .ref 68, .int 0, .ref 69, .ref 70]), (50, List.replicate 160 (.int 0)), (50, List.replicate 8032 (.int 0)), (50, List.replicate 504 (.int 0)), (51, List.replicate 504 (.int 0)), (50, List.replicate 125 (.int 0)), (50, List.replicate 125 (.int 0)), (50, List.replicate 100 (.int 0)), (50, List.replicate 100 (.int 0)), (50, List.replicate 400 (.int 0)), (50, List.replicate 1024 (.int 0)), (50, List.replicate 128 (.int 0)), (50, List.replicate 100 (.int 0)), (51, List.replicate 100 (.int 0)), (50, List.replicate 50 (.int 0)), (50, List.replicate 50 (.int 0)), (51, List.replicate 50 (.int 0)), (50, List.replicate 16 (.int 0)), (50, List.replicate 10 (.int 0)), (51, List.replicate 10 (.int 0)), (51, List.replicate 10 (.int 0)), (50, List.replicate 10 (.int 0)), (50, List.replicate 300 (.int 0)), (50, List.replicate 2400 (.int 0)), (50, List.replicate 100 (.int 0)), (51, List.replicate 100 (.int 0)), (50, List.replicate 64 (.int 0)), (50, List.replicate 64 (.int 0)), (50, List.replicate 128 (.int 0)), (50, List.replicate 640 (.int 0)), (50, List.replicate 640 (.int 0)), (50, List.replicate 640 (.int 0)), (50, List.replicate 16 (.int 0)), (50, List.replicate 400 (.int 0)), (51, List.replicate 100 (.int 0)), (53, [.long 0]), (99, [])]
set_option maxRecDepth 100000 in
set_option maxHeartbeats 4000000 in
theorem p1_cla1_0 (s1 s2 s3 s4 : Int32) (g0 : mn_cmp .lt s1 0 = false) : Ru none 2046 83953 84 (0, mn_pad (mn_ent [.ref 0, .int s1, .int s2]) 4, [], 20574, fh_0) ((3, none), 20580, fh_cla1_1) := by
  refine Ru.op (q := (.iload_n 1, 1)) (by decide +kernel) rfl ?_
  refine Ru.br (k := .lt) (off := 14) (bb := false) (tg := 4) (by decide +kernel) (by decide +kernel) g0 (by decide +kernel) ?_
  refine Ru.op (q := (.iload_n 1, 1)) (by decide +kernel) rfl ?_
  refine Ru.op (q := (.aload_n 0, 1)) (by decide +kernel) rfl ?_
  refine Ru.op (q := (.getfield 19, 3)) (by decide +kernel) rfl ?_
  refine Ru.op (q := (.getfield 105, 3)) (by decide +kernel) rfl ?_
  refine Ru.br2 (k := .lt) (off := 11) (bb := false) (tg := 15) (by decide +kernel) (by decide +kernel) g0 (by decide +kernel) ?_
  exact Ru.thr (q := (.new 108, 3)) (by decide +kernel) rfl rfl (by decide +kernel)
set_option maxRecDepth 100000 in
set_option maxHeartbeats 4000000 in
theorem p1_cla1_1 (s1 s2 s3 s4 : Int32) (g0 : mn_cmp .lt s1 0 = false) : Ru none 2047 83976 168 (0, mn_pad (mn_ent [.ref 0, .int s1, .int s2, .ref 71]) 5, [], 20574, fh_0) ((0, some (.int (Int32.ofInt 1))), 20580, fh_cla1_1) := by
  refine Ru.op (q := (.aload_n 3, 1)) (by decide +kernel) rfl ?_
  refine Ru.op (q := (.iconst 0, 1)) (by decide +kernel) rfl ?_
  refine Ru.op (q := (.aload_n 0, 1)) (by decide +kernel) rfl ?_
  refine Ru.op (q := (.iload_n 1, 1)) (by decide +kernel) rfl ?_
  refine Ru.op (q := (.iload_n 2, 1)) (by decide +kernel) rfl ?_
  refine Ru.catch (i := 41) (j2 := 84) (k := 2) (hp := 13) (by decide +kernel) rfl rfl rfl rfl ⟨Nat.le_of_ble_eq_true rfl, Nat.le_of_ble_eq_true rfl, Nat.le_of_ble_eq_true rfl, Nat.le_of_ble_eq_true rfl⟩ (by decide +kernel) (p1_cla1_0 s1 s2 s3 s4 g0) ?_
  refine Ru.op (q := (.astore 4, 2)) (by decide +kernel) rfl ?_
  refine Ru.op (q := (.iconst 1, 1)) (by decide +kernel) rfl ?_
  exact Ru.end (q := (.ireturn, 1)) (by decide +kernel) rfl rfl
def fh_cla1_2 : mn_H := [(0, [.ref 1, .ref 13, .ref 28, .ref 30, .ref 35, .int 0, .int (-1)]), (1, [.ref 2, .int 0, .ref 3, .int 0, .int 0, .int 0, .ref 10, .ref 11, .int 0, .int 0, .int 0, .ref 12, .int 0]), (52, List.replicate 160 (.int 0)), (2, [.ref 4, .ref 5, .ref 6, .ref 7, .ref 8, .int 0, .ref 9, .int 0]), (50, List.replicate 160 (.int 0)), (50, List.replicate 160 (.int 0)), (50, List.replicate 160 (.int 0)), (50, List.replicate 160 (.int 0)), (50, List.replicate 160 (.int 0)), (50, List.replicate 1280 (.int 0)), (50, List.replicate 10 (.int 0)), (50, List.replicate 10 (.int 0)), (50, List.replicate 16 (.int 0)), (3, [.ref 14, .int 0, .int 0, .int 0, .int 0, .int 0, .int 0, .int (-1), .int 0, .ref 15, .ref 20, .ref 23, .ref 27]), (55, List.replicate 100 (.null)), (4, [.ref 16, .ref 19, .int 0, .int 0]), (5, [.ref 17, .ref 18, .int 0, .int 0]), (50, List.replicate 80 (.int 0)), (50, [.int 0, .int 0, .int 0, .int 0, .int 0]), (50, List.replicate 128 (.int 0)), (6, [.ref 21, .ref 22]), (50, List.replicate 32 (.int 0)), (50, List.replicate 32 (.int 0)), (7, [.ref 24, .ref 25, .ref 26]), (50, List.replicate 64 (.int 0)), (50, List.replicate 64 (.int 0)), (50, [.int 0, .int 0, .int 0, .int 0]), (51, List.replicate 100 (.int 0)), (8, [.ref 29, .int 0]), (52, List.replicate 128 (.int 0)), (4, [.ref 31, .ref 34, .int 0, .int 0]), (5, [.ref 32, .ref 33, .int 0, .int 0]), (50, List.replicate 80 (.int 0)), (50, [.int 0, .int 0, .int 0, .int 0, .int 0]), (50, List.replicate 128 (.int 0)), (54, List.replicate 24 (.null)), (10, [.int 1, .int (-1), .int 0, .ref 37, .ref 38, .ref 39, .ref 40, .ref 41, .ref 42, .int 0, .int 0, .ref 43, .ref 44, .ref 45, .int (-1), .int 0, .int 0, .int 0, .int 0, .int 0, .int 0, .ref 46, .int 0, .ref 47, .int 0, .ref 48, .ref 49, .int 0, .int 0, .int 0, .int 0, .ref 50, .ref 51, .ref 52, .int 0, .int 0, .int 0, .ref 53, .ref 54, .ref 55, .ref 56, .ref 57, .int 0, .int 0, .ref 58, .ref 59, .int 0, .ref 60, .ref 61, .ref 62, .ref 63, .ref 64, .ref 65, .ref 66, .ref 67, .ref 68, .int 0, .ref 69, .ref 70]), (50, List.replicate 160 (.int 0)), (50, List.replicate 8032 (.int 0)), (50, List.replicate 504 (.int 0)), (51, List.replicate 504 (.int 0)), (50, List.replicate 125 (.int 0)), (50, List.replicate 125 (.int 0)), (50, List.replicate 100 (.int 0)), (50, List.replicate 100 (.int 0)), (50, List.replicate 400 (.int 0)), (50, List.replicate 1024 (.int 0)), (50, List.replicate 128 (.int 0)), (50, List.replicate 100 (.int 0)), (51, List.replicate 100 (.int 0)), (50, List.replicate 50 (.int 0)), (50, List.replicate 50 (.int 0)), (51, List.replicate 50 (.int 0)), (50, List.replicate 16 (.int 0)), (50, List.replicate 10 (.int 0)), (51, List.replicate 10 (.int 0)), (51, List.replicate 10 (.int 0)), (50, List.replicate 10 (.int 0)), (50, List.replicate 300 (.int 0)), (50, List.replicate 2400 (.int 0)), (50, List.replicate 100 (.int 0)), (51, List.replicate 100 (.int 0)), (50, List.replicate 64 (.int 0)), (50, List.replicate 64 (.int 0)), (50, List.replicate 128 (.int 0)), (50, List.replicate 640 (.int 0)), (50, List.replicate 640 (.int 0)), (50, List.replicate 640 (.int 0)), (50, List.replicate 16 (.int 0)), (50, List.replicate 400 (.int 0)), (51, List.replicate 100 (.int 0)), (53, [.long 0]), (99, [])]
set_option maxRecDepth 100000 in
set_option maxHeartbeats 4000000 in
theorem p1_cla1_2 (s1 s2 s3 s4 : Int32) (g0 : mn_cmp .lt s1 0 = false) : Ru none 2047 83978 154 (0, mn_pad (mn_ent [.ref 36, .int s1, .int s2]) 3, [], 20580, fh_cla1_1) ((0, some (.int (Int32.ofInt 0))), 20580, fh_cla1_2) := by
  refine Ru.op (q := (.aload_n 0, 1)) (by decide +kernel) rfl ?_
  refine Ru.op (q := (.iload_n 1, 1)) (by decide +kernel) rfl ?_
  refine Ru.br (k := .lt) (off := 11) (bb := false) (tg := 5) (by decide +kernel) (by decide +kernel) g0 (by decide +kernel) ?_
  refine Ru.op (q := (.iload_n 1, 1)) (by decide +kernel) rfl ?_
  refine Ru.op (q := (.aload_n 0, 1)) (by decide +kernel) rfl ?_
  refine Ru.op (q := (.getfield 263, 3)) (by decide +kernel) rfl ?_
  refine Ru.br2 (k := .lt) (off := 7) (bb := false) (tg := 13) (by decide +kernel) (by decide +kernel) g0 (by decide +kernel) ?_
  refine Ru.op (q := (.iconst 1, 1)) (by decide +kernel) rfl ?_
  refine Ru.op (q := (.goto 18, 3)) (by decide +kernel) rfl ?_
  refine Ru.op (q := (.putfield 120, 3)) (by decide +kernel) rfl ?_
  refine Ru.op (q := (.aload_n 0, 1)) (by decide +kernel) rfl ?_
  refine Ru.op (q := (.getfield 120, 3)) (by decide +kernel) rfl ?_
  refine Ru.br (k := .le) (off := 5) (bb := false) (tg := 42) (by decide +kernel) (by decide +kernel) (by decide +kernel) (by decide +kernel) ?_
  refine Ru.op (q := (.iconst 0, 1)) (by decide +kernel) rfl ?_
  exact Ru.end (q := (.ireturn, 1)) (by decide +kernel) rfl rfl
set_option maxRecDepth 100000 in
theorem p1_cla1_3 : Ru none 2047 83980 94 (0, mn_pad (mn_ent [.ref 36]) 1, [], 20580, fh_cla1_2) ((0, some (.int 1)), 20580, fh_cla1_2) := Ru.of 5 (by decide +kernel)
set_option maxRecDepth 100000 in
set_option maxHeartbeats 4000000 in
theorem p1_cla1 {s0 s1 s2 s3 s4 : Int32} (g0 : mn_cmp .lt s1 0 = false) : Ru (some [s0, s1, s2, s3, s4]) 2048 84000 172 (547, [some (.retAddr 0), some (.ref 0), some (.ref 36), some (.ref 71), some (.int 0), none, none], [], 20574, fh_0) ((0, some (.int 1)), 20580, fh_cla1_2) := by
  refine Ru.op (q := (.aload_n 1, 1)) (by decide +kernel) rfl ?_
  refine Ru.op (q := (.aload_n 0, 1)) (by decide +kernel) rfl ?_
  refine Ru.op (q := (.iload 4, 2)) (by decide +kernel) rfl ?_
  refine Ru.op (q := (.iconst 1, 1)) (by decide +kernel) rfl ?_
  refine Ru.op (q := (.iadd, 1)) (by decide +kernel) rfl ?_
  refine Ru.sld (L := 5) (k := 1) (v := s1) rfl rfl (by decide +kernel) (by decide +kernel) (by decide +kernel) rfl ?_
  refine Ru.op (q := (.aload_n 0, 1)) (by decide +kernel) rfl ?_
  refine Ru.op (q := (.iload 4, 2)) (by decide +kernel) rfl ?_
  refine Ru.op (q := (.iconst 2, 1)) (by decide +kernel) rfl ?_
  refine Ru.op (q := (.iadd, 1)) (by decide +kernel) rfl ?_
  refine Ru.sld (L := 5) (k := 2) (v := s2) rfl rfl (by decide +kernel) (by decide +kernel) (by decide +kernel) rfl ?_
  refine Ru.op (q := (.aload_n 3, 1)) (by decide +kernel) rfl ?_
  refine Ru.call (q := (.invokestatic 102, 3)) (by decide +kernel) rfl rfl rfl rfl ⟨Nat.le_of_ble_eq_true rfl, Nat.le_of_ble_eq_true rfl, Nat.le_of_ble_eq_true rfl, Nat.le_of_ble_eq_true rfl⟩ (p1_cla1_1 s1 s2 s3 s4 g0) ?_
  refine Ru.op (q := (.istore 5, 2)) (by decide +kernel) rfl ?_
  refine Ru.op (q := (.aload_n 2, 1)) (by decide +kernel) rfl ?_
  refine Ru.op (q := (.aload_n 0, 1)) (by decide +kernel) rfl ?_
  refine Ru.op (q := (.iload 4, 2)) (by decide +kernel) rfl ?_
  refine Ru.op (q := (.iconst 1, 1)) (by decide +kernel) rfl ?_
  refine Ru.op (q := (.iadd, 1)) (by decide +kernel) rfl ?_
  refine Ru.sld (L := 5) (k := 1) (v := s1) rfl rfl (by decide +kernel) (by decide +kernel) (by decide +kernel) rfl ?_
  refine Ru.op (q := (.aload_n 0, 1)) (by decide +kernel) rfl ?_
  refine Ru.op (q := (.iload 4, 2)) (by decide +kernel) rfl ?_
  refine Ru.op (q := (.iconst 2, 1)) (by decide +kernel) rfl ?_
  refine Ru.op (q := (.iadd, 1)) (by decide +kernel) rfl ?_
  refine Ru.sld (L := 5) (k := 2) (v := s2) rfl rfl (by decide +kernel) (by decide +kernel) (by decide +kernel) rfl ?_
  refine Ru.call (q := (.invokevirtual 105, 3)) (by decide +kernel) rfl rfl rfl rfl ⟨Nat.le_of_ble_eq_true rfl, Nat.le_of_ble_eq_true rfl, Nat.le_of_ble_eq_true rfl, Nat.le_of_ble_eq_true rfl⟩ (p1_cla1_2 s1 s2 s3 s4 g0) ?_
  refine Ru.op (q := (.istore 6, 2)) (by decide +kernel) rfl ?_
  refine Ru.op (q := (.aload_n 2, 1)) (by decide +kernel) rfl ?_
  refine Ru.call (q := (.invokevirtual 68, 3)) (by decide +kernel) rfl rfl rfl rfl ⟨Nat.le_of_ble_eq_true rfl, Nat.le_of_ble_eq_true rfl, Nat.le_of_ble_eq_true rfl, Nat.le_of_ble_eq_true rfl⟩ (p1_cla1_3) ?_
  refine Ru.op (q := (.iload 5, 2)) (by decide +kernel) rfl ?_
  refine Ru.br2 (k := .eq) (off := 5) (bb := true) (tg := 595) (by decide +kernel) (by decide +kernel) (by decide +kernel) (by decide +kernel) ?_
  refine Ru.op (q := (.iload 5, 2)) (by decide +kernel) rfl ?_
  refine Ru.br (k := .ne) (off := 15) (bb := true) (tg := 612) (by decide +kernel) (by decide +kernel) (by decide +kernel) (by decide +kernel) ?_
  refine Ru.op (q := (.goto 239, 3)) (by decide +kernel) rfl ?_
  exact p1_tail rfl
def fh_sub0_1 : mn_H := [(0, [.ref 1, .ref 13, .ref 28, .ref 30, .ref 35, .int 0, .int (-1)]), (1, [.ref 2, .int 0, .ref 3, .int 0, .int 0, .int 0, .ref 10, .ref 11, .int 0, .int 0, .int 0, .ref 12, .int 0]), (52, List.replicate 160 (.int 0)), (2, [.ref 4, .ref 5, .ref 6, .ref 7, .ref 8, .int 0, .ref 9, .int 0]), (50, List.replicate 160 (.int 0)), (50, List.replicate 160 (.int 0)), (50, List.replicate 160 (.int 0)), (50, List.replicate 160 (.int 0)), (50, List.replicate 160 (.int 0)), (50, List.replicate 1280 (.int 0)), (50, List.replicate 10 (.int 0)), (50, List.replicate 10 (.int 0)), (50, List.replicate 16 (.int 0)), (3, [.ref 14, .int 0, .int 0, .int 0, .int 0, .int 0, .int 0, .int (-1), .int 0, .ref 15, .ref 20, .ref 23, .ref 27]), (55, List.replicate 100 (.null)), (4, [.ref 16, .ref 19, .int 0, .int 0]), (5, [.ref 17, .ref 18, .int 0, .int 0]), (50, List.replicate 80 (.int 0)), (50, [.int 0, .int 0, .int 0, .int 0, .int 0]), (50, List.replicate 128 (.int 0)), (6, [.ref 21, .ref 22]), (50, List.replicate 32 (.int 0)), (50, List.replicate 32 (.int 0)), (7, [.ref 24, .ref 25, .ref 26]), (50, List.replicate 64 (.int 0)), (50, List.replicate 64 (.int 0)), (50, [.int 0, .int 0, .int 0, .int 0]), (51, List.replicate 100 (.int 0)), (8, [.ref 29, .int 0]), (52, List.replicate 128 (.int 0)), (4, [.ref 31, .ref 34, .int 0, .int 0]), (5, [.ref 32, .ref 33, .int 0, .int 0]), (50, List.replicate 80 (.int 0)), (50, [.int 0, .int 0, .int 0, .int 0, .int 0]), (50, List.replicate 128 (.int 0)), (54, List.replicate 24 (.null)), (10, [.int 0, .int (-1), .int 0, .ref 37, .ref 38, .ref 39, .ref 40, .ref 41, .ref 42, .int 0, .int 0, .ref 43, .ref 44, .ref 45, .int (-1), .int 0, .int 0, .int 0, .int 0, .int 0, .int 0, .ref 46, .int 0, .ref 47, .int 0, .ref 48, .ref 49, .int 0, .int 0, .int 0, .int 0, .ref 50, .ref 51, .ref 52, .int 0, .int 0, .int 0, .ref 53, .ref 54, .ref 55, .ref 56, .ref 57, .int 0, .int 0, .ref 58, .ref 59, .int 0, .ref 60, .ref 61, .ref 62, .ref 63, .ref 64, .ref 65, .ref 66, .ref 67, .ref 68, .int 0, .ref 69, .ref 70]), (50, List.replicate 160 (.int 0)), (50, List.replicate 8032 (.int 0)), (50, List.replicate 504 (.int 0)), (51, List.replicate 504 (.int 0)), (50, List.replicate 125 (.int 0)), (50, List.replicate 125 (.int 0)), (50, List.replicate 100 (.int 0)), (50, List.replicate 100 (.int 0)), (50, List.replicate 400 (.int 0)), (50, List.replicate 1024 (.int 0)), (50, List.replicate 128 (.int 0)), (50, List.replicate 100 (.int 0)), (51, List.replicate 100 (.int 0)), (50, List.replicate 50 (.int 0)), (50, List.replicate 50 (.int 0)), (51, List.replicate 50 (.int 0)), (50, List.replicate 16 (.int 0)), (50, List.replicate 10 (.int 0)), (51, List.replicate 10 (.int 0)), (51, List.replicate 10 (.int 0)), (50, List.replicate 10 (.int 0)), (50, List.replicate 300 (.int 0)), (50, List.replicate 2400 (.int 0)), (50, List.replicate 100 (.int 0)), (51, List.replicate 100 (.int 0)), (50, List.replicate 64 (.int 0)), (50, List.replicate 64 (.int 0)), (50, List.replicate 128 (.int 0)), (50, List.replicate 640 (.int 0)), (50, List.replicate 640 (.int 0)), (50, List.replicate 640 (.int 0)), (50, List.replicate 16 (.int 0)), (50, List.replicate 400 (.int 0)), (51, List.replicate 100 (.int 0)), (53, [.long 0]), (99, [])]
set_option maxRecDepth 100000 in
set_option maxHeartbeats 4000000 in
theorem p1_sub0_0 (s1 s2 s3 s4 : Int32) (g0 : mn_cmp .lt s1 0 = true) : Ru none 2046 83954 85 (0, mn_pad (mn_ent [.ref 0, .int s1, .int s2]) 3, [], 20574, fh_0) ((3, none), 20580, fh_sub0_1) := by
  refine Ru.op (q := (.iload_n 1, 1)) (by decide +kernel) rfl ?_
  refine Ru.br (k := .lt) (off := 29) (bb := true) (tg := 30) (by decide +kernel) (by decide +kernel) g0 (by decide +kernel) ?_
  exact Ru.thr (q := (.new 108, 3)) (by decide +kernel) rfl rfl (by decide +kernel)
set_option maxRecDepth 100000 in
set_option maxHeartbeats 4000000 in
theorem p1_sub0_1 (s1 s2 s3 s4 : Int32) (g0 : mn_cmp .lt s1 0 = true) : Ru none 2047 83976 169 (0, mn_pad (mn_ent [.ref 0, .int s1, .int s2, .ref 71]) 5, [], 20574, fh_0) ((0, some (.int (Int32.ofInt 1))), 20580, fh_sub0_1) := by
  refine Ru.op (q := (.aload_n 3, 1)) (by decide +kernel) rfl ?_
  refine Ru.op (q := (.iconst 0, 1)) (by decide +kernel) rfl ?_
  refine Ru.op (q := (.aload_n 0, 1)) (by decide +kernel) rfl ?_
  refine Ru.op (q := (.iload_n 1, 1)) (by decide +kernel) rfl ?_
  refine Ru.op (q := (.iload_n 2, 1)) (by decide +kernel) rfl ?_
  refine Ru.catch (i := 45) (j2 := 85) (k := 2) (hp := 20) (by decide +kernel) rfl rfl rfl rfl ⟨Nat.le_of_ble_eq_true rfl, Nat.le_of_ble_eq_true rfl, Nat.le_of_ble_eq_true rfl, Nat.le_of_ble_eq_true rfl⟩ (by decide +kernel) (p1_sub0_0 s1 s2 s3 s4 g0) ?_
  refine Ru.op (q := (.astore 4, 2)) (by decide +kernel) rfl ?_
  refine Ru.op (q := (.iconst 1, 1)) (by decide +kernel) rfl ?_
  exact Ru.end (q := (.ireturn, 1)) (by decide +kernel) rfl rfl
def fh_sub0_2 : mn_H := [(0, [.ref 1, .ref 13, .ref 28, .ref 30, .ref 35, .int 0, .int (-1)]), (1, [.ref 2, .int 0, .ref 3, .int 0, .int 0, .int 0, .ref 10, .ref 11, .int 0, .int 0, .int 0, .ref 12, .int 0]), (52, List.replicate 160 (.int 0)), (2, [.ref 4, .ref 5, .ref 6, .ref 7, .ref 8, .int 0, .ref 9, .int 0]), (50, List.replicate 160 (.int 0)), (50, List.replicate 160 (.int 0)), (50, List.replicate 160 (.int 0)), (50, List.replicate 160 (.int 0)), (50, List.replicate 160 (.int 0)), (50, List.replicate 1280 (.int 0)), (50, List.replicate 10 (.int 0)), (50, List.replicate 10 (.int 0)), (50, List.replicate 16 (.int 0)), (3, [.ref 14, .int 0, .int 0, .int 0, .int 0, .int 0, .int 0, .int (-1), .int 0, .ref 15, .ref 20, .ref 23, .ref 27]), (55, List.replicate 100 (.null)), (4, [.ref 16, .ref 19, .int 0, .int 0]), (5, [.ref 17, .ref 18, .int 0, .int 0]), (50, List.replicate 80 (.int 0)), (50, [.int 0, .int 0, .int 0, .int 0, .int 0]), (50, List.replicate 128 (.int 0)), (6, [.ref 21, .ref 22]), (50, List.replicate 32 (.int 0)), (50, List.replicate 32 (.int 0)), (7, [.ref 24, .ref 25, .ref 26]), (50, List.replicate 64 (.int 0)), (50, List.replicate 64 (.int 0)), (50, [.int 0, .int 0, .int 0, .int 0]), (51, List.replicate 100 (.int 0)), (8, [.ref 29, .int 0]), (52, List.replicate 128 (.int 0)), (4, [.ref 31, .ref 34, .int 0, .int 0]), (5, [.ref 32, .ref 33, .int 0, .int 0]), (50, List.replicate 80 (.int 0)), (50, [.int 0, .int 0, .int 0, .int 0, .int 0]), (50, List.replicate 128 (.int 0)), (54, List.replicate 24 (.null)), (10, [.int 1, .int (-1), .int 0, .ref 37, .ref 38, .ref 39, .ref 40, .ref 41, .ref 42, .int 0, .int 0, .ref 43, .ref 44, .ref 45, .int (-1), .int 0, .int 0, .int 0, .int 0, .int 0, .int 0, .ref 46, .int 0, .ref 47, .int 0, .ref 48, .ref 49, .int 0, .int 0, .int 0, .int 0, .ref 50, .ref 51, .ref 52, .int 0, .int 0, .int 0, .ref 53, .ref 54, .ref 55, .ref 56, .ref 57, .int 0, .int 0, .ref 58, .ref 59, .int 0, .ref 60, .ref 61, .ref 62, .ref 63, .ref 64, .ref 65, .ref 66, .ref 67, .ref 68, .int 0, .ref 69, .ref 70]), (50, List.replicate 160 (.int 0)), (50, List.replicate 8032 (.int 0)), (50, List.replicate 504 (.int 0)), (51, List.replicate 504 (.int 0)), (50, List.replicate 125 (.int 0)), (50, List.replicate 125 (.int 0)), (50, List.replicate 100 (.int 0)), (50, List.replicate 100 (.int 0)), (50, List.replicate 400 (.int 0)), (50, List.replicate 1024 (.int 0)), (50, List.replicate 128 (.int 0)), (50, List.replicate 100 (.int 0)), (51, List.replicate 100 (.int 0)), (50, List.replicate 50 (.int 0)), (50, List.replicate 50 (.int 0)), (51, List.replicate 50 (.int 0)), (50, List.replicate 16 (.int 0)), (50, List.replicate 10 (.int 0)), (51, List.replicate 10 (.int 0)), (51, List.replicate 10 (.int 0)), (50, List.replicate 10 (.int 0)), (50, List.replicate 300 (.int 0)), (50, List.replicate 2400 (.int 0)), (50, List.replicate 100 (.int 0)), (51, List.replicate 100 (.int 0)), (50, List.replicate 64 (.int 0)), (50, List.replicate 64 (.int 0)), (50, List.replicate 128 (.int 0)), (50, List.replicate 640 (.int 0)), (50, List.replicate 640 (.int 0)), (50, List.replicate 640 (.int 0)), (50, List.replicate 16 (.int 0)), (50, List.replicate 400 (.int 0)), (51, List.replicate 100 (.int 0)), (53, [.long 0]), (99, [])]
set_option maxRecDepth 100000 in
set_option maxHeartbeats 4000000 in
theorem p1_sub0_2 (s1 s2 s3 s4 : Int32) (g0 : mn_cmp .lt s1 0 = true) : Ru none 2047 83978 155 (0, mn_pad (mn_ent [.ref 36, .int s1, .int s2]) 3, [], 20580, fh_sub0_1) ((0, some (.int (Int32.ofInt 0))), 20580, fh_sub0_2) := by
  refine Ru.op (q := (.aload_n 0, 1)) (by decide +kernel) rfl ?_
  refine Ru.op (q := (.iload_n 1, 1)) (by decide +kernel) rfl ?_
  refine Ru.br (k := .lt) (off := 23) (bb := true) (tg := 25) (by decide +kernel) (by decide +kernel) g0 (by decide +kernel) ?_
  refine Ru.op (q := (.iconst 1, 1)) (by decide +kernel) rfl ?_
  refine Ru.op (q := (.goto 4, 3)) (by decide +kernel) rfl ?_
  refine Ru.op (q := (.putfield 120, 3)) (by decide +kernel) rfl ?_
  refine Ru.op (q := (.aload_n 0, 1)) (by decide +kernel) rfl ?_
  refine Ru.op (q := (.getfield 120, 3)) (by decide +kernel) rfl ?_
  refine Ru.br (k := .ne) (off := 16) (bb := true) (tg := 53) (by decide +kernel) (by decide +kernel) (by decide +kernel) (by decide +kernel) ?_
  refine Ru.op (q := (.iconst 0, 1)) (by decide +kernel) rfl ?_
  exact Ru.end (q := (.ireturn, 1)) (by decide +kernel) rfl rfl
set_option maxRecDepth 100000 in
theorem p1_sub0_3 : Ru none 2047 83980 94 (0, mn_pad (mn_ent [.ref 36]) 1, [], 20580, fh_sub0_2) ((0, some (.int 1)), 20580, fh_sub0_2) := Ru.of 5 (by decide +kernel)
set_option maxRecDepth 100000 in
set_option maxHeartbeats 4000000 in
theorem p1_sub0 {s0 s1 s2 s3 s4 : Int32} (g0 : mn_cmp .lt s1 0 = true) : Ru (some [s0, s1, s2, s3, s4]) 2048 84000 172 (615, [some (.retAddr 0), some (.ref 0), some (.ref 36), some (.ref 71), some (.int 0), none, none], [], 20574, fh_0) ((0, some (.int 1)), 20580, fh_sub0_2) := by
  refine Ru.op (q := (.aload_n 1, 1)) (by decide +kernel) rfl ?_
  refine Ru.op (q := (.aload_n 0, 1)) (by decide +kernel) rfl ?_
  refine Ru.op (q := (.iload 4, 2)) (by decide +kernel) rfl ?_
  refine Ru.op (q := (.iconst 1, 1)) (by decide +kernel) rfl ?_
  refine Ru.op (q := (.iadd, 1)) (by decide +kernel) rfl ?_
  refine Ru.sld (L := 5) (k := 1) (v := s1) rfl rfl (by decide +kernel) (by decide +kernel) (by decide +kernel) rfl ?_
  refine Ru.op (q := (.aload_n 0, 1)) (by decide +kernel) rfl ?_
  refine Ru.op (q := (.iload 4, 2)) (by decide +kernel) rfl ?_
  refine Ru.op (q := (.iconst 2, 1)) (by decide +kernel) rfl ?_
  refine Ru.op (q := (.iadd, 1)) (by decide +kernel) rfl ?_
  refine Ru.sld (L := 5) (k := 2) (v := s2) rfl rfl (by decide +kernel) (by decide +kernel) (by decide +kernel) rfl ?_
  refine Ru.op (q := (.aload_n 3, 1)) (by decide +kernel) rfl ?_
  refine Ru.call (q := (.invokestatic 106, 3)) (by decide +kernel) rfl rfl rfl rfl ⟨Nat.le_of_ble_eq_true rfl, Nat.le_of_ble_eq_true rfl, Nat.le_of_ble_eq_true rfl, Nat.le_of_ble_eq_true rfl⟩ (p1_sub0_1 s1 s2 s3 s4 g0) ?_
  refine Ru.op (q := (.istore 5, 2)) (by decide +kernel) rfl ?_
  refine Ru.op (q := (.aload_n 2, 1)) (by decide +kernel) rfl ?_
  refine Ru.op (q := (.aload_n 0, 1)) (by decide +kernel) rfl ?_
  refine Ru.op (q := (.iload 4, 2)) (by decide +kernel) rfl ?_
  refine Ru.op (q := (.iconst 1, 1)) (by decide +kernel) rfl ?_
  refine Ru.op (q := (.iadd, 1)) (by decide +kernel) rfl ?_
  refine Ru.sld (L := 5) (k := 1) (v := s1) rfl rfl (by decide +kernel) (by decide +kernel) (by decide +kernel) rfl ?_
  refine Ru.op (q := (.aload_n 0, 1)) (by decide +kernel) rfl ?_
  refine Ru.op (q := (.iload 4, 2)) (by decide +kernel) rfl ?_
  refine Ru.op (q := (.iconst 2, 1)) (by decide +kernel) rfl ?_
  refine Ru.op (q := (.iadd, 1)) (by decide +kernel) rfl ?_
  refine Ru.sld (L := 5) (k := 2) (v := s2) rfl rfl (by decide +kernel) (by decide +kernel) (by decide +kernel) rfl ?_
  refine Ru.call (q := (.invokevirtual 108, 3)) (by decide +kernel) rfl rfl rfl rfl ⟨Nat.le_of_ble_eq_true rfl, Nat.le_of_ble_eq_true rfl, Nat.le_of_ble_eq_true rfl, Nat.le_of_ble_eq_true rfl⟩ (p1_sub0_2 s1 s2 s3 s4 g0) ?_
  refine Ru.op (q := (.istore 6, 2)) (by decide +kernel) rfl ?_
  refine Ru.op (q := (.aload_n 2, 1)) (by decide +kernel) rfl ?_
  refine Ru.call (q := (.invokevirtual 68, 3)) (by decide +kernel) rfl rfl rfl rfl ⟨Nat.le_of_ble_eq_true rfl, Nat.le_of_ble_eq_true rfl, Nat.le_of_ble_eq_true rfl, Nat.le_of_ble_eq_true rfl⟩ (p1_sub0_3) ?_
  refine Ru.op (q := (.iload 5, 2)) (by decide +kernel) rfl ?_
  refine Ru.br2 (k := .eq) (off := 5) (bb := true) (tg := 663) (by decide +kernel) (by decide +kernel) (by decide +kernel) (by decide +kernel) ?_
  refine Ru.op (q := (.iload 5, 2)) (by decide +kernel) rfl ?_
  refine Ru.br (k := .ne) (off := 22) (bb := true) (tg := 687) (by decide +kernel) (by decide +kernel) (by decide +kernel) (by decide +kernel) ?_
  refine Ru.op (q := (.goto 164, 3)) (by decide +kernel) rfl ?_
  exact p1_tail rfl
def fh_sub1_1 : mn_H := [(0, [.ref 1, .ref 13, .ref 28, .ref 30, .ref 35, .int 0, .int (-1)]), (1, [.ref 2, .int 0, .ref 3, .int 0, .int 0, .int 0, .ref 10, .ref 11, .int 0, .int 0, .int 0, .ref 12, .int 0]), (52, List.replicate 160 (.int 0)), (2, [.ref 4, .ref 5, .ref 6, .ref 7, .ref 8, .int 0, .ref 9, .int 0]), (50, List.replicate 160 (.int 0)), (50, List.replicate 160 (.int 0)), (50, List.replicate 160 (.int 0)), (50, List.replicate 160 (.int 0)), (50, List.replicate 160 (.int 0)), (50, List.replicate 1280 (.int 0)), (50, List.replicate 10 (.int 0)), (50, List.replicate 10 (.int 0)), (50, List.replicate 16 (.int 0)), (3, [.ref 14, .int 0, .int 0, .int 0, .int 0, .int 0, .int 0, .int (-1), .int 0, .ref 15, .ref 20, .ref 23, .ref 27]), (55, List.replicate 100 (.null)), (4, [.ref 16, .ref 19, .int 0, .int 0]), (5, [.ref 17, .ref 18, .int 0, .int 0]), (50, List.replicate 80 (.int 0)), (50, [.int 0, .int 0, .int 0, .int 0, .int 0]), (50, List.replicate 128 (.int 0)), (6, [.ref 21, .ref 22]), (50, List.replicate 32 (.int 0)), (50, List.replicate 32 (.int 0)), (7, [.ref 24, .ref 25, .ref 26]), (50, List.replicate 64 (.int 0)), (50, List.replicate 64 (.int 0)), (50, [.int 0, .int 0, .int 0, .int 0]), (51, List.replicate 100 (.int 0)), (8, [.ref 29, .int 0]), (52, List.replicate 128 (.int 0)), (4, [.ref 31, .ref 34, .int 0, .int 0]), (5, [.ref 32, .ref 33, .int 0, .int 0]), (50, List.replicate 80 (.int 0)), (50, [.int 0, .int 0, .int 0, .int 0, .int 0]), (50, List.replicate 128 (.int 0)), (54, List.replicate 24 (.null)), (10, [.int 0, .int (-1), .int 0, .ref 37, .ref 38, .ref 39, .ref 40, .ref 41, .ref 42, .int 0, .int 0, .ref 43, .ref 44, .ref 45, .int (-1), .int 0, .int 0, .int 0, .int 0, .int 0, .int 0, .ref 46, .int 0, .ref 47, .int 0, .ref 48, .ref 49, .int 0, .int 0, .int 0, .int 0, .ref 50, .ref 51, .ref 52, .int 0, .int 0, .int 0, .ref 53, .ref 54, .ref 55, .ref 56, .ref 57, .int 0, .int 0, .ref 58, .ref 59, .int 0, .ref 60, .ref 61, .ref 62, .ref 63, .ref 64, .ref 65, .ref 66, .ref 67, .ref 68, .int 0, .ref 69, .ref 70]), (50, List.replicate 160 (.int 0)), (50, List.replicate 8032 (.int 0)), (50, List.replicate 504 (.int 0)), (51, List.replicate 504 (.int 0)), (50, List.replicate 125 (.int 0)), (50, List.replicate 125 (.int 0)), (50, List.replicate 100 (.int 0)), (50, List.replicate 100 (.int 0)), (50, List.replicate 400 (.int 0)), (50, List.replicate 1024 (.int 0)), (50, List.replicate 128 (.int 0)), (50, List.replicate 100 (.int 0)), (51, List.replicate 100 (.int 0)), (50, List.replicate 50 (.int 0)), (50, List.replicate 50 (.int 0)), (51, List.replicate 50 (.int 0)), (50, List.replicate 16 (.int 0)), (50, List.replicate 10 (.int 0)), (51, List.replicate 10 (.int 0)), (51, List.replicate 10 (.int 0)), (50, List.replicate 10 (.int 0)), (50, List.replicate 300 (.int 0)), (50, List.replicate 2400 (.int 0)), (50, List.replicate 100 (.int 0)), (51, List.replicate 100 (.int 0)), (50, List.replicate 64 (.int 0)), (50, List.replicate 64 (.int 0)), (50, List.replicate 128 (.int 0)), (50, List.replicate 640 (.int 0)), (50, List.replicate 640 (.int 0)), (50, List.replicate 640 (.int 0)), (50, List.replicate 16 (.int 0)), (50, List.replicate 400 (.int 0)), (51, List.replicate 100 (.int 0)), (53, [.long 0]), (99, [])]
set_option maxRecDepth 100000 in
set_option maxHeartbeats 4000000 in
theorem p1_sub1_0 (s1 s2 s3 s4 : Int32) (g0 : mn_cmp .lt s1 0 = false) (g1 : mn_cmp .ge s1 0 = true) : Ru none 2046 83954 85 (0, mn_pad (mn_ent [.ref 0, .int s1, .int s2]) 3, [], 20574, fh_0) ((3, none), 20580, fh_sub1_1) := by
  refine Ru.op (q := (.iload_n 1, 1)) (by decide +kernel) rfl ?_
  refine Ru.br (k := .lt) (off := 29) (bb := false) (tg := 4) (by decide +kernel) (by decide +kernel) g0 (by decide +kernel) ?_
  refine Ru.op (q := (.iload_n 1, 1)) (by decide +kernel) rfl ?_
  refine Ru.op (q := (.aload_n 0, 1)) (by decide +kernel) rfl ?_
  refine Ru.op (q := (.getfield 19, 3)) (by decide +kernel) rfl ?_
  refine Ru.op (q := (.getfield 105, 3)) (by decide +kernel) rfl ?_
  refine Ru.br2 (k := .ge) (off := 18) (bb := true) (tg := 30) (by decide +kernel) (by decide +kernel) g1 (by decide +kernel) ?_
  exact Ru.thr (q := (.new 108, 3)) (by decide +kernel) rfl rfl (by decide +kernel)
set_option maxRecDepth 100000 in
set_option maxHeartbeats 4000000 in
theorem p1_sub1_1 (s1 s2 s3 s4 : Int32) (g0 : mn_cmp .lt s1 0 = false) (g1 : mn_cmp .ge s1 0 = true) : Ru none 2047 83976 169 (0, mn_pad (mn_ent [.ref 0, .int s1, .int s2, .ref 71]) 5, [], 20574, fh_0) ((0, some (.int (Int32.ofInt 1))), 20580, fh_sub1_1) := by
  refine Ru.op (q := (.aload_n 3, 1)) (by decide +kernel) rfl ?_
  refine Ru.op (q := (.iconst 0, 1)) (by decide +kernel) rfl ?_
  refine Ru.op (q := (.aload_n 0, 1)) (by decide +kernel) rfl ?_
  refine Ru.op (q := (.iload_n 1, 1)) (by decide +kernel) rfl ?_
  refine Ru.op (q := (.iload_n 2, 1)) (by decide +kernel) rfl ?_
  refine Ru.catch (i := 45) (j2 := 85) (k := 2) (hp := 20) (by decide +kernel) rfl rfl rfl rfl ⟨Nat.le_of_ble_eq_true rfl, Nat.le_of_ble_eq_true rfl, Nat.le_of_ble_eq_true rfl, Nat.le_of_ble_eq_true rfl⟩ (by decide +kernel) (p1_sub1_0 s1 s2 s3 s4 g0 g1) ?_
  refine Ru.op (q := (.astore 4, 2)) (by decide +kernel) rfl ?_
  refine Ru.op (q := (.iconst 1, 1)) (by decide +kernel) rfl ?_
  exact Ru.end (q := (.ireturn, 1)) (by decide +kernel) rfl rfl
def fh_sub1_2 : mn_H := [(0, [.ref 1, .ref 13, .ref 28, .ref 30, .ref 35, .int 0, .int (-1)]), (1, [.ref 2, .int 0, .ref 3, .int 0, .int 0, .int 0, .ref 10, .ref 11, .int 0, .int 0, .int 0, .ref 12, .int 0]), (52, List.replicate 160 (.int 0)), (2, [.ref 4, .ref 5, .ref 6, .ref 7, .ref 8, .int 0, .ref 9, .int 0]), (50, List.replicate 160 (.int 0)), (50, List.replicate 160 (.int 0)), (50, List.replicate 160 (.int 0)), (50, List.replicate 160 (.int 0)), (50, List.replicate 160 (.int 0)), (50, List.replicate 1280 (.int 0)), (50, List.replicate 10 (.int 0)), (50, List.replicate 10 (.int 0)), (50, List.replicate 16 (.int 0)), (3, [.ref 14, .int 0, .int 0, .int 0, .int 0, .int 0, .int 0, .int (-1), .int 0, .ref 15, .ref 20, .ref 23, .ref 27]), (55, List.replicate 100 (.null)), (4, [.ref 16, .ref 19, .int 0, .int 0]), (5, [.ref 17, .ref 18, .int 0, .int 0]), (50, List.replicate 80 (.int 0)), (50, [.int 0, .int 0, .int 0, .int 0, .int 0]), (50, List.replicate 128 (.int 0)), (6, [.ref 21, .ref 22]), (50, List.replicate 32 (.int 0)), (50, List.replicate 32 (.int 0)), (7, [.ref 24, .ref 25, .ref 26]), (50, List.replicate 64 (.int 0)), (50, List.replicate 64 (.int 0)), (50, [.int 0, .int 0, .int 0, .int 0]), (51, List.replicate 100 (.int 0)), (8, [.ref 29, .int 0]), (52, List.replicate 128 (.int 0)), (4, [.ref 31, .ref 34, .int 0, .int 0]), (5, [.ref 32, .ref 33, .int 0, .int 0]), (50, List.replicate 80 (.int 0)), (50, [.int 0, .int 0, .int 0, .int 0, .int 0]), (50, List.replicate 128 (.int 0)), (54, List.replicate 24 (.null)), (10, [.int 1, .int (-1), .int 0, .ref 37, .ref 38, .ref 39, .ref 40, .ref 41, .ref 42, .int 0, .int 0, .ref 43, .ref 44, .ref 45, .int (-1), .int 0, .int 0, .int 0, .int 0, .int 0, .int 0, .ref 46, .int 0, .ref 47, .int 0, .ref 48, .ref 49, .int 0, .int 0, .int 0, .int 0, .ref 50, .ref 51, .ref 52, .int 0, .int 0, .int 0, .ref 53, .ref 54, .ref 55, .ref 56, .ref 57, .int 0, .int 0, .ref 58, .ref 59, .int 0, .ref 60, .ref 61, .ref 62, .ref 63, .ref 64, .ref 65, .ref 66, .ref 67, .ref 68, .int 0, .ref 69, .ref 70]), (50, List.replicate 160 (.int 0)), (50, List.replicate 8032 (.int 0)), (50, List.replicate 504 (.int 0)), (51, List.replicate 504 (.int 0)), (50, List.replicate 125 (.int 0)), (50, List.replicate 125 (.int 0)), (50, List.replicate 100 (.int 0)), (50, List.replicate 100 (.int 0)), (50, List.replicate 400 (.int 0)), (50, List.replicate 1024 (.int 0)), (50, List.replicate 128 (.int 0)), (50, List.replicate 100 (.int 0)), (51, List.replicate 100 (.int 0)), (50, List.replicate 50 (.int 0)), (50, List.replicate 50 (.int 0)), (51, List.replicate 50 (.int 0)), (50, List.replicate 16 (.int 0)), (50, List.replicate 10 (.int 0)), (51, List.replicate 10 (.int 0)), (51, List.replicate 10 (.int 0)), (50, List.replicate 10 (.int 0)), (50, List.replicate 300 (.int 0)), (50, List.replicate 2400 (.int 0)), (50, List.replicate 100 (.int 0)), (51, List.replicate 100 (.int 0)), (50, List.replicate 64 (.int 0)), (50, List.replicate 64 (.int 0)), (50, List.replicate 128 (.int 0)), (50, List.replicate 640 (.int 0)), (50, List.replicate 640 (.int 0)), (50, List.replicate 640 (.int 0)), (50, List.replicate 16 (.int 0)), (50, List.replicate 400 (.int 0)), (51, List.replicate 100 (.int 0)), (53, [.long 0]), (99, [])]
set_option maxRecDepth 100000 in
set_option maxHeartbeats 4000000 in
theorem p1_sub1_2 (s1 s2 s3 s4 : Int32) (g0 : mn_cmp .lt s1 0 = false) (g1 : mn_cmp .ge s1 0 = true) : Ru none 2047 83978 155 (0, mn_pad (mn_ent [.ref 36, .int s1, .int s2]) 3, [], 20580, fh_sub1_1) ((0, some (.int (Int32.ofInt 0))), 20580, fh_sub1_2) := by
  refine Ru.op (q := (.aload_n 0, 1)) (by decide +kernel) rfl ?_
  refine Ru.op (q := (.iload_n 1, 1)) (by decide +kernel) rfl ?_
  refine Ru.br (k := .lt) (off := 23) (bb := false) (tg := 5) (by decide +kernel) (by decide +kernel) g0 (by decide +kernel) ?_
  refine Ru.op (q := (.iload_n 1, 1)) (by decide +kernel) rfl ?_
  refine Ru.op (q := (.aload_n 0, 1)) (by decide +kernel) rfl ?_
  refine Ru.op (q := (.getfield 263, 3)) (by decide +kernel) rfl ?_
  refine Ru.br2 (k := .ge) (off := 15) (bb := true) (tg := 25) (by decide +kernel) (by decide +kernel) g1 (by decide +kernel) ?_
  refine Ru.op (q := (.iconst 1, 1)) (by decide +kernel) rfl ?_
  refine Ru.op (q := (.goto 4, 3)) (by decide +kernel) rfl ?_
  refine Ru.op (q := (.putfield 120, 3)) (by decide +kernel) rfl ?_
  refine Ru.op (q := (.aload_n 0, 1)) (by decide +kernel) rfl ?_
  refine Ru.op (q := (.getfield 120, 3)) (by decide +kernel) rfl ?_
  refine Ru.br (k := .ne) (off := 16) (bb := true) (tg := 53) (by decide +kernel) (by decide +kernel) (by decide +kernel) (by decide +kernel) ?_
  refine Ru.op (q := (.iconst 0, 1)) (by decide +kernel) rfl ?_
  exact Ru.end (q := (.ireturn, 1)) (by decide +kernel) rfl rfl
set_option maxRecDepth 100000 in
theorem p1_sub1_3 : Ru none 2047 83980 94 (0, mn_pad (mn_ent [.ref 36]) 1, [], 20580, fh_sub1_2) ((0, some (.int 1)), 20580, fh_sub1_2) := Ru.of 5 (by decide +kernel)
set_option maxRecDepth 100000 in
set_option maxHeartbeats 4000000 in
theorem p1_sub1 {s0 s1 s2 s3 s4 : Int32} (g0 : mn_cmp .lt s1 0 = false) (g1 : mn_cmp .ge s1 0 = true) : Ru (some [s0, s1, s2, s3, s4]) 2048 84000 172 (615, [some (.retAddr 0), some (.ref 0), some (.ref 36), some (.ref 71), some (.int 0), none, none], [], 20574, fh_0) ((0, some (.int 1)), 20580, fh_sub1_2) := by
  refine Ru.op (q := (.aload_n 1, 1)) (by decide +kernel) rfl ?_
  refine Ru.op (q := (.aload_n 0, 1)) (by decide +kernel) rfl ?_
  refine Ru.op (q := (.iload 4, 2)) (by decide +kernel) rfl ?_
  refine Ru.op (q := (.iconst 1, 1)) (by decide +kernel) rfl ?_
  refine Ru.op (q := (.iadd, 1)) (by decide +kernel) rfl ?_
  refine Ru.sld (L := 5) (k := 1) (v := s1) rfl rfl (by decide +kernel) (by decide +kernel) (by decide +kernel) rfl ?_
  refine Ru.op (q := (.aload_n 0, 1)) (by decide +kernel) rfl ?_
  refine Ru.op (q := (.iload 4, 2)) (by decide +kernel) rfl ?_
  refine Ru.op (q := (.iconst 2, 1)) (by decide +kernel) rfl ?_
  refine Ru.op (q := (.iadd, 1)) (by decide +kernel) rfl ?_
  refine Ru.sld (L := 5) (k := 2) (v := s2) rfl rfl (by decide +kernel) (by decide +kernel) (by decide +kernel) rfl ?_
  refine Ru.op (q := (.aload_n 3, 1)) (by decide +kernel) rfl ?_
  refine Ru.call (q := (.invokestatic 106, 3)) (by decide +kernel) rfl rfl rfl rfl ⟨Nat.le_of_ble_eq_true rfl, Nat.le_of_ble_eq_true rfl, Nat.le_of_ble_eq_true rfl, Nat.le_of_ble_eq_true rfl⟩ (p1_sub1_1 s1 s2 s3 s4 g0 g1) ?_
  refine Ru.op (q := (.istore 5, 2)) (by decide +kernel) rfl ?_
  refine Ru.op (q := (.aload_n 2, 1)) (by decide +kernel) rfl ?_
  refine Ru.op (q := (.aload_n 0, 1)) (by decide +kernel) rfl ?_
  refine Ru.op (q := (.iload 4, 2)) (by decide +kernel) rfl ?_
  refine Ru.op (q := (.iconst 1, 1)) (by decide +kernel) rfl ?_
  refine Ru.op (q := (.iadd, 1)) (by decide +kernel) rfl ?_
  refine Ru.sld (L := 5) (k := 1) (v := s1) rfl rfl (by decide +kernel) (by decide +kernel) (by decide +kernel) rfl ?_
  refine Ru.op (q := (.aload_n 0, 1)) (by decide +kernel) rfl ?_
  refine Ru.op (q := (.iload 4, 2)) (by decide +kernel) rfl ?_
  refine Ru.op (q := (.iconst 2, 1)) (by decide +kernel) rfl ?_
  refine Ru.op (q := (.iadd, 1)) (by decide +kernel) rfl ?_
  refine Ru.sld (L := 5) (k := 2) (v := s2) rfl rfl (by decide +kernel) (by decide +kernel) (by decide +kernel) rfl ?_
  refine Ru.call (q := (.invokevirtual 108, 3)) (by decide +kernel) rfl rfl rfl rfl ⟨Nat.le_of_ble_eq_true rfl, Nat.le_of_ble_eq_true rfl, Nat.le_of_ble_eq_true rfl, Nat.le_of_ble_eq_true rfl⟩ (p1_sub1_2 s1 s2 s3 s4 g0 g1) ?_
  refine Ru.op (q := (.istore 6, 2)) (by decide +kernel) rfl ?_
  refine Ru.op (q := (.aload_n 2, 1)) (by decide +kernel) rfl ?_
  refine Ru.call (q := (.invokevirtual 68, 3)) (by decide +kernel) rfl rfl rfl rfl ⟨Nat.le_of_ble_eq_true rfl, Nat.le_of_ble_eq_true rfl, Nat.le_of_ble_eq_true rfl, Nat.le_of_ble_eq_true rfl⟩ (p1_sub1_3) ?_
  refine Ru.op (q := (.iload 5, 2)) (by decide +kernel) rfl ?_
  refine Ru.br2 (k := .eq) (off := 5) (bb := true) (tg := 663) (by decide +kernel) (by decide +kernel) (by decide +kernel) (by decide +kernel) ?_
  refine Ru.op (q := (.iload 5, 2)) (by decide +kernel) rfl ?_
  refine Ru.br (k := .ne) (off := 22) (bb := true) (tg := 687) (by decide +kernel) (by decide +kernel) (by decide +kernel) (by decide +kernel) ?_
  refine Ru.op (q := (.goto 164, 3)) (by decide +kernel) rfl ?_
  exact p1_tail rfl
def fh_clm_1 : mn_H := [(0, [.ref 1, .ref 13, .ref 28, .ref 30, .ref 35, .int 0, .int (-1)]), (1, [.ref 2, .int 0, .ref 3, .int 0, .int 0, .int 1, .ref 10, .ref 11, .int 0, .int 0, .int 0, .ref 12, .int 0]), (52, List.replicate 160 (.int 0)), (2, [.ref 4, .ref 5, .ref 6, .ref 7, .ref 8, .int 0, .ref 9, .int 0]), (50, List.replicate 160 (.int 0)), (50, List.replicate 160 (.int 0)), (50, List.replicate 160 (.int 0)), (50, List.replicate 160 (.int 0)), (50, List.replicate 160 (.int 0)), (50, List.replicate 1280 (.int 0)), (50, List.replicate 10 (.int 0)), (50, List.replicate 10 (.int 0)), (50, List.replicate 16 (.int 0)), (3, [.ref 14, .int 0, .int 0, .int 0, .int 0, .int 0, .int 0, .int (-1), .int 0, .ref 15, .ref 20, .ref 23, .ref 27]), (55, List.replicate 100 (.null)), (4, [.ref 16, .ref 19, .int 0, .int 0]), (5, [.ref 17, .ref 18, .int 0, .int 0]), (50, List.replicate 80 (.int 0)), (50, [.int 0, .int 0, .int 0, .int 0, .int 0]), (50, List.replicate 128 (.int 0)), (6, [.ref 21, .ref 22]), (50, List.replicate 32 (.int 0)), (50, List.replicate 32 (.int 0)), (7, [.ref 24, .ref 25, .ref 26]), (50, List.replicate 64 (.int 0)), (50, List.replicate 64 (.int 0)), (50, [.int 0, .int 0, .int 0, .int 0]), (51, List.replicate 100 (.int 0)), (8, [.ref 29, .int 0]), (52, List.replicate 128 (.int 0)), (4, [.ref 31, .ref 34, .int 0, .int 0]), (5, [.ref 32, .ref 33, .int 0, .int 0]), (50, List.replicate 80 (.int 0)), (50, [.int 0, .int 0, .int 0, .int 0, .int 0]), (50, List.replicate 128 (.int 0)), (54, List.replicate 24 (.null)), (10, [.int 0, .int (-1), .int 0, .ref 37, .ref 38, .ref 39, .ref 40, .ref 41, .ref 42, .int 0, .int 0, .ref 43, .ref 44, .ref 45, .int (-1), .int 0, .int 0, .int 0, .int 0, .int 0, .int 0, .ref 46, .int 0, .ref 47, .int 0, .ref 48, .ref 49, .int 0, .int 0, .int 0, .int 0, .ref 50, .ref 51, .ref 52, .int 0, .int 0, .int 0, .ref 53, .ref 54, .ref 55, .ref 56, .ref 57, .int 0, .int 0, .ref 58, .ref 59, .int 0, .ref 60, .ref 61, .ref 62, .ref 63, .ref 64, .ref 65, .ref 66, .ref 67, .ref 68, .int 0, .ref 69, .ref 70]), (50, List.replicate 160 (.int 0)), (50, List.replicate 8032 (.int 0)), (50, List.replicate 504 (.int 0)), (51, List.replicate 504 (.int 0)), (50, List.replicate 125 (.int 0)), (50, List.replicate 125 (.int 0)), (50, List.replicate 100 (.int 0)), (50, List.replicate 100 (.int 0)), (50, List.replicate 400 (.int 0)), (50, List.replicate 1024 (.int 0)), (50, List.replicate 128 (.int 0)), (50, List.replicate 100 (.int 0)), (51, List.replicate 100 (.int 0)), (50, List.replicate 50 (.int 0)), (50, List.replicate 50 (.int 0)), (51, List.replicate 50 (.int 0)), (50, List.replicate 16 (.int 0)), (50, List.replicate 10 (.int 0)), (51, List.replicate 10 (.int 0)), (51, List.replicate 10 (.int 0)), (50, List.replicate 10 (.int 0)), (50, List.replicate 300 (.int 0)), (50, List.replicate 2400 (.int 0)), (50, List.replicate 100 (.int 0)), (51, List.replicate 100 (.int 0)), (50, List.replicate 64 (.int 0)), (50, List.replicate 64 (.int 0)), (50, List.replicate 128 (.int 0)), (50, List.replicate 640 (.int 0)), (50, List.replicate 640 (.int 0)), (50, List.replicate 640 (.int 0)), (50, List.replicate 16 (.int 0)), (50, List.replicate 400 (.int 0)), (51, List.replicate 100 (.int 0)), (53, [.long 0])]
set_option maxRecDepth 100000 in
theorem p1_clm_0 : Ru none 2045 83928 87 (0, mn_pad (mn_ent [.ref 1, .ref 30]) 2, [], 20574, fh_0) ((0, some (.int 0)), 20574, fh_clm_1) := Ru.of 136 (by decide +kernel)
def fh_clm_2 : mn_H := [(0, [.ref 1, .ref 13, .ref 28, .ref 30, .ref 35, .int 0, .int 0]), (1, [.ref 2, .int 0, .ref 3, .int 0, .int 0, .int 1, .ref 10, .ref 11, .int 0, .int 0, .int 0, .ref 12, .int 0]), (52, List.replicate 160 (.int 0)), (2, [.ref 4, .ref 5, .ref 6, .ref 7, .ref 8, .int 0, .ref 9, .int 0]), (50, List.replicate 160 (.int 0)), (50, List.replicate 160 (.int 0)), (50, List.replicate 160 (.int 0)), (50, List.replicate 160 (.int 0)), (50, List.replicate 160 (.int 0)), (50, List.replicate 1280 (.int 0)), (50, List.replicate 10 (.int 0)), (50, List.replicate 10 (.int 0)), (50, List.replicate 16 (.int 0)), (3, [.ref 14, .int 0, .int 0, .int 0, .int 0, .int 0, .int 0, .int (-1), .int 0, .ref 15, .ref 20, .ref 23, .ref 27]), (55, List.replicate 100 (.null)), (4, [.ref 16, .ref 19, .int 0, .int 0]), (5, [.ref 17, .ref 18, .int 0, .int 0]), (50, List.replicate 80 (.int 0)), (50, [.int 0, .int 0, .int 0, .int 0, .int 0]), (50, List.replicate 128 (.int 0)), (6, [.ref 21, .ref 22]), (50, List.replicate 32 (.int 0)), (50, List.replicate 32 (.int 0)), (7, [.ref 24, .ref 25, .ref 26]), (50, List.replicate 64 (.int 0)), (50, List.replicate 64 (.int 0)), (50, [.int 0, .int 0, .int 0, .int 0]), (51, List.replicate 100 (.int 0)), (8, [.ref 29, .int 0]), (52, List.replicate 128 (.int 0)), (4, [.ref 31, .ref 34, .int 0, .int 0]), (5, [.ref 32, .ref 33, .int 0, .int 0]), (50, List.replicate 80 (.int 0)), (50, [.int 0, .int 0, .int 0, .int 0, .int 0]), (50, List.replicate 128 (.int 0)), (54, List.replicate 24 (.null)), (10, [.int 0, .int (-1), .int 0, .ref 37, .ref 38, .ref 39, .ref 40, .ref 41, .ref 42, .int 0, .int 0, .ref 43, .ref 44, .ref 45, .int (-1), .int 0, .int 0, .int 0, .int 0, .int 0, .int 0, .ref 46, .int 0, .ref 47, .int 0, .ref 48, .ref 49, .int 0, .int 0, .int 0, .int 0, .ref 50, .ref 51, .ref 52, .int 0, .int 0, .int 0, .ref 53, .ref 54, .ref 55, .ref 56, .ref 57, .int 0, .int 0, .ref 58, .ref 59, .int 0, .ref 60, .ref 61, .ref 62, .ref 63, .ref 64, .ref 65, .ref 66, .ref 67, .ref 68, .int 0, .ref 69, .ref 70]), (50, List.replicate 160 (.int 0)), (50, List.replicate 8032 (.int 0)), (50, List.replicate 504 (.int 0)), (51, List.replicate 504 (.int 0)), (50, List.replicate 125 (.int 0)), (50, List.replicate 125 (.int 0)), (50, List.replicate 100 (.int 0)), (50, List.replicate 100 (.int 0)), (50, List.replicate 400 (.int 0)), (50, List.replicate 1024 (.int 0)), (50, List.replicate 128 (.int 0)), (50, List.replicate 100 (.int 0)), (51, List.replicate 100 (.int 0)), (50, List.replicate 50 (.int 0)), (50, List.replicate 50 (.int 0)), (51, List.replicate 50 (.int 0)), (50, List.replicate 16 (.int 0)), (50, List.replicate 10 (.int 0)), (51, List.replicate 10 (.int 0)), (51, List.replicate 10 (.int 0)), (50, List.replicate 10 (.int 0)), (50, List.replicate 300 (.int 0)), (50, List.replicate 2400 (.int 0)), (50, List.replicate 100 (.int 0)), (51, List.replicate 100 (.int 0)), (50, List.replicate 64 (.int 0)), (50, List.replicate 64 (.int 0)), (50, List.replicate 128 (.int 0)), (50, List.replicate 640 (.int 0)), (50, List.replicate 640 (.int 0)), (50, List.replicate 640 (.int 0)), (50, List.replicate 16 (.int 0)), (50, List.replicate 400 (.int 0)), (51, List.replicate 100 (.int 0)), (53, [.long 0]), (99, [])]
set_option maxRecDepth 100000 in
set_option maxHeartbeats 4000000 in
theorem p1_clm_1 (s1 s2 s3 s4 : Int32) : Ru none 2046 83949 86 (0, mn_pad (mn_ent [.ref 0, .int s1, .int s2, .int s3, .int s4]) 6, [], 20574, fh_0) ((1, none), 20580, fh_clm_2) := by
  refine Ru.op (q := (.aload_n 0, 1)) (by decide +kernel) rfl ?_
  refine Ru.op (q := (.getfield 12, 3)) (by decide +kernel) rfl ?_
  refine Ru.op (q := (.aload_n 0, 1)) (by decide +kernel) rfl ?_
  refine Ru.op (q := (.getfield 33, 3)) (by decide +kernel) rfl ?_
  refine Ru.call (q := (.invokevirtual 166, 3)) (by decide +kernel) rfl rfl rfl rfl ⟨Nat.le_of_ble_eq_true rfl, Nat.le_of_ble_eq_true rfl, Nat.le_of_ble_eq_true rfl, Nat.le_of_ble_eq_true rfl⟩ (p1_clm_0) ?_
  refine Ru.br (k := .ne) (off := 22) (bb := false) (tg := 14) (by decide +kernel) (by decide +kernel) (by decide +kernel) (by decide +kernel) ?_
  refine Ru.op (q := (.aload_n 0, 1)) (by decide +kernel) rfl ?_
  refine Ru.op (q := (.aload_n 0, 1)) (by decide +kernel) rfl ?_
  refine Ru.op (q := (.getfield 12, 3)) (by decide +kernel) rfl ?_
  refine Ru.op (q := (.getfield 71, 3)) (by decide +kernel) rfl ?_
  refine Ru.op (q := (.putfield 43, 3)) (by decide +kernel) rfl ?_
  exact Ru.thr (q := (.new 51, 3)) (by decide +kernel) rfl rfl (by decide +kernel)
set_option maxRecDepth 100000 in
set_option maxHeartbeats 4000000 in
theorem p1_clm_2 (s1 s2 s3 s4 : Int32) : Ru none 2047 83974 170 (0, mn_pad (mn_ent [.ref 0, .int s1, .int s2, .int s3, .int s4, .ref 71]) 7, [], 20574, fh_0) ((0, some (.int (Int32.ofInt 1))), 20580, fh_clm_2) := by
  refine Ru.op (q := (.aload 5, 2)) (by decide +kernel) rfl ?_
  refine Ru.op (q := (.iconst 0, 1)) (by decide +kernel) rfl ?_
  refine Ru.op (q := (.aload_n 0, 1)) (by decide +kernel) rfl ?_
  refine Ru.op (q := (.iload_n 1, 1)) (by decide +kernel) rfl ?_
  refine Ru.op (q := (.iload_n 2, 1)) (by decide +kernel) rfl ?_
  refine Ru.op (q := (.iload_n 3, 1)) (by decide +kernel) rfl ?_
  refine Ru.op (q := (.iload 4, 2)) (by decide +kernel) rfl ?_
  refine Ru.catch (i := 49) (j2 := 86) (k := 0) (hp := 17) (by decide +kernel) rfl rfl rfl rfl ⟨Nat.le_of_ble_eq_true rfl, Nat.le_of_ble_eq_true rfl, Nat.le_of_ble_eq_true rfl, Nat.le_of_ble_eq_true rfl⟩ (by decide +kernel) (p1_clm_1 s1 s2 s3 s4) ?_
  refine Ru.op (q := (.astore 6, 2)) (by decide +kernel) rfl ?_
  refine Ru.op (q := (.iconst 1, 1)) (by decide +kernel) rfl ?_
  exact Ru.end (q := (.ireturn, 1)) (by decide +kernel) rfl rfl
def fh_clm_3 : mn_H := [(0, [.ref 1, .ref 13, .ref 28, .ref 30, .ref 35, .int 0, .int 0]), (1, [.ref 2, .int 0, .ref 3, .int 0, .int 0, .int 1, .ref 10, .ref 11, .int 0, .int 0, .int 0, .ref 12, .int 0]), (52, List.replicate 160 (.int 0)), (2, [.ref 4, .ref 5, .ref 6, .ref 7, .ref 8, .int 0, .ref 9, .int 0]), (50, List.replicate 160 (.int 0)), (50, List.replicate 160 (.int 0)), (50, List.replicate 160 (.int 0)), (50, List.replicate 160 (.int 0)), (50, List.replicate 160 (.int 0)), (50, List.replicate 1280 (.int 0)), (50, List.replicate 10 (.int 0)), (50, List.replicate 10 (.int 0)), (50, List.replicate 16 (.int 0)), (3, [.ref 14, .int 0, .int 0, .int 0, .int 0, .int 0, .int 0, .int (-1), .int 0, .ref 15, .ref 20, .ref 23, .ref 27]), (55, List.replicate 100 (.null)), (4, [.ref 16, .ref 19, .int 0, .int 0]), (5, [.ref 17, .ref 18, .int 0, .int 0]), (50, List.replicate 80 (.int 0)), (50, [.int 0, .int 0, .int 0, .int 0, .int 0]), (50, List.replicate 128 (.int 0)), (6, [.ref 21, .ref 22]), (50, List.replicate 32 (.int 0)), (50, List.replicate 32 (.int 0)), (7, [.ref 24, .ref 25, .ref 26]), (50, List.replicate 64 (.int 0)), (50, List.replicate 64 (.int 0)), (50, [.int 0, .int 0, .int 0, .int 0]), (51, List.replicate 100 (.int 0)), (8, [.ref 29, .int 0]), (52, List.replicate 128 (.int 0)), (4, [.ref 31, .ref 34, .int 0, .int 0]), (5, [.ref 32, .ref 33, .int 0, .int 0]), (50, List.replicate 80 (.int 0)), (50, [.int 0, .int 0, .int 0, .int 0, .int 0]), (50, List.replicate 128 (.int 0)), (54, List.replicate 24 (.null)), (10, [.int 0, .int (-1), .int 0, .ref 37, .ref 38, .ref 39, .ref 40, .ref 41, .ref 42, .int 0, .int 0, .ref 43, .ref 44, .ref 45, .int (-1), .int 0, .int 0, .int 0, .int 0, .int 0, .int 0, .ref 46, .int 0, .ref 47, .int 0, .ref 48, .ref 49, .int 0, .int 0, .int 0, .int 0, .ref 50, .ref 51, .ref 52, .int 0, .int 0, .int 0, .ref 53, .ref 54, .ref 55, .ref 56, .ref 57, .int 0, .int 0, .ref 58, .ref 59, .int 0, .ref 60, .ref 61, .ref 62, .ref 63, .ref 64, .ref 65, .ref 66, .ref 67, .ref 68, .int 0, .ref 69, .ref 70]), (50, List.replicate 160 (.int 0)), (50, List.replicate 8032 (.int 0)), (50, List.replicate 504 (.int 0)), (51, List.replicate 504 (.int 0)), (50, List.replicate 125 (.int 0)), (50, List.replicate 125 (.int 0)), (50, List.replicate 100 (.int 0)), (50, List.replicate 100 (.int 0)), (50, List.replicate 400 (.int 0)), (50, List.replicate 1024 (.int 0)), (50, List.replicate 128 (.int (-1))), (50, List.replicate 100 (.int 0)), (51, List.replicate 100 (.int 0)), (50, List.replicate 50 (.int 0)), (50, List.replicate 50 (.int 0)), (51, List.replicate 50 (.int 0)), (50, List.replicate 16 (.int 0)), (50, List.replicate 10 (.int 0)), (51, List.replicate 10 (.int 0)), (51, List.replicate 10 (.int 0)), (50, List.replicate 10 (.int 0)), (50, List.replicate 300 (.int 0)), (50, List.replicate 2400 (.int 0)), (50, List.replicate 100 (.int 0)), (51, List.replicate 100 (.int 0)), (50, List.replicate 64 (.int 0)), (50, List.replicate 64 (.int 0)), (50, List.replicate 128 (.int 0)), (50, List.replicate 640 (.int 0)), (50, List.replicate 640 (.int 0)), (50, List.replicate 640 (.int 0)), (50, List.replicate 16 (.int 0)), (50, List.replicate 400 (.int 0)), (51, List.replicate 100 (.int 0)), (53, [.long 0]), (99, [])]
set_option maxRecDepth 100000 in
theorem p1_clm_3 : Ru none 2046 83954 99 (0, mn_pad (mn_ent [.ref 36]) 1, [], 20580, fh_clm_2) ((0, none), 20580, fh_clm_3) := Ru.of 1322 (by decide +kernel)
def fh_clm_4 : mn_H := [(0, [.ref 1, .ref 13, .ref 28, .ref 30, .ref 35, .int 0, .int 0]), (1, [.ref 2, .int 0, .ref 3, .int 0, .int 0, .int 1, .ref 10, .ref 11, .int 0, .int 0, .int 0, .ref 12, .int 0]), (52, List.replicate 160 (.int 0)), (2, [.ref 4, .ref 5, .ref 6, .ref 7, .ref 8, .int 0, .ref 9, .int 0]), (50, List.replicate 160 (.int 0)), (50, List.replicate 160 (.int 0)), (50, List.replicate 160 (.int 0)), (50, List.replicate 160 (.int 0)), (50, List.replicate 160 (.int 0)), (50, List.replicate 1280 (.int 0)), (50, List.replicate 10 (.int 0)), (50, List.replicate 10 (.int 0)), (50, List.replicate 16 (.int 0)), (3, [.ref 14, .int 0, .int 0, .int 0, .int 0, .int 0, .int 0, .int (-1), .int 0, .ref 15, .ref 20, .ref 23, .ref 27]), (55, List.replicate 100 (.null)), (4, [.ref 16, .ref 19, .int 0, .int 0]), (5, [.ref 17, .ref 18, .int 0, .int 0]), (50, List.replicate 80 (.int 0)), (50, [.int 0, .int 0, .int 0, .int 0, .int 0]), (50, List.replicate 128 (.int 0)), (6, [.ref 21, .ref 22]), (50, List.replicate 32 (.int 0)), (50, List.replicate 32 (.int 0)), (7, [.ref 24, .ref 25, .ref 26]), (50, List.replicate 64 (.int 0)), (50, List.replicate 64 (.int 0)), (50, [.int 0, .int 0, .int 0, .int 0]), (51, List.replicate 100 (.int 0)), (8, [.ref 29, .int 0]), (52, List.replicate 128 (.int 0)), (4, [.ref 31, .ref 34, .int 0, .int 0]), (5, [.ref 32, .ref 33, .int 0, .int 0]), (50, List.replicate 80 (.int 0)), (50, [.int 0, .int 0, .int 0, .int 0, .int 0]), (50, List.replicate 128 (.int 0)), (54, List.replicate 24 (.null)), (10, [.int 0, .int (-1), .int 0, .ref 37, .ref 38, .ref 39, .ref 40, .ref 41, .ref 42, .int 0, .int 0, .ref 43, .ref 44, .ref 45, .int (-1), .int 0, .int 0, .int 0, .int 0, .int 0, .int 0, .ref 46, .int 0, .ref 47, .int 0, .ref 48, .ref 49, .int 0, .int 0, .int 1, .int 0, .ref 50, .ref 51, .ref 52, .int 0, .int 0, .int 0, .ref 53, .ref 54, .ref 55, .ref 56, .ref 57, .int 0, .int 0, .ref 58, .ref 59, .int 0, .ref 60, .ref 61, .ref 62, .ref 63, .ref 64, .ref 65, .ref 66, .ref 67, .ref 68, .int 0, .ref 69, .ref 70]), (50, List.replicate 160 (.int 0)), (50, List.replicate 8032 (.int 0)), (50, List.replicate 504 (.int 0)), (51, List.replicate 504 (.int 0)), (50, List.replicate 125 (.int 0)), (50, List.replicate 125 (.int 0)), (50, List.replicate 100 (.int 0)), (50, List.replicate 100 (.int 0)), (50, List.replicate 400 (.int 0)), (50, List.replicate 1024 (.int 0)), (50, List.replicate 128 (.int (-1))), (50, List.replicate 100 (.int 0)), (51, List.replicate 100 (.int 0)), (50, List.replicate 50 (.int 0)), (50, List.replicate 50 (.int 0)), (51, List.replicate 50 (.int 0)), (50, List.replicate 16 (.int 0)), (50, List.replicate 10 (.int 0)), (51, List.replicate 10 (.int 0)), (51, List.replicate 10 (.int 0)), (50, List.replicate 10 (.int 0)), (50, List.replicate 300 (.int 0)), (50, List.replicate 2400 (.int 0)), (50, List.replicate 100 (.int 0)), (51, List.replicate 100 (.int 0)), (50, List.replicate 64 (.int 0)), (50, List.replicate 64 (.int 0)), (50, List.replicate 128 (.int 0)), (50, List.replicate 640 (.int 0)), (50, List.replicate 640 (.int 0)), (50, List.replicate 640 (.int 0)), (50, List.replicate 16 (.int 0)), (50, List.replicate 400 (.int 0)), (51, List.replicate 100 (.int 0)), (53, [.long 0]), (99, [])]
set_option maxRecDepth 100000 in
theorem p1_clm_4 : Ru none 2046 83954 102 (0, mn_pad (mn_ent [.ref 36]) 1, [], 20580, fh_clm_4) ((0, some (.int 0)), 20580, fh_clm_4) := Ru.of 9 (by decide +kernel)
set_option maxRecDepth 100000 in
theorem p1_clm_5 : Ru none 2046 83954 102 (0, mn_pad (mn_ent [.ref 36]) 1, [], 20580, fh_clm_4) ((0, some (.int 0)), 20580, fh_clm_4) := Ru.of 9 (by decide +kernel)
def fh_clm_5 : mn_H := [(0, [.ref 1, .ref 13, .ref 28, .ref 30, .ref 35, .int 0, .int 0]), (1, [.ref 2, .int 0, .ref 3, .int 0, .int 0, .int 1, .ref 10, .ref 11, .int 0, .int 0, .int 0, .ref 12, .int 0]), (52, List.replicate 160 (.int 0)), (2, [.ref 4, .ref 5, .ref 6, .ref 7, .ref 8, .int 0, .ref 9, .int 0]), (50, List.replicate 160 (.int 0)), (50, List.replicate 160 (.int 0)), (50, List.replicate 160 (.int 0)), (50, List.replicate 160 (.int 0)), (50, List.replicate 160 (.int 0)), (50, List.replicate 1280 (.int 0)), (50, List.replicate 10 (.int 0)), (50, List.replicate 10 (.int 0)), (50, List.replicate 16 (.int 0)), (3, [.ref 14, .int 0, .int 0, .int 0, .int 0, .int 0, .int 0, .int (-1), .int 0, .ref 15, .ref 20, .ref 23, .ref 27]), (55, List.replicate 100 (.null)), (4, [.ref 16, .ref 19, .int 0, .int 0]), (5, [.ref 17, .ref 18, .int 0, .int 0]), (50, List.replicate 80 (.int 0)), (50, [.int 0, .int 0, .int 0, .int 0, .int 0]), (50, List.replicate 128 (.int 0)), (6, [.ref 21, .ref 22]), (50, List.replicate 32 (.int 0)), (50, List.replicate 32 (.int 0)), (7, [.ref 24, .ref 25, .ref 26]), (50, List.replicate 64 (.int 0)), (50, List.replicate 64 (.int 0)), (50, [.int 0, .int 0, .int 0, .int 0]), (51, List.replicate 100 (.int 0)), (8, [.ref 29, .int 0]), (52, List.replicate 128 (.int 0)), (4, [.ref 31, .ref 34, .int 0, .int 0]), (5, [.ref 32, .ref 33, .int 0, .int 0]), (50, List.replicate 80 (.int 0)), (50, [.int 0, .int 0, .int 0, .int 0, .int 0]), (50, List.replicate 128 (.int 0)), (54, List.replicate 24 (.null)), (10, [.int 0, .int (-1), .int 0, .ref 37, .ref 38, .ref 39, .ref 40, .ref 41, .ref 42, .int 0, .int 0, .ref 43, .ref 44, .ref 45, .int (-1), .int 0, .int 0, .int 0, .int 0, .int 0, .int 0, .ref 46, .int 0, .ref 47, .int 0, .ref 48, .ref 49, .int 0, .int 1, .int 1, .int 0, .ref 50, .ref 51, .ref 52, .int 0, .int 0, .int 0, .ref 53, .ref 54, .ref 55, .ref 56, .ref 57, .int 0, .int 0, .ref 58, .ref 59, .int 0, .ref 60, .ref 61, .ref 62, .ref 63, .ref 64, .ref 65, .ref 66, .ref 67, .ref 68, .int 0, .ref 69, .ref 70]), (50, List.replicate 160 (.int 0)), (50, List.replicate 8032 (.int 0)), (50, List.replicate 504 (.int 0)), (51, List.replicate 504 (.int 0)), (50, List.replicate 125 (.int 0)), (50, List.replicate 125 (.int 0)), (50, List.replicate 100 (.int 0)), (50, List.replicate 100 (.int 0)), (50, List.replicate 400 (.int 0)), (50, List.replicate 1024 (.int 0)), (50, List.replicate 128 (.int (-1))), (50, List.replicate 100 (.int 0)), (51, List.replicate 100 (.int 0)), (50, List.replicate 50 (.int 0)), (50, List.replicate 50 (.int 0)), (51, List.replicate 50 (.int 0)), (50, List.replicate 16 (.int 0)), (50, List.replicate 10 (.int 0)), (51, List.replicate 10 (.int 0)), (51, List.replicate 10 (.int 0)), (50, List.replicate 10 (.int 0)), (50, List.replicate 300 (.int 0)), (50, List.replicate 2400 (.int 0)), (50, List.replicate 100 (.int 0)), (51, List.replicate 100 (.int 0)), (50, List.replicate 64 (.int 0)), (50, List.replicate 64 (.int 0)), (50, List.replicate 128 (.int 0)), (50, List.replicate 640 (.int 0)), (50, List.replicate 640 (.int 0)), (50, List.replicate 640 (.int 0)), (50, List.replicate 16 (.int 0)), (50, List.replicate 400 (.int 0)), (51, List.replicate 100 (.int 0)), (53, [.long 0]), (99, [])]
set_option maxRecDepth 100000 in
theorem p1_clm_6 : Ru none 2046 83953 103 (0, mn_pad (mn_ent [.ref 36, .int 0]) 2, [], 20580, fh_clm_4) ((0, none), 20580, fh_clm_5) := Ru.of 24 (by decide +kernel)
def fh_clm_6 : mn_H := [(0, [.ref 1, .ref 13, .ref 28, .ref 30, .ref 35, .int 0, .int 0]), (1, [.ref 2, .int 0, .ref 3, .int 0, .int 0, .int 1, .ref 10, .ref 11, .int 0, .int 0, .int 0, .ref 12, .int 0]), (52, List.replicate 160 (.int 0)), (2, [.ref 4, .ref 5, .ref 6, .ref 7, .ref 8, .int 0, .ref 9, .int 0]), (50, List.replicate 160 (.int 0)), (50, List.replicate 160 (.int 0)), (50, List.replicate 160 (.int 0)), (50, List.replicate 160 (.int 0)), (50, List.replicate 160 (.int 0)), (50, List.replicate 1280 (.int 0)), (50, List.replicate 10 (.int 0)), (50, List.replicate 10 (.int 0)), (50, List.replicate 16 (.int 0)), (3, [.ref 14, .int 0, .int 0, .int 0, .int 0, .int 0, .int 0, .int (-1), .int 0, .ref 15, .ref 20, .ref 23, .ref 27]), (55, List.replicate 100 (.null)), (4, [.ref 16, .ref 19, .int 0, .int 0]), (5, [.ref 17, .ref 18, .int 0, .int 0]), (50, List.replicate 80 (.int 0)), (50, [.int 0, .int 0, .int 0, .int 0, .int 0]), (50, List.replicate 128 (.int 0)), (6, [.ref 21, .ref 22]), (50, List.replicate 32 (.int 0)), (50, List.replicate 32 (.int 0)), (7, [.ref 24, .ref 25, .ref 26]), (50, List.replicate 64 (.int 0)), (50, List.replicate 64 (.int 0)), (50, [.int 0, .int 0, .int 0, .int 0]), (51, List.replicate 100 (.int 0)), (8, [.ref 29, .int 0]), (52, List.replicate 128 (.int 0)), (4, [.ref 31, .ref 34, .int 0, .int 0]), (5, [.ref 32, .ref 33, .int 0, .int 0]), (50, List.replicate 80 (.int 0)), (50, [.int 0, .int 0, .int 0, .int 0, .int 0]), (50, List.replicate 128 (.int 0)), (54, List.replicate 24 (.null)), (10, [.int 1, .int 0, .int 0, .ref 37, .ref 38, .ref 39, .ref 40, .ref 41, .ref 42, .int 0, .int 0, .ref 43, .ref 44, .ref 45, .int (-1), .int 0, .int 0, .int 0, .int 0, .int 0, .int 0, .ref 46, .int 0, .ref 47, .int 0, .ref 48, .ref 49, .int 0, .int 1, .int 1, .int 0, .ref 50, .ref 51, .ref 52, .int 0, .int 0, .int 0, .ref 53, .ref 54, .ref 55, .ref 56, .ref 57, .int 0, .int 0, .ref 58, .ref 59, .int 0, .ref 60, .ref 61, .ref 62, .ref 63, .ref 64, .ref 65, .ref 66, .ref 67, .ref 68, .int 0, .ref 69, .ref 70]), (50, List.replicate 160 (.int 0)), (50, List.replicate 8032 (.int 0)), (50, List.replicate 504 (.int 0)), (51, List.replicate 504 (.int 0)), (50, List.replicate 125 (.int 0)), (50, List.replicate 125 (.int 0)), (50, List.replicate 100 (.int 0)), (50, List.replicate 100 (.int 0)), (50, List.replicate 400 (.int 0)), (50, List.replicate 1024 (.int 0)), (50, List.replicate 128 (.int (-1))), (50, List.replicate 100 (.int 0)), (51, List.replicate 100 (.int 0)), (50, List.replicate 50 (.int 0)), (50, List.replicate 50 (.int 0)), (51, List.replicate 50 (.int 0)), (50, List.replicate 16 (.int 0)), (50, List.replicate 10 (.int 0)), (51, List.replicate 10 (.int 0)), (51, List.replicate 10 (.int 0)), (50, List.replicate 10 (.int 0)), (50, List.replicate 300 (.int 0)), (50, List.replicate 2400 (.int 0)), (50, List.replicate 100 (.int 0)), (51, List.replicate 100 (.int 0)), (50, List.replicate 64 (.int 0)), (50, List.replicate 64 (.int 0)), (50, List.replicate 128 (.int 0)), (50, List.replicate 640 (.int 0)), (50, List.replicate 640 (.int 0)), (50, List.replicate 640 (.int 0)), (50, List.replicate 16 (.int 0)), (50, List.replicate 400 (.int 0)), (51, List.replicate 100 (.int 0)), (53, [.long 0]), (99, [])]
set_option maxRecDepth 100000 in
set_option maxHeartbeats 4000000 in
theorem p1_clm_7 (s1 s2 s3 s4 : Int32) : Ru none 2047 83974 158 (0, mn_pad (mn_ent [.ref 36, .int s1, .int s2, .int s3, .int s4]) 7, [], 20580, fh_clm_2) ((0, some (.int (Int32.ofInt 0))), 20580, fh_clm_6) := by
  refine Ru.op (q := (.aload_n 0, 1)) (by decide +kernel) rfl ?_
  refine Ru.call (q := (.invokevirtual 294, 3)) (by decide +kernel) rfl rfl rfl rfl ⟨Nat.le_of_ble_eq_true rfl, Nat.le_of_ble_eq_true rfl, Nat.le_of_ble_eq_true rfl, Nat.le_of_ble_eq_true rfl⟩ (p1_clm_3) ?_
  refine Ru.op (q := (.aload_n 0, 1)) (by decide +kernel) rfl ?_
  refine Ru.op (q := (.iconst 1, 1)) (by decide +kernel) rfl ?_
  refine Ru.op (q := (.putfield 167, 3)) (by decide +kernel) rfl ?_
  refine Ru.op (q := (.aload_n 0, 1)) (by decide +kernel) rfl ?_
  refine Ru.call (q := (.invokevirtual 143, 3)) (by decide +kernel) rfl rfl rfl rfl ⟨Nat.le_of_ble_eq_true rfl, Nat.le_of_ble_eq_true rfl, Nat.le_of_ble_eq_true rfl, Nat.le_of_ble_eq_true rfl⟩ (p1_clm_4) ?_
  refine Ru.op (q := (.bipush 48, 2)) (by decide +kernel) rfl ?_
  refine Ru.br2 (k := .ne) (off := 16) (bb := true) (tg := 31) (by decide +kernel) (by decide +kernel) (by decide +kernel) (by decide +kernel) ?_
  refine Ru.op (q := (.iconst 1, 1)) (by decide +kernel) rfl ?_
  refine Ru.op (q := (.istore 5, 2)) (by decide +kernel) rfl ?_
  refine Ru.op (q := (.iload 5, 2)) (by decide +kernel) rfl ?_
  refine Ru.br (k := .eq) (off := 95) (bb := false) (tg := 39) (by decide +kernel) (by decide +kernel) (by decide +kernel) (by decide +kernel) ?_
  refine Ru.op (q := (.aload_n 0, 1)) (by decide +kernel) rfl ?_
  refine Ru.call (q := (.invokevirtual 143, 3)) (by decide +kernel) rfl rfl rfl rfl ⟨Nat.le_of_ble_eq_true rfl, Nat.le_of_ble_eq_true rfl, Nat.le_of_ble_eq_true rfl, Nat.le_of_ble_eq_true rfl⟩ (p1_clm_5) ?_
  refine Ru.op (q := (.bipush 126, 2)) (by decide +kernel) rfl ?_
  refine Ru.br2 (k := .ne) (off := 7) (bb := true) (tg := 52) (by decide +kernel) (by decide +kernel) (by decide +kernel) (by decide +kernel) ?_
  refine Ru.op (q := (.iconst 0, 1)) (by decide +kernel) rfl ?_
  refine Ru.op (q := (.istore 6, 2)) (by decide +kernel) rfl ?_
  refine Ru.op (q := (.aload_n 0, 1)) (by decide +kernel) rfl ?_
  refine Ru.op (q := (.iload 6, 2)) (by decide +kernel) rfl ?_
  refine Ru.br (k := .eq) (off := 12) (bb := true) (tg := 70) (by decide +kernel) (by decide +kernel) (by decide +kernel) (by decide +kernel) ?_
  refine Ru.op (q := (.aload_n 0, 1)) (by decide +kernel) rfl ?_
  refine Ru.op (q := (.getfield 140, 3)) (by decide +kernel) rfl ?_
  refine Ru.op (q := (.putfield 140, 3)) (by decide +kernel) rfl ?_
  refine Ru.op (q := (.aload_n 0, 1)) (by decide +kernel) rfl ?_
  refine Ru.op (q := (.iload 6, 2)) (by decide +kernel) rfl ?_
  refine Ru.call (q := (.invokevirtual 207, 3)) (by decide +kernel) rfl rfl rfl rfl ⟨Nat.le_of_ble_eq_true rfl, Nat.le_of_ble_eq_true rfl, Nat.le_of_ble_eq_true rfl, Nat.le_of_ble_eq_true rfl⟩ (p1_clm_6) ?_
  refine Ru.op (q := (.aload_n 0, 1)) (by decide +kernel) rfl ?_
  refine Ru.op (q := (.getfield 151, 3)) (by decide +kernel) rfl ?_
  refine Ru.br (k := .ne) (off := 16) (bb := true) (tg := 103) (by decide +kernel) (by decide +kernel) (by decide +kernel) (by decide +kernel) ?_
  refine Ru.op (q := (.iconst 0, 1)) (by decide +kernel) rfl ?_
  refine Ru.op (q := (.istore 5, 2)) (by decide +kernel) rfl ?_
  refine Ru.op (q := (.aload_n 0, 1)) (by decide +kernel) rfl ?_
  refine Ru.op (q := (.iload 5, 2)) (by decide +kernel) rfl ?_
  refine Ru.br (k := .eq) (off := 12) (bb := true) (tg := 121) (by decide +kernel) (by decide +kernel) (by decide +kernel) (by decide +kernel) ?_
  refine Ru.op (q := (.aload_n 0, 1)) (by decide +kernel) rfl ?_
  refine Ru.op (q := (.getfield 140, 3)) (by decide +kernel) rfl ?_
  refine Ru.op (q := (.putfield 140, 3)) (by decide +kernel) rfl ?_
  refine Ru.op (q := (.goto (-94), 3)) (by decide +kernel) rfl ?_
  refine Ru.op (q := (.iload 5, 2)) (by decide +kernel) rfl ?_
  refine Ru.br (k := .eq) (off := 95) (bb := true) (tg := 131) (by decide +kernel) (by decide +kernel) (by decide +kernel) (by decide +kernel) ?_
  refine Ru.op (q := (.aload_n 0, 1)) (by decide +kernel) rfl ?_
  refine Ru.op (q := (.aload_n 0, 1)) (by decide +kernel) rfl ?_
  refine Ru.op (q := (.getfield 151, 3)) (by decide +kernel) rfl ?_
  refine Ru.br (k := .ne) (off := 14) (bb := true) (tg := 150) (by decide +kernel) (by decide +kernel) (by decide +kernel) (by decide +kernel) ?_
  refine Ru.op (q := (.iconst 1, 1)) (by decide +kernel) rfl ?_
  refine Ru.op (q := (.goto 4, 3)) (by decide +kernel) rfl ?_
  refine Ru.op (q := (.putfield 151, 3)) (by decide +kernel) rfl ?_
  refine Ru.op (q := (.aload_n 0, 1)) (by decide +kernel) rfl ?_
  refine Ru.op (q := (.aload_n 0, 1)) (by decide +kernel) rfl ?_
  refine Ru.op (q := (.getfield 151, 3)) (by decide +kernel) rfl ?_
  refine Ru.br (k := .eq) (off := 7) (bb := false) (tg := 166) (by decide +kernel) (by decide +kernel) (by decide +kernel) (by decide +kernel) ?_
  refine Ru.op (q := (.iconst 1, 1)) (by decide +kernel) rfl ?_
  refine Ru.op (q := (.goto 20, 3)) (by decide +kernel) rfl ?_
  refine Ru.op (q := (.putfield 120, 3)) (by decide +kernel) rfl ?_
  refine Ru.op (q := (.aload_n 0, 1)) (by decide +kernel) rfl ?_
  refine Ru.op (q := (.aload_n 0, 1)) (by decide +kernel) rfl ?_
  refine Ru.op (q := (.getfield 151, 3)) (by decide +kernel) rfl ?_
  refine Ru.br (k := .eq) (off := 10) (bb := false) (tg := 198) (by decide +kernel) (by decide +kernel) (by decide +kernel) (by decide +kernel) ?_
  refine Ru.op (q := (.aload_n 0, 1)) (by decide +kernel) rfl ?_
  refine Ru.op (q := (.getfield 140, 3)) (by decide +kernel) rfl ?_
  refine Ru.op (q := (.goto 7, 3)) (by decide +kernel) rfl ?_
  refine Ru.op (q := (.putfield 9, 3)) (by decide +kernel) rfl ?_
  refine Ru.op (q := (.aload_n 0, 1)) (by decide +kernel) rfl ?_
  refine Ru.op (q := (.aload_n 0, 1)) (by decide +kernel) rfl ?_
  refine Ru.op (q := (.getfield 186, 3)) (by decide +kernel) rfl ?_
  refine Ru.op (q := (.putfield 246, 3)) (by decide +kernel) rfl ?_
  refine Ru.op (q := (.iconst 0, 1)) (by decide +kernel) rfl ?_
  refine Ru.op (q := (.istore 5, 2)) (by decide +kernel) rfl ?_
  refine Ru.op (q := (.iload 5, 2)) (by decide +kernel) rfl ?_
  refine Ru.op (q := (.aload_n 0, 1)) (by decide +kernel) rfl ?_
  refine Ru.op (q := (.getfield 186, 3)) (by decide +kernel) rfl ?_
  refine Ru.br2 (k := .ge) (off := 37) (bb := true) (tg := 266) (by decide +kernel) (by decide +kernel) (by decide +kernel) (by decide +kernel) ?_
  refine Ru.op (q := (.aload_n 0, 1)) (by decide +kernel) rfl ?_
  refine Ru.op (q := (.getfield 120, 3)) (by decide +kernel) rfl ?_
  refine Ru.br (k := .ne) (off := 36) (bb := true) (tg := 306) (by decide +kernel) (by decide +kernel) (by decide +kernel) (by decide +kernel) ?_
  refine Ru.op (q := (.aload_n 0, 1)) (by decide +kernel) rfl ?_
  refine Ru.op (q := (.getfield 120, 3)) (by decide +kernel) rfl ?_
  refine Ru.br (k := .le) (off := 5) (bb := false) (tg := 313) (by decide +kernel) (by decide +kernel) (by decide +kernel) (by decide +kernel) ?_
  refine Ru.op (q := (.iconst 0, 1)) (by decide +kernel) rfl ?_
  exact Ru.end (q := (.ireturn, 1)) (by decide +kernel) rfl rfl
set_option maxRecDepth 100000 in
theorem p1_clm_8 : Ru none 2047 83980 94 (0, mn_pad (mn_ent [.ref 36]) 1, [], 20580, fh_clm_6) ((0, some (.int 1)), 20580, fh_clm_6) := Ru.of 5 (by decide +kernel)
set_option maxRecDepth 100000 in
set_option maxHeartbeats 4000000 in
theorem p1_clm {s0 s1 s2 s3 s4 : Int32} : Ru (some [s0, s1, s2, s3, s4]) 2048 84000 172 (703, [some (.retAddr 0), some (.ref 0), some (.ref 36), some (.ref 71), some (.int 0), none, none], [], 20574, fh_0) ((0, some (.int 1)), 20580, fh_clm_6) := by
  refine Ru.op (q := (.aload_n 1, 1)) (by decide +kernel) rfl ?_
  refine Ru.op (q := (.aload_n 0, 1)) (by decide +kernel) rfl ?_
  refine Ru.op (q := (.iload 4, 2)) (by decide +kernel) rfl ?_
  refine Ru.op (q := (.iconst 1, 1)) (by decide +kernel) rfl ?_
  refine Ru.op (q := (.iadd, 1)) (by decide +kernel) rfl ?_
  refine Ru.sld (L := 5) (k := 1) (v := s1) rfl rfl (by decide +kernel) (by decide +kernel) (by decide +kernel) rfl ?_
  refine Ru.op (q := (.aload_n 0, 1)) (by decide +kernel) rfl ?_
  refine Ru.op (q := (.iload 4, 2)) (by decide +kernel) rfl ?_
  refine Ru.op (q := (.iconst 2, 1)) (by decide +kernel) rfl ?_
  refine Ru.op (q := (.iadd, 1)) (by decide +kernel) rfl ?_
  refine Ru.sld (L := 5) (k := 2) (v := s2) rfl rfl (by decide +kernel) (by decide +kernel) (by decide +kernel) rfl ?_
  refine Ru.op (q := (.aload_n 0, 1)) (by decide +kernel) rfl ?_
  refine Ru.op (q := (.iload 4, 2)) (by decide +kernel) rfl ?_
  refine Ru.op (q := (.iconst 3, 1)) (by decide +kernel) rfl ?_
  refine Ru.op (q := (.iadd, 1)) (by decide +kernel) rfl ?_
  refine Ru.sld (L := 5) (k := 3) (v := s3) rfl rfl (by decide +kernel) (by decide +kernel) (by decide +kernel) rfl ?_
  refine Ru.op (q := (.aload_n 0, 1)) (by decide +kernel) rfl ?_
  refine Ru.op (q := (.iload 4, 2)) (by decide +kernel) rfl ?_
  refine Ru.op (q := (.iconst 4, 1)) (by decide +kernel) rfl ?_
  refine Ru.op (q := (.iadd, 1)) (by decide +kernel) rfl ?_
  refine Ru.sld (L := 5) (k := 4) (v := s4) rfl rfl (by decide +kernel) (by decide +kernel) (by decide +kernel) rfl ?_
  refine Ru.op (q := (.aload_n 3, 1)) (by decide +kernel) rfl ?_
  refine Ru.call (q := (.invokestatic 113, 3)) (by decide +kernel) rfl rfl rfl rfl ⟨Nat.le_of_ble_eq_true rfl, Nat.le_of_ble_eq_true rfl, Nat.le_of_ble_eq_true rfl, Nat.le_of_ble_eq_true rfl⟩ (p1_clm_2 s1 s2 s3 s4) ?_
  refine Ru.op (q := (.istore 5, 2)) (by decide +kernel) rfl ?_
  refine Ru.op (q := (.aload_n 2, 1)) (by decide +kernel) rfl ?_
  refine Ru.op (q := (.aload_n 0, 1)) (by decide +kernel) rfl ?_
  refine Ru.op (q := (.iload 4, 2)) (by decide +kernel) rfl ?_
  refine Ru.op (q := (.iconst 1, 1)) (by decide +kernel) rfl ?_
  refine Ru.op (q := (.iadd, 1)) (by decide +kernel) rfl ?_
  refine Ru.sld (L := 5) (k := 1) (v := s1) rfl rfl (by decide +kernel) (by decide +kernel) (by decide +kernel) rfl ?_
  refine Ru.op (q := (.aload_n 0, 1)) (by decide +kernel) rfl ?_
  refine Ru.op (q := (.iload 4, 2)) (by decide +kernel) rfl ?_
  refine Ru.op (q := (.iconst 2, 1)) (by decide +kernel) rfl ?_
  refine Ru.op (q := (.iadd, 1)) (by decide +kernel) rfl ?_
  refine Ru.sld (L := 5) (k := 2) (v := s2) rfl rfl (by decide +kernel) (by decide +kernel) (by decide +kernel) rfl ?_
  refine Ru.op (q := (.aload_n 0, 1)) (by decide +kernel) rfl ?_
  refine Ru.op (q := (.iload 4, 2)) (by decide +kernel) rfl ?_
  refine Ru.op (q := (.iconst 3, 1)) (by decide +kernel) rfl ?_
  refine Ru.op (q := (.iadd, 1)) (by decide +kernel) rfl ?_
  refine Ru.sld (L := 5) (k := 3) (v := s3) rfl rfl (by decide +kernel) (by decide +kernel) (by decide +kernel) rfl ?_
  refine Ru.op (q := (.aload_n 0, 1)) (by decide +kernel) rfl ?_
  refine Ru.op (q := (.iload 4, 2)) (by decide +kernel) rfl ?_
  refine Ru.op (q := (.iconst 4, 1)) (by decide +kernel) rfl ?_
  refine Ru.op (q := (.iadd, 1)) (by decide +kernel) rfl ?_
  refine Ru.sld (L := 5) (k := 4) (v := s4) rfl rfl (by decide +kernel) (by decide +kernel) (by decide +kernel) rfl ?_
  refine Ru.call (q := (.invokevirtual 116, 3)) (by decide +kernel) rfl rfl rfl rfl ⟨Nat.le_of_ble_eq_true rfl, Nat.le_of_ble_eq_true rfl, Nat.le_of_ble_eq_true rfl, Nat.le_of_ble_eq_true rfl⟩ (p1_clm_7 s1 s2 s3 s4) ?_
  refine Ru.op (q := (.istore 6, 2)) (by decide +kernel) rfl ?_
  refine Ru.op (q := (.aload_n 2, 1)) (by decide +kernel) rfl ?_
  refine Ru.call (q := (.invokevirtual 68, 3)) (by decide +kernel) rfl rfl rfl rfl ⟨Nat.le_of_ble_eq_true rfl, Nat.le_of_ble_eq_true rfl, Nat.le_of_ble_eq_true rfl, Nat.le_of_ble_eq_true rfl⟩ (p1_clm_8) ?_
  refine Ru.op (q := (.iload 5, 2)) (by decide +kernel) rfl ?_
  refine Ru.br2 (k := .eq) (off := 5) (bb := true) (tg := 775) (by decide +kernel) (by decide +kernel) (by decide +kernel) (by decide +kernel) ?_
  refine Ru.op (q := (.iload 5, 2)) (by decide +kernel) rfl ?_
  refine Ru.br (k := .ne) (off := 15) (bb := true) (tg := 792) (by decide +kernel) (by decide +kernel) (by decide +kernel) (by decide +kernel) ?_
  refine Ru.op (q := (.goto 59, 3)) (by decide +kernel) rfl ?_
  exact p1_tail rfl
end
section
set_option maxRecDepth 100000 in
theorem p1_fig0_0 : Ru none 2047 83977 171 (0, mn_pad (mn_ent [.ref 0, .int 0, .ref 71]) 4, [], 20574, fh_0) ((0, some (.int 0)), 20574, fh_0) := Ru.of 18 (by decide +kernel)
set_option maxRecDepth 100000 in
theorem p1_fig0_1 : Ru none 2047 83979 157 (0, mn_pad (mn_ent [.ref 36, .int 0]) 2, [], 20574, fh_0) ((0, some (.int 0)), 20574, fh_0) := Ru.of 15 (by decide +kernel)
set_option maxRecDepth 100000 in
theorem p1_fig0_2 : Ru none 2047 83980 94 (0, mn_pad (mn_ent [.ref 36]) 1, [], 20574, fh_0) ((0, some (.int 0)), 20574, fh_0) := Ru.of 5 (by decide +kernel)
set_option maxRecDepth 100000 in
set_option maxHeartbeats 4000000 in
theorem p1_fig0 {s0 s2 s3 s4 : Int32} : Ru (some [s0, 0, s2, s3, s4]) 2048 84000 172 (795, [some (.retAddr 0), some (.ref 0), some (.ref 36), some (.ref 71), some (.int 0), none, none], [], 20574, fh_0) ((0, some (.int 1)), 20574, fh_0) := by
  refine Ru.op (q := (.aload_n 1, 1)) (by decide +kernel) rfl ?_
  refine Ru.op (q := (.aload_n 0, 1)) (by decide +kernel) rfl ?_
  refine Ru.op (q := (.iload 4, 2)) (by decide +kernel) rfl ?_
  refine Ru.op (q := (.iconst 1, 1)) (by decide +kernel) rfl ?_
  refine Ru.op (q := (.iadd, 1)) (by decide +kernel) rfl ?_
  refine Ru.sld (L := 5) (k := 1) (v := 0) rfl rfl (by decide +kernel) (by decide +kernel) (by decide +kernel) rfl ?_
  refine Ru.op (q := (.aload_n 3, 1)) (by decide +kernel) rfl ?_
  refine Ru.call (q := (.invokestatic 117, 3)) (by decide +kernel) rfl rfl rfl rfl ⟨Nat.le_of_ble_eq_true rfl, Nat.le_of_ble_eq_true rfl, Nat.le_of_ble_eq_true rfl, Nat.le_of_ble_eq_true rfl⟩ (p1_fig0_0) ?_
  refine Ru.op (q := (.istore 5, 2)) (by decide +kernel) rfl ?_
  refine Ru.op (q := (.aload_n 2, 1)) (by decide +kernel) rfl ?_
  refine Ru.op (q := (.aload_n 0, 1)) (by decide +kernel) rfl ?_
  refine Ru.op (q := (.iload 4, 2)) (by decide +kernel) rfl ?_
  refine Ru.op (q := (.iconst 1, 1)) (by decide +kernel) rfl ?_
  refine Ru.op (q := (.iadd, 1)) (by decide +kernel) rfl ?_
  refine Ru.sld (L := 5) (k := 1) (v := 0) rfl rfl (by decide +kernel) (by decide +kernel) (by decide +kernel) rfl ?_
  refine Ru.call (q := (.invokevirtual 119, 3)) (by decide +kernel) rfl rfl rfl rfl ⟨Nat.le_of_ble_eq_true rfl, Nat.le_of_ble_eq_true rfl, Nat.le_of_ble_eq_true rfl, Nat.le_of_ble_eq_true rfl⟩ (p1_fig0_1) ?_
  refine Ru.op (q := (.istore 6, 2)) (by decide +kernel) rfl ?_
  refine Ru.op (q := (.aload_n 2, 1)) (by decide +kernel) rfl ?_
  refine Ru.call (q := (.invokevirtual 68, 3)) (by decide +kernel) rfl rfl rfl rfl ⟨Nat.le_of_ble_eq_true rfl, Nat.le_of_ble_eq_true rfl, Nat.le_of_ble_eq_true rfl, Nat.le_of_ble_eq_true rfl⟩ (p1_fig0_2) ?_
  refine Ru.op (q := (.iload 5, 2)) (by decide +kernel) rfl ?_
  refine Ru.br2 (k := .eq) (off := 5) (bb := true) (tg := 831) (by decide +kernel) (by decide +kernel) (by decide +kernel) (by decide +kernel) ?_
  refine Ru.op (q := (.iload 5, 2)) (by decide +kernel) rfl ?_
  refine Ru.br (k := .ne) (off := 15) (bb := false) (tg := 836) (by decide +kernel) (by decide +kernel) (by decide +kernel) (by decide +kernel) ?_
  refine Ru.op (q := (.aload_n 3, 1)) (by decide +kernel) rfl ?_
  refine Ru.op (q := (.iconst 0, 1)) (by decide +kernel) rfl ?_
  refine Ru.op (q := (.laload, 1)) (by decide +kernel) rfl ?_
  refine Ru.op (q := (.iload 6, 2)) (by decide +kernel) rfl ?_
  refine Ru.op (q := (.i2l, 1)) (by decide +kernel) rfl ?_
  refine Ru.op (q := (.lcmp, 1)) (by decide +kernel) rfl ?_
  refine Ru.br (k := .eq) (off := 5) (bb := true) (tg := 848) (by decide +kernel) (by decide +kernel) (by decide +kernel) (by decide +kernel) ?_
  refine Ru.op (q := (.goto 3, 3)) (by decide +kernel) rfl ?_
  exact p1_tail rfl
set_option maxRecDepth 100000 in
theorem p1_fig1_0 : Ru none 2047 83977 171 (0, mn_pad (mn_ent [.ref 0, .int 1, .ref 71]) 4, [], 20574, fh_0) ((0, some (.int 0)), 20574, fh_0) := Ru.of 29 (by decide +kernel)
set_option maxRecDepth 100000 in
theorem p1_fig1_1 : Ru none 2047 83979 157 (0, mn_pad (mn_ent [.ref 36, .int 1]) 2, [], 20574, fh_0) ((0, some (.int 0)), 20574, fh_0) := Ru.of 26 (by decide +kernel)
set_option maxRecDepth 100000 in
theorem p1_fig1_2 : Ru none 2047 83980 94 (0, mn_pad (mn_ent [.ref 36]) 1, [], 20574, fh_0) ((0, some (.int 0)), 20574, fh_0) := Ru.of 5 (by decide +kernel)
set_option maxRecDepth 100000 in
set_option maxHeartbeats 4000000 in
theorem p1_fig1 {s0 s2 s3 s4 : Int32} : Ru (some [s0, 1, s2, s3, s4]) 2048 84000 172 (795, [some (.retAddr 0), some (.ref 0), some (.ref 36), some (.ref 71), some (.int 0), none, none], [], 20574, fh_0) ((0, some (.int 1)), 20574, fh_0) := by
  refine Ru.op (q := (.aload_n 1, 1)) (by decide +kernel) rfl ?_
  refine Ru.op (q := (.aload_n 0, 1)) (by decide +kernel) rfl ?_
  refine Ru.op (q := (.iload 4, 2)) (by decide +kernel) rfl ?_
  refine Ru.op (q := (.iconst 1, 1)) (by decide +kernel) rfl ?_
  refine Ru.op (q := (.iadd, 1)) (by decide +kernel) rfl ?_
  refine Ru.sld (L := 5) (k := 1) (v := 1) rfl rfl (by decide +kernel) (by decide +kernel) (by decide +kernel) rfl ?_
  refine Ru.op (q := (.aload_n 3, 1)) (by decide +kernel) rfl ?_
  refine Ru.call (q := (.invokestatic 117, 3)) (by decide +kernel) rfl rfl rfl rfl ⟨Nat.le_of_ble_eq_true rfl, Nat.le_of_ble_eq_true rfl, Nat.le_of_ble_eq_true rfl, Nat.le_of_ble_eq_true rfl⟩ (p1_fig1_0) ?_
  refine Ru.op (q := (.istore 5, 2)) (by decide +kernel) rfl ?_
  refine Ru.op (q := (.aload_n 2, 1)) (by decide +kernel) rfl ?_
  refine Ru.op (q := (.aload_n 0, 1)) (by decide +kernel) rfl ?_
  refine Ru.op (q := (.iload 4, 2)) (by decide +kernel) rfl ?_
  refine Ru.op (q := (.iconst 1, 1)) (by decide +kernel) rfl ?_
  refine Ru.op (q := (.iadd, 1)) (by decide +kernel) rfl ?_
  refine Ru.sld (L := 5) (k := 1) (v := 1) rfl rfl (by decide +kernel) (by decide +kernel) (by decide +kernel) rfl ?_
  refine Ru.call (q := (.invokevirtual 119, 3)) (by decide +kernel) rfl rfl rfl rfl ⟨Nat.le_of_ble_eq_true rfl, Nat.le_of_ble_eq_true rfl, Nat.le_of_ble_eq_true rfl, Nat.le_of_ble_eq_true rfl⟩ (p1_fig1_1) ?_
  refine Ru.op (q := (.istore 6, 2)) (by decide +kernel) rfl ?_
  refine Ru.op (q := (.aload_n 2, 1)) (by decide +kernel) rfl ?_
  refine Ru.call (q := (.invokevirtual 68, 3)) (by decide +kernel) rfl rfl rfl rfl ⟨Nat.le_of_ble_eq_true rfl, Nat.le_of_ble_eq_true rfl, Nat.le_of_ble_eq_true rfl, Nat.le_of_ble_eq_true rfl⟩ (p1_fig1_2) ?_
  refine Ru.op (q := (.iload 5, 2)) (by decide +kernel) rfl ?_
  refine Ru.br2 (k := .eq) (off := 5) (bb := true) (tg := 831) (by decide +kernel) (by decide +kernel) (by decide +kernel) (by decide +kernel) ?_
  refine Ru.op (q := (.iload 5, 2)) (by decide +kernel) rfl ?_
  refine Ru.br (k := .ne) (off := 15) (bb := false) (tg := 836) (by decide +kernel) (by decide +kernel) (by decide +kernel) (by decide +kernel) ?_
  refine Ru.op (q := (.aload_n 3, 1)) (by decide +kernel) rfl ?_
  refine Ru.op (q := (.iconst 0, 1)) (by decide +kernel) rfl ?_
  refine Ru.op (q := (.laload, 1)) (by decide +kernel) rfl ?_
  refine Ru.op (q := (.iload 6, 2)) (by decide +kernel) rfl ?_
  refine Ru.op (q := (.i2l, 1)) (by decide +kernel) rfl ?_
  refine Ru.op (q := (.lcmp, 1)) (by decide +kernel) rfl ?_
  refine Ru.br (k := .eq) (off := 5) (bb := true) (tg := 848) (by decide +kernel) (by decide +kernel) (by decide +kernel) (by decide +kernel) ?_
  refine Ru.op (q := (.goto 3, 3)) (by decide +kernel) rfl ?_
  exact p1_tail rfl
set_option maxRecDepth 100000 in
theorem p1_fig2_0 : Ru none 2047 83977 171 (0, mn_pad (mn_ent [.ref 0, .int 2, .ref 71]) 4, [], 20574, fh_0) ((0, some (.int 0)), 20574, fh_0) := Ru.of 29 (by decide +kernel)
set_option maxRecDepth 100000 in
theorem p1_fig2_1 : Ru none 2047 83979 157 (0, mn_pad (mn_ent [.ref 36, .int 2]) 2, [], 20574, fh_0) ((0, some (.int 0)), 20574, fh_0) := Ru.of 26 (by decide +kernel)
set_option maxRecDepth 100000 in
theorem p1_fig2_2 : Ru none 2047 83980 94 (0, mn_pad (mn_ent [.ref 36]) 1, [], 20574, fh_0) ((0, some (.int 0)), 20574, fh_0) := Ru.of 5 (by decide +kernel)
set_option maxRecDepth 100000 in
set_option maxHeartbeats 4000000 in
theorem p1_fig2 {s0 s2 s3 s4 : Int32} : Ru (some [s0, 2, s2, s3, s4]) 2048 84000 172 (795, [some (.retAddr 0), some (.ref 0), some (.ref 36), some (.ref 71), some (.int 0), none, none], [], 20574, fh_0) ((0, some (.int 1)), 20574, fh_0) := by
  refine Ru.op (q := (.aload_n 1, 1)) (by decide +kernel) rfl ?_
  refine Ru.op (q := (.aload_n 0, 1)) (by decide +kernel) rfl ?_
  refine Ru.op (q := (.iload 4, 2)) (by decide +kernel) rfl ?_
  refine Ru.op (q := (.iconst 1, 1)) (by decide +kernel) rfl ?_
  refine Ru.op (q := (.iadd, 1)) (by decide +kernel) rfl ?_
  refine Ru.sld (L := 5) (k := 1) (v := 2) rfl rfl (by decide +kernel) (by decide +kernel) (by decide +kernel) rfl ?_
  refine Ru.op (q := (.aload_n 3, 1)) (by decide +kernel) rfl ?_
  refine Ru.call (q := (.invokestatic 117, 3)) (by decide +kernel) rfl rfl rfl rfl ⟨Nat.le_of_ble_eq_true rfl, Nat.le_of_ble_eq_true rfl, Nat.le_of_ble_eq_true rfl, Nat.le_of_ble_eq_true rfl⟩ (p1_fig2_0) ?_
  refine Ru.op (q := (.istore 5, 2)) (by decide +kernel) rfl ?_
  refine Ru.op (q := (.aload_n 2, 1)) (by decide +kernel) rfl ?_
  refine Ru.op (q := (.aload_n 0, 1)) (by decide +kernel) rfl ?_
  refine Ru.op (q := (.iload 4, 2)) (by decide +kernel) rfl ?_
  refine Ru.op (q := (.iconst 1, 1)) (by decide +kernel) rfl ?_
  refine Ru.op (q := (.iadd, 1)) (by decide +kernel) rfl ?_
  refine Ru.sld (L := 5) (k := 1) (v := 2) rfl rfl (by decide +kernel) (by decide +kernel) (by decide +kernel) rfl ?_
  refine Ru.call (q := (.invokevirtual 119, 3)) (by decide +kernel) rfl rfl rfl rfl ⟨Nat.le_of_ble_eq_true rfl, Nat.le_of_ble_eq_true rfl, Nat.le_of_ble_eq_true rfl, Nat.le_of_ble_eq_true rfl⟩ (p1_fig2_1) ?_
  refine Ru.op (q := (.istore 6, 2)) (by decide +kernel) rfl ?_
  refine Ru.op (q := (.aload_n 2, 1)) (by decide +kernel) rfl ?_
  refine Ru.call (q := (.invokevirtual 68, 3)) (by decide +kernel) rfl rfl rfl rfl ⟨Nat.le_of_ble_eq_true rfl, Nat.le_of_ble_eq_true rfl, Nat.le_of_ble_eq_true rfl, Nat.le_of_ble_eq_true rfl⟩ (p1_fig2_2) ?_
  refine Ru.op (q := (.iload 5, 2)) (by decide +kernel) rfl ?_
  refine Ru.br2 (k := .eq) (off := 5) (bb := true) (tg := 831) (by decide +kernel) (by decide +kernel) (by decide +kernel) (by decide +kernel) ?_
  refine Ru.op (q := (.iload 5, 2)) (by decide +kernel) rfl ?_
  refine Ru.br (k := .ne) (off := 15) (bb := false) (tg := 836) (by decide +kernel) (by decide +kernel) (by decide +kernel) (by decide +kernel) ?_
  refine Ru.op (q := (.aload_n 3, 1)) (by decide +kernel) rfl ?_
  refine Ru.op (q := (.iconst 0, 1)) (by decide +kernel) rfl ?_
  refine Ru.op (q := (.laload, 1)) (by decide +kernel) rfl ?_
  refine Ru.op (q := (.iload 6, 2)) (by decide +kernel) rfl ?_
  refine Ru.op (q := (.i2l, 1)) (by decide +kernel) rfl ?_
  refine Ru.op (q := (.lcmp, 1)) (by decide +kernel) rfl ?_
  refine Ru.br (k := .eq) (off := 5) (bb := true) (tg := 848) (by decide +kernel) (by decide +kernel) (by decide +kernel) (by decide +kernel) ?_
  refine Ru.op (q := (.goto 3, 3)) (by decide +kernel) rfl ?_
  exact p1_tail rfl
set_option maxRecDepth 100000 in
theorem p1_fig3_0 : Ru none 2047 83977 171 (0, mn_pad (mn_ent [.ref 0, .int 3, .ref 71]) 4, [], 20574, fh_0) ((0, some (.int 0)), 20574, fh_0) := Ru.of 18 (by decide +kernel)
set_option maxRecDepth 100000 in
theorem p1_fig3_1 : Ru none 2047 83979 157 (0, mn_pad (mn_ent [.ref 36, .int 3]) 2, [], 20574, fh_0) ((0, some (.int 0)), 20574, fh_0) := Ru.of 15 (by decide +kernel)
set_option maxRecDepth 100000 in
theorem p1_fig3_2 : Ru none 2047 83980 94 (0, mn_pad (mn_ent [.ref 36]) 1, [], 20574, fh_0) ((0, some (.int 0)), 20574, fh_0) := Ru.of 5 (by decide +kernel)
set_option maxRecDepth 100000 in
set_option maxHeartbeats 4000000 in
theorem p1_fig3 {s0 s2 s3 s4 : Int32} : Ru (some [s0, 3, s2, s3, s4]) 2048 84000 172 (795, [some (.retAddr 0), some (.ref 0), some (.ref 36), some (.ref 71), some (.int 0), none, none], [], 20574, fh_0) ((0, some (.int 1)), 20574, fh_0) := by
  refine Ru.op (q := (.aload_n 1, 1)) (by decide +kernel) rfl ?_
  refine Ru.op (q := (.aload_n 0, 1)) (by decide +kernel) rfl ?_
  refine Ru.op (q := (.iload 4, 2)) (by decide +kernel) rfl ?_
  refine Ru.op (q := (.iconst 1, 1)) (by decide +kernel) rfl ?_
  refine Ru.op (q := (.iadd, 1)) (by decide +kernel) rfl ?_
  refine Ru.sld (L := 5) (k := 1) (v := 3) rfl rfl (by decide +kernel) (by decide +kernel) (by decide +kernel) rfl ?_
  refine Ru.op (q := (.aload_n 3, 1)) (by decide +kernel) rfl ?_
  refine Ru.call (q := (.invokestatic 117, 3)) (by decide +kernel) rfl rfl rfl rfl ⟨Nat.le_of_ble_eq_true rfl, Nat.le_of_ble_eq_true rfl, Nat.le_of_ble_eq_true rfl, Nat.le_of_ble_eq_true rfl⟩ (p1_fig3_0) ?_
  refine Ru.op (q := (.istore 5, 2)) (by decide +kernel) rfl ?_
  refine Ru.op (q := (.aload_n 2, 1)) (by decide +kernel) rfl ?_
  refine Ru.op (q := (.aload_n 0, 1)) (by decide +kernel) rfl ?_
  refine Ru.op (q := (.iload 4, 2)) (by decide +kernel) rfl ?_
  refine Ru.op (q := (.iconst 1, 1)) (by decide +kernel) rfl ?_
  refine Ru.op (q := (.iadd, 1)) (by decide +kernel) rfl ?_
  refine Ru.sld (L := 5) (k := 1) (v := 3) rfl rfl (by decide +kernel) (by decide +kernel) (by decide +kernel) rfl ?_
  refine Ru.call (q := (.invokevirtual 119, 3)) (by decide +kernel) rfl rfl rfl rfl ⟨Nat.le_of_ble_eq_true rfl, Nat.le_of_ble_eq_true rfl, Nat.le_of_ble_eq_true rfl, Nat.le_of_ble_eq_true rfl⟩ (p1_fig3_1) ?_
  refine Ru.op (q := (.istore 6, 2)) (by decide +kernel) rfl ?_
  refine Ru.op (q := (.aload_n 2, 1)) (by decide +kernel) rfl ?_
  refine Ru.call (q := (.invokevirtual 68, 3)) (by decide +kernel) rfl rfl rfl rfl ⟨Nat.le_of_ble_eq_true rfl, Nat.le_of_ble_eq_true rfl, Nat.le_of_ble_eq_true rfl, Nat.le_of_ble_eq_true rfl⟩ (p1_fig3_2) ?_
  refine Ru.op (q := (.iload 5, 2)) (by decide +kernel) rfl ?_
  refine Ru.br2 (k := .eq) (off := 5) (bb := true) (tg := 831) (by decide +kernel) (by decide +kernel) (by decide +kernel) (by decide +kernel) ?_
  refine Ru.op (q := (.iload 5, 2)) (by decide +kernel) rfl ?_
  refine Ru.br (k := .ne) (off := 15) (bb := false) (tg := 836) (by decide +kernel) (by decide +kernel) (by decide +kernel) (by decide +kernel) ?_
  refine Ru.op (q := (.aload_n 3, 1)) (by decide +kernel) rfl ?_
  refine Ru.op (q := (.iconst 0, 1)) (by decide +kernel) rfl ?_
  refine Ru.op (q := (.laload, 1)) (by decide +kernel) rfl ?_
  refine Ru.op (q := (.iload 6, 2)) (by decide +kernel) rfl ?_
  refine Ru.op (q := (.i2l, 1)) (by decide +kernel) rfl ?_
  refine Ru.op (q := (.lcmp, 1)) (by decide +kernel) rfl ?_
  refine Ru.br (k := .eq) (off := 5) (bb := true) (tg := 848) (by decide +kernel) (by decide +kernel) (by decide +kernel) (by decide +kernel) ?_
  refine Ru.op (q := (.goto 3, 3)) (by decide +kernel) rfl ?_
  exact p1_tail rfl
set_option maxRecDepth 100000 in
theorem p1_fig4_0 : Ru none 2047 83977 171 (0, mn_pad (mn_ent [.ref 0, .int 4, .ref 71]) 4, [], 20574, fh_0) ((0, some (.int 0)), 20574, fh_0) := Ru.of 18 (by decide +kernel)
set_option maxRecDepth 100000 in
theorem p1_fig4_1 : Ru none 2047 83979 157 (0, mn_pad (mn_ent [.ref 36, .int 4]) 2, [], 20574, fh_0) ((0, some (.int 0)), 20574, fh_0) := Ru.of 15 (by decide +kernel)
set_option maxRecDepth 100000 in
theorem p1_fig4_2 : Ru none 2047 83980 94 (0, mn_pad (mn_ent [.ref 36]) 1, [], 20574, fh_0) ((0, some (.int 0)), 20574, fh_0) := Ru.of 5 (by decide +kernel)
set_option maxRecDepth 100000 in
set_option maxHeartbeats 4000000 in
theorem p1_fig4 {s0 s2 s3 s4 : Int32} : Ru (some [s0, 4, s2, s3, s4]) 2048 84000 172 (795, [some (.retAddr 0), some (.ref 0), some (.ref 36), some (.ref 71), some (.int 0), none, none], [], 20574, fh_0) ((0, some (.int 1)), 20574, fh_0) := by
  refine Ru.op (q := (.aload_n 1, 1)) (by decide +kernel) rfl ?_
  refine Ru.op (q := (.aload_n 0, 1)) (by decide +kernel) rfl ?_
  refine Ru.op (q := (.iload 4, 2)) (by decide +kernel) rfl ?_
  refine Ru.op (q := (.iconst 1, 1)) (by decide +kernel) rfl ?_
  refine Ru.op (q := (.iadd, 1)) (by decide +kernel) rfl ?_
  refine Ru.sld (L := 5) (k := 1) (v := 4) rfl rfl (by decide +kernel) (by decide +kernel) (by decide +kernel) rfl ?_
  refine Ru.op (q := (.aload_n 3, 1)) (by decide +kernel) rfl ?_
  refine Ru.call (q := (.invokestatic 117, 3)) (by decide +kernel) rfl rfl rfl rfl ⟨Nat.le_of_ble_eq_true rfl, Nat.le_of_ble_eq_true rfl, Nat.le_of_ble_eq_true rfl, Nat.le_of_ble_eq_true rfl⟩ (p1_fig4_0) ?_
  refine Ru.op (q := (.istore 5, 2)) (by decide +kernel) rfl ?_
  refine Ru.op (q := (.aload_n 2, 1)) (by decide +kernel) rfl ?_
  refine Ru.op (q := (.aload_n 0, 1)) (by decide +kernel) rfl ?_
  refine Ru.op (q := (.iload 4, 2)) (by decide +kernel) rfl ?_
  refine Ru.op (q := (.iconst 1, 1)) (by decide +kernel) rfl ?_
  refine Ru.op (q := (.iadd, 1)) (by decide +kernel) rfl ?_
  refine Ru.sld (L := 5) (k := 1) (v := 4) rfl rfl (by decide +kernel) (by decide +kernel) (by decide +kernel) rfl ?_
  refine Ru.call (q := (.invokevirtual 119, 3)) (by decide +kernel) rfl rfl rfl rfl ⟨Nat.le_of_ble_eq_true rfl, Nat.le_of_ble_eq_true rfl, Nat.le_of_ble_eq_true rfl, Nat.le_of_ble_eq_true rfl⟩ (p1_fig4_1) ?_
  refine Ru.op (q := (.istore 6, 2)) (by decide +kernel) rfl ?_
  refine Ru.op (q := (.aload_n 2, 1)) (by decide +kernel) rfl ?_
  refine Ru.call (q := (.invokevirtual 68, 3)) (by decide +kernel) rfl rfl rfl rfl ⟨Nat.le_of_ble_eq_true rfl, Nat.le_of_ble_eq_true rfl, Nat.le_of_ble_eq_true rfl, Nat.le_of_ble_eq_true rfl⟩ (p1_fig4_2) ?_
  refine Ru.op (q := (.iload 5, 2)) (by decide +kernel) rfl ?_
  refine Ru.br2 (k := .eq) (off := 5) (bb := true) (tg := 831) (by decide +kernel) (by decide +kernel) (by decide +kernel) (by decide +kernel) ?_
  refine Ru.op (q := (.iload 5, 2)) (by decide +kernel) rfl ?_
  refine Ru.br (k := .ne) (off := 15) (bb := false) (tg := 836) (by decide +kernel) (by decide +kernel) (by decide +kernel) (by decide +kernel) ?_
  refine Ru.op (q := (.aload_n 3, 1)) (by decide +kernel) rfl ?_
  refine Ru.op (q := (.iconst 0, 1)) (by decide +kernel) rfl ?_
  refine Ru.op (q := (.laload, 1)) (by decide +kernel) rfl ?_
  refine Ru.op (q := (.iload 6, 2)) (by decide +kernel) rfl ?_
  refine Ru.op (q := (.i2l, 1)) (by decide +kernel) rfl ?_
  refine Ru.op (q := (.lcmp, 1)) (by decide +kernel) rfl ?_
  refine Ru.br (k := .eq) (off := 5) (bb := true) (tg := 848) (by decide +kernel) (by decide +kernel) (by decide +kernel) (by decide +kernel) ?_
  refine Ru.op (q := (.goto 3, 3)) (by decide +kernel) rfl ?_
  exact p1_tail rfl
set_option maxRecDepth 100000 in
theorem p1_fig5_0 : Ru none 2047 83977 171 (0, mn_pad (mn_ent [.ref 0, .int 5, .ref 71]) 4, [], 20574, fh_0) ((0, some (.int 0)), 20574, fh_0) := Ru.of 18 (by decide +kernel)
set_option maxRecDepth 100000 in
theorem p1_fig5_1 : Ru none 2047 83979 157 (0, mn_pad (mn_ent [.ref 36, .int 5]) 2, [], 20574, fh_0) ((0, some (.int 0)), 20574, fh_0) := Ru.of 15 (by decide +kernel)
set_option maxRecDepth 100000 in
theorem p1_fig5_2 : Ru none 2047 83980 94 (0, mn_pad (mn_ent [.ref 36]) 1, [], 20574, fh_0) ((0, some (.int 0)), 20574, fh_0) := Ru.of 5 (by decide +kernel)
set_option maxRecDepth 100000 in
set_option maxHeartbeats 4000000 in
theorem p1_fig5 {s0 s2 s3 s4 : Int32} : Ru (some [s0, 5, s2, s3, s4]) 2048 84000 172 (795, [some (.retAddr 0), some (.ref 0), some (.ref 36), some (.ref 71), some (.int 0), none, none], [], 20574, fh_0) ((0, some (.int 1)), 20574, fh_0) := by
  refine Ru.op (q := (.aload_n 1, 1)) (by decide +kernel) rfl ?_
  refine Ru.op (q := (.aload_n 0, 1)) (by decide +kernel) rfl ?_
  refine Ru.op (q := (.iload 4, 2)) (by decide +kernel) rfl ?_
  refine Ru.op (q := (.iconst 1, 1)) (by decide +kernel) rfl ?_
  refine Ru.op (q := (.iadd, 1)) (by decide +kernel) rfl ?_
  refine Ru.sld (L := 5) (k := 1) (v := 5) rfl rfl (by decide +kernel) (by decide +kernel) (by decide +kernel) rfl ?_
  refine Ru.op (q := (.aload_n 3, 1)) (by decide +kernel) rfl ?_
  refine Ru.call (q := (.invokestatic 117, 3)) (by decide +kernel) rfl rfl rfl rfl ⟨Nat.le_of_ble_eq_true rfl, Nat.le_of_ble_eq_true rfl, Nat.le_of_ble_eq_true rfl, Nat.le_of_ble_eq_true rfl⟩ (p1_fig5_0) ?_
  refine Ru.op (q := (.istore 5, 2)) (by decide +kernel) rfl ?_
  refine Ru.op (q := (.aload_n 2, 1)) (by decide +kernel) rfl ?_
  refine Ru.op (q := (.aload_n 0, 1)) (by decide +kernel) rfl ?_
  refine Ru.op (q := (.iload 4, 2)) (by decide +kernel) rfl ?_
  refine Ru.op (q := (.iconst 1, 1)) (by decide +kernel) rfl ?_
  refine Ru.op (q := (.iadd, 1)) (by decide +kernel) rfl ?_
  refine Ru.sld (L := 5) (k := 1) (v := 5) rfl rfl (by decide +kernel) (by decide +kernel) (by decide +kernel) rfl ?_
  refine Ru.call (q := (.invokevirtual 119, 3)) (by decide +kernel) rfl rfl rfl rfl ⟨Nat.le_of_ble_eq_true rfl, Nat.le_of_ble_eq_true rfl, Nat.le_of_ble_eq_true rfl, Nat.le_of_ble_eq_true rfl⟩ (p1_fig5_1) ?_
  refine Ru.op (q := (.istore 6, 2)) (by decide +kernel) rfl ?_
  refine Ru.op (q := (.aload_n 2, 1)) (by decide +kernel) rfl ?_
  refine Ru.call (q := (.invokevirtual 68, 3)) (by decide +kernel) rfl rfl rfl rfl ⟨Nat.le_of_ble_eq_true rfl, Nat.le_of_ble_eq_true rfl, Nat.le_of_ble_eq_true rfl, Nat.le_of_ble_eq_true rfl⟩ (p1_fig5_2) ?_
  refine Ru.op (q := (.iload 5, 2)) (by decide +kernel) rfl ?_
  refine Ru.br2 (k := .eq) (off := 5) (bb := true) (tg := 831) (by decide +kernel) (by decide +kernel) (by decide +kernel) (by decide +kernel) ?_
  refine Ru.op (q := (.iload 5, 2)) (by decide +kernel) rfl ?_
  refine Ru.br (k := .ne) (off := 15) (bb := false) (tg := 836) (by decide +kernel) (by decide +kernel) (by decide +kernel) (by decide +kernel) ?_
  refine Ru.op (q := (.aload_n 3, 1)) (by decide +kernel) rfl ?_
  refine Ru.op (q := (.iconst 0, 1)) (by decide +kernel) rfl ?_
  refine Ru.op (q := (.laload, 1)) (by decide +kernel) rfl ?_
  refine Ru.op (q := (.iload 6, 2)) (by decide +kernel) rfl ?_
  refine Ru.op (q := (.i2l, 1)) (by decide +kernel) rfl ?_
  refine Ru.op (q := (.lcmp, 1)) (by decide +kernel) rfl ?_
  refine Ru.br (k := .eq) (off := 5) (bb := true) (tg := 848) (by decide +kernel) (by decide +kernel) (by decide +kernel) (by decide +kernel) ?_
  refine Ru.op (q := (.goto 3, 3)) (by decide +kernel) rfl ?_
  exact p1_tail rfl
end
section
set_option maxRecDepth 100000 in
theorem p1_fig6_0 : Ru none 2047 83977 171 (0, mn_pad (mn_ent [.ref 0, .int 6, .ref 71]) 4, [], 20574, fh_0) ((0, some (.int 0)), 20574, fh_0) := Ru.of 18 (by decide +kernel)
set_option maxRecDepth 100000 in
theorem p1_fig6_1 : Ru none 2047 83979 157 (0, mn_pad (mn_ent [.ref 36, .int 6]) 2, [], 20574, fh_0) ((0, some (.int 0)), 20574, fh_0) := Ru.of 15 (by decide +kernel)
set_option maxRecDepth 100000 in
theorem p1_fig6_2 : Ru none 2047 83980 94 (0, mn_pad (mn_ent [.ref 36]) 1, [], 20574, fh_0) ((0, some (.int 0)), 20574, fh_0) := Ru.of 5 (by decide +kernel)
set_option maxRecDepth 100000 in
set_option maxHeartbeats 4000000 in
theorem p1_fig6 {s0 s2 s3 s4 : Int32} : Ru (some [s0, 6, s2, s3, s4]) 2048 84000 172 (795, [some (.retAddr 0), some (.ref 0), some (.ref 36), some (.ref 71), some (.int 0), none, none], [], 20574, fh_0) ((0, some (.int 1)), 20574, fh_0) := by
  refine Ru.op (q := (.aload_n 1, 1)) (by decide +kernel) rfl ?_
  refine Ru.op (q := (.aload_n 0, 1)) (by decide +kernel) rfl ?_
  refine Ru.op (q := (.iload 4, 2)) (by decide +kernel) rfl ?_
  refine Ru.op (q := (.iconst 1, 1)) (by decide +kernel) rfl ?_
  refine Ru.op (q := (.iadd, 1)) (by decide +kernel) rfl ?_
  refine Ru.sld (L := 5) (k := 1) (v := 6) rfl rfl (by decide +kernel) (by decide +kernel) (by decide +kernel) rfl ?_
  refine Ru.op (q := (.aload_n 3, 1)) (by decide +kernel) rfl ?_
  refine Ru.call (q := (.invokestatic 117, 3)) (by decide +kernel) rfl rfl rfl rfl ⟨Nat.le_of_ble_eq_true rfl, Nat.le_of_ble_eq_true rfl, Nat.le_of_ble_eq_true rfl, Nat.le_of_ble_eq_true rfl⟩ (p1_fig6_0) ?_
  refine Ru.op (q := (.istore 5, 2)) (by decide +kernel) rfl ?_
  refine Ru.op (q := (.aload_n 2, 1)) (by decide +kernel) rfl ?_
  refine Ru.op (q := (.aload_n 0, 1)) (by decide +kernel) rfl ?_
  refine Ru.op (q := (.iload 4, 2)) (by decide +kernel) rfl ?_
  refine Ru.op (q := (.iconst 1, 1)) (by decide +kernel) rfl ?_
  refine Ru.op (q := (.iadd, 1)) (by decide +kernel) rfl ?_
  refine Ru.sld (L := 5) (k := 1) (v := 6) rfl rfl (by decide +kernel) (by decide +kernel) (by decide +kernel) rfl ?_
  refine Ru.call (q := (.invokevirtual 119, 3)) (by decide +kernel) rfl rfl rfl rfl ⟨Nat.le_of_ble_eq_true rfl, Nat.le_of_ble_eq_true rfl, Nat.le_of_ble_eq_true rfl, Nat.le_of_ble_eq_true rfl⟩ (p1_fig6_1) ?_
  refine Ru.op (q := (.istore 6, 2)) (by decide +kernel) rfl ?_
  refine Ru.op (q := (.aload_n 2, 1)) (by decide +kernel) rfl ?_
  refine Ru.call (q := (.invokevirtual 68, 3)) (by decide +kernel) rfl rfl rfl rfl ⟨Nat.le_of_ble_eq_true rfl, Nat.le_of_ble_eq_true rfl, Nat.le_of_ble_eq_true rfl, Nat.le_of_ble_eq_true rfl⟩ (p1_fig6_2) ?_
  refine Ru.op (q := (.iload 5, 2)) (by decide +kernel) rfl ?_
  refine Ru.br2 (k := .eq) (off := 5) (bb := true) (tg := 831) (by decide +kernel) (by decide +kernel) (by decide +kernel) (by decide +kernel) ?_
  refine Ru.op (q := (.iload 5, 2)) (by decide +kernel) rfl ?_
  refine Ru.br (k := .ne) (off := 15) (bb := false) (tg := 836) (by decide +kernel) (by decide +kernel) (by decide +kernel) (by decide +kernel) ?_
  refine Ru.op (q := (.aload_n 3, 1)) (by decide +kernel) rfl ?_
  refine Ru.op (q := (.iconst 0, 1)) (by decide +kernel) rfl ?_
  refine Ru.op (q := (.laload, 1)) (by decide +kernel) rfl ?_
  refine Ru.op (q := (.iload 6, 2)) (by decide +kernel) rfl ?_
  refine Ru.op (q := (.i2l, 1)) (by decide +kernel) rfl ?_
  refine Ru.op (q := (.lcmp, 1)) (by decide +kernel) rfl ?_
  refine Ru.br (k := .eq) (off := 5) (bb := true) (tg := 848) (by decide +kernel) (by decide +kernel) (by decide +kernel) (by decide +kernel) ?_
  refine Ru.op (q := (.goto 3, 3)) (by decide +kernel) rfl ?_
  exact p1_tail rfl
set_option maxRecDepth 100000 in
theorem p1_fig7_0 : Ru none 2047 83977 171 (0, mn_pad (mn_ent [.ref 0, .int 7, .ref 71]) 4, [], 20574, fh_0) ((0, some (.int 0)), 20574, fh_0) := Ru.of 18 (by decide +kernel)
set_option maxRecDepth 100000 in
theorem p1_fig7_1 : Ru none 2047 83979 157 (0, mn_pad (mn_ent [.ref 36, .int 7]) 2, [], 20574, fh_0) ((0, some (.int 0)), 20574, fh_0) := Ru.of 15 (by decide +kernel)
set_option maxRecDepth 100000 in
theorem p1_fig7_2 : Ru none 2047 83980 94 (0, mn_pad (mn_ent [.ref 36]) 1, [], 20574, fh_0) ((0, some (.int 0)), 20574, fh_0) := Ru.of 5 (by decide +kernel)
set_option maxRecDepth 100000 in
set_option maxHeartbeats 4000000 in
theorem p1_fig7 {s0 s2 s3 s4 : Int32} : Ru (some [s0, 7, s2, s3, s4]) 2048 84000 172 (795, [some (.retAddr 0), some (.ref 0), some (.ref 36), some (.ref 71), some (.int 0), none, none], [], 20574, fh_0) ((0, some (.int 1)), 20574, fh_0) := by
  refine Ru.op (q := (.aload_n 1, 1)) (by decide +kernel) rfl ?_
  refine Ru.op (q := (.aload_n 0, 1)) (by decide +kernel) rfl ?_
  refine Ru.op (q := (.iload 4, 2)) (by decide +kernel) rfl ?_
  refine Ru.op (q := (.iconst 1, 1)) (by decide +kernel) rfl ?_
  refine Ru.op (q := (.iadd, 1)) (by decide +kernel) rfl ?_
  refine Ru.sld (L := 5) (k := 1) (v := 7) rfl rfl (by decide +kernel) (by decide +kernel) (by decide +kernel) rfl ?_
  refine Ru.op (q := (.aload_n 3, 1)) (by decide +kernel) rfl ?_
  refine Ru.call (q := (.invokestatic 117, 3)) (by decide +kernel) rfl rfl rfl rfl ⟨Nat.le_of_ble_eq_true rfl, Nat.le_of_ble_eq_true rfl, Nat.le_of_ble_eq_true rfl, Nat.le_of_ble_eq_true rfl⟩ (p1_fig7_0) ?_
  refine Ru.op (q := (.istore 5, 2)) (by decide +kernel) rfl ?_
  refine Ru.op (q := (.aload_n 2, 1)) (by decide +kernel) rfl ?_
  refine Ru.op (q := (.aload_n 0, 1)) (by decide +kernel) rfl ?_
  refine Ru.op (q := (.iload 4, 2)) (by decide +kernel) rfl ?_
  refine Ru.op (q := (.iconst 1, 1)) (by decide +kernel) rfl ?_
  refine Ru.op (q := (.iadd, 1)) (by decide +kernel) rfl ?_
  refine Ru.sld (L := 5) (k := 1) (v := 7) rfl rfl (by decide +kernel) (by decide +kernel) (by decide +kernel) rfl ?_
  refine Ru.call (q := (.invokevirtual 119, 3)) (by decide +kernel) rfl rfl rfl rfl ⟨Nat.le_of_ble_eq_true rfl, Nat.le_of_ble_eq_true rfl, Nat.le_of_ble_eq_true rfl, Nat.le_of_ble_eq_true rfl⟩ (p1_fig7_1) ?_
  refine Ru.op (q := (.istore 6, 2)) (by decide +kernel) rfl ?_
  refine Ru.op (q := (.aload_n 2, 1)) (by decide +kernel) rfl ?_
  refine Ru.call (q := (.invokevirtual 68, 3)) (by decide +kernel) rfl rfl rfl rfl ⟨Nat.le_of_ble_eq_true rfl, Nat.le_of_ble_eq_true rfl, Nat.le_of_ble_eq_true rfl, Nat.le_of_ble_eq_true rfl⟩ (p1_fig7_2) ?_
  refine Ru.op (q := (.iload 5, 2)) (by decide +kernel) rfl ?_
  refine Ru.br2 (k := .eq) (off := 5) (bb := true) (tg := 831) (by decide +kernel) (by decide +kernel) (by decide +kernel) (by decide +kernel) ?_
  refine Ru.op (q := (.iload 5, 2)) (by decide +kernel) rfl ?_
  refine Ru.br (k := .ne) (off := 15) (bb := false) (tg := 836) (by decide +kernel) (by decide +kernel) (by decide +kernel) (by decide +kernel) ?_
  refine Ru.op (q := (.aload_n 3, 1)) (by decide +kernel) rfl ?_
  refine Ru.op (q := (.iconst 0, 1)) (by decide +kernel) rfl ?_
  refine Ru.op (q := (.laload, 1)) (by decide +kernel) rfl ?_
  refine Ru.op (q := (.iload 6, 2)) (by decide +kernel) rfl ?_
  refine Ru.op (q := (.i2l, 1)) (by decide +kernel) rfl ?_
  refine Ru.op (q := (.lcmp, 1)) (by decide +kernel) rfl ?_
  refine Ru.br (k := .eq) (off := 5) (bb := true) (tg := 848) (by decide +kernel) (by decide +kernel) (by decide +kernel) (by decide +kernel) ?_
  refine Ru.op (q := (.goto 3, 3)) (by decide +kernel) rfl ?_
  exact p1_tail rfl
set_option maxRecDepth 100000 in
theorem p1_fig8_0 : Ru none 2047 83977 171 (0, mn_pad (mn_ent [.ref 0, .int 8, .ref 71]) 4, [], 20574, fh_0) ((0, some (.int 0)), 20574, fh_0) := Ru.of 17 (by decide +kernel)
set_option maxRecDepth 100000 in
theorem p1_fig8_1 : Ru none 2047 83979 157 (0, mn_pad (mn_ent [.ref 36, .int 8]) 2, [], 20574, fh_0) ((0, some (.int 0)), 20574, fh_0) := Ru.of 15 (by decide +kernel)
set_option maxRecDepth 100000 in
theorem p1_fig8_2 : Ru none 2047 83980 94 (0, mn_pad (mn_ent [.ref 36]) 1, [], 20574, fh_0) ((0, some (.int 0)), 20574, fh_0) := Ru.of 5 (by decide +kernel)
set_option maxRecDepth 100000 in
set_option maxHeartbeats 4000000 in
theorem p1_fig8 {s0 s2 s3 s4 : Int32} : Ru (some [s0, 8, s2, s3, s4]) 2048 84000 172 (795, [some (.retAddr 0), some (.ref 0), some (.ref 36), some (.ref 71), some (.int 0), none, none], [], 20574, fh_0) ((0, some (.int 1)), 20574, fh_0) := by
  refine Ru.op (q := (.aload_n 1, 1)) (by decide +kernel) rfl ?_
  refine Ru.op (q := (.aload_n 0, 1)) (by decide +kernel) rfl ?_
  refine Ru.op (q := (.iload 4, 2)) (by decide +kernel) rfl ?_
  refine Ru.op (q := (.iconst 1, 1)) (by decide +kernel) rfl ?_
  refine Ru.op (q := (.iadd, 1)) (by decide +kernel) rfl ?_
  refine Ru.sld (L := 5) (k := 1) (v := 8) rfl rfl (by decide +kernel) (by decide +kernel) (by decide +kernel) rfl ?_
  refine Ru.op (q := (.aload_n 3, 1)) (by decide +kernel) rfl ?_
  refine Ru.call (q := (.invokestatic 117, 3)) (by decide +kernel) rfl rfl rfl rfl ⟨Nat.le_of_ble_eq_true rfl, Nat.le_of_ble_eq_true rfl, Nat.le_of_ble_eq_true rfl, Nat.le_of_ble_eq_true rfl⟩ (p1_fig8_0) ?_
  refine Ru.op (q := (.istore 5, 2)) (by decide +kernel) rfl ?_
  refine Ru.op (q := (.aload_n 2, 1)) (by decide +kernel) rfl ?_
  refine Ru.op (q := (.aload_n 0, 1)) (by decide +kernel) rfl ?_
  refine Ru.op (q := (.iload 4, 2)) (by decide +kernel) rfl ?_
  refine Ru.op (q := (.iconst 1, 1)) (by decide +kernel) rfl ?_
  refine Ru.op (q := (.iadd, 1)) (by decide +kernel) rfl ?_
  refine Ru.sld (L := 5) (k := 1) (v := 8) rfl rfl (by decide +kernel) (by decide +kernel) (by decide +kernel) rfl ?_
  refine Ru.call (q := (.invokevirtual 119, 3)) (by decide +kernel) rfl rfl rfl rfl ⟨Nat.le_of_ble_eq_true rfl, Nat.le_of_ble_eq_true rfl, Nat.le_of_ble_eq_true rfl, Nat.le_of_ble_eq_true rfl⟩ (p1_fig8_1) ?_
  refine Ru.op (q := (.istore 6, 2)) (by decide +kernel) rfl ?_
  refine Ru.op (q := (.aload_n 2, 1)) (by decide +kernel) rfl ?_
  refine Ru.call (q := (.invokevirtual 68, 3)) (by decide +kernel) rfl rfl rfl rfl ⟨Nat.le_of_ble_eq_true rfl, Nat.le_of_ble_eq_true rfl, Nat.le_of_ble_eq_true rfl, Nat.le_of_ble_eq_true rfl⟩ (p1_fig8_2) ?_
  refine Ru.op (q := (.iload 5, 2)) (by decide +kernel) rfl ?_
  refine Ru.br2 (k := .eq) (off := 5) (bb := true) (tg := 831) (by decide +kernel) (by decide +kernel) (by decide +kernel) (by decide +kernel) ?_
  refine Ru.op (q := (.iload 5, 2)) (by decide +kernel) rfl ?_
  refine Ru.br (k := .ne) (off := 15) (bb := false) (tg := 836) (by decide +kernel) (by decide +kernel) (by decide +kernel) (by decide +kernel) ?_
  refine Ru.op (q := (.aload_n 3, 1)) (by decide +kernel) rfl ?_
  refine Ru.op (q := (.iconst 0, 1)) (by decide +kernel) rfl ?_
  refine Ru.op (q := (.laload, 1)) (by decide +kernel) rfl ?_
  refine Ru.op (q := (.iload 6, 2)) (by decide +kernel) rfl ?_
  refine Ru.op (q := (.i2l, 1)) (by decide +kernel) rfl ?_
  refine Ru.op (q := (.lcmp, 1)) (by decide +kernel) rfl ?_
  refine Ru.br (k := .eq) (off := 5) (bb := true) (tg := 848) (by decide +kernel) (by decide +kernel) (by decide +kernel) (by decide +kernel) ?_
  refine Ru.op (q := (.goto 3, 3)) (by decide +kernel) rfl ?_
  exact p1_tail rfl
def fh_figa_1 : mn_H := [(0, [.ref 1, .ref 13, .ref 28, .ref 30, .ref 35, .int 0, .int (-1)]), (1, [.ref 2, .int 0, .ref 3, .int 0, .int 0, .int 0, .ref 10, .ref 11, .int 0, .int 0, .int 0, .ref 12, .int 0]), (52, List.replicate 160 (.int 0)), (2, [.ref 4, .ref 5, .ref 6, .ref 7, .ref 8, .int 0, .ref 9, .int 0]), (50, List.replicate 160 (.int 0)), (50, List.replicate 160 (.int 0)), (50, List.replicate 160 (.int 0)), (50, List.replicate 160 (.int 0)), (50, List.replicate 160 (.int 0)), (50, List.replicate 1280 (.int 0)), (50, List.replicate 10 (.int 0)), (50, List.replicate 10 (.int 0)), (50, List.replicate 16 (.int 0)), (3, [.ref 14, .int 0, .int 0, .int 0, .int 0, .int 0, .int 0, .int (-1), .int 0, .ref 15, .ref 20, .ref 23, .ref 27]), (55, List.replicate 100 (.null)), (4, [.ref 16, .ref 19, .int 0, .int 0]), (5, [.ref 17, .ref 18, .int 0, .int 0]), (50, List.replicate 80 (.int 0)), (50, [.int 0, .int 0, .int 0, .int 0, .int 0]), (50, List.replicate 128 (.int 0)), (6, [.ref 21, .ref 22]), (50, List.replicate 32 (.int 0)), (50, List.replicate 32 (.int 0)), (7, [.ref 24, .ref 25, .ref 26]), (50, List.replicate 64 (.int 0)), (50, List.replicate 64 (.int 0)), (50, [.int 0, .int 0, .int 0, .int 0]), (51, List.replicate 100 (.int 0)), (8, [.ref 29, .int 0]), (52, List.replicate 128 (.int 0)), (4, [.ref 31, .ref 34, .int 0, .int 0]), (5, [.ref 32, .ref 33, .int 0, .int 0]), (50, List.replicate 80 (.int 0)), (50, [.int 0, .int 0, .int 0, .int 0, .int 0]), (50, List.replicate 128 (.int 0)), (54, List.replicate 24 (.null)), (10, [.int 0, .int (-1), .int 0, .ref 37, .ref 38, .ref 39, .ref 40, .ref 41, .ref 42, .int 0, .int 0, .ref 43, .ref 44, .ref 45, .int (-1), .int 0, .int 0, .int 0, .int 0, .int 0, .int 0, .ref 46, .int 0, .ref 47, .int 0, .ref 48, .ref 49, .int 0, .int 0, .int 0, .int 0, .ref 50, .ref 51, .ref 52, .int 0, .int 0, .int 0, .ref 53, .ref 54, .ref 55, .ref 56, .ref 57, .int 0, .int 0, .ref 58, .ref 59, .int 0, .ref 60, .ref 61, .ref 62, .ref 63, .ref 64, .ref 65, .ref 66, .ref 67, .ref 68, .int 0, .ref 69, .ref 70]), (50, List.replicate 160 (.int 0)), (50, List.replicate 8032 (.int 0)), (50, List.replicate 504 (.int 0)), (51, List.replicate 504 (.int 0)), (50, List.replicate 125 (.int 0)), (50, List.replicate 125 (.int 0)), (50, List.replicate 100 (.int 0)), (50, List.replicate 100 (.int 0)), (50, List.replicate 400 (.int 0)), (50, List.replicate 1024 (.int 0)), (50, List.replicate 128 (.int 0)), (50, List.replicate 100 (.int 0)), (51, List.replicate 100 (.int 0)), (50, List.replicate 50 (.int 0)), (50, List.replicate 50 (.int 0)), (51, List.replicate 50 (.int 0)), (50, List.replicate 16 (.int 0)), (50, List.replicate 10 (.int 0)), (51, List.replicate 10 (.int 0)), (51, List.replicate 10 (.int 0)), (50, List.replicate 10 (.int 0)), (50, List.replicate 300 (.int 0)), (50, List.replicate 2400 (.int 0)), (50, List.replicate 100 (.int 0)), (51, List.replicate 100 (.int 0)), (50, List.replicate 64 (.int 0)), (50, List.replicate 64 (.int 0)), (50, List.replicate 128 (.int 0)), (50, List.replicate 640 (.int 0)), (50, List.replicate 640 (.int 0)), (50, List.replicate 640 (.int 0)), (50, List.replicate 16 (.int 0)), (50, List.replicate 400 (.int 0)), (51, List.replicate 100 (.int 0)), (53, [.long 0]), (99, [])]
set_option maxRecDepth 100000 in
set_option maxHeartbeats 4000000 in
theorem p1_figa_0 (s1 s2 s3 s4 : Int32) (g0 : mn_opC (.tableswitch 122 0 8 #[51, 59, 68, 77, 85, 93, 101, 109, 117], 51) 1 [] [.int s1] 0 [] = some (123, [], [], 0, [])) : Ru none 2046 83956 92 (0, mn_pad (mn_ent [.ref 0, .int s1]) 2, [], 20574, fh_0) ((1, none), 20580, fh_figa_1) := by
  refine Ru.op (q := (.iload_n 1, 1)) (by decide +kernel) rfl ?_
  refine Ru.sw (d := 122) (lo2 := 0) (hi := 8) (offs := #[51, 59, 68, 77, 85, 93, 101, 109, 117]) (len := 51) (tg := 123) (by decide +kernel) g0 ?_
  exact Ru.thr (q := (.new 51, 3)) (by decide +kernel) rfl rfl (by decide +kernel)
set_option maxRecDepth 100000 in
set_option maxHeartbeats 4000000 in
theorem p1_figa_1 (s1 s2 s3 s4 : Int32) (g0 : mn_opC (.tableswitch 122 0 8 #[51, 59, 68, 77, 85, 93, 101, 109, 117], 51) 1 [] [.int s1] 0 [] = some (123, [], [], 0, [])) : Ru none 2047 83977 171 (0, mn_pad (mn_ent [.ref 0, .int s1, .ref 71]) 4, [], 20574, fh_0) ((0, some (.int (Int32.ofInt 1))), 20580, fh_figa_1) := by
  refine Ru.op (q := (.aload_n 2, 1)) (by decide +kernel) rfl ?_
  refine Ru.op (q := (.iconst 0, 1)) (by decide +kernel) rfl ?_
  refine Ru.op (q := (.aload_n 0, 1)) (by decide +kernel) rfl ?_
  refine Ru.op (q := (.iload_n 1, 1)) (by decide +kernel) rfl ?_
  refine Ru.catch (i := 53) (j2 := 92) (k := 0) (hp := 12) (by decide +kernel) rfl rfl rfl rfl ⟨Nat.le_of_ble_eq_true rfl, Nat.le_of_ble_eq_true rfl, Nat.le_of_ble_eq_true rfl, Nat.le_of_ble_eq_true rfl⟩ (by decide +kernel) (p1_figa_0 s1 s2 s3 s4 g0) ?_
  refine Ru.op (q := (.astore_n 3, 1)) (by decide +kernel) rfl ?_
  refine Ru.op (q := (.iconst 1, 1)) (by decide +kernel) rfl ?_
  exact Ru.end (q := (.ireturn, 1)) (by decide +kernel) rfl rfl
def fh_figa_2 : mn_H := [(0, [.ref 1, .ref 13, .ref 28, .ref 30, .ref 35, .int 0, .int (-1)]), (1, [.ref 2, .int 0, .ref 3, .int 0, .int 0, .int 0, .ref 10, .ref 11, .int 0, .int 0, .int 0, .ref 12, .int 0]), (52, List.replicate 160 (.int 0)), (2, [.ref 4, .ref 5, .ref 6, .ref 7, .ref 8, .int 0, .ref 9, .int 0]), (50, List.replicate 160 (.int 0)), (50, List.replicate 160 (.int 0)), (50, List.replicate 160 (.int 0)), (50, List.replicate 160 (.int 0)), (50, List.replicate 160 (.int 0)), (50, List.replicate 1280 (.int 0)), (50, List.replicate 10 (.int 0)), (50, List.replicate 10 (.int 0)), (50, List.replicate 16 (.int 0)), (3, [.ref 14, .int 0, .int 0, .int 0, .int 0, .int 0, .int 0, .int (-1), .int 0, .ref 15, .ref 20, .ref 23, .ref 27]), (55, List.replicate 100 (.null)), (4, [.ref 16, .ref 19, .int 0, .int 0]), (5, [.ref 17, .ref 18, .int 0, .int 0]), (50, List.replicate 80 (.int 0)), (50, [.int 0, .int 0, .int 0, .int 0, .int 0]), (50, List.replicate 128 (.int 0)), (6, [.ref 21, .ref 22]), (50, List.replicate 32 (.int 0)), (50, List.replicate 32 (.int 0)), (7, [.ref 24, .ref 25, .ref 26]), (50, List.replicate 64 (.int 0)), (50, List.replicate 64 (.int 0)), (50, [.int 0, .int 0, .int 0, .int 0]), (51, List.replicate 100 (.int 0)), (8, [.ref 29, .int 0]), (52, List.replicate 128 (.int 0)), (4, [.ref 31, .ref 34, .int 0, .int 0]), (5, [.ref 32, .ref 33, .int 0, .int 0]), (50, List.replicate 80 (.int 0)), (50, [.int 0, .int 0, .int 0, .int 0, .int 0]), (50, List.replicate 128 (.int 0)), (54, List.replicate 24 (.null)), (10, [.int 1, .int (-1), .int 0, .ref 37, .ref 38, .ref 39, .ref 40, .ref 41, .ref 42, .int 0, .int 0, .ref 43, .ref 44, .ref 45, .int (-1), .int 0, .int 0, .int 0, .int 0, .int 0, .int 0, .ref 46, .int 0, .ref 47, .int 0, .ref 48, .ref 49, .int 0, .int 0, .int 0, .int 0, .ref 50, .ref 51, .ref 52, .int 0, .int 0, .int 0, .ref 53, .ref 54, .ref 55, .ref 56, .ref 57, .int 0, .int 0, .ref 58, .ref 59, .int 0, .ref 60, .ref 61, .ref 62, .ref 63, .ref 64, .ref 65, .ref 66, .ref 67, .ref 68, .int 0, .ref 69, .ref 70]), (50, List.replicate 160 (.int 0)), (50, List.replicate 8032 (.int 0)), (50, List.replicate 504 (.int 0)), (51, List.replicate 504 (.int 0)), (50, List.replicate 125 (.int 0)), (50, List.replicate 125 (.int 0)), (50, List.replicate 100 (.int 0)), (50, List.replicate 100 (.int 0)), (50, List.replicate 400 (.int 0)), (50, List.replicate 1024 (.int 0)), (50, List.replicate 128 (.int 0)), (50, List.replicate 100 (.int 0)), (51, List.replicate 100 (.int 0)), (50, List.replicate 50 (.int 0)), (50, List.replicate 50 (.int 0)), (51, List.replicate 50 (.int 0)), (50, List.replicate 16 (.int 0)), (50, List.replicate 10 (.int 0)), (51, List.replicate 10 (.int 0)), (51, List.replicate 10 (.int 0)), (50, List.replicate 10 (.int 0)), (50, List.replicate 300 (.int 0)), (50, List.replicate 2400 (.int 0)), (50, List.replicate 100 (.int 0)), (51, List.replicate 100 (.int 0)), (50, List.replicate 64 (.int 0)), (50, List.replicate 64 (.int 0)), (50, List.replicate 128 (.int 0)), (50, List.replicate 640 (.int 0)), (50, List.replicate 640 (.int 0)), (50, List.replicate 640 (.int 0)), (50, List.replicate 16 (.int 0)), (50, List.replicate 400 (.int 0)), (51, List.replicate 100 (.int 0)), (53, [.long 0]), (99, [])]
set_option maxRecDepth 100000 in
set_option maxHeartbeats 4000000 in
theorem p1_figa_2 (s1 s2 s3 s4 : Int32) (g1 : mn_cmp .lt s1 0 = true) (g2 : mn_opC (.tableswitch 99 0 8 #[52, 57, 63, 69, 74, 79, 84, 89, 94], 52) 20 [] [.int s1] 0 [] = some (119, [], [], 0, [])) : Ru none 2047 83979 157 (0, mn_pad (mn_ent [.ref 36, .int s1]) 2, [], 20580, fh_figa_1) ((0, some (.int (Int32.ofInt 0))), 20580, fh_figa_2) := by
  refine Ru.op (q := (.aload_n 0, 1)) (by decide +kernel) rfl ?_
  refine Ru.op (q := (.iload_n 1, 1)) (by decide +kernel) rfl ?_
  refine Ru.br (k := .lt) (off := 9) (bb := true) (tg := 11) (by decide +kernel) (by decide +kernel) g1 (by decide +kernel) ?_
  refine Ru.op (q := (.iconst 1, 1)) (by decide +kernel) rfl ?_
  refine Ru.op (q := (.goto 4, 3)) (by decide +kernel) rfl ?_
  refine Ru.op (q := (.putfield 120, 3)) (by decide +kernel) rfl ?_
  refine Ru.op (q := (.iload_n 1, 1)) (by decide +kernel) rfl ?_
  refine Ru.sw (d := 99) (lo2 := 0) (hi := 8) (offs := #[52, 57, 63, 69, 74, 79, 84, 89, 94]) (len := 52) (tg := 119) (by decide +kernel) g2 ?_
  refine Ru.op (q := (.iconst 0, 1)) (by decide +kernel) rfl ?_
  exact Ru.end (q := (.ireturn, 1)) (by decide +kernel) rfl rfl
set_option maxRecDepth 100000 in
theorem p1_figa_3 : Ru none 2047 83980 94 (0, mn_pad (mn_ent [.ref 36]) 1, [], 20580, fh_figa_2) ((0, some (.int 1)), 20580, fh_figa_2) := Ru.of 5 (by decide +kernel)
set_option maxRecDepth 100000 in
set_option maxHeartbeats 4000000 in
theorem p1_figa {s0 s1 s2 s3 s4 : Int32} (g0 : mn_opC (.tableswitch 122 0 8 #[51, 59, 68, 77, 85, 93, 101, 109, 117], 51) 1 [] [.int s1] 0 [] = some (123, [], [], 0, [])) (g1 : mn_cmp .lt s1 0 = true) (g2 : mn_opC (.tableswitch 99 0 8 #[52, 57, 63, 69, 74, 79, 84, 89, 94], 52) 20 [] [.int s1] 0 [] = some (119, [], [], 0, [])) : Ru (some [s0, s1, s2, s3, s4]) 2048 84000 172 (795, [some (.retAddr 0), some (.ref 0), some (.ref 36), some (.ref 71), some (.int 0), none, none], [], 20574, fh_0) ((0, some (.int 1)), 20580, fh_figa_2) := by
  refine Ru.op (q := (.aload_n 1, 1)) (by decide +kernel) rfl ?_
  refine Ru.op (q := (.aload_n 0, 1)) (by decide +kernel) rfl ?_
  refine Ru.op (q := (.iload 4, 2)) (by decide +kernel) rfl ?_
  refine Ru.op (q := (.iconst 1, 1)) (by decide +kernel) rfl ?_
  refine Ru.op (q := (.iadd, 1)) (by decide +kernel) rfl ?_
  refine Ru.sld (L := 5) (k := 1) (v := s1) rfl rfl (by decide +kernel) (by decide +kernel) (by decide +kernel) rfl ?_
  refine Ru.op (q := (.aload_n 3, 1)) (by decide +kernel) rfl ?_
  refine Ru.call (q := (.invokestatic 117, 3)) (by decide +kernel) rfl rfl rfl rfl ⟨Nat.le_of_ble_eq_true rfl, Nat.le_of_ble_eq_true rfl, Nat.le_of_ble_eq_true rfl, Nat.le_of_ble_eq_true rfl⟩ (p1_figa_1 s1 s2 s3 s4 g0) ?_
  refine Ru.op (q := (.istore 5, 2)) (by decide +kernel) rfl ?_
  refine Ru.op (q := (.aload_n 2, 1)) (by decide +kernel) rfl ?_
  refine Ru.op (q := (.aload_n 0, 1)) (by decide +kernel) rfl ?_
  refine Ru.op (q := (.iload 4, 2)) (by decide +kernel) rfl ?_
  refine Ru.op (q := (.iconst 1, 1)) (by decide +kernel) rfl ?_
  refine Ru.op (q := (.iadd, 1)) (by decide +kernel) rfl ?_
  refine Ru.sld (L := 5) (k := 1) (v := s1) rfl rfl (by decide +kernel) (by decide +kernel) (by decide +kernel) rfl ?_
  refine Ru.call (q := (.invokevirtual 119, 3)) (by decide +kernel) rfl rfl rfl rfl ⟨Nat.le_of_ble_eq_true rfl, Nat.le_of_ble_eq_true rfl, Nat.le_of_ble_eq_true rfl, Nat.le_of_ble_eq_true rfl⟩ (p1_figa_2 s1 s2 s3 s4 g1 g2) ?_
  refine Ru.op (q := (.istore 6, 2)) (by decide +kernel) rfl ?_
  refine Ru.op (q := (.aload_n 2, 1)) (by decide +kernel) rfl ?_
  refine Ru.call (q := (.invokevirtual 68, 3)) (by decide +kernel) rfl rfl rfl rfl ⟨Nat.le_of_ble_eq_true rfl, Nat.le_of_ble_eq_true rfl, Nat.le_of_ble_eq_true rfl, Nat.le_of_ble_eq_true rfl⟩ (p1_figa_3) ?_
  refine Ru.op (q := (.iload 5, 2)) (by decide +kernel) rfl ?_
  refine Ru.br2 (k := .eq) (off := 5) (bb := true) (tg := 831) (by decide +kernel) (by decide +kernel) (by decide +kernel) (by decide +kernel) ?_
  refine Ru.op (q := (.iload 5, 2)) (by decide +kernel) rfl ?_
  refine Ru.br (k := .ne) (off := 15) (bb := true) (tg := 848) (by decide +kernel) (by decide +kernel) (by decide +kernel) (by decide +kernel) ?_
  refine Ru.op (q := (.goto 3, 3)) (by decide +kernel) rfl ?_
  exact p1_tail rfl
def fh_figb_1 : mn_H := [(0, [.ref 1, .ref 13, .ref 28, .ref 30, .ref 35, .int 0, .int (-1)]), (1, [.ref 2, .int 0, .ref 3, .int 0, .int 0, .int 0, .ref 10, .ref 11, .int 0, .int 0, .int 0, .ref 12, .int 0]), (52, List.replicate 160 (.int 0)), (2, [.ref 4, .ref 5, .ref 6, .ref 7, .ref 8, .int 0, .ref 9, .int 0]), (50, List.replicate 160 (.int 0)), (50, List.replicate 160 (.int 0)), (50, List.replicate 160 (.int 0)), (50, List.replicate 160 (.int 0)), (50, List.replicate 160 (.int 0)), (50, List.replicate 1280 (.int 0)), (50, List.replicate 10 (.int 0)), (50, List.replicate 10 (.int 0)), (50, List.replicate 16 (.int 0)), (3, [.ref 14, .int 0, .int 0, .int 0, .int 0, .int 0, .int 0, .int (-1), .int 0, .ref 15, .ref 20, .ref 23, .ref 27]), (55, List.replicate 100 (.null)), (4, [.ref 16, .ref 19, .int 0, .int 0]), (5, [.ref 17, .ref 18, .int 0, .int 0]), (50, List.replicate 80 (.int 0)), (50, [.int 0, .int 0, .int 0, .int 0, .int 0]), (50, List.replicate 128 (.int 0)), (6, [.ref 21, .ref 22]), (50, List.replicate 32 (.int 0)), (50, List.replicate 32 (.int 0)), (7, [.ref 24, .ref 25, .ref 26]), (50, List.replicate 64 (.int 0)), (50, List.replicate 64 (.int 0)), (50, [.int 0, .int 0, .int 0, .int 0]), (51, List.replicate 100 (.int 0)), (8, [.ref 29, .int 0]), (52, List.replicate 128 (.int 0)), (4, [.ref 31, .ref 34, .int 0, .int 0]), (5, [.ref 32, .ref 33, .int 0, .int 0]), (50, List.replicate 80 (.int 0)), (50, [.int 0, .int 0, .int 0, .int 0, .int 0]), (50, List.replicate 128 (.int 0)), (54, List.replicate 24 (.null)), (10, [.int 0, .int (-1), .int 0, .ref 37, .ref 38, .ref 39, .ref 40, .ref 41, .ref 42, .int 0, .int 0, .ref 43, .ref 44, .ref 45, .int (-1), .int 0, .int 0, .int 0, .int 0, .int 0, .int 0, .ref 46, .int 0, .ref 47, .int 0, .ref 48, .ref 49, .int 0, .int 0, .int 0, .int 0, .ref 50, .ref 51, .ref 52, .int 0, .int 0, .int 0, .ref 53, .ref 54, .ref 55, .ref 56, .ref 57, .int 0, .int 0, .ref 58, .ref 59, .int 0, .ref 60, .ref 61, .ref 62, .ref 63, .ref 64, .ref 65, .ref 66, .ref 67, .ref 68, .int 0, .ref 69, .ref 70]), (50, List.replicate 160 (.int 0)), (50, List.replicate 8032 (.int 0)), (50, List.replicate 504 (.int 0)), (51, List.replicate 504 (.int 0)), (50, List.replicate 125 (.int 0)), (50, List.replicate 125 (.int 0)), (50, List.replicate 100 (.int 0)), (50, List.replicate 100 (.int 0)), (50, List.replicate 400 (.int 0)), (50, List.replicate 1024 (.int 0)), (50, List.replicate 128 (.int 0)), (50, List.replicate 100 (.int 0)), (51, List.replicate 100 (.int 0)), (50, List.replicate 50 (.int 0)), (50, List.replicate 50 (.int 0)), (51, List.replicate 50 (.int 0)), (50, List.replicate 16 (.int 0)), (50, List.replicate 10 (.int 0)), (51, List.replicate 10 (.int 0)), (51, List.replicate 10 (.int 0)), (50, List.replicate 10 (.int 0)), (50, List.replicate 300 (.int 0)), (50, List.replicate 2400 (.int 0)), (50, List.replicate 100 (.int 0)), (51, List.replicate 100 (.int 0)), (50, List.replicate 64 (.int 0)), (50, List.replicate 64 (.int 0)), (50, List.replicate 128 (.int 0)), (50, List.replicate 640 (.int 0)), (50, List.replicate 640 (.int 0)), (50, List.replicate 640 (.int 0)), (50, List.replicate 16 (.int 0)), (50, List.replicate 400 (.int 0)), (51, List.replicate 100 (.int 0)), (53, [.long 0]), (99, [])]
set_option maxRecDepth 100000 in
set_option maxHeartbeats 4000000 in
theorem p1_figb_0 (s1 s2 s3 s4 : Int32) (g0 : mn_opC (.tableswitch 122 0 8 #[51, 59, 68, 77, 85, 93, 101, 109, 117], 51) 1 [] [.int s1] 0 [] = some (123, [], [], 0, [])) : Ru none 2046 83956 92 (0, mn_pad (mn_ent [.ref 0, .int s1]) 2, [], 20574, fh_0) ((1, none), 20580, fh_figb_1) := by
  refine Ru.op (q := (.iload_n 1, 1)) (by decide +kernel) rfl ?_
  refine Ru.sw (d := 122) (lo2 := 0) (hi := 8) (offs := #[51, 59, 68, 77, 85, 93, 101, 109, 117]) (len := 51) (tg := 123) (by decide +kernel) g0 ?_
  exact Ru.thr (q := (.new 51, 3)) (by decide +kernel) rfl rfl (by decide +kernel)
set_option maxRecDepth 100000 in
set_option maxHeartbeats 4000000 in
theorem p1_figb_1 (s1 s2 s3 s4 : Int32) (g0 : mn_opC (.tableswitch 122 0 8 #[51, 59, 68, 77, 85, 93, 101, 109, 117], 51) 1 [] [.int s1] 0 [] = some (123, [], [], 0, [])) : Ru none 2047 83977 171 (0, mn_pad (mn_ent [.ref 0, .int s1, .ref 71]) 4, [], 20574, fh_0) ((0, some (.int (Int32.ofInt 1))), 20580, fh_figb_1) := by
  refine Ru.op (q := (.aload_n 2, 1)) (by decide +kernel) rfl ?_
  refine Ru.op (q := (.iconst 0, 1)) (by decide +kernel) rfl ?_
  refine Ru.op (q := (.aload_n 0, 1)) (by decide +kernel) rfl ?_
  refine Ru.op (q := (.iload_n 1, 1)) (by decide +kernel) rfl ?_
  refine Ru.catch (i := 53) (j2 := 92) (k := 0) (hp := 12) (by decide +kernel) rfl rfl rfl rfl ⟨Nat.le_of_ble_eq_true rfl, Nat.le_of_ble_eq_true rfl, Nat.le_of_ble_eq_true rfl, Nat.le_of_ble_eq_true rfl⟩ (by decide +kernel) (p1_figb_0 s1 s2 s3 s4 g0) ?_
  refine Ru.op (q := (.astore_n 3, 1)) (by decide +kernel) rfl ?_
  refine Ru.op (q := (.iconst 1, 1)) (by decide +kernel) rfl ?_
  exact Ru.end (q := (.ireturn, 1)) (by decide +kernel) rfl rfl
def fh_figb_2 : mn_H := [(0, [.ref 1, .ref 13, .ref 28, .ref 30, .ref 35, .int 0, .int (-1)]), (1, [.ref 2, .int 0, .ref 3, .int 0, .int 0, .int 0, .ref 10, .ref 11, .int 0, .int 0, .int 0, .ref 12, .int 0]), (52, List.replicate 160 (.int 0)), (2, [.ref 4, .ref 5, .ref 6, .ref 7, .ref 8, .int 0, .ref 9, .int 0]), (50, List.replicate 160 (.int 0)), (50, List.replicate 160 (.int 0)), (50, List.replicate 160 (.int 0)), (50, List.replicate 160 (.int 0)), (50, List.replicate 160 (.int 0)), (50, List.replicate 1280 (.int 0)), (50, List.replicate 10 (.int 0)), (50, List.replicate 10 (.int 0)), (50, List.replicate 16 (.int 0)), (3, [.ref 14, .int 0, .int 0, .int 0, .int 0, .int 0, .int 0, .int (-1), .int 0, .ref 15, .ref 20, .ref 23, .ref 27]), (55, List.replicate 100 (.null)), (4, [.ref 16, .ref 19, .int 0, .int 0]), (5, [.ref 17, .ref 18, .int 0, .int 0]), (50, List.replicate 80 (.int 0)), (50, [.int 0, .int 0, .int 0, .int 0, .int 0]), (50, List.replicate 128 (.int 0)), (6, [.ref 21, .ref 22]), (50, List.replicate 32 (.int 0)), (50, List.replicate 32 (.int 0)), (7, [.ref 24, .ref 25, .ref 26]), (50, List.replicate 64 (.int 0)), (50, List.replicate 64 (.int 0)), (50, [.int 0, .int 0, .int 0, .int 0]), (51, List.replicate 100 (.int 0)), (8, [.ref 29, .int 0]), (52, List.replicate 128 (.int 0)), (4, [.ref 31, .ref 34, .int 0, .int 0]), (5, [.ref 32, .ref 33, .int 0, .int 0]), (50, List.replicate 80 (.int 0)), (50, [.int 0, .int 0, .int 0, .int 0, .int 0]), (50, List.replicate 128 (.int 0)), (54, List.replicate 24 (.null)), (10, [.int 1, .int (-1), .int 0, .ref 37, .ref 38, .ref 39, .ref 40, .ref 41, .ref 42, .int 0, .int 0, .ref 43, .ref 44, .ref 45, .int (-1), .int 0, .int 0, .int 0, .int 0, .int 0, .int 0, .ref 46, .int 0, .ref 47, .int 0, .ref 48, .ref 49, .int 0, .int 0, .int 0, .int 0, .ref 50, .ref 51, .ref 52, .int 0, .int 0, .int 0, .ref 53, .ref 54, .ref 55, .ref 56, .ref 57, .int 0, .int 0, .ref 58, .ref 59, .int 0, .ref 60, .ref 61, .ref 62, .ref 63, .ref 64, .ref 65, .ref 66, .ref 67, .ref 68, .int 0, .ref 69, .ref 70]), (50, List.replicate 160 (.int 0)), (50, List.replicate 8032 (.int 0)), (50, List.replicate 504 (.int 0)), (51, List.replicate 504 (.int 0)), (50, List.replicate 125 (.int 0)), (50, List.replicate 125 (.int 0)), (50, List.replicate 100 (.int 0)), (50, List.replicate 100 (.int 0)), (50, List.replicate 400 (.int 0)), (50, List.replicate 1024 (.int 0)), (50, List.replicate 128 (.int 0)), (50, List.replicate 100 (.int 0)), (51, List.replicate 100 (.int 0)), (50, List.replicate 50 (.int 0)), (50, List.replicate 50 (.int 0)), (51, List.replicate 50 (.int 0)), (50, List.replicate 16 (.int 0)), (50, List.replicate 10 (.int 0)), (51, List.replicate 10 (.int 0)), (51, List.replicate 10 (.int 0)), (50, List.replicate 10 (.int 0)), (50, List.replicate 300 (.int 0)), (50, List.replicate 2400 (.int 0)), (50, List.replicate 100 (.int 0)), (51, List.replicate 100 (.int 0)), (50, List.replicate 64 (.int 0)), (50, List.replicate 64 (.int 0)), (50, List.replicate 128 (.int 0)), (50, List.replicate 640 (.int 0)), (50, List.replicate 640 (.int 0)), (50, List.replicate 640 (.int 0)), (50, List.replicate 16 (.int 0)), (50, List.replicate 400 (.int 0)), (51, List.replicate 100 (.int 0)), (53, [.long 0]), (99, [])]
set_option maxRecDepth 100000 in
set_option maxHeartbeats 4000000 in
theorem p1_figb_2 (s1 s2 s3 s4 : Int32) (g1 : mn_cmp .lt s1 0 = false) (g2 : mn_cmp .le s1 (Int8.ofInt 8).toInt32 = false) (g3 : mn_opC (.tableswitch 99 0 8 #[52, 57, 63, 69, 74, 79, 84, 89, 94], 52) 20 [] [.int s1] 0 [] = some (119, [], [], 0, [])) : Ru none 2047 83979 157 (0, mn_pad (mn_ent [.ref 36, .int s1]) 2, [], 20580, fh_figb_1) ((0, some (.int (Int32.ofInt 0))), 20580, fh_figb_2) := by
  refine Ru.op (q := (.aload_n 0, 1)) (by decide +kernel) rfl ?_
  refine Ru.op (q := (.iload_n 1, 1)) (by decide +kernel) rfl ?_
  refine Ru.br (k := .lt) (off := 9) (bb := false) (tg := 5) (by decide +kernel) (by decide +kernel) g1 (by decide +kernel) ?_
  refine Ru.op (q := (.iload_n 1, 1)) (by decide +kernel) rfl ?_
  refine Ru.op (q := (.bipush 8, 2)) (by decide +kernel) rfl ?_
  refine Ru.br2 (k := .le) (off := 7) (bb := false) (tg := 11) (by decide +kernel) (by decide +kernel) g2 (by decide +kernel) ?_
  refine Ru.op (q := (.iconst 1, 1)) (by decide +kernel) rfl ?_
  refine Ru.op (q := (.goto 4, 3)) (by decide +kernel) rfl ?_
  refine Ru.op (q := (.putfield 120, 3)) (by decide +kernel) rfl ?_
  refine Ru.op (q := (.iload_n 1, 1)) (by decide +kernel) rfl ?_
  refine Ru.sw (d := 99) (lo2 := 0) (hi := 8) (offs := #[52, 57, 63, 69, 74, 79, 84, 89, 94]) (len := 52) (tg := 119) (by decide +kernel) g3 ?_
  refine Ru.op (q := (.iconst 0, 1)) (by decide +kernel) rfl ?_
  exact Ru.end (q := (.ireturn, 1)) (by decide +kernel) rfl rfl
set_option maxRecDepth 100000 in
theorem p1_figb_3 : Ru none 2047 83980 94 (0, mn_pad (mn_ent [.ref 36]) 1, [], 20580, fh_figb_2) ((0, some (.int 1)), 20580, fh_figb_2) := Ru.of 5 (by decide +kernel)
set_option maxRecDepth 100000 in
set_option maxHeartbeats 4000000 in
theorem p1_figb {s0 s1 s2 s3 s4 : Int32} (g0 : mn_opC (.tableswitch 122 0 8 #[51, 59, 68, 77, 85, 93, 101, 109, 117], 51) 1 [] [.int s1] 0 [] = some (123, [], [], 0, [])) (g1 : mn_cmp .lt s1 0 = false) (g2 : mn_cmp .le s1 (Int8.ofInt 8).toInt32 = false) (g3 : mn_opC (.tableswitch 99 0 8 #[52, 57, 63, 69, 74, 79, 84, 89, 94], 52) 20 [] [.int s1] 0 [] = some (119, [], [], 0, [])) : Ru (some [s0, s1, s2, s3, s4]) 2048 84000 172 (795, [some (.retAddr 0), some (.ref 0), some (.ref 36), some (.ref 71), some (.int 0), none, none], [], 20574, fh_0) ((0, some (.int 1)), 20580, fh_figb_2) := by
  refine Ru.op (q := (.aload_n 1, 1)) (by decide +kernel) rfl ?_
  refine Ru.op (q := (.aload_n 0, 1)) (by decide +kernel) rfl ?_
  refine Ru.op (q := (.iload 4, 2)) (by decide +kernel) rfl ?_
  refine Ru.op (q := (.iconst 1, 1)) (by decide +kernel) rfl ?_
  refine Ru.op (q := (.iadd, 1)) (by decide +kernel) rfl ?_
  refine Ru.sld (L := 5) (k := 1) (v := s1) rfl rfl (by decide +kernel) (by decide +kernel) (by decide +kernel) rfl ?_
  refine Ru.op (q := (.aload_n 3, 1)) (by decide +kernel) rfl ?_
  refine Ru.call (q := (.invokestatic 117, 3)) (by decide +kernel) rfl rfl rfl rfl ⟨Nat.le_of_ble_eq_true rfl, Nat.le_of_ble_eq_true rfl, Nat.le_of_ble_eq_true rfl, Nat.le_of_ble_eq_true rfl⟩ (p1_figb_1 s1 s2 s3 s4 g0) ?_
  refine Ru.op (q := (.istore 5, 2)) (by decide +kernel) rfl ?_
  refine Ru.op (q := (.aload_n 2, 1)) (by decide +kernel) rfl ?_
  refine Ru.op (q := (.aload_n 0, 1)) (by decide +kernel) rfl ?_
  refine Ru.op (q := (.iload 4, 2)) (by decide +kernel) rfl ?_
  refine Ru.op (q := (.iconst 1, 1)) (by decide +kernel) rfl ?_
  refine Ru.op (q := (.iadd, 1)) (by decide +kernel) rfl ?_
  refine Ru.sld (L := 5) (k := 1) (v := s1) rfl rfl (by decide +kernel) (by decide +kernel) (by decide +kernel) rfl ?_
  refine Ru.call (q := (.invokevirtual 119, 3)) (by decide +kernel) rfl rfl rfl rfl ⟨Nat.le_of_ble_eq_true rfl, Nat.le_of_ble_eq_true rfl, Nat.le_of_ble_eq_true rfl, Nat.le_of_ble_eq_true rfl⟩ (p1_figb_2 s1 s2 s3 s4 g1 g2 g3) ?_
  refine Ru.op (q := (.istore 6, 2)) (by decide +kernel) rfl ?_
  refine Ru.op (q := (.aload_n 2, 1)) (by decide +kernel) rfl ?_
  refine Ru.call (q := (.invokevirtual 68, 3)) (by decide +kernel) rfl rfl rfl rfl ⟨Nat.le_of_ble_eq_true rfl, Nat.le_of_ble_eq_true rfl, Nat.le_of_ble_eq_true rfl, Nat.le_of_ble_eq_true rfl⟩ (p1_figb_3) ?_
  refine Ru.op (q := (.iload 5, 2)) (by decide +kernel) rfl ?_
  refine Ru.br2 (k := .eq) (off := 5) (bb := true) (tg := 831) (by decide +kernel) (by decide +kernel) (by decide +kernel) (by decide +kernel) ?_
  refine Ru.op (q := (.iload 5, 2)) (by decide +kernel) rfl ?_
  refine Ru.br (k := .ne) (off := 15) (bb := true) (tg := 848) (by decide +kernel) (by decide +kernel) (by decide +kernel) (by decide +kernel) ?_
  refine Ru.op (q := (.goto 3, 3)) (by decide +kernel) rfl ?_
  exact p1_tail rfl
end
section
section RW9
variable {sc : Option (List Int32)} {fr lo j pc : Nat} {xs : List (Option Value)} {st : List Value} {ns : Nat} {hs : mn_H} {r : mn_A}
theorem mn_op_D {q : Instr × Nat} {S : mn_S} (hA : mn_opA q pc xs st ns hs = none) (hB : mn_opB q pc xs st ns hs = none) (hB1 : mn_opB1 q pc xs st ns hs = none) (hC : mn_opC q pc xs st ns hs = none) (hD : mn_opD (mt_pl j) mt_ft mt_fi mt_df mt_ak (mt_ow j) (mt_in j) q pc xs st ns hs = some S) : mn_op j fr lo sc q pc xs st ns hs = some S := by
  unfold mn_op
  simp only [hA, hB, hB1, hC, hD]
theorem Ru.get {i ci k nn a : Nat} {z : Int} {vs : List Value} {v : Value} (hd : decode (mt_code j) pc = .ok (.getfield i, 3)) (hp : mt_pl j i = (1, ci, k, nn, z)) (ha : hs[a]? = some (ci, vs)) (hci : ci < 50) (hv : vs[k]? = some v) (h : Ru sc fr lo j (pc + 3, xs, v :: st, ns, hs) r) : Ru sc fr lo j (pc, xs, .ref a :: st, ns, hs) r := by
  refine Ru.op hd (mn_op_D rfl rfl rfl rfl ?_) h
  simp only [mn_opD, hp, ha, hci, hv, and_self, if_true]
theorem Ru.put {i ci k nn a : Nat} {z : Int} {vs : List Value} {v : Value} (hd : decode (mt_code j) pc = .ok (.putfield i, 3)) (hp : mt_pl j i = (1, ci, k, nn, z)) (ha : hs[a]? = some (ci, vs)) (hci : ci < 50) (hk : k < vs.length) (hf : mn_fk (mt_ft ci k) v = true) (hfi : mt_fi ci k = true → mt_in j = true ∧ ci = mt_ow j) (h : Ru sc fr lo j (pc + 3, xs, st, ns, hs.set a (ci, vs.set k v)) r) : Ru sc fr lo j (pc, xs, v :: .ref a :: st, ns, hs) r := by
  refine Ru.op hd (mn_op_D ?_ ?_ ?_ ?_ ?_) h
  · rfl
  · cases v <;> rfl
  · cases v <;> rfl
  · rfl
  · simp only [mn_opD, hp, ha]
    rw [if_pos ⟨trivial, hci, hk, hf, hfi⟩]
theorem mn_ix_of {vs : List Value} {i : Int32} {n : Nat} {v : Value} (hi : i = nI n) (hn : n < 2 ^ 31) (hv : vs[n]? = some v) : mn_ix vs i = some v := by
  have hl : n < vs.length := (List.getElem?_eq_some_iff.mp hv).1
  subst hi
  unfold mn_ix
  rw [if_neg, nI_clamp hn]
  · exact hv
  · rintro (h | h)
    · exact nI_pos hn h
    · rw [nI_clamp hn] at h; omega
theorem mn_in_of {i : Int32} {n L : Nat} (hi : i = nI n) (hn : n < 2 ^ 31) (hl : n < L) : ¬ (i < 0 ∨ L ≤ i.toNatClampNeg) := by
  subst hi
  rintro (h | h)
  · exact nI_pos hn h
  · rw [nI_clamp hn] at h; omega
theorem Ru.iald {a n : Nat} {i x : Int32} {vs : List Value} (hd : decode (mt_code j) pc = .ok (.iaload, 1)) (ha : hs[a]? = some (50, vs)) (hi : i = nI n) (hn : n < 2 ^ 31) (hv : vs[n]? = some (.int x)) (h : Ru sc fr lo j (pc + 1, xs, .int x :: st, ns, hs) r) : Ru sc fr lo j (pc, xs, .int i :: .ref a :: st, ns, hs) r := by
  refine Ru.op hd (mn_op_D rfl rfl rfl rfl ?_) h
  simp only [mn_opD, ha, mn_ix_of hi hn hv]
theorem Ru.cald {a n : Nat} {i x : Int32} {vs : List Value} (hd : decode (mt_code j) pc = .ok (.caload, 1)) (ha : hs[a]? = some (52, vs)) (hi : i = nI n) (hn : n < 2 ^ 31) (hv : vs[n]? = some (.int x)) (h : Ru sc fr lo j (pc + 1, xs, .int x :: st, ns, hs) r) : Ru sc fr lo j (pc, xs, .int i :: .ref a :: st, ns, hs) r := by
  refine Ru.op hd (mn_op_D rfl rfl rfl rfl ?_) h
  simp only [mn_opD, ha, mn_ix_of hi hn hv]
theorem Ru.bald {a n : Nat} {i x : Int32} {vs : List Value} (hd : decode (mt_code j) pc = .ok (.baload, 1)) (ha : hs[a]? = some (51, vs)) (hi : i = nI n) (hn : n < 2 ^ 31) (hv : vs[n]? = some (.int x)) (h : Ru sc fr lo j (pc + 1, xs, .int x :: st, ns, hs) r) : Ru sc fr lo j (pc, xs, .int i :: .ref a :: st, ns, hs) r := by
  refine Ru.op hd (mn_op_D rfl rfl rfl rfl ?_) h
  simp only [mn_opD, ha, mn_ix_of hi hn hv]
theorem Ru.iast {a n : Nat} {i x : Int32} {vs : List Value} (hd : decode (mt_code j) pc = .ok (.iastore, 1)) (ha : hs[a]? = some (50, vs)) (hi : i = nI n) (hn : n < 2 ^ 31) (hl : n < vs.length) (h : Ru sc fr lo j (pc + 1, xs, st, ns, hs.set a (50, vs.set n (.int x))) r) : Ru sc fr lo j (pc, xs, .int x :: .int i :: .ref a :: st, ns, hs) r := by
  refine Ru.op hd (mn_op_D rfl rfl rfl rfl ?_) h
  simp only [mn_opD, ha]
  rw [if_neg (mn_in_of hi hn hl), hi, nI_clamp hn]
theorem Ru.cast {a n : Nat} {i x : Int32} {vs : List Value} (hd : decode (mt_code j) pc = .ok (.castore, 1)) (ha : hs[a]? = some (52, vs)) (hi : i = nI n) (hn : n < 2 ^ 31) (hl : n < vs.length) (h : Ru sc fr lo j (pc + 1, xs, st, ns, hs.set a (52, vs.set n (.int (vp_nar .char x)))) r) : Ru sc fr lo j (pc, xs, .int x :: .int i :: .ref a :: st, ns, hs) r := by
  refine Ru.op hd (mn_op_D rfl rfl rfl rfl ?_) h
  simp only [mn_opD, ha]
  rw [if_neg (mn_in_of hi hn hl), hi, nI_clamp hn]
theorem Ru.bast {a n : Nat} {i x : Int32} {vs : List Value} (hd : decode (mt_code j) pc = .ok (.bastore, 1)) (ha : hs[a]? = some (51, vs)) (hi : i = nI n) (hn : n < 2 ^ 31) (hl : n < vs.length) (h : Ru sc fr lo j (pc + 1, xs, st, ns, hs.set a (51, vs.set n (.int (vp_nar .boolean x)))) r) : Ru sc fr lo j (pc, xs, .int x :: .int i :: .ref a :: st, ns, hs) r := by
  refine Ru.op hd (mn_op_D rfl rfl rfl rfl ?_) h
  simp only [mn_opD, ha]
  rw [if_neg (mn_in_of hi hn hl), hi, nI_clamp hn]
theorem Ru.last {a n : Nat} {i : Int32} {x : Int64} {vs : List Value} (hd : decode (mt_code j) pc = .ok (.lastore, 1)) (ha : hs[a]? = some (53, vs)) (hi : i = nI n) (hn : n < 2 ^ 31) (hl : n < vs.length) (h : Ru sc fr lo j (pc + 1, xs, st, ns, hs.set a (53, vs.set n (.long x))) r) : Ru sc fr lo j (pc, xs, .long x :: .int i :: .ref a :: st, ns, hs) r := by
  refine Ru.op hd (mn_op_D rfl rfl rfl rfl ?_) h
  simp only [mn_opD, ha]
  rw [if_neg (mn_in_of hi hn hl), hi, nI_clamp hn]
theorem Ru.lald {a n : Nat} {i : Int32} {x : Int64} {vs : List Value} (hd : decode (mt_code j) pc = .ok (.laload, 1)) (ha : hs[a]? = some (53, vs)) (hi : i = nI n) (hn : n < 2 ^ 31) (hv : vs[n]? = some (.long x)) (h : Ru sc fr lo j (pc + 1, xs, .long x :: st, ns, hs) r) : Ru sc fr lo j (pc, xs, .int i :: .ref a :: st, ns, hs) r := by
  refine Ru.op hd (mn_op_D rfl rfl rfl rfl ?_) h
  simp only [mn_opD, ha, mn_ix_of hi hn hv]
end RW9
end
section
theorem wb_tb (n : Nat) : (lN n).toBitVec = BitVec.ofNat 64 n := rfl
theorem wb_inj {a b : Int64} (h : a.toBitVec = b.toBitVec) : a = b := Int64.toBitVec_inj.mp h
theorem wb_tn {n : Nat} (h : n < 2 ^ 64) : (lN n).toBitVec.toNat = n := by rw [wb_tb, BitVec.toNat_ofNat, Nat.mod_eq_of_lt h]
theorem wb_of (x : Int64) : ∃ n, n < 2 ^ 64 ∧ x = lN n := ⟨x.toBitVec.toNat, x.toBitVec.isLt, wb_inj (by rw [wb_tb]; simp)⟩
theorem wb_of32 (x : Int32) : ∃ n, n < 2 ^ 32 ∧ x = nI n := ⟨x.toBitVec.toNat, x.toBitVec.isLt, Int32.toBitVec_inj.mp (by show _ = BitVec.ofNat 32 _; simp)⟩
theorem wb_c : ∀ k, k < 64 → ((nI k).toInt64 &&& 63) = lN k := by decide +kernel
theorem wb_cu : ∀ k, k < 64 → ((nI k).toInt64.toUInt64 &&& Int64.toUInt64 63) = UInt64.ofNat k := by decide +kernel
theorem wb_sm : ∀ k, k < 64 → (BitVec.ofNat 64 k).smod 64 = BitVec.ofNat 64 k := by decide +kernel
theorem wb_pw {a b : Nat} (h : a ≤ b) : 2 ^ b = 2 ^ a * 2 ^ (b - a) := by rw [← Nat.pow_add]; congr 1; omega
theorem wb_lt2 {a b : Nat} (h : a < b) : 2 ^ a < 2 ^ b := Nat.pow_lt_pow_right (by decide) h
theorem wb_mod (n : Nat) : lN n = lN (n % 2 ^ 64) := wb_inj (by rw [wb_tb, wb_tb]; apply BitVec.eq_of_toNat_eq; rw [BitVec.toNat_ofNat, BitVec.toNat_ofNat, Nat.mod_mod])
theorem wb_shr {n k : Nat} (hn : n < 2 ^ 64) (hk : k < 64) : ((lN n).toUInt64 >>> ((nI k).toInt64.toUInt64 &&& Int64.toUInt64 63)).toInt64 = lN (n / 2 ^ k) := by
  rw [wb_cu k hk]
  apply wb_inj
  apply BitVec.eq_of_toNat_eq
  show ((lN n).toUInt64 >>> UInt64.ofNat k).toNat = (BitVec.ofNat 64 _).toNat
  have h1 : (UInt64.ofNat k).toNat = k := by
    show (BitVec.ofNat 64 k).toNat = k
    rw [BitVec.toNat_ofNat, Nat.mod_eq_of_lt (by omega)]
  have h2 : (lN n).toUInt64.toNat = n := wb_tn hn
  rw [UInt64.toNat_shiftRight, h1, h2, Nat.mod_eq_of_lt hk, Nat.shiftRight_eq_div_pow, BitVec.toNat_ofNat, Nat.mod_eq_of_lt (Nat.lt_of_le_of_lt (Nat.div_le_self _ _) hn)]
theorem wb_shl (n : Nat) {k : Nat} (hk : k < 64) : lN n <<< ((nI k).toInt64 &&& 63) = lN (n * 2 ^ k) := by
  rw [wb_c k hk]
  apply wb_inj
  rw [Int64.toBitVec_shiftLeft, wb_tb, wb_tb, wb_tb, wb_sm k hk]
  apply BitVec.eq_of_toNat_eq
  rw [BitVec.shiftLeft_eq', BitVec.toNat_shiftLeft, BitVec.toNat_ofNat, BitVec.toNat_ofNat, BitVec.toNat_ofNat, Nat.mod_eq_of_lt (show k < 2 ^ 64 by omega), Nat.shiftLeft_eq, Nat.mul_mod, Nat.mod_mod, ← Nat.mul_mod]
theorem wb_and {a b : Nat} (ha : a < 2 ^ 64) (hb : b < 2 ^ 64) : lN a &&& lN b = lN (a &&& b) := by
  apply wb_inj
  rw [Int64.toBitVec_and, wb_tb, wb_tb, wb_tb]
  apply BitVec.eq_of_toNat_eq
  rw [BitVec.toNat_and, BitVec.toNat_ofNat, BitVec.toNat_ofNat, BitVec.toNat_ofNat, Nat.mod_eq_of_lt ha, Nat.mod_eq_of_lt hb, Nat.mod_eq_of_lt (Nat.and_lt_two_pow _ hb)]
theorem wb_or {a b : Nat} (ha : a < 2 ^ 64) (hb : b < 2 ^ 64) : lN a ||| lN b = lN (a ||| b) := by
  apply wb_inj
  rw [Int64.toBitVec_or, wb_tb, wb_tb, wb_tb]
  apply BitVec.eq_of_toNat_eq
  rw [BitVec.toNat_or, BitVec.toNat_ofNat, BitVec.toNat_ofNat, BitVec.toNat_ofNat, Nat.mod_eq_of_lt ha, Nat.mod_eq_of_lt hb, Nat.mod_eq_of_lt (Nat.or_lt_two_pow ha hb)]
theorem wb_mask {n k : Nat} (hn : n < 2 ^ 64) (hk : k < 64) : lN n &&& lN (2 ^ k - 1) = lN (n % 2 ^ k) := by
  rw [wb_and hn (by have := wb_lt2 hk; omega), Nat.and_two_pow_sub_one_eq_mod]
theorem wb_a1 {n : Nat} (hn : n < 2 ^ 64) : lN n &&& 1 = lN (n % 2) := wb_mask (k := 1) hn (by decide)
/-- byte k of a word -/
def ty_b (v : Int64) (k : Nat) : Nat := v.toBitVec.toNat / 2 ^ (8 * k) % 256
theorem ty_b_lt (v : Int64) (k : Nat) : ty_b v k < 256 := Nat.mod_lt _ (by decide)
theorem ty_m8 : ∀ k, k < 8 → (Int8.ofInt 8).toInt32 * nI k = nI (8 * k) := by decide +kernel
theorem ty_sh (v : Int64) {k : Nat} (hk : k < 8) : (v.toUInt64 >>> (((Int8.ofInt 8).toInt32 * nI k).toInt64.toUInt64 &&& Int64.toUInt64 63)).toInt64 = lN (v.toBitVec.toNat / 2 ^ (8 * k)) := by
  obtain ⟨n, hn, rfl⟩ := wb_of v
  rw [ty_m8 k hk, wb_shr hn (by omega), wb_tn hn]
theorem ty_shl (v : Int64) (k : Nat) : v.toBitVec.toNat / 2 ^ (8 * k) < 2 ^ 64 := Nat.lt_of_le_of_lt (Nat.div_le_self _ _) v.toBitVec.isLt
/-- the byte as the model reads it -/
theorem ty_B (v : Int64) {k : Nat} (hk : k < 8) : (v.toUInt64 >>> (((Int8.ofInt 8).toInt32 * nI k).toInt64.toUInt64 &&& Int64.toUInt64 63)).toInt64 &&& Int64.ofInt 255 = lN (ty_b v k) := by
  rw [ty_sh v hk]
  exact wb_mask (k := 8) (ty_shl v k) (by decide)
theorem ty_and (a b : Nat) : nI a &&& nI b = nI (a &&& b) := by
  apply Int32.toBitVec_inj.1
  show BitVec.ofNat 32 a &&& BitVec.ofNat 32 b = BitVec.ofNat 32 (a &&& b)
  apply BitVec.eq_of_getLsbD_eq
  intro i hi
  simp [hi]
/-- the byte as the class reads it -/
theorem ty_A (v : Int64) {k : Nat} (hk : k < 8) : ((v.toUInt64 >>> (((Int8.ofInt 8).toInt32 * nI k).toInt64.toUInt64 &&& Int64.toUInt64 63)).toInt64).toInt32 &&& (Int16.ofInt 255).toInt32 = nI (ty_b v k) := by
  rw [ty_sh v hk, lN_i]
  show nI _ &&& nI 255 = _
  rw [ty_and]
  exact congrArg nI (Nat.and_two_pow_sub_one_eq_mod _ 8)
def ty_bad (n : Nat) : Bool := decide (n < 33) || decide (126 < n)
theorem ty_c0 : ∀ n, n < 256 → mn_cmp .ne (nI n) 0 = !(decide (n = 0)) := by decide +kernel
theorem ty_c1 : ∀ n, n < 256 → mn_cmp .lt (nI n) (Int8.ofInt 33).toInt32 = decide (n < 33) := by decide +kernel
theorem ty_c2 : ∀ n, n < 256 → mn_cmp .le (nI n) (Int8.ofInt 126).toInt32 = !(decide (126 < n)) := by decide +kernel
theorem ty_d0 : ∀ n, n < 256 → mn_cmp .eq (lg_cmp (lN n) (Int64.ofNat 0)) 0 = decide (n = 0) := by decide +kernel
theorem ty_d1 : ∀ n, n < 256 → mn_cmp .lt (lg_cmp (lN n) (Int64.ofInt 33)) 0 = decide (n < 33) := by decide +kernel
theorem ty_d2 : ∀ n, n < 256 → mn_cmp .le (lg_cmp (lN n) (Int64.ofInt 126)) 0 = !(decide (126 < n)) := by decide +kernel
theorem ty_i2c : ∀ n, n < 256 → ((nI n).toUInt32 % 65536).toInt32 = nI n := by decide +kernel
theorem ty_nar : ∀ n, n < 256 → vp_nar .char (nI n) = nI n := by decide +kernel
theorem ty_c8 : ∀ n, n < 9 → mn_cmp .ge (nI n) (Int8.ofInt 8).toInt32 = decide (8 ≤ n) := by decide +kernel
end
section
theorem h_ne {hs : mn_H} {a b : Nat} {x y : mn_C} (ha : hs[a]? = some x) (hb : hs[b]? = some y) (h : x.1 ≠ y.1) : a ≠ b := by
  rintro rfl
  rw [ha] at hb
  cases hb
  exact h rfl
theorem h_set {hs : mn_H} {a : Nat} {x y : mn_C} (ha : hs[a]? = some x) : (hs.set a y)[a]? = some y := by
  have := (List.getElem?_eq_some_iff.mp ha).1
  rw [List.getElem?_set, if_pos rfl, if_pos this]
theorem h_oth {hs : mn_H} {a b : Nat} {y : mn_C} (h : a ≠ b) : (hs.set a y)[b]? = hs[b]? := by
  rw [List.getElem?_set, if_neg h]
theorem h_self {hs : mn_H} {a : Nat} {x : mn_C} (ha : hs[a]? = some x) : hs.set a x = hs := by
  apply List.ext_getElem?
  intro i
  rw [List.getElem?_set]
  split
  · next h =>
    subst h
    rw [if_pos (List.getElem?_eq_some_iff.mp ha).1, ha]
  · rfl
theorem h_upd {hs : mn_H} {b c : Nat} {X X' Y Y' : mn_C} (h : c ≠ b) : (((hs.set c X).set b Y).set c X').set b Y' = (hs.set c X').set b Y' := by
  rw [List.set_comm Y X' (fun e => h e.symm), List.set_set, List.set_set]
theorem v_set {vs : List Value} {k : Nat} {x y : Value} (h : vs[k]? = some x) : (vs.set k y)[k]? = some y := by
  have := (List.getElem?_eq_some_iff.mp h).1
  rw [List.getElem?_set, if_pos rfl, if_pos this]
theorem v_oth {vs : List Value} {k l : Nat} {y : Value} (h : k ≠ l) : (vs.set k y)[l]? = vs[l]? := by rw [List.getElem?_set, if_neg h]
theorem v_self {vs : List Value} {a : Nat} {x : Value} (ha : vs[a]? = some x) : vs.set a x = vs := by
  apply List.ext_getElem?
  intro i
  rw [List.getElem?_set]
  split
  · next h =>
    subst h
    rw [if_pos (List.getElem?_eq_some_iff.mp ha).1, ha]
  · rfl
theorem Ru.iret {sc : Option (List Int32)} {fr lo j pc : Nat} {xs : List (Option Value)} {ns : Nat} {hs : mn_H} {v : Int32} {ty : FieldType} (hd : decode (mt_code j) pc = .ok (.ireturn, 1)) (ht : mt_rt j = some ty) (hn : narrow ty (.int v) = .int v) : Ru sc fr lo j (pc, xs, [.int v], ns, hs) ((0, some (.int v)), ns, hs) := by
  refine Ru.end hd (by cases sc <;> rfl) ?_
  rw [ht]
  show (if narrow ty (Value.int v) = Value.int v then some (some (Value.int v)) else none) = _
  rw [if_pos hn]
theorem cmp_ge {a b : Nat} (ha : a < 2 ^ 31) (hb : b < 2 ^ 31) : mn_cmp .ge (nI a) (nI b) = decide (b ≤ a) := by
  unfold mn_cmp
  exact decide_eq_decide.mpr (nI_leI hb ha)
theorem cmp_le {a b : Nat} (ha : a < 2 ^ 31) (hb : b < 2 ^ 31) : mn_cmp .le (nI a) (nI b) = decide (a ≤ b) := by
  unfold mn_cmp
  exact decide_eq_decide.mpr (nI_leI ha hb)
/-- the bytes that stand ahead of the first zero; none where one of them is no sign -/
def ty_f (b : Nat → Nat) : Nat → Nat → Option Nat
  | 0, i => some i
  | m + 1, i => if b i = 0 then some i else if ty_bad (b i) then none else ty_f b m (i + 1)
theorem ty_f_le {b : Nat → Nat} : ∀ m i n, ty_f b m i = some n → n ≤ i + m := by
  intro m
  induction m with
  | zero => intro i n h; cases h; exact Nat.le_refl _
  | succ m ih =>
    intro i n h
    unfold ty_f at h
    split at h
    · cases h; omega
    · split at h
      · cases h
      · have := ih _ _ h; omega
/-- a text with n bytes of the word behind its place t -/
def ty_w (cv : List Value) (t : Nat) (v : Int64) : Nat → List Value
  | 0 => cv
  | i + 1 => (ty_w cv t v i).set (t + i) (.int (nI (ty_b v i)))
theorem ty_w_len (cv : List Value) (t : Nat) (v : Int64) (i : Nat) : (ty_w cv t v i).length = cv.length := by
  induction i with
  | zero => rfl
  | succ i ih => unfold ty_w; rw [List.length_set, ih]
set_option maxRecDepth 100000 in
theorem ty_byteOf {fr lo ns k : Nat} {hs : mn_H} {v : Int64} (hk : k < 8) : Ru none fr lo 18 (0, mn_pad (mn_ent [.long v, .int (nI k)]) 3, [], ns, hs) ((0, some (.int (nI (ty_b v k)))), ns, hs) := by
  refine Ru.op (q := (.lload_n 0, 1)) (by decide +kernel) rfl ?_
  refine Ru.op (q := (.bipush 8, 2)) (by decide +kernel) rfl ?_
  refine Ru.op (q := (.iload_n 2, 1)) (by decide +kernel) rfl ?_
  refine Ru.op (q := (.imul, 1)) (by decide +kernel) rfl ?_
  refine Ru.op (q := (.lushr, 1)) (by decide +kernel) rfl ?_
  refine Ru.op (q := (.l2i, 1)) (by decide +kernel) rfl ?_
  refine Ru.op (q := (.sipush 255, 3)) (by decide +kernel) rfl ?_
  refine Ru.op (q := (.iand, 1)) (by decide +kernel) rfl ?_
  show Ru none fr lo 18 (11, [some (.long v), none, some (.int (nI k))], [.int (((v.toUInt64 >>> (((Int8.ofInt 8).toInt32 * nI k).toInt64.toUInt64 &&& Int64.toUInt64 63)).toInt64).toInt32 &&& (Int16.ofInt 255).toInt32)], ns, hs) _
  rw [ty_A v hk]
  exact Ru.iret (by decide +kernel) rfl rfl
set_option maxRecDepth 100000 in
set_option maxHeartbeats 4000000 in
theorem ty_l1h {ns a i : Nat} {hs : mn_H} {v : Int64} {x5 : Option Value} {r : mn_A} (hi : i < 8) (h : Ru none 2046 83951 17 (22, [some (.ref a), some (.long v), none, some (.int (nI i)), some (.int (nI i)), some (.int (nI (ty_b v i)))], [.int (nI (ty_b v i))], ns, hs) r) : Ru none 2046 83951 17 (5, [some (.ref a), some (.long v), none, some (.int (nI i)), some (.int (nI i)), x5], [], ns, hs) r := by
  refine Ru.op (q := (.iload 4, 2)) (by decide +kernel) rfl ?_
  refine Ru.op (q := (.bipush 8, 2)) (by decide +kernel) rfl ?_
  refine Ru.br2 (k := .ge) (off := 50) (bb := false) (tg := 12) (by decide +kernel) (by decide +kernel) (by rw [ty_c8 i (by omega)]; exact decide_eq_false (by omega)) rfl ?_
  refine Ru.op (q := (.lload_n 1, 1)) (by decide +kernel) rfl ?_
  refine Ru.op (q := (.iload 4, 2)) (by decide +kernel) rfl ?_
  refine Ru.call (q := (.invokestatic 47, 3)) (by decide +kernel) rfl rfl rfl rfl ⟨Nat.le_of_ble_eq_true rfl, Nat.le_of_ble_eq_true rfl, Nat.le_of_ble_eq_true rfl, Nat.le_of_ble_eq_true rfl⟩ (ty_byteOf (k := i) (by omega)) ?_
  refine Ru.op (q := (.istore 5, 2)) (by decide +kernel) rfl ?_
  refine Ru.op (q := (.iload 5, 2)) (by decide +kernel) rfl ?_
  exact h
set_option maxRecDepth 100000 in
set_option maxHeartbeats 4000000 in
theorem ty_l1 {ns a : Nat} {hs : mn_H} {v : Int64} : ∀ (m i : Nat) (x5 : Option Value), i + m = 8 → (∀ n r, ty_f (ty_b v) m i = some n → (∀ y, Ru none 2046 83951 17 (59, [some (.ref a), some (.long v), none, some (.int (nI n)), some (.int (nI n)), y], [], ns, hs) r) → Ru none 2046 83951 17 (5, [some (.ref a), some (.long v), none, some (.int (nI i)), some (.int (nI i)), x5], [], ns, hs) r) ∧ (ty_f (ty_b v) m i = none → Ru none 2046 83951 17 (5, [some (.ref a), some (.long v), none, some (.int (nI i)), some (.int (nI i)), x5], [], ns, hs) ((1, none), ns + 6, hs ++ [(99, [])])) := by
  intro m
  induction m with
  | zero =>
    intro i x5 hi
    have hi8 : i = 8 := by omega
    subst hi8
    refine ⟨fun n r hn h => ?_, fun hn => (by cases hn)⟩
    cases hn
    refine Ru.op (q := (.iload 4, 2)) (by decide +kernel) rfl ?_
    refine Ru.op (q := (.bipush 8, 2)) (by decide +kernel) rfl ?_
    refine Ru.br2 (k := .ge) (off := 50) (bb := true) (tg := 59) (by decide +kernel) (by decide +kernel) (by decide +kernel) rfl ?_
    exact h x5
  | succ m ih =>
    intro i x5 hi
    have hb := ty_b_lt v i
    have hs2 : ∀ (r : mn_A), ¬ ty_b v i = 0 → ty_bad (ty_b v i) = false → Ru none 2046 83951 17 (5, [some (.ref a), some (.long v), none, some (.int (nI (i + 1))), some (.int (nI (i + 1))), some (.int (nI (ty_b v i)))], [], ns, hs) r → Ru none 2046 83951 17 (22, [some (.ref a), some (.long v), none, some (.int (nI i)), some (.int (nI i)), some (.int (nI (ty_b v i)))], [.int (nI (ty_b v i))], ns, hs) r := by
      intro r h0 hbad h
      unfold ty_bad at hbad
      rw [Bool.or_eq_false_iff] at hbad
      refine Ru.br (k := .ne) (off := 6) (bb := true) (tg := 28) (by decide +kernel) (by decide +kernel) (by rw [ty_c0 _ hb, decide_eq_false h0]; rfl) rfl ?_
      refine Ru.op (q := (.iload 5, 2)) (by decide +kernel) rfl ?_
      refine Ru.op (q := (.bipush 33, 2)) (by decide +kernel) rfl ?_
      refine Ru.br2 (k := .lt) (off := 10) (bb := false) (tg := 35) (by decide +kernel) (by decide +kernel) (by rw [ty_c1 _ hb]; exact hbad.1) rfl ?_
      refine Ru.op (q := (.iload 5, 2)) (by decide +kernel) rfl ?_
      refine Ru.op (q := (.bipush 126, 2)) (by decide +kernel) rfl ?_
      refine Ru.br2 (k := .le) (off := 11) (bb := true) (tg := 50) (by decide +kernel) (by decide +kernel) (by rw [ty_c2 _ hb, hbad.2]; rfl) rfl ?_
      refine Ru.op (q := (.iinc 3 1, 3)) (by decide +kernel) rfl ?_
      refine Ru.op (q := (.iinc 4 1, 3)) (by decide +kernel) rfl ?_
      refine Ru.op (q := (.goto (-51), 3)) (by decide +kernel) rfl ?_
      show Ru none 2046 83951 17 (5, [some (.ref a), some (.long v), none, some (.int (nI i + 1)), some (.int (nI i + 1)), some (.int (nI (ty_b v i)))], [], ns, hs) r
      rw [nI_1]
      exact h
    unfold ty_f
    by_cases h0 : ty_b v i = 0
    · rw [if_pos h0]
      refine ⟨fun n r hn h => ?_, fun hn => (by cases hn)⟩
      cases hn
      refine ty_l1h (by omega) ?_
      refine Ru.br (k := .ne) (off := 6) (bb := false) (tg := 25) (by decide +kernel) (by decide +kernel) (by rw [ty_c0 _ hb, decide_eq_true h0]; rfl) rfl ?_
      refine Ru.op (q := (.goto 34, 3)) (by decide +kernel) rfl ?_
      exact h _
    · rw [if_neg h0]
      cases hbad : ty_bad (ty_b v i)
      · refine ⟨fun n r hn h => ty_l1h (by omega) (hs2 r h0 hbad ((ih (i + 1) _ (by omega)).1 n r hn h)), fun hn => ty_l1h (by omega) (hs2 _ h0 hbad ((ih (i + 1) _ (by omega)).2 hn))⟩
      · refine ⟨fun n r hn h => (by cases hn), fun _ => ty_l1h (by omega) ?_⟩
        refine Ru.br (k := .ne) (off := 6) (bb := true) (tg := 28) (by decide +kernel) (by decide +kernel) (by rw [ty_c0 _ hb, decide_eq_false h0]; rfl) rfl ?_
        refine Ru.op (q := (.iload 5, 2)) (by decide +kernel) rfl ?_
        refine Ru.op (q := (.bipush 33, 2)) (by decide +kernel) rfl ?_
        by_cases h33 : ty_b v i < 33
        · refine Ru.br2 (k := .lt) (off := 10) (bb := true) (tg := 42) (by decide +kernel) (by decide +kernel) (by rw [ty_c1 _ hb]; exact decide_eq_true h33) rfl ?_
          exact Ru.thr (q := (.new 51, 3)) (by decide +kernel) rfl rfl (by decide +kernel)
        · have h126 : 126 < ty_b v i := by
            unfold ty_bad at hbad
            rw [decide_eq_false h33, Bool.false_or] at hbad
            exact of_decide_eq_true hbad
          refine Ru.br2 (k := .lt) (off := 10) (bb := false) (tg := 35) (by decide +kernel) (by decide +kernel) (by rw [ty_c1 _ hb]; exact decide_eq_false h33) rfl ?_
          refine Ru.op (q := (.iload 5, 2)) (by decide +kernel) rfl ?_
          refine Ru.op (q := (.bipush 126, 2)) (by decide +kernel) rfl ?_
          refine Ru.br2 (k := .le) (off := 11) (bb := false) (tg := 42) (by decide +kernel) (by decide +kernel) (by rw [ty_c2 _ hb, decide_eq_true h126]; rfl) rfl ?_
          exact Ru.thr (q := (.new 51, 3)) (by decide +kernel) rfl rfl (by decide +kernel)
end
section
/-- the heap behind i signs written -/
def ty_H (hs : mn_H) (b c t : Nat) (bv cv : List Value) (v : Int64) (i : Nat) : mn_H := (hs.set c (52, ty_w cv t v i)).set b (1, bv.set 1 (.int (nI (t + i))))
set_option maxRecDepth 100000 in
set_option maxHeartbeats 4000000 in
theorem ty_l3 {ns a b c t n : Nat} {hs : mn_H} {v : Int64} {av bv cv : List Value} (ha : hs[a]? = some (0, av)) (hav : av[0]? = some (.ref b)) (hb : hs[b]? = some (1, bv)) (hbt : bv[1]? = some (.int (nI t))) (hbc : bv[0]? = some (.ref c)) (hc : hs[c]? = some (52, cv)) (hcl : cv.length = 160) (hn : n ≤ 8) (ht : t + n ≤ 160) : ∀ (m i : Nat) (x5 : Option Value), i + m = n → Ru none 2046 83951 17 (85, [some (.ref a), some (.long v), none, some (.int (nI n)), some (.int (nI i)), x5], [], ns, ty_H hs b c t bv cv v i) ((0, some (.int (nI (t + n)))), ns, ty_H hs b c t bv cv v n) := by
  have hab : a ≠ b := h_ne ha hb (Nat.ne_of_beq_eq_false rfl)
  have hac : a ≠ c := h_ne ha hc (Nat.ne_of_beq_eq_false rfl)
  have hbc2 : b ≠ c := h_ne hb hc (Nat.ne_of_beq_eq_false rfl)
  have ga : ∀ i, (ty_H hs b c t bv cv v i)[a]? = some (0, av) := fun i => by unfold ty_H; rw [h_oth (fun e => hab e.symm), h_oth (fun e => hac e.symm)]; exact ha
  have gb : ∀ i, (ty_H hs b c t bv cv v i)[b]? = some (1, bv.set 1 (.int (nI (t + i)))) := fun i => by unfold ty_H; exact h_set (x := (1, bv)) (by rw [h_oth (fun e => hbc2 e.symm)]; exact hb)
  have gc : ∀ i, (ty_H hs b c t bv cv v i)[c]? = some (52, ty_w cv t v i) := fun i => by unfold ty_H; rw [h_oth hbc2]; exact h_set hc
  intro m
  induction m with
  | zero =>
    intro i x5 hi
    have hi8 : i = n := by omega
    subst hi8
    refine Ru.op (q := (.iload 4, 2)) (by decide +kernel) rfl ?_
    refine Ru.op (q := (.iload_n 3, 1)) (by decide +kernel) rfl ?_
    refine Ru.br2 (k := .ge) (off := 44) (bb := true) (tg := 132) (by decide +kernel) (by decide +kernel) (by rw [cmp_ge (by omega) (by omega)]; exact decide_eq_true (Nat.le_refl _)) rfl ?_
    refine Ru.op (q := (.aload_n 0, 1)) (by decide +kernel) rfl ?_
    refine Ru.get (i := 12) (by decide +kernel) (by rfl) (ga i) (by decide) (hav) ?_
    refine Ru.get (i := 54) (by decide +kernel) (by rfl) (gb i) (by decide) (v_set hbt) ?_
    exact Ru.iret (by decide +kernel) rfl rfl
  | succ m ih =>
    intro i x5 hi
    refine Ru.op (q := (.iload 4, 2)) (by decide +kernel) rfl ?_
    refine Ru.op (q := (.iload_n 3, 1)) (by decide +kernel) rfl ?_
    refine Ru.br2 (k := .ge) (off := 44) (bb := false) (tg := 91) (by decide +kernel) (by decide +kernel) (by rw [cmp_ge (by omega) (by omega)]; exact decide_eq_false (by omega)) rfl ?_
    refine Ru.op (q := (.aload_n 0, 1)) (by decide +kernel) rfl ?_
    refine Ru.get (i := 12) (by decide +kernel) (by rfl) (ga i) (by decide) (hav) ?_
    refine Ru.get (i := 60) (by decide +kernel) (by rfl) (gb i) (by decide) ((v_oth (by decide)).trans hbc) ?_
    refine Ru.op (q := (.aload_n 0, 1)) (by decide +kernel) rfl ?_
    refine Ru.get (i := 12) (by decide +kernel) (by rfl) (ga i) (by decide) (hav) ?_
    refine Ru.get (i := 54) (by decide +kernel) (by rfl) (gb i) (by decide) (v_set hbt) ?_
    refine Ru.op (q := (.lload_n 1, 1)) (by decide +kernel) rfl ?_
    refine Ru.op (q := (.iload 4, 2)) (by decide +kernel) rfl ?_
    refine Ru.call (q := (.invokestatic 47, 3)) (by decide +kernel) rfl rfl rfl rfl ⟨Nat.le_of_ble_eq_true rfl, Nat.le_of_ble_eq_true rfl, Nat.le_of_ble_eq_true rfl, Nat.le_of_ble_eq_true rfl⟩ (ty_byteOf (k := i) (by omega)) ?_
    refine Ru.op (q := (.i2c, 1)) (by decide +kernel) rfl ?_
    refine Ru.cast (n := t + i) (by decide +kernel) (gc i) rfl (by omega) (by rw [ty_w_len]; omega) ?_
    rw [ty_i2c _ (ty_b_lt v i), ty_nar _ (ty_b_lt v i)]
    refine Ru.op (q := (.aload_n 0, 1)) (by decide +kernel) rfl ?_
    refine Ru.get (i := 12) (by decide +kernel) (by rfl) ((h_oth (fun e => hac e.symm)).trans (ga i)) (by decide) (hav) ?_
    refine Ru.op (q := (.dup, 1)) (by decide +kernel) rfl ?_
    refine Ru.get (i := 54) (by decide +kernel) (by rfl) ((h_oth (fun e => hbc2 e.symm)).trans (gb i)) (by decide) (v_set hbt) ?_
    refine Ru.op (q := (.iconst 1, 1)) (by decide +kernel) rfl ?_
    refine Ru.op (q := (.iadd, 1)) (by decide +kernel) rfl ?_
    refine Ru.put (i := 54) (by decide +kernel) (by rfl) ((h_oth (fun e => hbc2 e.symm)).trans (gb i)) (by decide) (by rw [List.length_set]; exact (List.getElem?_eq_some_iff.mp hbt).1) (by rfl) (by decide +kernel) ?_
    refine Ru.op (q := (.iinc 4 1, 3)) (by decide +kernel) rfl ?_
    refine Ru.op (q := (.goto (-44), 3)) (by decide +kernel) rfl ?_
    have e : (((ty_H hs b c t bv cv v i).set c (52, (ty_w cv t v i).set (t + i) (.int (nI (ty_b v i))))).set b (1, (bv.set 1 (.int (nI (t + i)))).set 1 (.int (nI (t + i) + 1)))) = ty_H hs b c t bv cv v (i + 1) := by
      unfold ty_H
      rw [h_upd (fun e => hbc2 e.symm), List.set_set, nI_1]
      rfl
    show Ru none 2046 83951 17 (85, [some (.ref a), some (.long v), none, some (.int (nI n)), some (.int (nI i + 1)), x5], [], ns, (((ty_H hs b c t bv cv v i).set c (52, (ty_w cv t v i).set (t + i) (.int (nI (ty_b v i))))).set b (1, (bv.set 1 (.int (nI (t + i)))).set 1 (.int (nI (t + i) + 1))))) _
    rw [e, nI_1]
    exact ih (i + 1) x5 (by omega)
set_option maxRecDepth 100000 in
set_option maxHeartbeats 4000000 in
theorem ty_l2 {ns a b c t n : Nat} {hs : mn_H} {v : Int64} {av bv cv : List Value} (ha : hs[a]? = some (0, av)) (hav : av[0]? = some (.ref b)) (hb : hs[b]? = some (1, bv)) (hbt : bv[1]? = some (.int (nI t))) (hbc : bv[0]? = some (.ref c)) (hc : hs[c]? = some (52, cv)) (hcl : cv.length = 160) (hn : n ≤ 8) (ht : t ≤ 160) (y : Option Value) : (t + n ≤ 160 → Ru none 2046 83951 17 (59, [some (.ref a), some (.long v), none, some (.int (nI n)), some (.int (nI n)), y], [], ns, hs) ((0, some (.int (nI (t + n)))), ns, ty_H hs b c t bv cv v n)) ∧ (160 < t + n → Ru none 2046 83951 17 (59, [some (.ref a), some (.long v), none, some (.int (nI n)), some (.int (nI n)), y], [], ns, hs) ((4, none), ns + 6, hs ++ [(99, [])])) := by
  have e0 : hs = ty_H hs b c t bv cv v 0 := by
    unfold ty_H
    show hs = (hs.set c (52, cv)).set b (1, bv.set 1 (.int (nI t)))
    rw [v_self hbt, h_self hc, h_self hb]
  constructor
  · intro h
    refine Ru.op (q := (.aload_n 0, 1)) (by decide +kernel) rfl ?_
    refine Ru.get (i := 12) (by decide +kernel) (by rfl) (ha) (by decide) (hav) ?_
    refine Ru.get (i := 54) (by decide +kernel) (by rfl) (hb) (by decide) (hbt) ?_
    refine Ru.op (q := (.iload_n 3, 1)) (by decide +kernel) rfl ?_
    refine Ru.op (q := (.iadd, 1)) (by decide +kernel) rfl ?_
    refine Ru.op (q := (.sipush 160, 3)) (by decide +kernel) rfl ?_
    refine Ru.br2 (k := .le) (off := 11) (bb := true) (tg := 82) (by decide +kernel) (by decide +kernel) (by show mn_cmp .le (nI t + nI n) (nI 160) = true; rw [nI_add, cmp_le (by omega) (by omega)]; exact decide_eq_true h) rfl ?_
    refine Ru.op (q := (.iconst 0, 1)) (by decide +kernel) rfl ?_
    refine Ru.op (q := (.istore 4, 2)) (by decide +kernel) rfl ?_
    show Ru none 2046 83951 17 (85, [some (.ref a), some (.long v), none, some (.int (nI n)), some (.int (nI 0)), y], [], ns, hs) _
    have h3 := ty_l3 (v := v) (ns := ns) ha hav hb hbt hbc hc hcl hn h n 0 y (by omega)
    rw [← e0] at h3
    exact h3
  · intro h
    refine Ru.op (q := (.aload_n 0, 1)) (by decide +kernel) rfl ?_
    refine Ru.get (i := 12) (by decide +kernel) (by rfl) (ha) (by decide) (hav) ?_
    refine Ru.get (i := 54) (by decide +kernel) (by rfl) (hb) (by decide) (hbt) ?_
    refine Ru.op (q := (.iload_n 3, 1)) (by decide +kernel) rfl ?_
    refine Ru.op (q := (.iadd, 1)) (by decide +kernel) rfl ?_
    refine Ru.op (q := (.sipush 160, 3)) (by decide +kernel) rfl ?_
    refine Ru.br2 (k := .le) (off := 11) (bb := false) (tg := 74) (by decide +kernel) (by decide +kernel) (by show mn_cmp .le (nI t + nI n) (nI 160) = false; rw [nI_add, cmp_le (by omega) (by omega)]; exact decide_eq_false (by omega)) rfl ?_
    exact Ru.thr (q := (.new 57, 3)) (by decide +kernel) rfl rfl (by decide +kernel)
set_option maxRecDepth 100000 in
set_option maxHeartbeats 4000000 in
/-- RefutationDesk.type -/
theorem ty_C {ns a b c t : Nat} {hs : mn_H} {v : Int64} {av bv cv : List Value} (ha : hs[a]? = some (0, av)) (hav : av[0]? = some (.ref b)) (hb : hs[b]? = some (1, bv)) (hbt : bv[1]? = some (.int (nI t))) (hbc : bv[0]? = some (.ref c)) (hc : hs[c]? = some (52, cv)) (hcl : cv.length = 160) (ht : t ≤ 160) : (ty_f (ty_b v) 8 0 = none → Ru none 2046 83951 17 (0, mn_pad (mn_ent [.ref a, .long v]) 6, [], ns, hs) ((1, none), ns + 6, hs ++ [(99, [])])) ∧ (∀ n, ty_f (ty_b v) 8 0 = some n → (t + n ≤ 160 → Ru none 2046 83951 17 (0, mn_pad (mn_ent [.ref a, .long v]) 6, [], ns, hs) ((0, some (.int (nI (t + n)))), ns, ty_H hs b c t bv cv v n)) ∧ (160 < t + n → Ru none 2046 83951 17 (0, mn_pad (mn_ent [.ref a, .long v]) 6, [], ns, hs) ((4, none), ns + 6, hs ++ [(99, [])]))) := by
  have st : ∀ r, Ru none 2046 83951 17 (5, [some (.ref a), some (.long v), none, some (.int (nI 0)), some (.int (nI 0)), none], [], ns, hs) r → Ru none 2046 83951 17 (0, mn_pad (mn_ent [.ref a, .long v]) 6, [], ns, hs) r := by
    intro r h
    refine Ru.op (q := (.iconst 0, 1)) (by decide +kernel) rfl ?_
    refine Ru.op (q := (.istore_n 3, 1)) (by decide +kernel) rfl ?_
    refine Ru.op (q := (.iconst 0, 1)) (by decide +kernel) rfl ?_
    refine Ru.op (q := (.istore 4, 2)) (by decide +kernel) rfl ?_
    exact h
  refine ⟨fun h => st _ ((ty_l1 8 0 none rfl).2 h), fun n h => ⟨fun h2 => ?_, fun h2 => ?_⟩⟩
  · exact st _ ((ty_l1 8 0 none rfl).1 n _ h fun y => (ty_l2 ha hav hb hbt hbc hc hcl (by have := ty_f_le _ _ _ h; omega) ht y).1 h2)
  · exact st _ ((ty_l1 8 0 none rfl).1 n _ h fun y => (ty_l2 ha hav hb hbt hbc hc hcl (by have := ty_f_le _ _ _ h; omega) ht y).2 h2)
end
section
/-- the model's count, and its mark -/
def ty_g (b : Nat → Nat) : Nat → Nat → Int32 → Nat × Int32
  | 0, i, f => (i, f)
  | m + 1, i, f => if b i = 0 then (i, f) else ty_g b m (i + 1) (if ty_bad (b i) then 1 else f)
theorem ty_g1 {b : Nat → Nat} : ∀ m i, (ty_g b m i 1).2 = 1 := by
  intro m
  induction m with
  | zero => intro i; rfl
  | succ m ih =>
    intro i
    unfold ty_g
    split
    · rfl
    · have e : (if ty_bad (b i) = true then (1 : Int32) else 1) = 1 := by split <;> rfl
      rw [e]
      exact ih _
theorem ty_fg {b : Nat → Nat} : ∀ m i, (ty_f b m i = none → (ty_g b m i 0).2 = 1) ∧ (∀ n, ty_f b m i = some n → ty_g b m i 0 = (n, 0)) := by
  intro m
  induction m with
  | zero => intro i; exact ⟨fun h => (by cases h), fun n h => by cases h; rfl⟩
  | succ m ih =>
    intro i
    unfold ty_f ty_g
    by_cases h0 : b i = 0
    · rw [if_pos h0, if_pos h0]
      exact ⟨fun h => (by cases h), fun n h => by cases h; rfl⟩
    · rw [if_neg h0, if_neg h0]
      cases hb : ty_bad (b i)
      · exact ih (i + 1)
      · exact ⟨fun _ => ty_g1 m (i + 1), fun n h => (by cases h)⟩
set_option maxRecDepth 100000 in
set_option maxHeartbeats 4000000 in
theorem ty_m1h {ns a : Nat} {hs : mn_H} {v : Int64} {mv : List Value} {i : Nat} {f : Int32} {x4 x5 : Option Value} {r : mn_A} (hi : i < 8) (h : Ru none 2047 83975 95 (25, [some (.ref a), some (.long v), none, some (.int (nI i)), x4, x5], [.int (lg_cmp (lN (ty_b v i)) (Int64.ofNat 0))], ns, (hs.set a (10, mv.set 0 (.int f)))) r) : Ru none 2047 83975 95 (7, [some (.ref a), some (.long v), none, some (.int (nI i)), x4, x5], [], ns, (hs.set a (10, mv.set 0 (.int f)))) r := by
  refine Ru.op (q := (.iload_n 3, 1)) (by decide +kernel) rfl ?_
  refine Ru.op (q := (.bipush 8, 2)) (by decide +kernel) rfl ?_
  refine Ru.br2 (k := .ge) (off := 66) (bb := false) (tg := 13) (by decide +kernel) (by decide +kernel) (by rw [ty_c8 i (by omega)]; exact decide_eq_false (by omega)) rfl ?_
  refine Ru.op (q := (.lload_n 1, 1)) (by decide +kernel) rfl ?_
  refine Ru.op (q := (.bipush 8, 2)) (by decide +kernel) rfl ?_
  refine Ru.op (q := (.iload_n 3, 1)) (by decide +kernel) rfl ?_
  refine Ru.op (q := (.imul, 1)) (by decide +kernel) rfl ?_
  refine Ru.op (q := (.lushr, 1)) (by decide +kernel) rfl ?_
  refine Ru.op (q := (.ldc2_w 123, 3)) (by decide +kernel) rfl ?_
  refine Ru.op (q := (.land, 1)) (by decide +kernel) rfl ?_
  show Ru none 2047 83975 95 (23, [some (.ref a), some (.long v), none, some (.int (nI i)), x4, x5], [.long ((v.toUInt64 >>> (((Int8.ofInt 8).toInt32 * nI i).toInt64.toUInt64 &&& Int64.toUInt64 63)).toInt64 &&& Int64.ofInt 255)], ns, (hs.set a (10, mv.set 0 (.int f)))) r
  rw [ty_B v hi]
  refine Ru.op (q := (.lconst 0, 1)) (by decide +kernel) rfl ?_
  refine Ru.op (q := (.lcmp, 1)) (by decide +kernel) rfl ?_
  exact h
set_option maxRecDepth 100000 in
set_option maxHeartbeats 4000000 in
theorem ty_m1s {ns a : Nat} {hs : mn_H} {v : Int64} {mv : List Value} {i : Nat} {f : Int32} {x4 x5 : Option Value} {r : mn_A} (ha : hs[a]? = some (10, mv)) (hml : mv.length = 59) (hi : i < 8) (h0 : ¬ ty_b v i = 0) (h : ∀ y4 y5, Ru none 2047 83975 95 (7, [some (.ref a), some (.long v), none, some (.int (nI (i + 1))), y4, y5], [], ns, (hs.set a (10, mv.set 0 (.int (if ty_bad (ty_b v i) = true then 1 else f))))) r) : Ru none 2047 83975 95 (7, [some (.ref a), some (.long v), none, some (.int (nI i)), x4, x5], [], ns, (hs.set a (10, mv.set 0 (.int f)))) r := by
  have hb := ty_b_lt v i
  have g : (hs.set a (10, mv.set 0 (.int f)))[a]? = some (10, mv.set 0 (.int f)) := h_set ha
  have e : ∀ f' : Int32, (hs.set a (10, mv.set 0 (.int f))).set a (10, (mv.set 0 (.int f)).set 0 (.int f')) = (hs.set a (10, mv.set 0 (.int f'))) := fun f' => by rw [List.set_set, List.set_set]
  refine ty_m1h hi ?_
  refine Ru.br (k := .eq) (off := 51) (bb := false) (tg := 28) (by decide +kernel) (by decide +kernel) (by rw [ty_d0 _ hb]; exact decide_eq_false h0) rfl ?_
  refine Ru.op (q := (.lload_n 1, 1)) (by decide +kernel) rfl ?_
  refine Ru.op (q := (.bipush 8, 2)) (by decide +kernel) rfl ?_
  refine Ru.op (q := (.iload_n 3, 1)) (by decide +kernel) rfl ?_
  refine Ru.op (q := (.imul, 1)) (by decide +kernel) rfl ?_
  refine Ru.op (q := (.lushr, 1)) (by decide +kernel) rfl ?_
  refine Ru.op (q := (.ldc2_w 123, 3)) (by decide +kernel) rfl ?_
  refine Ru.op (q := (.land, 1)) (by decide +kernel) rfl ?_
  show Ru none 2047 83975 95 (38, [some (.ref a), some (.long v), none, some (.int (nI i)), x4, x5], [.long ((v.toUInt64 >>> (((Int8.ofInt 8).toInt32 * nI i).toInt64.toUInt64 &&& Int64.toUInt64 63)).toInt64 &&& Int64.ofInt 255)], ns, (hs.set a (10, mv.set 0 (.int f)))) r
  rw [ty_B v hi]
  refine Ru.op (q := (.lstore 4, 2)) (by decide +kernel) rfl ?_
  refine Ru.op (q := (.aload_n 0, 1)) (by decide +kernel) rfl ?_
  refine Ru.op (q := (.lload 4, 2)) (by decide +kernel) rfl ?_
  refine Ru.op (q := (.ldc2_w 125, 3)) (by decide +kernel) rfl ?_
  refine Ru.op (q := (.lcmp, 1)) (by decide +kernel) rfl ?_
  by_cases h33 : ty_b v i < 33
  · refine Ru.br (k := .lt) (off := 12) (bb := true) (tg := 59) (by decide +kernel) (by decide +kernel) (by rw [ty_d1 _ hb]; exact decide_eq_true h33) rfl ?_
    refine Ru.op (q := (.iconst 1, 1)) (by decide +kernel) rfl ?_
    refine Ru.op (q := (.goto 7, 3)) (by decide +kernel) rfl ?_
    refine Ru.put (i := 120) (by decide +kernel) (by rfl) (g) (by decide) (by rw [List.length_set, hml]; decide) (by rfl) (by decide +kernel) ?_
    refine Ru.op (q := (.iinc 3 1, 3)) (by decide +kernel) rfl ?_
    refine Ru.op (q := (.goto (-66), 3)) (by decide +kernel) rfl ?_
    show Ru none 2047 83975 95 (7, [some (.ref a), some (.long v), none, some (.int (nI i + 1)), some (.long (lN (ty_b v i))), none], [], ns, ((hs.set a (10, mv.set 0 (.int f))).set a (10, (mv.set 0 (.int f)).set 0 (.int 1)))) r
    rw [e, nI_1]
    have h9 := h (some (.long (lN (ty_b v i)))) none
    rw [if_pos (by unfold ty_bad; rw [decide_eq_true h33]; rfl)] at h9
    exact h9
  · by_cases h126 : 126 < ty_b v i
    · refine Ru.br (k := .lt) (off := 12) (bb := false) (tg := 50) (by decide +kernel) (by decide +kernel) (by rw [ty_d1 _ hb]; exact decide_eq_false h33) rfl ?_
      refine Ru.op (q := (.lload 4, 2)) (by decide +kernel) rfl ?_
      refine Ru.op (q := (.ldc2_w 127, 3)) (by decide +kernel) rfl ?_
      refine Ru.op (q := (.lcmp, 1)) (by decide +kernel) rfl ?_
      refine Ru.br (k := .le) (off := 7) (bb := false) (tg := 59) (by decide +kernel) (by decide +kernel) (by rw [ty_d2 _ hb, decide_eq_true h126]; rfl) rfl ?_
      refine Ru.op (q := (.iconst 1, 1)) (by decide +kernel) rfl ?_
      refine Ru.op (q := (.goto 7, 3)) (by decide +kernel) rfl ?_
      refine Ru.put (i := 120) (by decide +kernel) (by rfl) (g) (by decide) (by rw [List.length_set, hml]; decide) (by rfl) (by decide +kernel) ?_
      refine Ru.op (q := (.iinc 3 1, 3)) (by decide +kernel) rfl ?_
      refine Ru.op (q := (.goto (-66), 3)) (by decide +kernel) rfl ?_
      show Ru none 2047 83975 95 (7, [some (.ref a), some (.long v), none, some (.int (nI i + 1)), some (.long (lN (ty_b v i))), none], [], ns, ((hs.set a (10, mv.set 0 (.int f))).set a (10, (mv.set 0 (.int f)).set 0 (.int 1)))) r
      rw [e, nI_1]
      have h9 := h (some (.long (lN (ty_b v i)))) none
      rw [if_pos (by unfold ty_bad; rw [decide_eq_true h126, Bool.or_true])] at h9
      exact h9
    · refine Ru.br (k := .lt) (off := 12) (bb := false) (tg := 50) (by decide +kernel) (by decide +kernel) (by rw [ty_d1 _ hb]; exact decide_eq_false h33) rfl ?_
      refine Ru.op (q := (.lload 4, 2)) (by decide +kernel) rfl ?_
      refine Ru.op (q := (.ldc2_w 127, 3)) (by decide +kernel) rfl ?_
      refine Ru.op (q := (.lcmp, 1)) (by decide +kernel) rfl ?_
      refine Ru.br (k := .le) (off := 7) (bb := true) (tg := 63) (by decide +kernel) (by decide +kernel) (by rw [ty_d2 _ hb, decide_eq_false h126]; rfl) rfl ?_
      refine Ru.op (q := (.aload_n 0, 1)) (by decide +kernel) rfl ?_
      refine Ru.get (i := 120) (by decide +kernel) (by rfl) (g) (by decide) (v_set (x := mv[0]) (List.getElem?_eq_getElem _)) ?_
      refine Ru.put (i := 120) (by decide +kernel) (by rfl) (g) (by decide) (by rw [List.length_set, hml]; decide) (by rfl) (by decide +kernel) ?_
      refine Ru.op (q := (.iinc 3 1, 3)) (by decide +kernel) rfl ?_
      refine Ru.op (q := (.goto (-66), 3)) (by decide +kernel) rfl ?_
      show Ru none 2047 83975 95 (7, [some (.ref a), some (.long v), none, some (.int (nI i + 1)), some (.long (lN (ty_b v i))), none], [], ns, ((hs.set a (10, mv.set 0 (.int f))).set a (10, (mv.set 0 (.int f)).set 0 (.int f)))) r
      rw [e, nI_1]
      have h9 := h (some (.long (lN (ty_b v i)))) none
      rw [if_neg (by unfold ty_bad; rw [decide_eq_false h33, decide_eq_false h126]; decide)] at h9
      exact h9
set_option maxRecDepth 100000 in
set_option maxHeartbeats 4000000 in
theorem ty_m1 {ns a : Nat} {hs : mn_H} {v : Int64} {mv : List Value} (ha : hs[a]? = some (10, mv)) (hml : mv.length = 59) {r : mn_A} : ∀ (m i : Nat) (f : Int32) (x4 x5 : Option Value), i + m = 8 → (∀ y4 y5, Ru none 2047 83975 95 (76, [some (.ref a), some (.long v), none, some (.int (nI (ty_g (ty_b v) m i f).1)), y4, y5], [], ns, (hs.set a (10, mv.set 0 (.int (ty_g (ty_b v) m i f).2)))) r) → Ru none 2047 83975 95 (7, [some (.ref a), some (.long v), none, some (.int (nI i)), x4, x5], [], ns, (hs.set a (10, mv.set 0 (.int f)))) r := by
  intro m
  induction m with
  | zero =>
    intro i f x4 x5 hi h
    have hi8 : i = 8 := by omega
    subst hi8
    refine Ru.op (q := (.iload_n 3, 1)) (by decide +kernel) rfl ?_
    refine Ru.op (q := (.bipush 8, 2)) (by decide +kernel) rfl ?_
    refine Ru.br2 (k := .ge) (off := 66) (bb := true) (tg := 76) (by decide +kernel) (by decide +kernel) (by decide +kernel) rfl ?_
    exact h x4 x5
  | succ m ih =>
    intro i f x4 x5 hi h
    by_cases h0 : ty_b v i = 0
    · unfold ty_g at h
      rw [if_pos h0] at h
      refine ty_m1h (by omega) ?_
      refine Ru.br (k := .eq) (off := 51) (bb := true) (tg := 76) (by decide +kernel) (by decide +kernel) (by rw [ty_d0 _ (ty_b_lt v i)]; exact decide_eq_true h0) rfl ?_
      exact h x4 x5
    · unfold ty_g at h
      rw [if_neg h0] at h
      exact ty_m1s ha hml (by omega) h0 fun y4 y5 => ih (i + 1) _ y4 y5 (by omega) h
end
section
def ty_HM (hs : mn_H) (a c t : Nat) (mv tv : List Value) (v : Int64) (i : Nat) : mn_H := (hs.set c (50, ty_w tv t v i)).set a (10, (mv.set 0 (.int 0)).set 2 (.int (nI (t + i))))
set_option maxRecDepth 100000 in
set_option maxHeartbeats 4000000 in
theorem ty_m3 {ns a c t n : Nat} {hs : mn_H} {v : Int64} {mv tv : List Value} (ha : hs[a]? = some (10, mv)) (hml : mv.length = 59) (hmt : mv[2]? = some (.int (nI t))) (hmc : mv[3]? = some (.ref c)) (hc : hs[c]? = some (50, tv)) (hcl : tv.length = 160) (hn : n ≤ 8) (ht : t + n ≤ 160) : ∀ (m i : Nat) (x5 : Option Value), i + m = n → Ru none 2047 83975 95 (119, [some (.ref a), some (.long v), none, some (.int (nI n)), some (.int (nI i)), x5], [], ns, ty_HM hs a c t mv tv v i) ((0, some (.int (nI (t + n)))), ns, ty_HM hs a c t mv tv v n) := by
  have hac : a ≠ c := h_ne ha hc (Nat.ne_of_beq_eq_false rfl)
  have ga : ∀ i, (ty_HM hs a c t mv tv v i)[a]? = some (10, (mv.set 0 (.int 0)).set 2 (.int (nI (t + i)))) := fun i => by unfold ty_HM; exact h_set (x := (10, mv)) (by rw [h_oth (fun e => hac e.symm)]; exact ha)
  have gc : ∀ i, (ty_HM hs a c t mv tv v i)[c]? = some (50, ty_w tv t v i) := fun i => by unfold ty_HM; rw [h_oth hac]; exact h_set hc
  have g2 : (mv.set 0 (.int 0))[2]? = some (.int (nI t)) := (v_oth (by decide)).trans hmt
  have g3 : (mv.set 0 (.int 0))[3]? = some (.ref c) := (v_oth (by decide)).trans hmc
  intro m
  induction m with
  | zero =>
    intro i x5 hi
    have hi8 : i = n := by omega
    subst hi8
    refine Ru.op (q := (.iload 4, 2)) (by decide +kernel) rfl ?_
    refine Ru.op (q := (.iload_n 3, 1)) (by decide +kernel) rfl ?_
    refine Ru.br2 (k := .ge) (off := 40) (bb := true) (tg := 162) (by decide +kernel) (by decide +kernel) (by rw [cmp_ge (by omega) (by omega)]; exact decide_eq_true (Nat.le_refl _)) rfl ?_
    refine Ru.op (q := (.aload_n 0, 1)) (by decide +kernel) rfl ?_
    refine Ru.get (i := 129) (by decide +kernel) (by rfl) (ga i) (by decide) (v_set g2) ?_
    exact Ru.iret (by decide +kernel) rfl rfl
  | succ m ih =>
    intro i x5 hi
    refine Ru.op (q := (.iload 4, 2)) (by decide +kernel) rfl ?_
    refine Ru.op (q := (.iload_n 3, 1)) (by decide +kernel) rfl ?_
    refine Ru.br2 (k := .ge) (off := 40) (bb := false) (tg := 125) (by decide +kernel) (by decide +kernel) (by rw [cmp_ge (by omega) (by omega)]; exact decide_eq_false (by omega)) rfl ?_
    refine Ru.op (q := (.aload_n 0, 1)) (by decide +kernel) rfl ?_
    refine Ru.get (i := 13) (by decide +kernel) (by rfl) (ga i) (by decide) ((v_oth (by decide)).trans g3) ?_
    refine Ru.op (q := (.aload_n 0, 1)) (by decide +kernel) rfl ?_
    refine Ru.get (i := 129) (by decide +kernel) (by rfl) (ga i) (by decide) (v_set g2) ?_
    refine Ru.op (q := (.lload_n 1, 1)) (by decide +kernel) rfl ?_
    refine Ru.op (q := (.bipush 8, 2)) (by decide +kernel) rfl ?_
    refine Ru.op (q := (.iload 4, 2)) (by decide +kernel) rfl ?_
    refine Ru.op (q := (.imul, 1)) (by decide +kernel) rfl ?_
    refine Ru.op (q := (.lushr, 1)) (by decide +kernel) rfl ?_
    refine Ru.op (q := (.ldc2_w 123, 3)) (by decide +kernel) rfl ?_
    refine Ru.op (q := (.land, 1)) (by decide +kernel) rfl ?_
    show Ru none 2047 83975 95 (144, [some (.ref a), some (.long v), none, some (.int (nI n)), some (.int (nI i)), x5], [.long ((v.toUInt64 >>> (((Int8.ofInt 8).toInt32 * nI i).toInt64.toUInt64 &&& Int64.toUInt64 63)).toInt64 &&& Int64.ofInt 255), .int (nI (t + i)), .ref c], ns, ty_HM hs a c t mv tv v i) _
    rw [ty_B v (by omega)]
    refine Ru.op (q := (.l2i, 1)) (by decide +kernel) rfl ?_
    show Ru none 2047 83975 95 (145, [some (.ref a), some (.long v), none, some (.int (nI n)), some (.int (nI i)), x5], [.int (lN (ty_b v i)).toInt32, .int (nI (t + i)), .ref c], ns, ty_HM hs a c t mv tv v i) _
    rw [lN_i]
    refine Ru.iast (n := t + i) (by decide +kernel) (gc i) rfl (by omega) (by rw [ty_w_len]; omega) ?_
    refine Ru.op (q := (.aload_n 0, 1)) (by decide +kernel) rfl ?_
    refine Ru.op (q := (.dup, 1)) (by decide +kernel) rfl ?_
    refine Ru.get (i := 129) (by decide +kernel) (by rfl) ((h_oth (fun e => hac e.symm)).trans (ga i)) (by decide) (v_set g2) ?_
    refine Ru.op (q := (.iconst 1, 1)) (by decide +kernel) rfl ?_
    refine Ru.op (q := (.iadd, 1)) (by decide +kernel) rfl ?_
    refine Ru.put (i := 129) (by decide +kernel) (by rfl) ((h_oth (fun e => hac e.symm)).trans (ga i)) (by decide) (by rw [List.length_set, List.length_set, hml]; decide) (by rfl) (by decide +kernel) ?_
    refine Ru.op (q := (.iinc 4 1, 3)) (by decide +kernel) rfl ?_
    refine Ru.op (q := (.goto (-40), 3)) (by decide +kernel) rfl ?_
    have e : (((ty_HM hs a c t mv tv v i).set c (50, (ty_w tv t v i).set (t + i) (.int (nI (ty_b v i))))).set a (10, ((mv.set 0 (.int 0)).set 2 (.int (nI (t + i)))).set 2 (.int (nI (t + i) + 1)))) = ty_HM hs a c t mv tv v (i + 1) := by
      unfold ty_HM
      rw [h_upd (fun e => hac e.symm), List.set_set, nI_1]
      rfl
    show Ru none 2047 83975 95 (119, [some (.ref a), some (.long v), none, some (.int (nI n)), some (.int (nI i + 1)), x5], [], ns, (((ty_HM hs a c t mv tv v i).set c (50, (ty_w tv t v i).set (t + i) (.int (nI (ty_b v i))))).set a (10, ((mv.set 0 (.int 0)).set 2 (.int (nI (t + i)))).set 2 (.int (nI (t + i) + 1))))) _
    rw [e, nI_1]
    exact ih (i + 1) x5 (by omega)
set_option maxRecDepth 100000 in
set_option maxHeartbeats 4000000 in
theorem ty_m2 {ns a c t n : Nat} {hs : mn_H} {v : Int64} {mv tv : List Value} (ha : hs[a]? = some (10, mv)) (hml : mv.length = 59) (hmt : mv[2]? = some (.int (nI t))) (hmc : mv[3]? = some (.ref c)) (hc : hs[c]? = some (50, tv)) (hcl : tv.length = 160) (hn : n ≤ 8) (ht : t ≤ 160) (y4 y5 : Option Value) : (Ru none 2047 83975 95 (76, [some (.ref a), some (.long v), none, some (.int (nI n)), y4, y5], [], ns, (hs.set a (10, mv.set 0 (.int 1)))) ((0, some (.int 0)), ns, (hs.set a (10, mv.set 0 (.int 1))))) ∧ (160 < t + n → Ru none 2047 83975 95 (76, [some (.ref a), some (.long v), none, some (.int (nI n)), y4, y5], [], ns, (hs.set a (10, mv.set 0 (.int 0)))) ((0, some (.int 0)), ns, (hs.set a (10, mv.set 0 (.int 2))))) ∧ (t + n ≤ 160 → Ru none 2047 83975 95 (76, [some (.ref a), some (.long v), none, some (.int (nI n)), y4, y5], [], ns, (hs.set a (10, mv.set 0 (.int 0)))) ((0, some (.int (nI (t + n)))), ns, ty_HM hs a c t mv tv v n)) := by
  have g : ∀ f : Int32, (hs.set a (10, mv.set 0 (.int f)))[a]? = some (10, mv.set 0 (.int f)) := fun f => h_set ha
  have g0 : ∀ f : Int32, (mv.set 0 (.int f))[0]? = some (.int f) := fun f => v_set (x := mv[0]) (List.getElem?_eq_getElem _)
  have g2 : ∀ f : Int32, (mv.set 0 (.int f))[2]? = some (.int (nI t)) := fun f => (v_oth (by decide)).trans hmt
  have e : ∀ f f' : Int32, (hs.set a (10, mv.set 0 (.int f))).set a (10, (mv.set 0 (.int f)).set 0 (.int f')) = (hs.set a (10, mv.set 0 (.int f'))) := fun f f' => by rw [List.set_set, List.set_set]
  refine ⟨?_, fun h => ?_, fun h => ?_⟩
  · refine Ru.op (q := (.aload_n 0, 1)) (by decide +kernel) rfl ?_
    refine Ru.op (q := (.aload_n 0, 1)) (by decide +kernel) rfl ?_
    refine Ru.get (i := 120) (by decide +kernel) (by rfl) (g 1) (by decide) (g0 1) ?_
    refine Ru.br (k := .ne) (off := 19) (bb := true) (tg := 100) (by decide +kernel) (by decide +kernel) (by decide +kernel) rfl ?_
    refine Ru.op (q := (.aload_n 0, 1)) (by decide +kernel) rfl ?_
    refine Ru.get (i := 120) (by decide +kernel) (by rfl) (g 1) (by decide) (g0 1) ?_
    refine Ru.put (i := 120) (by decide +kernel) (by rfl) (g 1) (by decide) (by rw [List.length_set, hml]; decide) (by rfl) (by decide +kernel) ?_
    show Ru none 2047 83975 95 (107, [some (.ref a), some (.long v), none, some (.int (nI n)), y4, y5], [], ns, ((hs.set a (10, mv.set 0 (.int 1))).set a (10, (mv.set 0 (.int 1)).set 0 (.int 1)))) _
    rw [e]
    refine Ru.op (q := (.aload_n 0, 1)) (by decide +kernel) rfl ?_
    refine Ru.get (i := 120) (by decide +kernel) (by rfl) (g 1) (by decide) (g0 1) ?_
    refine Ru.br (k := .le) (off := 5) (bb := false) (tg := 114) (by decide +kernel) (by decide +kernel) (by decide +kernel) rfl ?_
    refine Ru.op (q := (.iconst 0, 1)) (by decide +kernel) rfl ?_
    exact Ru.iret (by decide +kernel) rfl rfl
  · refine Ru.op (q := (.aload_n 0, 1)) (by decide +kernel) rfl ?_
    refine Ru.op (q := (.aload_n 0, 1)) (by decide +kernel) rfl ?_
    refine Ru.get (i := 120) (by decide +kernel) (by rfl) (g 0) (by decide) (g0 0) ?_
    refine Ru.br (k := .ne) (off := 19) (bb := false) (tg := 84) (by decide +kernel) (by decide +kernel) (by decide +kernel) rfl ?_
    refine Ru.op (q := (.aload_n 0, 1)) (by decide +kernel) rfl ?_
    refine Ru.get (i := 129) (by decide +kernel) (by rfl) (g 0) (by decide) (g2 0) ?_
    refine Ru.op (q := (.iload_n 3, 1)) (by decide +kernel) rfl ?_
    refine Ru.op (q := (.iadd, 1)) (by decide +kernel) rfl ?_
    refine Ru.op (q := (.sipush 160, 3)) (by decide +kernel) rfl ?_
    refine Ru.br2 (k := .le) (off := 7) (bb := false) (tg := 96) (by decide +kernel) (by decide +kernel) (by show mn_cmp .le (nI t + nI n) (nI 160) = false; rw [nI_add, cmp_le (by omega) (by omega)]; exact decide_eq_false (by omega)) rfl ?_
    refine Ru.op (q := (.iconst 2, 1)) (by decide +kernel) rfl ?_
    refine Ru.op (q := (.goto 7, 3)) (by decide +kernel) rfl ?_
    refine Ru.put (i := 120) (by decide +kernel) (by rfl) (g 0) (by decide) (by rw [List.length_set, hml]; decide) (by rfl) (by decide +kernel) ?_
    show Ru none 2047 83975 95 (107, [some (.ref a), some (.long v), none, some (.int (nI n)), y4, y5], [], ns, ((hs.set a (10, mv.set 0 (.int 0))).set a (10, (mv.set 0 (.int 0)).set 0 (.int 2)))) _
    rw [e]
    refine Ru.op (q := (.aload_n 0, 1)) (by decide +kernel) rfl ?_
    refine Ru.get (i := 120) (by decide +kernel) (by rfl) (g 2) (by decide) (g0 2) ?_
    refine Ru.br (k := .le) (off := 5) (bb := false) (tg := 114) (by decide +kernel) (by decide +kernel) (by decide +kernel) rfl ?_
    refine Ru.op (q := (.iconst 0, 1)) (by decide +kernel) rfl ?_
    exact Ru.iret (by decide +kernel) rfl rfl
  · refine Ru.op (q := (.aload_n 0, 1)) (by decide +kernel) rfl ?_
    refine Ru.op (q := (.aload_n 0, 1)) (by decide +kernel) rfl ?_
    refine Ru.get (i := 120) (by decide +kernel) (by rfl) (g 0) (by decide) (g0 0) ?_
    refine Ru.br (k := .ne) (off := 19) (bb := false) (tg := 84) (by decide +kernel) (by decide +kernel) (by decide +kernel) rfl ?_
    refine Ru.op (q := (.aload_n 0, 1)) (by decide +kernel) rfl ?_
    refine Ru.get (i := 129) (by decide +kernel) (by rfl) (g 0) (by decide) (g2 0) ?_
    refine Ru.op (q := (.iload_n 3, 1)) (by decide +kernel) rfl ?_
    refine Ru.op (q := (.iadd, 1)) (by decide +kernel) rfl ?_
    refine Ru.op (q := (.sipush 160, 3)) (by decide +kernel) rfl ?_
    refine Ru.br2 (k := .le) (off := 7) (bb := true) (tg := 100) (by decide +kernel) (by decide +kernel) (by show mn_cmp .le (nI t + nI n) (nI 160) = true; rw [nI_add, cmp_le (by omega) (by omega)]; exact decide_eq_true h) rfl ?_
    refine Ru.op (q := (.aload_n 0, 1)) (by decide +kernel) rfl ?_
    refine Ru.get (i := 120) (by decide +kernel) (by rfl) (g 0) (by decide) (g0 0) ?_
    refine Ru.put (i := 120) (by decide +kernel) (by rfl) (g 0) (by decide) (by rw [List.length_set, hml]; decide) (by rfl) (by decide +kernel) ?_
    show Ru none 2047 83975 95 (107, [some (.ref a), some (.long v), none, some (.int (nI n)), y4, y5], [], ns, ((hs.set a (10, mv.set 0 (.int 0))).set a (10, (mv.set 0 (.int 0)).set 0 (.int 0)))) _
    rw [e]
    refine Ru.op (q := (.aload_n 0, 1)) (by decide +kernel) rfl ?_
    refine Ru.get (i := 120) (by decide +kernel) (by rfl) (g 0) (by decide) (g0 0) ?_
    refine Ru.br (k := .le) (off := 5) (bb := true) (tg := 116) (by decide +kernel) (by decide +kernel) (by decide +kernel) rfl ?_
    refine Ru.op (q := (.iconst 0, 1)) (by decide +kernel) rfl ?_
    refine Ru.op (q := (.istore 4, 2)) (by decide +kernel) rfl ?_
    have e0 : (hs.set a (10, mv.set 0 (.int 0))) = ty_HM hs a c t mv tv v 0 := by
      unfold ty_HM
      show _ = (hs.set c (50, tv)).set a (10, (mv.set 0 (.int 0)).set 2 (.int (nI t)))
      rw [v_self (g2 0), h_self hc]
    show Ru none 2047 83975 95 (119, [some (.ref a), some (.long v), none, some (.int (nI n)), some (.int (nI 0)), y5], [], ns, (hs.set a (10, mv.set 0 (.int 0)))) _
    rw [e0]
    exact ty_m3 ha hml hmt hmc hc hcl hn h n 0 y5 (by omega)
theorem ty_g_le {b : Nat → Nat} : ∀ m i f, (ty_g b m i f).1 ≤ i + m := by
  intro m
  induction m with
  | zero => intro i f; exact Nat.le_refl _
  | succ m ih =>
    intro i f
    unfold ty_g
    split
    · exact Nat.le_add_right _ _
    · have := ih (i + 1) (if ty_bad (b i) = true then 1 else f); omega
set_option maxRecDepth 100000 in
set_option maxHeartbeats 4000000 in
/-- the model's type -/
theorem ty_M {ns a c t : Nat} {hs : mn_H} {v : Int64} {mv tv : List Value} (ha : hs[a]? = some (10, mv)) (hml : mv.length = 59) (hmt : mv[2]? = some (.int (nI t))) (hmc : mv[3]? = some (.ref c)) (hc : hs[c]? = some (50, tv)) (hcl : tv.length = 160) (ht : t ≤ 160) : (ty_f (ty_b v) 8 0 = none → Ru none 2047 83975 95 (0, mn_pad (mn_ent [.ref a, .long v]) 6, [], ns, hs) ((0, some (.int 0)), ns, (hs.set a (10, mv.set 0 (.int 1))))) ∧ (∀ n, ty_f (ty_b v) 8 0 = some n → (t + n ≤ 160 → Ru none 2047 83975 95 (0, mn_pad (mn_ent [.ref a, .long v]) 6, [], ns, hs) ((0, some (.int (nI (t + n)))), ns, ty_HM hs a c t mv tv v n)) ∧ (160 < t + n → Ru none 2047 83975 95 (0, mn_pad (mn_ent [.ref a, .long v]) 6, [], ns, hs) ((0, some (.int 0)), ns, (hs.set a (10, mv.set 0 (.int 2)))))) := by
  have st : ∀ r, (∀ y4 y5, Ru none 2047 83975 95 (76, [some (.ref a), some (.long v), none, some (.int (nI (ty_g (ty_b v) 8 0 0).1)), y4, y5], [], ns, (hs.set a (10, mv.set 0 (.int (ty_g (ty_b v) 8 0 0).2)))) r) → Ru none 2047 83975 95 (0, mn_pad (mn_ent [.ref a, .long v]) 6, [], ns, hs) r := by
    intro r h
    refine Ru.op (q := (.iconst 0, 1)) (by decide +kernel) rfl ?_
    refine Ru.op (q := (.istore_n 3, 1)) (by decide +kernel) rfl ?_
    refine Ru.op (q := (.aload_n 0, 1)) (by decide +kernel) rfl ?_
    refine Ru.op (q := (.iconst 0, 1)) (by decide +kernel) rfl ?_
    refine Ru.put (i := 120) (by decide +kernel) (by rfl) (ha) (by decide) (by rw [hml]; decide) (by rfl) (by decide +kernel) ?_
    exact ty_m1 ha hml 8 0 0 none none rfl h
  have hle := ty_g_le (b := ty_b v) 8 0 0
  refine ⟨fun h => st _ fun y4 y5 => ?_, fun n h => ?_⟩
  · rw [(ty_fg 8 0).1 h]
    exact (ty_m2 ha hml hmt hmc hc hcl (by omega) ht y4 y5).1
  · have hg := (ty_fg 8 0).2 n h
    rw [hg] at st hle
    exact ⟨fun h2 => st _ fun y4 y5 => (ty_m2 ha hml hmt hmc hc hcl (by omega) ht y4 y5).2.2 h2, fun h2 => st _ fun y4 y5 => (ty_m2 ha hml hmt hmc hc hcl (by omega) ht y4 y5).2.1 h2⟩
end
section
section RX9
variable {sc : Option (List Int32)} {fr lo j pc : Nat} {xs : List (Option Value)} {st : List Value} {ns : Nat} {hs : mn_H} {r : mn_A}
theorem Ru.sldn {l : List Int32} {i : Int32} {z n : Nat} (hd : decode (mt_code j) pc = .ok (.iaload, 1)) (hi : i = nI n) (hn : n < l.length) (hl : l.length < 2 ^ 31) (h : Ru (some l) fr lo j (pc + 1, xs, .int (l.getD n 0) :: st, ns, hs) r) : Ru (some l) fr lo j (pc, xs, .int i :: .retAddr z :: st, ns, hs) r := by
  subst hi
  exact Ru.sld rfl rfl hd (nI_in hn hl) (nI_clamp (by omega)) rfl h
theorem Ru.vcall {i j2 ci a k : Nat} {z : Int} {as r0 vs : List Value} {v : Option Value} {ns1 : Nat} {hs1 : mn_H} (hd : decode (mt_code j) pc = .ok (.invokevirtual i, 3)) (hp : mt_pl j i = (8, j2, ci, k, z)) (h0 : st.drop (mt_na j2) = .ref a :: r0) (hA : (st.take (mt_na j2)).reverse = as) (ha : hs[a]? = some (ci, vs)) (hci : ci < 50) (hc : 1 ≤ fr ∧ 19 + mt_ml j2 ≤ lo ∧ mn_cat r0 ≤ 8 ∧ (mn_ent (.ref a :: as)).length ≤ mt_ml j2)
    (h1 : Ru none (fr - 1) (lo - (19 + mt_ml j2)) j2 (0, mn_pad (mn_ent (.ref a :: as)) (mt_ml j2), [], ns, hs) ((0, v), ns1, hs1)) (h2 : Ru sc fr lo j (pc + 3, xs, v.toList ++ r0, ns1, hs1) r) : Ru sc fr lo j (pc, xs, st, ns, hs) r := by
  refine Ru.call hd (by cases sc <;> rfl) rfl rfl ?_ hc h1 h2
  simp only [mn_cal, hp, h0, ha, hA, hci, and_self, if_true]
theorem Ru.vcatch {i j2 ci a k k0 hp : Nat} {z : Int} {as r0 vs : List Value} {w : Option Value} {ns1 : Nat} {hs1 : mn_H} (hd : decode (mt_code j) pc = .ok (.invokevirtual i, 3)) (hpl : mt_pl j i = (8, j2, ci, k0, z)) (h0 : st.drop (mt_na j2) = .ref a :: r0) (hA : (st.take (mt_na j2)).reverse = as) (ha : hs[a]? = some (ci, vs)) (hci : ci < 50) (hc : 1 ≤ fr ∧ 19 + mt_ml j2 ≤ lo ∧ mn_cat r0 ≤ 8 ∧ (mn_ent (.ref a :: as)).length ≤ mt_ml j2) (hhd : mn_hd (mt_hl j) pc k = some hp)
    (h1 : Ru none (fr - 1) (lo - (19 + mt_ml j2)) j2 (0, mn_pad (mn_ent (.ref a :: as)) (mt_ml j2), [], ns, hs) ((k + 1, w), ns1, hs1)) (h2 : Ru sc fr lo j (hp, xs, [.ref (hs1.length - 1)], ns1, hs1) r) : Ru sc fr lo j (pc, xs, st, ns, hs) r := by
  refine Ru.catch hd (by cases sc <;> rfl) rfl rfl ?_ hc hhd h1 h2
  simp only [mn_cal, hpl, h0, ha, hA, hci, and_self, if_true]
end RX9
theorem ty_T {fr lo ns a : Nat} {hs : mn_H} {w : List Value} {f : Int32} (ha : hs[a]? = some (10, w)) (hw : w[0]? = some (.int f)) : Ru none fr lo 94 (0, mn_pad (mn_ent [.ref a]) 1, [], ns, hs) ((0, some (.int f)), ns, hs) := by
  refine Ru.op (q := (.aload_n 0, 1)) (by decide +kernel) rfl ?_
  refine Ru.get (i := 120) (by decide +kernel) (by rfl) (ha) (by decide) (hw) ?_
  exact Ru.iret (by decide +kernel) rfl rfl
set_option maxRecDepth 100000 in
set_option maxHeartbeats 4000000 in
theorem ty_W {ns a b c t d : Nat} {hs : mn_H} {v : Int64} {av bv cv : List Value} {x : Value} (ha : hs[a]? = some (0, av)) (hav : av[0]? = some (.ref b)) (hb : hs[b]? = some (1, bv)) (hbt : bv[1]? = some (.int (nI t))) (hbc : bv[0]? = some (.ref c)) (hc : hs[c]? = some (52, cv)) (hcl : cv.length = 160) (ht : t ≤ 160) (hd : hs[d]? = some (53, [x])) : (ty_f (ty_b v) 8 0 = none → Ru none 2047 83976 162 (0, mn_pad (mn_ent [.ref a, .long v, .ref d]) 5, [], ns, hs) ((0, some (.int 1)), ns + 6, hs ++ [(99, [])])) ∧ (∀ n, ty_f (ty_b v) 8 0 = some n → (t + n ≤ 160 → Ru none 2047 83976 162 (0, mn_pad (mn_ent [.ref a, .long v, .ref d]) 5, [], ns, hs) ((0, some (.int 0)), ns, (ty_H hs b c t bv cv v n).set d (53, [.long (lN (t + n))]))) ∧ (160 < t + n → Ru none 2047 83976 162 (0, mn_pad (mn_ent [.ref a, .long v, .ref d]) 5, [], ns, hs) ((0, some (.int 2)), ns + 6, hs ++ [(99, [])]))) := by
  have hC := ty_C (v := v) (ns := ns) ha hav hb hbt hbc hc hcl ht
  have hbd : b ≠ d := h_ne hb hd (Nat.ne_of_beq_eq_false rfl)
  have hcd : c ≠ d := h_ne hc hd (Nat.ne_of_beq_eq_false rfl)
  refine ⟨fun h => ?_, fun n h => ⟨fun h2 => ?_, fun h2 => ?_⟩⟩
  · refine Ru.op (q := (.aload_n 3, 1)) (by decide +kernel) rfl ?_
    refine Ru.op (q := (.iconst 0, 1)) (by decide +kernel) rfl ?_
    refine Ru.op (q := (.aload_n 0, 1)) (by decide +kernel) rfl ?_
    refine Ru.op (q := (.lload_n 1, 1)) (by decide +kernel) rfl ?_
    refine Ru.vcatch (i := 7) (j2 := 17) (k := 0) (hp := 12) (as := [.long v]) (by decide +kernel) (by rfl) rfl rfl ha (by decide) ⟨Nat.le_of_ble_eq_true rfl, Nat.le_of_ble_eq_true rfl, Nat.le_of_ble_eq_true rfl, Nat.le_of_ble_eq_true rfl⟩ (by decide +kernel) (hC.1 h) ?_
    refine Ru.op (q := (.astore 4, 2)) (by decide +kernel) rfl ?_
    refine Ru.op (q := (.iconst 1, 1)) (by decide +kernel) rfl ?_
    exact Ru.iret (by decide +kernel) rfl rfl
  · refine Ru.op (q := (.aload_n 3, 1)) (by decide +kernel) rfl ?_
    refine Ru.op (q := (.iconst 0, 1)) (by decide +kernel) rfl ?_
    refine Ru.op (q := (.aload_n 0, 1)) (by decide +kernel) rfl ?_
    refine Ru.op (q := (.lload_n 1, 1)) (by decide +kernel) rfl ?_
    refine Ru.vcall (i := 7) (j2 := 17) (as := [.long v]) (by decide +kernel) (by rfl) rfl rfl ha (by decide) ⟨Nat.le_of_ble_eq_true rfl, Nat.le_of_ble_eq_true rfl, Nat.le_of_ble_eq_true rfl, Nat.le_of_ble_eq_true rfl⟩ ((hC.2 n h).1 h2) ?_
    refine Ru.op (q := (.i2l, 1)) (by decide +kernel) rfl ?_
    have hn := ty_f_le _ _ _ h
    have gd : (ty_H hs b c t bv cv v n)[d]? = some (53, [x]) := by unfold ty_H; rw [h_oth hbd, h_oth hcd]; exact hd
    refine Ru.last (n := 0) (by decide +kernel) gd rfl (by decide) Nat.zero_lt_one ?_
    refine Ru.op (q := (.goto 11, 3)) (by decide +kernel) rfl ?_
    refine Ru.op (q := (.iconst 0, 1)) (by decide +kernel) rfl ?_
    show Ru none 2047 83976 162 (21, _, [.int 0], ns, (ty_H hs b c t bv cv v n).set d (53, [.long (nI (t + n)).toInt64])) _
    rw [nI_l (by omega)]
    exact Ru.iret (by decide +kernel) rfl rfl
  · refine Ru.op (q := (.aload_n 3, 1)) (by decide +kernel) rfl ?_
    refine Ru.op (q := (.iconst 0, 1)) (by decide +kernel) rfl ?_
    refine Ru.op (q := (.aload_n 0, 1)) (by decide +kernel) rfl ?_
    refine Ru.op (q := (.lload_n 1, 1)) (by decide +kernel) rfl ?_
    refine Ru.vcatch (i := 7) (j2 := 17) (k := 3) (hp := 16) (as := [.long v]) (by decide +kernel) (by rfl) rfl rfl ha (by decide) ⟨Nat.le_of_ble_eq_true rfl, Nat.le_of_ble_eq_true rfl, Nat.le_of_ble_eq_true rfl, Nat.le_of_ble_eq_true rfl⟩ (by decide +kernel) ((hC.2 n h).2 h2) ?_
    refine Ru.op (q := (.astore 4, 2)) (by decide +kernel) rfl ?_
    refine Ru.op (q := (.iconst 2, 1)) (by decide +kernel) rfl ?_
    exact Ru.iret (by decide +kernel) rfl rfl
end
section
theorem ty_eq (x : Int64) : mn_cmp .eq (lg_cmp x x) 0 = true := by
  unfold lg_cmp
  simp [mn_cmp]
/-- the word of a call at place p of the script -/
def ty_v (l : List Int32) (p : Nat) : Int64 := ((l.getD (p + 1) 0).toInt64 <<< ((Int8.ofInt 32).toInt32.toInt64 &&& 63) ||| (l.getD (p + 2) 0).toInt64 &&& Int64.ofInt 4294967295)
set_option maxRecDepth 100000 in
set_option maxHeartbeats 4000000 in
/-- the law's call of type -/
theorem ty_L {l : List Int32} {p ns b c e t : Nat} {hs : mn_H} {av bv cv mv tv : List Value} {x : Value} {x5 x6 : Option Value} {r : mn_A} (hp : p + 5 ≤ l.length) (hl : l.length < 2 ^ 31) (ha : hs[0]? = some (0, av)) (hav : av[0]? = some (.ref b)) (hb : hs[b]? = some (1, bv)) (hbt : bv[1]? = some (.int (nI t))) (hbc : bv[0]? = some (.ref c)) (hc : hs[c]? = some (52, cv)) (hcl : cv.length = 160) (ht : t ≤ 160) (hd : hs[71]? = some (53, [x])) (hm : hs[36]? = some (10, mv)) (hml : mv.length = 59) (hmt : mv[2]? = some (.int (nI t))) (hmc : mv[3]? = some (.ref e)) (he : hs[e]? = some (50, tv)) (hel : tv.length = 160)
    (h1 : ty_f (ty_b (ty_v l p)) 8 0 = none → ∀ y5 y6, Ru (some l) 2048 84000 172 (851, [some (.retAddr 0), some (.ref 0), some (.ref 36), some (.ref 71), some (.int (nI p)), y5, y6], [], ns + 6, (hs ++ [(99, [])]).set 36 (10, mv.set 0 (.int 1))) r)
    (h2 : ∀ n, ty_f (ty_b (ty_v l p)) 8 0 = some n → 160 < t + n → ∀ y5 y6, Ru (some l) 2048 84000 172 (851, [some (.retAddr 0), some (.ref 0), some (.ref 36), some (.ref 71), some (.int (nI p)), y5, y6], [], ns + 6, (hs ++ [(99, [])]).set 36 (10, mv.set 0 (.int 2))) r)
    (h3 : ∀ n, ty_f (ty_b (ty_v l p)) 8 0 = some n → t + n ≤ 160 → ∀ y5 y6, Ru (some l) 2048 84000 172 (851, [some (.retAddr 0), some (.ref 0), some (.ref 36), some (.ref 71), some (.int (nI p)), y5, y6], [], ns, ty_HM ((ty_H hs b c t bv cv (ty_v l p) n).set 71 (53, [.long (lN (t + n))])) 36 e t mv tv (ty_v l p) n) r) : Ru (some l) 2048 84000 172 (108, [some (.retAddr 0), some (.ref 0), some (.ref 36), some (.ref 71), some (.int (nI p)), x5, x6], [], ns, hs) r := by
  have hW := ty_W (v := ty_v l p) (ns := ns) ha hav hb hbt hbc hc hcl ht hd
  have hg : ∀ {i : Nat} {z : mn_C}, hs[i]? = some z → (hs ++ [(99, [])])[i]? = some z := fun {i z} h => by rw [List.getElem?_append_left (List.getElem?_eq_some_iff.mp h).1]; exact h
  have hm0 : mv[0]? = some mv[0] := List.getElem?_eq_getElem _
  refine Ru.op (q := (.aload_n 1, 1)) (by decide +kernel) rfl ?_
  refine Ru.op (q := (.aload_n 0, 1)) (by decide +kernel) rfl ?_
  refine Ru.op (q := (.iload 4, 2)) (by decide +kernel) rfl ?_
  refine Ru.op (q := (.iconst 1, 1)) (by decide +kernel) rfl ?_
  refine Ru.op (q := (.iadd, 1)) (by decide +kernel) rfl ?_
  refine Ru.sldn (n := p + 1) (by decide +kernel) (nI_add p 1) (by omega) hl ?_
  refine Ru.op (q := (.i2l, 1)) (by decide +kernel) rfl ?_
  refine Ru.op (q := (.bipush 32, 2)) (by decide +kernel) rfl ?_
  refine Ru.op (q := (.lshl, 1)) (by decide +kernel) rfl ?_
  refine Ru.op (q := (.aload_n 0, 1)) (by decide +kernel) rfl ?_
  refine Ru.op (q := (.iload 4, 2)) (by decide +kernel) rfl ?_
  refine Ru.op (q := (.iconst 2, 1)) (by decide +kernel) rfl ?_
  refine Ru.op (q := (.iadd, 1)) (by decide +kernel) rfl ?_
  refine Ru.sldn (n := p + 2) (by decide +kernel) (nI_add p 2) (by omega) hl ?_
  refine Ru.op (q := (.i2l, 1)) (by decide +kernel) rfl ?_
  refine Ru.op (q := (.ldc2_w 60, 3)) (by decide +kernel) rfl ?_
  refine Ru.op (q := (.land, 1)) (by decide +kernel) rfl ?_
  refine Ru.op (q := (.lor, 1)) (by decide +kernel) rfl ?_
  refine Ru.op (q := (.aload_n 3, 1)) (by decide +kernel) rfl ?_
  show Ru (some l) 2048 84000 172 (132, [some (.retAddr 0), some (.ref 0), some (.ref 36), some (.ref 71), some (.int (nI p)), x5, x6], [.ref 71, .long (ty_v l p), .ref 0], ns, hs) r
  cases hf : ty_f (ty_b (ty_v l p)) 8 0 with
  | none =>
    refine Ru.call (q := (.invokestatic 62, 3)) (j2 := 162) (by decide +kernel) rfl rfl rfl rfl ⟨Nat.le_of_ble_eq_true rfl, Nat.le_of_ble_eq_true rfl, Nat.le_of_ble_eq_true rfl, Nat.le_of_ble_eq_true rfl⟩ (hW.1 hf) ?_
    refine Ru.op (q := (.istore 5, 2)) (by decide +kernel) rfl ?_
    refine Ru.op (q := (.aload_n 2, 1)) (by decide +kernel) rfl ?_
    refine Ru.op (q := (.aload_n 0, 1)) (by decide +kernel) rfl ?_
    refine Ru.op (q := (.iload 4, 2)) (by decide +kernel) rfl ?_
    refine Ru.op (q := (.iconst 1, 1)) (by decide +kernel) rfl ?_
    refine Ru.op (q := (.iadd, 1)) (by decide +kernel) rfl ?_
    refine Ru.sldn (n := p + 1) (by decide +kernel) (nI_add p 1) (by omega) hl ?_
    refine Ru.op (q := (.i2l, 1)) (by decide +kernel) rfl ?_
    refine Ru.op (q := (.bipush 32, 2)) (by decide +kernel) rfl ?_
    refine Ru.op (q := (.lshl, 1)) (by decide +kernel) rfl ?_
    refine Ru.op (q := (.aload_n 0, 1)) (by decide +kernel) rfl ?_
    refine Ru.op (q := (.iload 4, 2)) (by decide +kernel) rfl ?_
    refine Ru.op (q := (.iconst 2, 1)) (by decide +kernel) rfl ?_
    refine Ru.op (q := (.iadd, 1)) (by decide +kernel) rfl ?_
    refine Ru.sldn (n := p + 2) (by decide +kernel) (nI_add p 2) (by omega) hl ?_
    refine Ru.op (q := (.i2l, 1)) (by decide +kernel) rfl ?_
    refine Ru.op (q := (.ldc2_w 60, 3)) (by decide +kernel) rfl ?_
    refine Ru.op (q := (.land, 1)) (by decide +kernel) rfl ?_
    refine Ru.op (q := (.lor, 1)) (by decide +kernel) rfl ?_
    show Ru (some l) 2048 84000 172 (160, [some (.retAddr 0), some (.ref 0), some (.ref 36), some (.ref 71), some (.int (nI p)), some (.int 1), x6], [.long (ty_v l p), .ref 36], ns + 6, (hs ++ [(99, [])])) r
    have hM := ty_M (v := ty_v l p) (ns := ns + 6) (hg hm) hml hmt hmc (hg he) hel ht
    refine Ru.vcall (i := 67) (j2 := 95) (as := [.long (ty_v l p)]) (by decide +kernel) (by rfl) rfl rfl (hg hm) (by decide) ⟨Nat.le_of_ble_eq_true rfl, Nat.le_of_ble_eq_true rfl, Nat.le_of_ble_eq_true rfl, Nat.le_of_ble_eq_true rfl⟩ (hM.1 hf) ?_
    refine Ru.op (q := (.istore 6, 2)) (by decide +kernel) rfl ?_
    refine Ru.op (q := (.aload_n 2, 1)) (by decide +kernel) rfl ?_
    refine Ru.vcall (i := 68) (j2 := 94) (as := []) (by decide +kernel) (by rfl) rfl rfl (h_set (hg hm)) (by decide) ⟨Nat.le_of_ble_eq_true rfl, Nat.le_of_ble_eq_true rfl, Nat.le_of_ble_eq_true rfl, Nat.le_of_ble_eq_true rfl⟩ (ty_T (h_set (hg hm)) (v_set hm0)) ?_
    refine Ru.op (q := (.iload 5, 2)) (by decide +kernel) rfl ?_
    refine Ru.br2 (k := .eq) (off := 5) (bb := true) (tg := 176) (by decide +kernel) (by decide +kernel) (by decide +kernel) rfl ?_
    refine Ru.op (q := (.iload 5, 2)) (by decide +kernel) rfl ?_
    refine Ru.br (k := .ne) (off := 15) (bb := true) (tg := 193) (by decide +kernel) (by decide +kernel) (by decide +kernel) rfl ?_
    refine Ru.op (q := (.goto 658, 3)) (by decide +kernel) rfl ?_
    exact h1 hf _ _
  | some n =>
    by_cases hn : t + n ≤ 160
    · have hle := ty_f_le _ _ _ hf
      have hmb : b ≠ 36 := h_ne hb hm (Nat.ne_of_beq_eq_false rfl)
      have hmc' : c ≠ 36 := h_ne hc hm (Nat.ne_of_beq_eq_false rfl)
      have heb : b ≠ e := h_ne hb he (Nat.ne_of_beq_eq_false rfl)
      have hec : c ≠ e := h_ne hc he (Nat.ne_of_beq_eq_false rfl)
      have hed : 71 ≠ e := h_ne hd he (Nat.ne_of_beq_eq_false rfl)
      have hem : e ≠ 36 := h_ne he hm (Nat.ne_of_beq_eq_false rfl)
      have hdb : b ≠ 71 := h_ne hb hd (Nat.ne_of_beq_eq_false rfl)
      have hdc : c ≠ 71 := h_ne hc hd (Nat.ne_of_beq_eq_false rfl)
      have km : ((ty_H hs b c t bv cv (ty_v l p) n).set 71 (53, [.long (lN (t + n))]))[36]? = some (10, mv) := by rw [h_oth (by decide)]; unfold ty_H; rw [h_oth hmb, h_oth hmc']; exact hm
      have ke : ((ty_H hs b c t bv cv (ty_v l p) n).set 71 (53, [.long (lN (t + n))]))[e]? = some (50, tv) := by rw [h_oth hed]; unfold ty_H; rw [h_oth heb, h_oth hec]; exact he
      have kd : ((ty_H hs b c t bv cv (ty_v l p) n).set 71 (53, [.long (lN (t + n))]))[71]? = some (53, [.long (lN (t + n))]) := h_set (x := (53, [x])) (by unfold ty_H; rw [h_oth hdb, h_oth hdc]; exact hd)
      have kd2 : (ty_HM ((ty_H hs b c t bv cv (ty_v l p) n).set 71 (53, [.long (lN (t + n))])) 36 e t mv tv (ty_v l p) n)[71]? = some (53, [.long (lN (t + n))]) := by unfold ty_HM; rw [h_oth (by decide), h_oth (fun h => hed h.symm)]; exact kd
      have km2 : (ty_HM ((ty_H hs b c t bv cv (ty_v l p) n).set 71 (53, [.long (lN (t + n))])) 36 e t mv tv (ty_v l p) n)[36]? = some (10, (mv.set 0 (.int 0)).set 2 (.int (nI (t + n)))) := by unfold ty_HM; exact h_set (x := (10, mv)) (by rw [h_oth hem]; exact km)
      refine Ru.call (q := (.invokestatic 62, 3)) (j2 := 162) (by decide +kernel) rfl rfl rfl rfl ⟨Nat.le_of_ble_eq_true rfl, Nat.le_of_ble_eq_true rfl, Nat.le_of_ble_eq_true rfl, Nat.le_of_ble_eq_true rfl⟩ ((hW.2 n hf).1 hn) ?_
      refine Ru.op (q := (.istore 5, 2)) (by decide +kernel) rfl ?_
      refine Ru.op (q := (.aload_n 2, 1)) (by decide +kernel) rfl ?_
      refine Ru.op (q := (.aload_n 0, 1)) (by decide +kernel) rfl ?_
      refine Ru.op (q := (.iload 4, 2)) (by decide +kernel) rfl ?_
      refine Ru.op (q := (.iconst 1, 1)) (by decide +kernel) rfl ?_
      refine Ru.op (q := (.iadd, 1)) (by decide +kernel) rfl ?_
      refine Ru.sldn (n := p + 1) (by decide +kernel) (nI_add p 1) (by omega) hl ?_
      refine Ru.op (q := (.i2l, 1)) (by decide +kernel) rfl ?_
      refine Ru.op (q := (.bipush 32, 2)) (by decide +kernel) rfl ?_
      refine Ru.op (q := (.lshl, 1)) (by decide +kernel) rfl ?_
      refine Ru.op (q := (.aload_n 0, 1)) (by decide +kernel) rfl ?_
      refine Ru.op (q := (.iload 4, 2)) (by decide +kernel) rfl ?_
      refine Ru.op (q := (.iconst 2, 1)) (by decide +kernel) rfl ?_
      refine Ru.op (q := (.iadd, 1)) (by decide +kernel) rfl ?_
      refine Ru.sldn (n := p + 2) (by decide +kernel) (nI_add p 2) (by omega) hl ?_
      refine Ru.op (q := (.i2l, 1)) (by decide +kernel) rfl ?_
      refine Ru.op (q := (.ldc2_w 60, 3)) (by decide +kernel) rfl ?_
      refine Ru.op (q := (.land, 1)) (by decide +kernel) rfl ?_
      refine Ru.op (q := (.lor, 1)) (by decide +kernel) rfl ?_
      show Ru (some l) 2048 84000 172 (160, [some (.retAddr 0), some (.ref 0), some (.ref 36), some (.ref 71), some (.int (nI p)), some (.int 0), x6], [.long (ty_v l p), .ref 36], ns, ((ty_H hs b c t bv cv (ty_v l p) n).set 71 (53, [.long (lN (t + n))]))) r
      have hM := ty_M (v := ty_v l p) (ns := ns) km hml hmt hmc ke hel ht
      refine Ru.vcall (i := 67) (j2 := 95) (as := [.long (ty_v l p)]) (by decide +kernel) (by rfl) rfl rfl (km) (by decide) ⟨Nat.le_of_ble_eq_true rfl, Nat.le_of_ble_eq_true rfl, Nat.le_of_ble_eq_true rfl, Nat.le_of_ble_eq_true rfl⟩ ((hM.2 n hf).1 hn) ?_
      refine Ru.op (q := (.istore 6, 2)) (by decide +kernel) rfl ?_
      refine Ru.op (q := (.aload_n 2, 1)) (by decide +kernel) rfl ?_
      refine Ru.vcall (i := 68) (j2 := 94) (as := []) (by decide +kernel) (by rfl) rfl rfl (km2) (by decide) ⟨Nat.le_of_ble_eq_true rfl, Nat.le_of_ble_eq_true rfl, Nat.le_of_ble_eq_true rfl, Nat.le_of_ble_eq_true rfl⟩ (ty_T (km2) ((v_oth (by decide)).trans (v_set hm0))) ?_
      refine Ru.op (q := (.iload 5, 2)) (by decide +kernel) rfl ?_
      refine Ru.br2 (k := .eq) (off := 5) (bb := true) (tg := 176) (by decide +kernel) (by decide +kernel) (by decide +kernel) rfl ?_
      refine Ru.op (q := (.iload 5, 2)) (by decide +kernel) rfl ?_
      refine Ru.br (k := .ne) (off := 15) (bb := false) (tg := 181) (by decide +kernel) (by decide +kernel) (by decide +kernel) rfl ?_
      refine Ru.op (q := (.aload_n 3, 1)) (by decide +kernel) rfl ?_
      refine Ru.op (q := (.iconst 0, 1)) (by decide +kernel) rfl ?_
      refine Ru.lald (n := 0) (by decide +kernel) kd2 rfl (by decide) rfl ?_
      refine Ru.op (q := (.iload 6, 2)) (by decide +kernel) rfl ?_
      refine Ru.op (q := (.i2l, 1)) (by decide +kernel) rfl ?_
      refine Ru.op (q := (.lcmp, 1)) (by decide +kernel) rfl ?_
      refine Ru.br (k := .eq) (off := 5) (bb := true) (tg := 193) (by decide +kernel) (by decide +kernel) (by rw [nI_l (by omega)]; exact ty_eq _) rfl ?_
      refine Ru.op (q := (.goto 658, 3)) (by decide +kernel) rfl ?_
      exact h3 n hf hn _ _
    · have hn2 : 160 < t + n := by omega
      refine Ru.call (q := (.invokestatic 62, 3)) (j2 := 162) (by decide +kernel) rfl rfl rfl rfl ⟨Nat.le_of_ble_eq_true rfl, Nat.le_of_ble_eq_true rfl, Nat.le_of_ble_eq_true rfl, Nat.le_of_ble_eq_true rfl⟩ ((hW.2 n hf).2 hn2) ?_
      refine Ru.op (q := (.istore 5, 2)) (by decide +kernel) rfl ?_
      refine Ru.op (q := (.aload_n 2, 1)) (by decide +kernel) rfl ?_
      refine Ru.op (q := (.aload_n 0, 1)) (by decide +kernel) rfl ?_
      refine Ru.op (q := (.iload 4, 2)) (by decide +kernel) rfl ?_
      refine Ru.op (q := (.iconst 1, 1)) (by decide +kernel) rfl ?_
      refine Ru.op (q := (.iadd, 1)) (by decide +kernel) rfl ?_
      refine Ru.sldn (n := p + 1) (by decide +kernel) (nI_add p 1) (by omega) hl ?_
      refine Ru.op (q := (.i2l, 1)) (by decide +kernel) rfl ?_
      refine Ru.op (q := (.bipush 32, 2)) (by decide +kernel) rfl ?_
      refine Ru.op (q := (.lshl, 1)) (by decide +kernel) rfl ?_
      refine Ru.op (q := (.aload_n 0, 1)) (by decide +kernel) rfl ?_
      refine Ru.op (q := (.iload 4, 2)) (by decide +kernel) rfl ?_
      refine Ru.op (q := (.iconst 2, 1)) (by decide +kernel) rfl ?_
      refine Ru.op (q := (.iadd, 1)) (by decide +kernel) rfl ?_
      refine Ru.sldn (n := p + 2) (by decide +kernel) (nI_add p 2) (by omega) hl ?_
      refine Ru.op (q := (.i2l, 1)) (by decide +kernel) rfl ?_
      refine Ru.op (q := (.ldc2_w 60, 3)) (by decide +kernel) rfl ?_
      refine Ru.op (q := (.land, 1)) (by decide +kernel) rfl ?_
      refine Ru.op (q := (.lor, 1)) (by decide +kernel) rfl ?_
      show Ru (some l) 2048 84000 172 (160, [some (.retAddr 0), some (.ref 0), some (.ref 36), some (.ref 71), some (.int (nI p)), some (.int 2), x6], [.long (ty_v l p), .ref 36], ns + 6, (hs ++ [(99, [])])) r
      have hM := ty_M (v := ty_v l p) (ns := ns + 6) (hg hm) hml hmt hmc (hg he) hel ht
      refine Ru.vcall (i := 67) (j2 := 95) (as := [.long (ty_v l p)]) (by decide +kernel) (by rfl) rfl rfl (hg hm) (by decide) ⟨Nat.le_of_ble_eq_true rfl, Nat.le_of_ble_eq_true rfl, Nat.le_of_ble_eq_true rfl, Nat.le_of_ble_eq_true rfl⟩ ((hM.2 n hf).2 hn2) ?_
      refine Ru.op (q := (.istore 6, 2)) (by decide +kernel) rfl ?_
      refine Ru.op (q := (.aload_n 2, 1)) (by decide +kernel) rfl ?_
      refine Ru.vcall (i := 68) (j2 := 94) (as := []) (by decide +kernel) (by rfl) rfl rfl (h_set (hg hm)) (by decide) ⟨Nat.le_of_ble_eq_true rfl, Nat.le_of_ble_eq_true rfl, Nat.le_of_ble_eq_true rfl, Nat.le_of_ble_eq_true rfl⟩ (ty_T (h_set (hg hm)) (v_set hm0)) ?_
      refine Ru.op (q := (.iload 5, 2)) (by decide +kernel) rfl ?_
      refine Ru.br2 (k := .eq) (off := 5) (bb := true) (tg := 176) (by decide +kernel) (by decide +kernel) (by decide +kernel) rfl ?_
      refine Ru.op (q := (.iload 5, 2)) (by decide +kernel) rfl ?_
      refine Ru.br (k := .ne) (off := 15) (bb := true) (tg := 193) (by decide +kernel) (by decide +kernel) (by decide +kernel) rfl ?_
      refine Ru.op (q := (.goto 658, 3)) (by decide +kernel) rfl ?_
      exact h2 n hf hn2 _ _
end
section
def p1_bv : List Value := [.ref 2, .int 0, .ref 3, .int 0, .int 0, .int 0, .ref 10, .ref 11, .int 0, .int 0, .int 0, .ref 12, .int 0]
def p1_mv : List Value := [.int 0, .int (-1), .int 0, .ref 37, .ref 38, .ref 39, .ref 40, .ref 41, .ref 42, .int 0, .int 0, .ref 43, .ref 44, .ref 45, .int (-1), .int 0, .int 0, .int 0, .int 0, .int 0, .int 0, .ref 46, .int 0, .ref 47, .int 0, .ref 48, .ref 49, .int 0, .int 0, .int 0, .int 0, .ref 50, .ref 51, .ref 52, .int 0, .int 0, .int 0, .ref 53, .ref 54, .ref 55, .ref 56, .ref 57, .int 0, .int 0, .ref 58, .ref 59, .int 0, .ref 60, .ref 61, .ref 62, .ref 63, .ref 64, .ref 65, .ref 66, .ref 67, .ref 68, .int 0, .ref 69, .ref 70]

/-- the law ends with 1 from here, and its heap stays small -/
def p1_ok (l : List Int32) (pc : Nat) : Prop := ∃ ns' hs', Ru (some l) 2048 84000 172 (pc, [some (.retAddr 0), some (.ref 0), some (.ref 36), some (.ref 71), some (.int 0), none, none], [], 20574, fh_0) ((0, some (.int 1)), ns', hs') ∧ hs'.length ≤ 100 ∧ ns' ≤ 30000
theorem p1_gt : ∀ L, L < 5 → mn_cmp .gt (Int32.ofInt 0) (Int32.ofNat L - Int32.ofInt 5) = true := by decide +kernel
set_option maxRecDepth 100000 in
theorem p1_short {l : List Int32} (h : l.length < 5) : p1_ok l 23 := by
  refine ⟨20574, fh_0, ?_, by decide +kernel, by decide⟩
  refine Ru.op (q := (.iload 4, 2)) (by decide +kernel) rfl ?_
  refine Ru.op (q := (.aload_n 0, 1)) (by decide +kernel) rfl ?_
  refine Ru.slen (L := l.length) rfl rfl (by decide +kernel) ?_
  refine Ru.op (q := (.iconst 5, 1)) (by decide +kernel) rfl ?_
  refine Ru.op (q := (.isub, 1)) (by decide +kernel) rfl ?_
  refine Ru.br2 (k := .gt) (off := 828) (bb := true) (tg := 857) (by decide +kernel) (by decide +kernel) (p1_gt _ h) rfl ?_
  refine Ru.op (q := (.iconst 1, 1)) (by decide +kernel) rfl ?_
  exact Ru.iret (by decide +kernel) rfl rfl
set_option maxRecDepth 100000 in
theorem p1_head {s0 s1 s2 s3 s4 : Int32} {tg : Nat} (hx : mn_opC (.tableswitch 812 0 13 #[69, 157, 170, 242, 255, 268, 312, 368, 452, 508, 576, 651, 664, 756], 69) 39 [] [.int (s0 &&& (Int8.ofInt 15).toInt32)] 0 [] = some (tg, [], [], 0, [])) (h : p1_ok [s0, s1, s2, s3, s4] tg) : p1_ok [s0, s1, s2, s3, s4] 23 := by
  obtain ⟨ns', hs', h, h1, h2⟩ := h
  refine ⟨ns', hs', ?_, h1, h2⟩
  refine Ru.op (q := (.iload 4, 2)) (by decide +kernel) rfl ?_
  refine Ru.op (q := (.aload_n 0, 1)) (by decide +kernel) rfl ?_
  refine Ru.slen (L := 5) rfl rfl (by decide +kernel) ?_
  refine Ru.op (q := (.iconst 5, 1)) (by decide +kernel) rfl ?_
  refine Ru.op (q := (.isub, 1)) (by decide +kernel) rfl ?_
  refine Ru.br2 (k := .gt) (off := 828) (bb := false) (tg := 32) (by decide +kernel) (by decide +kernel) (by decide +kernel) rfl ?_
  refine Ru.op (q := (.aload_n 0, 1)) (by decide +kernel) rfl ?_
  refine Ru.op (q := (.iload 4, 2)) (by decide +kernel) rfl ?_
  refine Ru.sld (L := 5) (k := 0) (v := s0) rfl rfl (by decide +kernel) (by decide +kernel) (by decide +kernel) rfl ?_
  refine Ru.op (q := (.bipush 15, 2)) (by decide +kernel) rfl ?_
  refine Ru.op (q := (.iand, 1)) (by decide +kernel) rfl ?_
  refine Ru.sw (d := 812) (lo2 := 0) (hi := 13) (offs := #[69, 157, 170, 242, 255, 268, 312, 368, 452, 508, 576, 651, 664, 756]) (len := 69) (tg := tg) (by decide +kernel) hx ?_
  exact h
set_option maxRecDepth 100000 in
set_option maxHeartbeats 4000000 in
theorem p1_type {s0 s1 s2 s3 s4 : Int32} : p1_ok [s0, s1, s2, s3, s4] 108 := by
  have ht := @ty_L [s0, s1, s2, s3, s4] 0 20574 1 2 37 0 fh_0 [.ref 1, .ref 13, .ref 28, .ref 30, .ref 35, .int 0, .int (-1)] p1_bv (List.replicate 160 (.int 0)) p1_mv (List.replicate 160 (.int 0)) (.long 0) none none
  cases hf : ty_f (ty_b (ty_v [s0, s1, s2, s3, s4] 0)) 8 0 with
  | none =>
    refine ⟨_, _, ht (Nat.le_refl _) (by show 5 < 2 ^ 31; decide) rfl rfl rfl rfl rfl rfl rfl (by decide) rfl rfl rfl rfl rfl rfl rfl (fun _ y5 y6 => p1_tail rfl) (fun n h => ?_) (fun n h => ?_), by rw [List.length_set]; decide +kernel, by decide⟩
    · rw [hf] at h; cases h
    · rw [hf] at h; cases h
  | some n =>
    have hn := ty_f_le _ _ _ hf
    refine ⟨20574, ty_HM ((ty_H fh_0 1 2 0 p1_bv (List.replicate 160 (.int 0)) (ty_v [s0, s1, s2, s3, s4] 0) n).set 71 (53, [.long (lN (0 + n))])) 36 37 0 p1_mv (List.replicate 160 (.int 0)) (ty_v [s0, s1, s2, s3, s4] 0) n, ht (Nat.le_refl _) (by show 5 < 2 ^ 31; decide) rfl rfl rfl rfl rfl rfl rfl (by decide) rfl rfl rfl rfl rfl rfl rfl (fun h => ?_) (fun k h hk => ?_) (fun k h hk y5 y6 => ?_), ?_, by decide⟩
    · rw [hf] at h; cases h
    · rw [hf] at h; cases h; omega
    · rw [hf] at h; cases h; exact p1_tail rfl
    · unfold ty_HM ty_H
      rw [List.length_set, List.length_set, List.length_set, List.length_set, List.length_set]
      decide +kernel
theorem p1_sw {d lo2 hi : Int} {offs : Array Int} {len pc tg : Nat} {x : Int32} (h : x.toInt < lo2 ∨ hi < x.toInt) (hg : mn_gook pc d = true) (ht : mn_go pc d = tg) : mn_opC (.tableswitch d lo2 hi offs, len) pc [] [.int x] 0 [] = some (tg, [], [], 0, []) := by
  simp only [mn_opC]
  rw [if_pos h, if_pos hg, ht]
set_option maxRecDepth 100000 in
theorem p1_fig {s0 s1 s2 s3 s4 : Int32} : p1_ok [s0, s1, s2, s3, s4] 795 := by
  have h8 : (8 : Int32).toInt = 8 := by decide
  have h00 : (0 : Int32).toInt = 0 := by decide
  by_cases h0 : s1 < 0
  · have hi : s1.toInt < 0 := by rw [Int32.lt_iff_toInt_lt, h00] at h0; exact h0
    exact ⟨_, _, p1_figa (p1_sw (Or.inl hi) (by decide) (by decide)) (decide_eq_true h0) (p1_sw (Or.inl hi) (by decide) (by decide)), by decide +kernel, by decide⟩
  · by_cases h9 : s1 ≤ 8
    · obtain ⟨w, hw, rfl⟩ := nI_of2 (M := 8) (n := 8) h8 h0 h9
      match w, hw with
      | 0, _ => exact ⟨_, _, p1_fig0, by decide +kernel, by decide⟩
      | 1, _ => exact ⟨_, _, p1_fig1, by decide +kernel, by decide⟩
      | 2, _ => exact ⟨_, _, p1_fig2, by decide +kernel, by decide⟩
      | 3, _ => exact ⟨_, _, p1_fig3, by decide +kernel, by decide⟩
      | 4, _ => exact ⟨_, _, p1_fig4, by decide +kernel, by decide⟩
      | 5, _ => exact ⟨_, _, p1_fig5, by decide +kernel, by decide⟩
      | 6, _ => exact ⟨_, _, p1_fig6, by decide +kernel, by decide⟩
      | 7, _ => exact ⟨_, _, p1_fig7, by decide +kernel, by decide⟩
      | 8, _ => exact ⟨_, _, p1_fig8, by decide +kernel, by decide⟩
    · have hi : 8 < s1.toInt := by
        rw [Int32.le_iff_toInt_le, h8] at h9
        omega
      exact ⟨_, _, p1_figb (p1_sw (Or.inr hi) (by decide) (by decide)) (decide_eq_false h0) (decide_eq_false h9) (p1_sw (Or.inr hi) (by decide) (by decide)), by decide +kernel, by decide⟩
theorem p1_15 (s : Int32) : ∃ k, k < 16 ∧ s &&& (Int8.ofInt 15).toInt32 = nI k := by
  obtain ⟨m, hm, rfl⟩ := wb_of32 s
  refine ⟨m % 16, Nat.mod_lt _ (by decide), ?_⟩
  show nI m &&& nI 15 = _
  rw [ty_and]
  exact congrArg nI (Nat.and_two_pow_sub_one_eq_mod m 4)
set_option maxRecDepth 100000 in
set_option maxHeartbeats 4000000 in
theorem p1_five {s0 s1 s2 s3 s4 : Int32} : p1_ok [s0, s1, s2, s3, s4] 23 := by
  obtain ⟨k, hk, hx⟩ := p1_15 s0
  match k, hk with
  | 0, _ =>
    refine p1_head (tg := 108) (by rw [hx]; rfl) ?_
    exact p1_type
  | 1, _ =>
    refine p1_head (tg := 196) (by rw [hx]; rfl) ?_
    exact ⟨_, _, p1_wipe, by decide +kernel, by decide⟩
  | 2, _ =>
    refine p1_head (tg := 209) (by rw [hx]; rfl) ?_
    cases g0 : mn_cmp .eq s1 0
    · exact ⟨_, _, p1_asm1 g0, by decide +kernel, by decide⟩
    · exact ⟨_, _, p1_asm0 g0, by decide +kernel, by decide⟩
  | 3, _ =>
    refine p1_head (tg := 281) (by rw [hx]; rfl) ?_
    exact ⟨_, _, p1_at, by decide +kernel, by decide⟩
  | 4, _ =>
    refine p1_head (tg := 294) (by rw [hx]; rfl) ?_
    exact ⟨_, _, p1_state, by decide +kernel, by decide⟩
  | 5, _ =>
    refine p1_head (tg := 307) (by rw [hx]; rfl) ?_
    exact ⟨_, _, p1_step, by decide +kernel, by decide⟩
  | 6, _ =>
    refine p1_head (tg := 351) (by rw [hx]; rfl) ?_
    cases g0 : mn_cmp .lt s1 0
    · cases g1 : mn_cmp .le s1 (Int8.ofInt 50).toInt32
      · exact ⟨_, _, p1_run1 g0 g1, by decide +kernel, by decide⟩
      · cases g2 : mn_cmp .ge (Int32.ofInt 0) s1
        · exact ⟨_, _, p1_run3 g0 g1 g2, by decide +kernel, by decide⟩
        · exact ⟨_, _, p1_run2 g0 g1 g2, by decide +kernel, by decide⟩
    · exact ⟨_, _, p1_run0 g0, by decide +kernel, by decide⟩
  | 7, _ =>
    refine p1_head (tg := 407) (by rw [hx]; rfl) ?_
    cases g0 : mn_cmp .eq s1 0
    · cases g1 : mn_cmp .lt s2 0
      · exact ⟨_, _, p1_prt3 g0 g1, by decide +kernel, by decide⟩
      · exact ⟨_, _, p1_prt2 g0 g1, by decide +kernel, by decide⟩
    · cases g1 : mn_cmp .lt s2 0
      · exact ⟨_, _, p1_prt1 g0 g1, by decide +kernel, by decide⟩
      · exact ⟨_, _, p1_prt0 g0 g1, by decide +kernel, by decide⟩
  | 8, _ =>
    refine p1_head (tg := 491) (by rw [hx]; rfl) ?_
    cases g0 : mn_cmp .lt s1 0
    · exact ⟨_, _, p1_out1 g0, by decide +kernel, by decide⟩
    · exact ⟨_, _, p1_out0 g0, by decide +kernel, by decide⟩
  | 9, _ =>
    refine p1_head (tg := 547) (by rw [hx]; rfl) ?_
    cases g0 : mn_cmp .lt s1 0
    · exact ⟨_, _, p1_cla1 g0, by decide +kernel, by decide⟩
    · exact ⟨_, _, p1_cla0 g0, by decide +kernel, by decide⟩
  | 10, _ =>
    refine p1_head (tg := 615) (by rw [hx]; rfl) ?_
    cases g0 : mn_cmp .lt s1 0
    · exact ⟨_, _, p1_sub1 g0 (decide_eq_true (Int32.not_lt.mp (of_decide_eq_false g0))), by decide +kernel, by decide⟩
    · exact ⟨_, _, p1_sub0 g0, by decide +kernel, by decide⟩
  | 11, _ =>
    refine p1_head (tg := 690) (by rw [hx]; rfl) ?_
    exact ⟨_, _, p1_proof, by decide +kernel, by decide⟩
  | 12, _ =>
    refine p1_head (tg := 703) (by rw [hx]; rfl) ?_
    exact ⟨_, _, p1_clm, by decide +kernel, by decide⟩
  | 13, _ =>
    refine p1_head (tg := 795) (by rw [hx]; rfl) ?_
    exact p1_fig
  | 14, _ =>
    refine p1_head (tg := 851) (by rw [hx]; rfl) ?_
    exact ⟨_, _, p1_tail rfl, by decide +kernel, by decide⟩
  | 15, _ =>
    refine p1_head (tg := 851) (by rw [hx]; rfl) ?_
    exact ⟨_, _, p1_tail rfl, by decide +kernel, by decide⟩
  | k + 16, hk => exact absurd hk (by omega)
theorem p1_all {l : List Int32} (h : l.length ≤ 5) : ∃ ns' hs', Ru (some l) 2048 84000 172 (0, mn_pad [some (.retAddr 0)] 7, [], 0, []) ((0, some (.int 1)), ns', hs') ∧ hs'.length ≤ 100 ∧ ns' ≤ 30000 := by
  have h5 : p1_ok l 23 := by
    by_cases h4 : l.length < 5
    · exact p1_short h4
    · match l, h, h4 with
      | [s0, s1, s2, s3, s4], _, _ => exact p1_five
      | [], _, h4 => exact absurd (by decide) h4
      | [_], _, h4 => exact absurd (by simp) h4
      | [_, _], _, h4 => exact absurd (by simp) h4
      | [_, _, _], _, h4 => exact absurd (by simp) h4
      | [_, _, _, _], _, h4 => exact absurd (by simp) h4
      | _ :: _ :: _ :: _ :: _ :: _ :: _, h, _ => exact absurd h (by simp only [List.length_cons]; omega)
  obtain ⟨ns', hs', h6, h7, h8⟩ := h5
  exact ⟨ns', hs', p1_start h6, h7, h8⟩
end
section
/-! THE CLAIM OUT OF ONE WALK OF THE LAW'S BODY. Your part is whole_start (and what it stands on); all else here is the same for every law, but numbers. -/
def R_law : String := "RefutationDeskLaw"
def lw_P (b : Addr) (xs : List Int32) (args : Array Value) (s : State) : Prop := args = #[.ref b] ∧ s.IntsAt b xs ∧ xs.length ≤ 5 ∧ (Jvm.Cond.and given_1 narrow_1).before args s = true
def lw_Q (_ : Array Value) (s : State) (o : Outcome) (t : State) : Prop := o = .returned (some (.int 1)) ∧ Framed s o t [] 600002 7302232
def lw_Z (below : List Frame) (a : Array Value) (s : State) : State → Prop := fun t => ∃ o, t.status = .running ∧ Ended t below o ∧ lw_Q a s o t
/-- the law's own end, with 1 on the stack, nothing written that was there before, its room as the claim has it -/
theorem lw_ret {p : Program} {l : Launch} {e : Env} {s : State} {m : MethodId} {below : List Frame} {meth : Method} {c : Code} {b : Nat} (hx : p.tables.exec = Jvm.exec) (hb : c.code = code) (hr : meth.sig.returnType = ret) (hlocks : meth.locks = false) {pc : Nat} {H : Heap} {ls : Array Slot} (hdg : decode code pc = .ok (.ireturn, 1)) : W p l e room_1 s m #[Value.ref b] below meth c H [] 600002 7302232 (lw_Z below #[Value.ref b] s) (F0 m pc ls [.int 1]) := by
  intro T hT X
  obtain ⟨fs, hret, hrun, hended, hW, hframe⟩ := X.leave (v := some (.int 1)) (hlocks := hlocks) (fun h => by rw [hr] at h; cases h)
  have hmeth' : T.vm.method? m = some meth := X.method'
  refine ⟨T.setFrames fs, ?_, .returned (some (.int 1)), hrun, hended, rfl, ⟨_, rfl⟩, hW, hframe⟩
  jvm_step X.here [X.here.top, hx, hb, hdg, hmeth', hr, ret, narrow_b1]
  (try refine ⟨rfl, ?_⟩); (try refine ⟨rfl, ?_⟩)
  first | (intro acts; rw [hret _ acts rfl rfl rfl]) | rw [hret _ _ rfl rfl rfl]
  exact Steps.refl _
/-- what holds at the law's entry: the machine, the code, the tables' words (any of lw_tbl by 'hts w (by decide +kernel)'), the script of L ints xs at the cell b, what the Statement gives of the start (any of its parts by flat_of_before) -/
def lw_At (p : Program) (s : State) (m : MethodId) (meth : Method) (c : Code) (b L : Nat) (xs : Nat → Int32) : Prop :=
  p.tables.exec = Jvm.exec ∧ c.code = code ∧ meth.sig.returnType = ret ∧ c.maxLocals = 7 ∧ s.vm.findClass R_law = some m.cls ∧ (∀ w ∈ lw_tbl, w.before #[Value.ref b] s = true) ∧ va_X b L xs s s.heap ∧ b < s.heap.size ∧ meth.locks = false ∧ (Jvm.Cond.and given_1 narrow_1).before #[Value.ref b] s = true ∧ c.exceptionTable.isEmpty = true
theorem mt_o4 : Cond.arrayOver (.object mt_E4) ∈ mt_WT := mt_in_of 280 (by decide +kernel) (by decide +kernel)
theorem mt_o5 : Cond.arrayOver (.object mt_E5) ∈ mt_WT := mt_in_of 123 (by decide +kernel) (by decide +kernel)
/-- the pure statement: on every script the small machine runs the law to its end, which answers 1, within the room -/
def pr_law (N : Nat) : Prop := ∀ sc : List Int32, sc.length ≤ N → ∃ (n ns' : Nat) (hs' : mn_H), mn_run n (some sc) 2048 84000 172 (0, mn_pad [some (.retAddr 0)] 7, [], 0, []) = some ((0, some (.int 1)), ns', hs') ∧ hs'.length ≤ 600002 ∧ ns' ≤ 7302232
theorem pr_K {args : Array Value} {s : State} (hts : ∀ w ∈ mt_WT, w.before args s = true) : ∃ (D : va_G) (aC : Nat → ClassId), va_K D mt_cl (mn_tys aC mt_E4 mt_E5) s := by
  have h : ∀ ci : Nat, ∃ (z : ClassId × (Nat → Nat)), ∀ q : vw_C, mt_cl[ci]? = some q → u_Kn s q.1 q.2.1 q.2.2 z.1 z.2 := by
    intro ci
    by_cases hci : ci < 11
    · obtain ⟨C, T, N, ty, f1, f2, -, -, -, -, -, -, -, -, -, f11, -⟩ := mt_cf ci hci
      obtain ⟨cC, iS, hk⟩ := u_known hts f2 (hts _ f11)
      refine ⟨(cC, iS), fun q hq => ?_⟩
      rw [f1] at hq
      cases hq
      exact hk
    · refine ⟨(0, fun _ => 0), fun q hq => ?_⟩
      have h9 := (List.getElem?_eq_some_iff.mp hq).1
      exact absurd h9 hci
  obtain ⟨f, hf⟩ := Classical.axiomOfChoice h
  obtain ⟨-, -, -, -, -, ⟨g0, g1, g2, g3⟩, -, -⟩ := mt_GT
  obtain ⟨c0, k0, p0, a0, b0, d0⟩ := Cond.arrayClass_spec (hts _ g0)
  obtain ⟨c1, k1, p1, a1, b1, d1⟩ := Cond.arrayClass_spec (hts _ g1)
  obtain ⟨c2, k2, p2, a2, b2, d2⟩ := Cond.arrayClass_spec (hts _ g2)
  obtain ⟨c3, k3, p3, a3, b3, d3⟩ := Cond.arrayClass_spec (hts _ g3)
  obtain ⟨p4, c4, k4, x4, -, b4, d4, a4⟩ := Cond.arrayOver_spec (hts _ mt_o4)
  obtain ⟨p5, c5, k5, x5, -, b5, d5, a5⟩ := Cond.arrayOver_spec (hts _ mt_o5)
  refine ⟨(fun ci => (f ci).1, fun ci => (f ci).2), fun k => match k with
    | 0 => c0
    | 1 => c1
    | 2 => c2
    | 3 => c3
    | 4 => c4
    | _ => c5, fun ci q hq => hf ci q hq, fun k q hk => ?_⟩
  match k, hk with
  | 0, hk => cases hk; exact ⟨fun N z => ⟨(fun k h => by cases h), k0, b0, p0, d0⟩, a0⟩
  | 1, hk => cases hk; exact ⟨fun N z => ⟨(fun k h => by cases h), k1, b1, p1, d1⟩, a1⟩
  | 2, hk => cases hk; exact ⟨fun N z => ⟨(fun k h => by cases h), k2, b2, p2, d2⟩, a2⟩
  | 3, hk => cases hk; exact ⟨fun N z => ⟨(fun k h => by cases h), k3, b3, p3, d3⟩, a3⟩
  | 4, hk => cases hk; exact ⟨fun N z => ⟨(fun k h => by cases h), k4, b4, p4, d4⟩, k4, p4, b4, d4, x4, a4⟩
  | 5, hk => cases hk; exact ⟨fun N z => ⟨(fun k h => by cases h), k5, b5, p5, d5⟩, k5, p5, b5, d5, x5, a5⟩
  | n + 6, hk => simp [mn_tys] at hk
theorem pr_nc {args : Array Value} {s : State} (h : ∀ k k2, k < 4 → k2 < 4 → k ≠ k2 → (Cond.not (.castable (mt_ex.getD k "") (mt_ex.getD k2 ""))).before args s = true) : ∀ (k k2 : Nat) (X C : String), k ≠ k2 → mt_ex[k]? = some X → mt_ex[k2]? = some C → va_Nc X C s := by
  intro k k2 X C hne h1 h2
  have l1 : k < 4 := (List.getElem?_eq_some_iff.mp h1).1
  have l2 : k2 < 4 := (List.getElem?_eq_some_iff.mp h2).1
  have h9 := h k k2 l1 l2 hne
  rw [List.getD_eq_getElem?_getD, List.getD_eq_getElem?_getD, h1, h2] at h9
  exact va_Nc.of h9
/-- W, in more room -/
theorem pr_W_room {p : Program} {l : Launch} {e : Env} {R R' : Room} {s : State} {m : MethodId} {args : Array Value} {below : List Frame} {meth : Method} {c : Code} {H : Heap} {locs : List Loc} {cells slots : Nat} {Q : State → Prop} {g : JFrame} (h1 : R'.frames ≤ R.frames) (h2 : R'.cells ≤ R.cells) (h3 : R'.slots ≤ R.slots) (h4 : R'.locals ≤ R.locals) (h : W p l e R' s m args below meth c H locs cells slots Q g) : W p l e R s m args below meth c H locs cells slots Q g := by
  intro T hT X
  refine h T hT ⟨X.admits, X.cas, X.clock, X.frames, ?_, X.hears, X.method, X.code, X.here, X.tail, X.warmed, X.limits, X.bytes, X.same⟩
  have hr := X.room
  simp only [State.hasRoom, Bool.and_eq_true, decide_eq_true_eq] at hr ⊢
  obtain ⟨⟨⟨⟨a1, a2⟩, a3⟩, a4⟩, a5⟩ := hr
  exact ⟨⟨⟨⟨by omega, by omega, by omega, by omega, by omega, a2.2.2.2.2⟩, by omega⟩, by omega⟩, a5⟩
set_option maxRecDepth 100000 in
theorem pr_ncs : ∀ k, k < 4 → ∀ k2, k2 < 4 → k ≠ k2 → (Jvm.Cond.not (.castable (mt_ex.getD k "") (mt_ex.getD k2 ""))) ∈ flatC (Jvm.Cond.and given_1 narrow_1) := by decide +kernel
set_option maxRecDepth 100000 in
theorem pr_iss : mn_is1 ∈ flatC (Jvm.Cond.and given_1 narrow_1) ∧ mn_is2 ∈ flatC (Jvm.Cond.and given_1 narrow_1) := by decide +kernel
theorem pr_lss : mn_ls1 ∈ lw_tbl ∧ mn_ls2 ∈ lw_tbl := ⟨List.mem_append_right _ (List.mem_of_getElem? (i := 374) (by decide +kernel)), List.mem_append_right _ (List.mem_of_getElem? (i := 376) (by decide +kernel))⟩
theorem pr_tini : Cond.initialized Bundle.tN ∈ lw_tbl := List.mem_append_right _ (List.mem_of_getElem? (i := 11) (by decide +kernel))
set_option maxHeartbeats 4000000 in
theorem whole_start (PR : pr_law 5) {p : Program} {e : Env} {s : State} {m : MethodId} {below : List Frame} {meth : Method} {c : Code} (l : Launch) (hfl : l.stackTraces = false) {b L : Nat} {xs : Nat → Int32} (hL : L ≤ 5) (C0 : lw_At p s m meth c b L xs) : W p l e room_1 s m #[Value.ref b] below meth c s.heap [] 0 0 (lw_Z below #[Value.ref b] s) (entryFrame m ([Value.ref b] : List Value).toArray 7) := by
  obtain ⟨hx, hb, hr, hml, hown, hts0, hX0, hbl, hlocks, hgv, hexc⟩ := C0
  have hts : ∀ w ∈ mt_WT, w.before #[Value.ref b] s = true := fun w hw => hts0 w (List.mem_filter.mp hw).1
  have hfl2 := flat_of_before _ hgv
  obtain ⟨D, aC, hK⟩ := pr_K hts
  generalize hsc : (List.range L).map xs = sc
  have hscl : sc.length = L := by rw [← hsc]; simp
  obtain ⟨n, ns', hs', hrun, hcl, hsl⟩ := PR sc (by omega)
  have hA : ∀ a : Nat, a < s.heap.size → ¬ (fun q => s.heap.size ≤ q) a := fun a h1 h2 => by
    have h2 : s.heap.size ≤ a := h2
    omega
  have hXX : mn_X (s.heap.size, b) s s.heap :=
    ⟨va_Zqof (hts0 _ pr_lss.1) (hts0 _ pr_tini) (hfl2 _ pr_iss.1) hA, va_Zqof (hts0 _ pr_lss.2) (hts0 _ pr_tini) (hfl2 _ pr_iss.2) hA, pr_nc (fun k k2 h1 h2 h3 => hfl2 _ (pr_ncs k h1 k2 h2 h3)), mn_LS.of (hts0 _ pr_lss.1) hA, mn_LS.of (hts0 _ pr_lss.2) hA⟩
  have hXs : va_X b sc.length (fun i => sc.getD i 0) s s.heap := by
    obtain ⟨scr, s1, s2, s3, s4, s5⟩ := hX0
    refine ⟨scr, s1, s2, s3, by rw [hscl]; exact s4, fun j hj => ?_⟩
    rw [hscl] at hj
    rw [s5 j hj, ← hsc]
    simp [hj]
  have hexc' : c.exceptionTable.toList.map (fun h => (h.startPc, h.endPc, h.handlerPc, h.catchType)) = (mt_hl 172).map (fun t => (t.1, t.2.1, t.2.2.1, t.2.2.2.1)) := by
    rw [Array.isEmpty_iff.mp hexc]
    rfl
  have C : mn_cx mt_WT D aC (s.heap.size, b) p s m #[Value.ref b] meth c 172 0 (some sc) :=
    ⟨hx, hb, hml, hown, hts, hK, rfl, hXX, (fun h => absurd h (by decide)), hr, hlocks, hexc', (fun l' h => by cases h; exact ⟨hXs, hbl, hbl⟩)⟩
  have hent : (mn_ent [.retAddr 0]).length ≤ 7 := by decide
  have hR0 : mn_R D mt_cl aC (s.heap.size, b) [] s.heap := ⟨by simp, [], fun k q hq => by simp at hq, ⟨fun i j p q hp => by simp at hp, fun k q hq => by simp at hq⟩, fun a e => by simp⟩
  have h9 := mn_sound (l := l) (D := D) (aC := aC) (b := (s.heap.size, b)) hfl mt_GW mt_GT mt_HT n (some sc) 2048 84000 172 0 (mn_pad [some (.retAddr 0)] 7) [] 0 [] (0, some (.int 1)) ns' hs' hrun (p := p) (e := e) (below := below) (n0 := 0) (m0 := 0) C hR0 (va_S.rf (A := fun q => s.heap.size ≤ q)) (mn_L_entry (s.heap.size, b) [.retAddr 0] hent) (mn_pad_len hent) (Nat.le_refl _) (Nat.le_refl _)
  rw [lg_entry_eq]
  refine pr_W_room (R' := { frames := 2048, cells := hs'.length - 0, slots := ns' - 0, locals := 84000 }) (Nat.le_refl _) (by show hs'.length - 0 ≤ 600002; omega) (by show ns' - 0 ≤ 7302232; omega) (Nat.le_refl _) (mn_W_mono (fun t ht => ?_) h9)
  obtain ⟨o, t1, t2, t3, t4, t5, Lc, t6, t7, t8⟩ := ht
  refine ⟨o, t1, t2, t3, ⟨_, t3⟩, t6, t7.weaken (fun y hy hlt => ?_) (by omega) (by omega)⟩
  have h8 := t8 y hy
  have h8 : s.heap.size ≤ y.base := h8
  exact absurd hlt (Nat.not_lt.mpr h8)
end
section
theorem pr_done : pr_law 5 := fun sc h => by
  obtain ⟨ns', hs', ⟨n, hn⟩, h7, h8⟩ := p1_all h
  exact ⟨n, ns', hs', hn, Nat.le_trans h7 (by decide), Nat.le_trans h8 (by decide)⟩
end
section
-- ===== YOUR PART ENDS =====
set_option maxHeartbeats 4000000 in
theorem lw_walk (PR : pr_law 5) (l : Launch) (hfl : l.stackTraces = false) (b : Addr) (xs : List Int32) : MetFree l x (headSpec (Jvm.Cond.code x code maxLocals ret :: tables_1) room_1) (lw_P b xs) (fun _ _ _ _ _ => True) lw_Q := by
  refine MetFree.of_bodyS (code := code) (maxLocals := maxLocals) (ret := ret) (by decide) ?_ ?_
  · intro args s m h hn
    obtain ⟨meth, c, h1, h2, h3, h4, h5, h6, -, -⟩ := Cond.code_spec hn (atoms_spec (ws := Jvm.Cond.code x code maxLocals ret :: tables_1) h _ List.mem_cons_self)
    exact ⟨meth, c, h1, h2, h3, h4, h5, h6⟩
  · intro p e s m args below meth c s₁ B hml0 hP _
    obtain ⟨rfl, hx, hbd, hgv⟩ := hP
    obtain ⟨scr, harrAt, hlist, hof, hsmall⟩ := hx
    obtain ⟨hcb, hkn, -, -⟩ := State.arrayAt?_spec harrAt
    have hown : s.vm.findClass R_law = some m.cls := findClass_of_methodNamed B.named
    have hts0 : ∀ c ∈ (Jvm.Cond.code x code maxLocals ret :: tables_1), c.before #[Value.ref b] s = true := atoms_spec (ws := Jvm.Cond.code x code maxLocals ret :: tables_1) B.pre
    have hts : ∀ w ∈ lw_tbl, w.before #[Value.ref b] s = true := k2_hts_sels lw_privs (fun w hw => hts0 w (List.mem_cons_of_mem _ hw)) lw_privs_ok
    have hml : c.maxLocals = 7 := B.maxLocals_eq (hts0 _ List.mem_cons_self)
    have X₀ : Stand p l e room_1 s m #[Value.ref b] below meth c s₁ [] 0 0 := Stand.of_body B
    have hh0 : s₁.heap = s.heap := by rw [B.state]; rfl
    have hsz : scr.slots.size = xs.length := by rw [← Array.length_toList, hlist, List.length_map]
    have hval : ∀ j : Nat, j < xs.length → scr.slots[j]? = some (.int (xs.getD j 0)) := fun j hj => by
      rw [← Array.getElem?_toList, hlist]
      simp [hj]
    have hbl : b < s.heap.size := (Array.getElem?_eq_some_iff.mp hcb).1
    have hX : va_X b xs.length (fun j => xs.getD j 0) s s.heap := ⟨scr, hcb, hof, hkn, hsz, hval⟩
    have K : W p l e room_1 s m #[Value.ref b] below meth c s₁.heap [] 0 0 (lw_Z below #[Value.ref b] s) (entryFrame m ([Value.ref b] : List Value).toArray 7) := by
      rw [hh0]
      exact whole_start PR l hfl hbd ⟨B.exec, B.bytes, B.returns, hml, hown, hts, hX, hbl, B.notSynchronized, hgv, B.noHandlers (hts0 _ List.mem_cons_self)⟩
    obtain ⟨t, a1, o, b1, b2, b3⟩ := K s₁ rfl X₀
    exact ⟨t, o, a1, b1, b2, b3⟩
theorem lw_pre_spec {args : Array Value} {s : State} (h : (Jvm.Cond.and given_1 narrow_1).before args s = true) (hr : rest_1_c.before args s = true) : ∃ (b : Addr) (xs : List Int32), lw_P b xs args s := by
  have hs := flat_of_before _ h
  have hq := flat_of_before _ hr
  have hc : (Cond.count 1).before args s = true := hs _ (by decide +kernel)
  have harr : (Cond.arrayOf (.arg 0) .int).before args s = true := hs _ (by decide +kernel)
  have hle : (Cond.le (.length (.arg 0)) (.int 5)).before args s = true := hs _ (by decide +kernel)
  have hlen : (Cond.isInt (.length (.arg 0))).before args s = true := hq _ (by decide +kernel)
  have hall : (Cond.all (.arg 0) (.isInt (.elem (.arg 0) (.index 0)))).before args s = true := hq _ (by decide +kernel)
  obtain ⟨b, xs, hb, hx⟩ := State.ints_of_pre rfl harr hlen hall
  have hsm : xs.length < 2 ^ 31 := hx.choose_spec.2.2.2
  have hev : (Term.length (.arg 0)).eval args s none [] s = some (.int xs.length.toInt32) := hx.length_eval hb
  have hv := Cond.le_ints hev (show (Term.int 5).eval args s none [] s = some (.int 5) from rfl)
  have hd : xs.length.toInt32 ≤ 5 := by
    simpa [Cond.before, Cond.holds, hv] using hle
  have hN : xs.length ≤ 5 := (Int32.ofNat_le_ofNat hsm (by decide)).mp (show Int32.ofNat xs.length ≤ Int32.ofNat 5 from hd)
  exact ⟨b, xs, Cond.one_arg hc (show args[0]? = some (.ref b) from hb), hx, hN, h⟩
theorem lw_comes (PR : pr_law 5) (l : Launch) (hfl : l.stackTraces = false) : Comes l x (Jvm.Cond.code x code maxLocals ret :: tables_1) room_1 (fun tb e args s => Calls_1 tb e args s ∧ rest_1 tb e args s ∧ Pre_1 tb e args s)
    (fun _ _ args s o t => lw_Q args s o t) := by
  intro p e ha hc hk s m args below hf hfit hheap happ hpre
  obtain ⟨b, xs, hP⟩ := lw_pre_spec hpre.2.2 hpre.2.1
  obtain ⟨k, o, h1, h2, h3, hQ⟩ := lw_walk PR l hfl b xs p e ha hc hk s m args below hf ((Spec.applies_iff_loose hf).mp happ).1 hP trivial
  exact ⟨k, o, h1, h2, h3, hQ⟩
theorem lw_frame {s t : State} {o : Outcome} {args : Array Value} (h : Framed s o t [] 600002 7302232) :
    Framed s o t (fieldLocs frame_1_writes args s ++ arrayLocs frame_1_arrays args s ++ staticLocs frame_1_statics s) 600002 7302232 := h
theorem lw_limb (PR : pr_law 5) (L : Cond) (hL : ∀ (args : Array Value) (s t : State), L.after args s (.returned (some (.int 1))) t = true) :
    ArmFor flags0 classFile x code maxLocals ret World_1 tables_1 room_1 Calls_1 rest_1 Pre_1
      (fun tb e a s o t => postC L tb e a s o t ∧ Framed s o t (fieldLocs frame_1_writes a s ++ arrayLocs frame_1_arrays a s ++ staticLocs frame_1_statics s) 600002 7302232) := by
  intro l hflags _ _ p e ha hc hk s m args below hf hfit hheap happ hpre
  obtain ⟨k, o, h1, h2, h3, rfl, hF⟩ := lw_comes PR l (by rw [Launch.stackTraces, hflags]; decide +kernel) p e ha hc hk s m args below hf hfit hheap happ hpre
  exact ⟨k, _, h1, h2, h3, hL args s _, lw_frame hF⟩
theorem i_vc : Claimed_1_1 ∧ Claimed_1_2 := ⟨lw_limb pr_done limb_1_1 (fun args s t => by simp [limb_1_1, Cond.after, Cond.holds, Cond.value]), lw_limb pr_done limb_1_2 (fun args s t => Cond.after_iff.mpr (by
  first | (rw [show limb_1_2 = Cond.eq .result (.int 1) from rfl, Cond.eq_ints (x := 1) (y := 1) rfl rfl]; simp; done) | (simp [limb_1_2, Cond.value, Term.eval]; done)))⟩
end
