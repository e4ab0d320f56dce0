section
-- ===== PART A: goes FIRST, ahead of the names: the tables' words, and 'selects' of the private methods out of them =====
/-- a private method of a class that the tables say can be made, by its rows of tables_1 -/
def lw_okq (q : MethodName × Nat) : Prop := (q.1.cls ≠ "java/lang/invoke/MethodHandle" ∧ q.1.cls ≠ "java/lang/invoke/VarHandle") ∧ Cond.instantiable q.1.cls q.2 ∈ tables_1 ∧ Cond.privateMethod q.1 ∈ tables_1 ∧ Cond.instanceMethod q.1 ∈ tables_1
theorem lw_p0 : lw_okq (⟨"TermJudge", "mayBeMade", "(III)Z"⟩, 6) := ⟨⟨by decide +kernel, by decide +kernel⟩, List.mem_of_getElem? (i := 18) (by decide +kernel), List.mem_of_getElem? (i := 163) (by decide +kernel), List.mem_of_getElem? (i := 164) (by decide +kernel)⟩
theorem lw_p1 : lw_okq (⟨"TermJudge$Nodes", "fill", "(IIII)V"⟩, 8) := ⟨⟨by decide +kernel, by decide +kernel⟩, List.mem_of_getElem? (i := 26) (by decide +kernel), List.mem_of_getElem? (i := 197) (by decide +kernel), List.mem_of_getElem? (i := 198) (by decide +kernel)⟩
theorem lw_p2 : lw_okq (⟨"TermJudge$Marks", "writeNode", "(LTermJudge$Nodes;I)V"⟩, 3) := ⟨⟨by decide +kernel, by decide +kernel⟩, List.mem_of_getElem? (i := 124) (by decide +kernel), List.mem_of_getElem? (i := 256) (by decide +kernel), List.mem_of_getElem? (i := 257) (by decide +kernel)⟩
theorem lw_p3 : lw_okq (⟨"TermJudge$Marks", "readNode", "(LTermJudge$Nodes;Z)I"⟩, 3) := ⟨⟨by decide +kernel, by decide +kernel⟩, List.mem_of_getElem? (i := 124) (by decide +kernel), List.mem_of_getElem? (i := 289) (by decide +kernel), List.mem_of_getElem? (i := 290) (by decide +kernel)⟩
theorem lw_p4 : lw_okq (⟨"TermJudge$Nodes", "grow", "()V"⟩, 8) := ⟨⟨by decide +kernel, by decide +kernel⟩, List.mem_of_getElem? (i := 26) (by decide +kernel), List.mem_of_getElem? (i := 305) (by decide +kernel), List.mem_of_getElem? (i := 306) (by decide +kernel)⟩
theorem lw_p5 : lw_okq (⟨"java/lang/Throwable", "fillInStackTrace", "(I)Ljava/lang/Throwable;"⟩, 6) := ⟨⟨by decide +kernel, by decide +kernel⟩, List.mem_of_getElem? (i := 348) (by decide +kernel), List.mem_of_getElem? (i := 346) (by decide +kernel), List.mem_of_getElem? (i := 347) (by decide +kernel)⟩
theorem lw_p6 : lw_okq (⟨"TermJudge", "begin", "(III)V"⟩, 6) := ⟨⟨by decide +kernel, by decide +kernel⟩, List.mem_of_getElem? (i := 18) (by decide +kernel), List.mem_of_getElem? (i := 416) (by decide +kernel), List.mem_of_getElem? (i := 417) (by decide +kernel)⟩
theorem lw_p7 : lw_okq (⟨"TermJudge$Finder", "typeOfVariable", "(I)I"⟩, 5) := ⟨⟨by decide +kernel, by decide +kernel⟩, List.mem_of_getElem? (i := 102) (by decide +kernel), List.mem_of_getElem? (i := 455) (by decide +kernel), List.mem_of_getElem? (i := 456) (by decide +kernel)⟩
theorem lw_p8 : lw_okq (⟨"TermJudge$Finder", "typeOfPi", "(II)I"⟩, 5) := ⟨⟨by decide +kernel, by decide +kernel⟩, List.mem_of_getElem? (i := 102) (by decide +kernel), List.mem_of_getElem? (i := 484) (by decide +kernel), List.mem_of_getElem? (i := 485) (by decide +kernel)⟩
theorem lw_p9 : lw_okq (⟨"TermJudge$Reducer", "nextPlace", "(I)I"⟩, 7) := ⟨⟨by decide +kernel, by decide +kernel⟩, List.mem_of_getElem? (i := 74) (by decide +kernel), List.mem_of_getElem? (i := 497) (by decide +kernel), List.mem_of_getElem? (i := 498) (by decide +kernel)⟩
theorem lw_p10 : lw_okq (⟨"TermJudge$Finder", "open", "(I)V"⟩, 5) := ⟨⟨by decide +kernel, by decide +kernel⟩, List.mem_of_getElem? (i := 102) (by decide +kernel), List.mem_of_getElem? (i := 521) (by decide +kernel), List.mem_of_getElem? (i := 522) (by decide +kernel)⟩
theorem lw_p11 : lw_okq (⟨"TermJudge$Finder", "typeOfFunction", "(II)I"⟩, 5) := ⟨⟨by decide +kernel, by decide +kernel⟩, List.mem_of_getElem? (i := 102) (by decide +kernel), List.mem_of_getElem? (i := 529) (by decide +kernel), List.mem_of_getElem? (i := 530) (by decide +kernel)⟩
theorem lw_p12 : lw_okq (⟨"TermJudge$Finder", "notTooMuch", "(I)I"⟩, 5) := ⟨⟨by decide +kernel, by decide +kernel⟩, List.mem_of_getElem? (i := 102) (by decide +kernel), List.mem_of_getElem? (i := 533) (by decide +kernel), List.mem_of_getElem? (i := 534) (by decide +kernel)⟩
theorem lw_p13 : lw_okq (⟨"TermJudge$Finder", "typeOfApplication", "(II)I"⟩, 5) := ⟨⟨by decide +kernel, by decide +kernel⟩, List.mem_of_getElem? (i := 102) (by decide +kernel), List.mem_of_getElem? (i := 539) (by decide +kernel), List.mem_of_getElem? (i := 540) (by decide +kernel)⟩
theorem lw_p14 : lw_okq (⟨"TermJudge$Reducer", "open", "(II)V"⟩, 7) := ⟨⟨by decide +kernel, by decide +kernel⟩, List.mem_of_getElem? (i := 74) (by decide +kernel), List.mem_of_getElem? (i := 548) (by decide +kernel), List.mem_of_getElem? (i := 549) (by decide +kernel)⟩
theorem lw_p15 : lw_okq (⟨"TermJudge$Reducer", "valueOf", "([I)I"⟩, 7) := ⟨⟨by decide +kernel, by decide +kernel⟩, List.mem_of_getElem? (i := 74) (by decide +kernel), List.mem_of_getElem? (i := 554) (by decide +kernel), List.mem_of_getElem? (i := 555) (by decide +kernel)⟩
def lw_privs_1 : List (MethodName × Nat) := [(⟨"TermJudge", "mayBeMade", "(III)Z"⟩, 6), (⟨"TermJudge$Nodes", "fill", "(IIII)V"⟩, 8), (⟨"TermJudge$Marks", "writeNode", "(LTermJudge$Nodes;I)V"⟩, 3), (⟨"TermJudge$Marks", "readNode", "(LTermJudge$Nodes;Z)I"⟩, 3), (⟨"TermJudge$Nodes", "grow", "()V"⟩, 8), (⟨"java/lang/Throwable", "fillInStackTrace", "(I)Ljava/lang/Throwable;"⟩, 6), (⟨"TermJudge", "begin", "(III)V"⟩, 6), (⟨"TermJudge$Finder", "typeOfVariable", "(I)I"⟩, 5), (⟨"TermJudge$Finder", "typeOfPi", "(II)I"⟩, 5), (⟨"TermJudge$Reducer", "nextPlace", "(I)I"⟩, 7), (⟨"TermJudge$Finder", "open", "(I)V"⟩, 5), (⟨"TermJudge$Finder", "typeOfFunction", "(II)I"⟩, 5), (⟨"TermJudge$Finder", "notTooMuch", "(I)I"⟩, 5), (⟨"TermJudge$Finder", "typeOfApplication", "(II)I"⟩, 5), (⟨"TermJudge$Reducer", "open", "(II)V"⟩, 7), (⟨"TermJudge$Reducer", "valueOf", "([I)I"⟩, 7)]
theorem lw_r1 : ∀ q ∈ lw_privs_1, lw_okq q := List.forall_mem_cons.mpr ⟨lw_p0, List.forall_mem_cons.mpr ⟨lw_p1, List.forall_mem_cons.mpr ⟨lw_p2, List.forall_mem_cons.mpr ⟨lw_p3, List.forall_mem_cons.mpr ⟨lw_p4, List.forall_mem_cons.mpr ⟨lw_p5, List.forall_mem_cons.mpr ⟨lw_p6, List.forall_mem_cons.mpr ⟨lw_p7, List.forall_mem_cons.mpr ⟨lw_p8, List.forall_mem_cons.mpr ⟨lw_p9, List.forall_mem_cons.mpr ⟨lw_p10, List.forall_mem_cons.mpr ⟨lw_p11, List.forall_mem_cons.mpr ⟨lw_p12, List.forall_mem_cons.mpr ⟨lw_p13, List.forall_mem_cons.mpr ⟨lw_p14, List.forall_mem_cons.mpr ⟨lw_p15, fun _ h => absurd h List.not_mem_nil⟩⟩⟩⟩⟩⟩⟩⟩⟩⟩⟩⟩⟩⟩⟩⟩
theorem lw_p16 : lw_okq (⟨"TermJudge$Reducer", "mayBeSame", "(II)Z"⟩, 7) := ⟨⟨by decide +kernel, by decide +kernel⟩, List.mem_of_getElem? (i := 74) (by decide +kernel), List.mem_of_getElem? (i := 559) (by decide +kernel), List.mem_of_getElem? (i := 560) (by decide +kernel)⟩
theorem lw_p17 : lw_okq (⟨"TermJudge$Reducer", "openParts", "(II)V"⟩, 7) := ⟨⟨by decide +kernel, by decide +kernel⟩, List.mem_of_getElem? (i := 74) (by decide +kernel), List.mem_of_getElem? (i := 564) (by decide +kernel), List.mem_of_getElem? (i := 565) (by decide +kernel)⟩
theorem lw_p18 : lw_okq (⟨"TermJudge", "refuseUnlooked", "()I"⟩, 6) := ⟨⟨by decide +kernel, by decide +kernel⟩, List.mem_of_getElem? (i := 18) (by decide +kernel), List.mem_of_getElem? (i := 604) (by decide +kernel), List.mem_of_getElem? (i := 605) (by decide +kernel)⟩
theorem lw_p19 : lw_okq (⟨"TermJudge", "lasting", "(LTermJudge$Marks;)I"⟩, 6) := ⟨⟨by decide +kernel, by decide +kernel⟩, List.mem_of_getElem? (i := 18) (by decide +kernel), List.mem_of_getElem? (i := 619) (by decide +kernel), List.mem_of_getElem? (i := 620) (by decide +kernel)⟩
theorem lw_p20 : lw_okq (⟨"TermJudgeModel", "isTerm", "(I)Z"⟩, 32) := ⟨⟨by decide +kernel, by decide +kernel⟩, List.mem_of_getElem? (i := 627) (by decide +kernel), List.mem_of_getElem? (i := 747) (by decide +kernel), List.mem_of_getElem? (i := 748) (by decide +kernel)⟩
theorem lw_p21 : lw_okq (⟨"TermJudgeModel", "starts", "(III)Z"⟩, 32) := ⟨⟨by decide +kernel, by decide +kernel⟩, List.mem_of_getElem? (i := 627) (by decide +kernel), List.mem_of_getElem? (i := 755) (by decide +kernel), List.mem_of_getElem? (i := 756) (by decide +kernel)⟩
theorem lw_p22 : lw_okq (⟨"TermJudgeModel", "load", "(II)V"⟩, 32) := ⟨⟨by decide +kernel, by decide +kernel⟩, List.mem_of_getElem? (i := 627) (by decide +kernel), List.mem_of_getElem? (i := 759) (by decide +kernel), List.mem_of_getElem? (i := 760) (by decide +kernel)⟩
theorem lw_p23 : lw_okq (⟨"TermJudgeModel", "toType", "(I)V"⟩, 32) := ⟨⟨by decide +kernel, by decide +kernel⟩, List.mem_of_getElem? (i := 627) (by decide +kernel), List.mem_of_getElem? (i := 763) (by decide +kernel), List.mem_of_getElem? (i := 764) (by decide +kernel)⟩
theorem lw_p24 : lw_okq (⟨"TermJudgeModel", "ask", "(I)V"⟩, 32) := ⟨⟨by decide +kernel, by decide +kernel⟩, List.mem_of_getElem? (i := 627) (by decide +kernel), List.mem_of_getElem? (i := 767) (by decide +kernel), List.mem_of_getElem? (i := 768) (by decide +kernel)⟩
theorem lw_p25 : lw_okq (⟨"TermJudgeModel", "start", "(I)V"⟩, 32) := ⟨⟨by decide +kernel, by decide +kernel⟩, List.mem_of_getElem? (i := 627) (by decide +kernel), List.mem_of_getElem? (i := 771) (by decide +kernel), List.mem_of_getElem? (i := 772) (by decide +kernel)⟩
theorem lw_p26 : lw_okq (⟨"TermJudgeModel", "at", "(II)I"⟩, 32) := ⟨⟨by decide +kernel, by decide +kernel⟩, List.mem_of_getElem? (i := 627) (by decide +kernel), List.mem_of_getElem? (i := 775) (by decide +kernel), List.mem_of_getElem? (i := 776) (by decide +kernel)⟩
theorem lw_p27 : lw_okq (⟨"TermJudgeModel", "copy", "(II)V"⟩, 32) := ⟨⟨by decide +kernel, by decide +kernel⟩, List.mem_of_getElem? (i := 627) (by decide +kernel), List.mem_of_getElem? (i := 782) (by decide +kernel), List.mem_of_getElem? (i := 783) (by decide +kernel)⟩
theorem lw_p28 : lw_okq (⟨"TermJudgeModel", "raise", "(II)V"⟩, 32) := ⟨⟨by decide +kernel, by decide +kernel⟩, List.mem_of_getElem? (i := 627) (by decide +kernel), List.mem_of_getElem? (i := 786) (by decide +kernel), List.mem_of_getElem? (i := 787) (by decide +kernel)⟩
theorem lw_p29 : lw_okq (⟨"TermJudgeModel", "setAtom", "(II)V"⟩, 32) := ⟨⟨by decide +kernel, by decide +kernel⟩, List.mem_of_getElem? (i := 627) (by decide +kernel), List.mem_of_getElem? (i := 796) (by decide +kernel), List.mem_of_getElem? (i := 797) (by decide +kernel)⟩
theorem lw_p30 : lw_okq (⟨"TermJudgeModel", "askPart", "(II)V"⟩, 32) := ⟨⟨by decide +kernel, by decide +kernel⟩, List.mem_of_getElem? (i := 627) (by decide +kernel), List.mem_of_getElem? (i := 800) (by decide +kernel), List.mem_of_getElem? (i := 801) (by decide +kernel)⟩
theorem lw_p31 : lw_okq (⟨"TermJudgeModel", "copyPart", "(III)V"⟩, 32) := ⟨⟨by decide +kernel, by decide +kernel⟩, List.mem_of_getElem? (i := 627) (by decide +kernel), List.mem_of_getElem? (i := 804) (by decide +kernel), List.mem_of_getElem? (i := 805) (by decide +kernel)⟩
def lw_privs_2 : List (MethodName × Nat) := [(⟨"TermJudge$Reducer", "mayBeSame", "(II)Z"⟩, 7), (⟨"TermJudge$Reducer", "openParts", "(II)V"⟩, 7), (⟨"TermJudge", "refuseUnlooked", "()I"⟩, 6), (⟨"TermJudge", "lasting", "(LTermJudge$Marks;)I"⟩, 6), (⟨"TermJudgeModel", "isTerm", "(I)Z"⟩, 32), (⟨"TermJudgeModel", "starts", "(III)Z"⟩, 32), (⟨"TermJudgeModel", "load", "(II)V"⟩, 32), (⟨"TermJudgeModel", "toType", "(I)V"⟩, 32), (⟨"TermJudgeModel", "ask", "(I)V"⟩, 32), (⟨"TermJudgeModel", "start", "(I)V"⟩, 32), (⟨"TermJudgeModel", "at", "(II)I"⟩, 32), (⟨"TermJudgeModel", "copy", "(II)V"⟩, 32), (⟨"TermJudgeModel", "raise", "(II)V"⟩, 32), (⟨"TermJudgeModel", "setAtom", "(II)V"⟩, 32), (⟨"TermJudgeModel", "askPart", "(II)V"⟩, 32), (⟨"TermJudgeModel", "copyPart", "(III)V"⟩, 32)]
theorem lw_r2 : ∀ q ∈ lw_privs_2, lw_okq q := List.forall_mem_cons.mpr ⟨lw_p16, List.forall_mem_cons.mpr ⟨lw_p17, List.forall_mem_cons.mpr ⟨lw_p18, List.forall_mem_cons.mpr ⟨lw_p19, List.forall_mem_cons.mpr ⟨lw_p20, List.forall_mem_cons.mpr ⟨lw_p21, List.forall_mem_cons.mpr ⟨lw_p22, List.forall_mem_cons.mpr ⟨lw_p23, List.forall_mem_cons.mpr ⟨lw_p24, List.forall_mem_cons.mpr ⟨lw_p25, List.forall_mem_cons.mpr ⟨lw_p26, List.forall_mem_cons.mpr ⟨lw_p27, List.forall_mem_cons.mpr ⟨lw_p28, List.forall_mem_cons.mpr ⟨lw_p29, List.forall_mem_cons.mpr ⟨lw_p30, List.forall_mem_cons.mpr ⟨lw_p31, fun _ h => absurd h List.not_mem_nil⟩⟩⟩⟩⟩⟩⟩⟩⟩⟩⟩⟩⟩⟩⟩⟩
theorem lw_p32 : lw_okq (⟨"TermJudgeModel", "endOf", "(II)I"⟩, 32) := ⟨⟨by decide +kernel, by decide +kernel⟩, List.mem_of_getElem? (i := 627) (by decide +kernel), List.mem_of_getElem? (i := 808) (by decide +kernel), List.mem_of_getElem? (i := 809) (by decide +kernel)⟩
theorem lw_p33 : lw_okq (⟨"TermJudgeModel", "second", "(I)V"⟩, 32) := ⟨⟨by decide +kernel, by decide +kernel⟩, List.mem_of_getElem? (i := 627) (by decide +kernel), List.mem_of_getElem? (i := 812) (by decide +kernel), List.mem_of_getElem? (i := 813) (by decide +kernel)⟩
theorem lw_p34 : lw_okq (⟨"TermJudgeModel", "toHead", "(I)V"⟩, 32) := ⟨⟨by decide +kernel, by decide +kernel⟩, List.mem_of_getElem? (i := 627) (by decide +kernel), List.mem_of_getElem? (i := 816) (by decide +kernel), List.mem_of_getElem? (i := 817) (by decide +kernel)⟩
theorem lw_p35 : lw_okq (⟨"TermJudgeModel", "begin", "()V"⟩, 32) := ⟨⟨by decide +kernel, by decide +kernel⟩, List.mem_of_getElem? (i := 627) (by decide +kernel), List.mem_of_getElem? (i := 820) (by decide +kernel), List.mem_of_getElem? (i := 821) (by decide +kernel)⟩
theorem lw_p36 : lw_okq (⟨"TermJudgeModel", "putAll", "(III)V"⟩, 32) := ⟨⟨by decide +kernel, by decide +kernel⟩, List.mem_of_getElem? (i := 627) (by decide +kernel), List.mem_of_getElem? (i := 824) (by decide +kernel), List.mem_of_getElem? (i := 825) (by decide +kernel)⟩
theorem lw_p37 : lw_okq (⟨"TermJudgeModel", "put", "(I)V"⟩, 32) := ⟨⟨by decide +kernel, by decide +kernel⟩, List.mem_of_getElem? (i := 627) (by decide +kernel), List.mem_of_getElem? (i := 828) (by decide +kernel), List.mem_of_getElem? (i := 829) (by decide +kernel)⟩
theorem lw_p38 : lw_okq (⟨"TermJudgeModel", "putFor", "(IIIIII)V"⟩, 32) := ⟨⟨by decide +kernel, by decide +kernel⟩, List.mem_of_getElem? (i := 627) (by decide +kernel), List.mem_of_getElem? (i := 832) (by decide +kernel), List.mem_of_getElem? (i := 833) (by decide +kernel)⟩
theorem lw_p39 : lw_okq (⟨"TermJudgeModel", "putRaised", "(IIII)V"⟩, 32) := ⟨⟨by decide +kernel, by decide +kernel⟩, List.mem_of_getElem? (i := 627) (by decide +kernel), List.mem_of_getElem? (i := 836) (by decide +kernel), List.mem_of_getElem? (i := 837) (by decide +kernel)⟩
theorem lw_p40 : lw_okq (⟨"TermJudgeModel", "take", "(I)Z"⟩, 32) := ⟨⟨by decide +kernel, by decide +kernel⟩, List.mem_of_getElem? (i := 627) (by decide +kernel), List.mem_of_getElem? (i := 840) (by decide +kernel), List.mem_of_getElem? (i := 841) (by decide +kernel)⟩
theorem lw_p41 : lw_okq (⟨"TermJudgeModel", "deepOf", "(I)I"⟩, 32) := ⟨⟨by decide +kernel, by decide +kernel⟩, List.mem_of_getElem? (i := 627) (by decide +kernel), List.mem_of_getElem? (i := 844) (by decide +kernel), List.mem_of_getElem? (i := 845) (by decide +kernel)⟩
theorem lw_p42 : lw_okq (⟨"TermJudgeModel", "levelIn", "(I)I"⟩, 32) := ⟨⟨by decide +kernel, by decide +kernel⟩, List.mem_of_getElem? (i := 627) (by decide +kernel), List.mem_of_getElem? (i := 848) (by decide +kernel), List.mem_of_getElem? (i := 849) (by decide +kernel)⟩
theorem lw_p43 : lw_okq (⟨"TermJudgeModel", "last", "(I)V"⟩, 32) := ⟨⟨by decide +kernel, by decide +kernel⟩, List.mem_of_getElem? (i := 627) (by decide +kernel), List.mem_of_getElem? (i := 852) (by decide +kernel), List.mem_of_getElem? (i := 853) (by decide +kernel)⟩
theorem lw_p44 : lw_okq (⟨"TermJudgeModel", "areSame", "()Z"⟩, 32) := ⟨⟨by decide +kernel, by decide +kernel⟩, List.mem_of_getElem? (i := 627) (by decide +kernel), List.mem_of_getElem? (i := 856) (by decide +kernel), List.mem_of_getElem? (i := 857) (by decide +kernel)⟩
theorem lw_p45 : lw_okq (⟨"TermJudgeModel", "pushRest", "(II)V"⟩, 32) := ⟨⟨by decide +kernel, by decide +kernel⟩, List.mem_of_getElem? (i := 627) (by decide +kernel), List.mem_of_getElem? (i := 860) (by decide +kernel), List.mem_of_getElem? (i := 861) (by decide +kernel)⟩
theorem lw_p46 : lw_okq (⟨"TermJudgeModel", "pop", "(II)V"⟩, 32) := ⟨⟨by decide +kernel, by decide +kernel⟩, List.mem_of_getElem? (i := 627) (by decide +kernel), List.mem_of_getElem? (i := 864) (by decide +kernel), List.mem_of_getElem? (i := 865) (by decide +kernel)⟩
theorem lw_p47 : lw_okq (⟨"TermJudgeModel", "setResult", "(I)I"⟩, 32) := ⟨⟨by decide +kernel, by decide +kernel⟩, List.mem_of_getElem? (i := 627) (by decide +kernel), List.mem_of_getElem? (i := 868) (by decide +kernel), List.mem_of_getElem? (i := 869) (by decide +kernel)⟩
def lw_privs_3 : List (MethodName × Nat) := [(⟨"TermJudgeModel", "endOf", "(II)I"⟩, 32), (⟨"TermJudgeModel", "second", "(I)V"⟩, 32), (⟨"TermJudgeModel", "toHead", "(I)V"⟩, 32), (⟨"TermJudgeModel", "begin", "()V"⟩, 32), (⟨"TermJudgeModel", "putAll", "(III)V"⟩, 32), (⟨"TermJudgeModel", "put", "(I)V"⟩, 32), (⟨"TermJudgeModel", "putFor", "(IIIIII)V"⟩, 32), (⟨"TermJudgeModel", "putRaised", "(IIII)V"⟩, 32), (⟨"TermJudgeModel", "take", "(I)Z"⟩, 32), (⟨"TermJudgeModel", "deepOf", "(I)I"⟩, 32), (⟨"TermJudgeModel", "levelIn", "(I)I"⟩, 32), (⟨"TermJudgeModel", "last", "(I)V"⟩, 32), (⟨"TermJudgeModel", "areSame", "()Z"⟩, 32), (⟨"TermJudgeModel", "pushRest", "(II)V"⟩, 32), (⟨"TermJudgeModel", "pop", "(II)V"⟩, 32), (⟨"TermJudgeModel", "setResult", "(I)I"⟩, 32)]
theorem lw_r3 : ∀ q ∈ lw_privs_3, lw_okq q := List.forall_mem_cons.mpr ⟨lw_p32, List.forall_mem_cons.mpr ⟨lw_p33, List.forall_mem_cons.mpr ⟨lw_p34, List.forall_mem_cons.mpr ⟨lw_p35, List.forall_mem_cons.mpr ⟨lw_p36, List.forall_mem_cons.mpr ⟨lw_p37, List.forall_mem_cons.mpr ⟨lw_p38, List.forall_mem_cons.mpr ⟨lw_p39, List.forall_mem_cons.mpr ⟨lw_p40, List.forall_mem_cons.mpr ⟨lw_p41, List.forall_mem_cons.mpr ⟨lw_p42, List.forall_mem_cons.mpr ⟨lw_p43, List.forall_mem_cons.mpr ⟨lw_p44, List.forall_mem_cons.mpr ⟨lw_p45, List.forall_mem_cons.mpr ⟨lw_p46, List.forall_mem_cons.mpr ⟨lw_p47, fun _ h => absurd h List.not_mem_nil⟩⟩⟩⟩⟩⟩⟩⟩⟩⟩⟩⟩⟩⟩⟩⟩
theorem lw_p48 : lw_okq (⟨"TermJudgeModel", "fail", "(I)I"⟩, 32) := ⟨⟨by decide +kernel, by decide +kernel⟩, List.mem_of_getElem? (i := 627) (by decide +kernel), List.mem_of_getElem? (i := 872) (by decide +kernel), List.mem_of_getElem? (i := 873) (by decide +kernel)⟩
theorem lw_p49 : lw_okq (⟨"TermJudgeModel", "find", "(III)I"⟩, 32) := ⟨⟨by decide +kernel, by decide +kernel⟩, List.mem_of_getElem? (i := 627) (by decide +kernel), List.mem_of_getElem? (i := 916) (by decide +kernel), List.mem_of_getElem? (i := 917) (by decide +kernel)⟩
def lw_privs_4 : List (MethodName × Nat) := [(⟨"TermJudgeModel", "fail", "(I)I"⟩, 32), (⟨"TermJudgeModel", "find", "(III)I"⟩, 32)]
theorem lw_r4 : ∀ q ∈ lw_privs_4, lw_okq q := List.forall_mem_cons.mpr ⟨lw_p48, List.forall_mem_cons.mpr ⟨lw_p49, fun _ h => absurd h List.not_mem_nil⟩⟩
def lw_privs : List (MethodName × Nat) := lw_privs_1 ++ (lw_privs_2 ++ (lw_privs_3 ++ (lw_privs_4)))
def lw_tbl : List Cond := k2_sels lw_privs ++ tables_1
theorem lw_privs_ok : ∀ q ∈ lw_privs, lw_okq q := by
  show ∀ q ∈ lw_privs_1 ++ (lw_privs_2 ++ (lw_privs_3 ++ (lw_privs_4))), lw_okq q
  exact List.forall_mem_append.mpr ⟨lw_r1, List.forall_mem_append.mpr ⟨lw_r2, List.forall_mem_append.mpr ⟨lw_r3, lw_r4⟩⟩⟩
-- ===== end of PART A; then your names; then what follows =====
/-! ===== BEGIN words of one list among another's, by their places ===== -/
theorem goodIn_r {big : List Cond} (ws : List Cond) (ps : List Nat) (hp : ws = ps.filterMap (fun i => big[i]?)) (h : ws.all goodWord = true) : GoodIn big ws := by
  intro w hw
  have h1 := List.all_eq_true.mp h w hw
  rw [hp] at hw
  obtain ⟨i, -, hi⟩ := List.mem_filterMap.mp hw
  have hm : w ∈ big := by first | exact List.mem_of_getElem? hi | exact List.getElem?_mem hi
  exact ⟨hm, good_of_word h1⟩
theorem goodIn_app {big a b : List Cond} (ha : GoodIn big a) (hb : GoodIn big b) : GoodIn big (a ++ b) := fun w h => (List.mem_append.mp h).elim (ha w) (hb w)
theorem goodIn_ca {big a b : List Cond} {c : Cond} (ha : GoodIn big (c :: a)) (hb : GoodIn big b) : GoodIn big (c :: (a ++ b)) := fun w h => (List.mem_cons.mp h).elim (fun e => ha w (List.mem_cons.mpr (Or.inl e))) (fun h => (List.mem_append.mp h).elim (fun h => ha w (List.mem_cons.mpr (Or.inr h))) (hb w))
theorem goodIn_sub {big ws : List Cond} (hm : ∀ w ∈ ws, w ∈ big) (h : ws.all goodWord = true) : GoodIn big ws := fun w hw => ⟨hm w hw, good_of_word (List.all_eq_true.mp h w hw)⟩
/-! ===== END ===== -/

/-! ===== BEGIN exceptions that leave a method, and their catching by the caller (launches without stack traces) ===== -/
section VXA
/-! The laws vx_back, vx_callV, vx_callS, vx_callSW, vx_throw0, vx_throwS follow proofs of the library, with one case more: JvmDerived/Free/Laws.lean (Back.of_free), Shelf42/LK1.lean (callV, callS), Shelf/KitTraced.lean (throwNew0V, throwNewS). -/
/-- where a method has thrown q: the class by its name, the cell, what was written, the world -/
def vx_T (XC : String → State → State → Prop) (st : State) (q : Addr) (t : State) (mc ms : Nat) (free : Addr → Prop) : Prop :=
  ∃ (E : String) (ce : Cell) (L : List Loc), XC E st t ∧ t.heap[q]? = some ce ∧ ce.vm = .none ∧ st.vm.findClass E = some ce.cls ∧ st.WarmedH t.vm ∧ st.sameButNew ({ t with vm := st.vm } : State) L mc ms ∧ ∀ z ∈ L, free z.base
def vx_Q (Qc : Array Value → State → Outcome → State → Prop) (XC : String → State → State → Prop) (mc ms : Nat) (free : Addr → Prop) : Array Value → State → Outcome → State → Prop := fun a st o t =>
  (Qc a st o t ∧ ∃ L, FrameEnd st o t L mc ms ∧ ∀ q ∈ L, free q.base) ∨ ∃ q, o = .threw q ∧ vx_T XC st q t mc ms free
/-- a callee that returns or throws -/
def vx_Met (l : Launch) (y : MethodName) (ws : List Cond) (rm : Room) (Pc : Array Value → State → Prop) (Qc : Array Value → State → Outcome → State → Prop) (XC : String → State → State → Prop) (mc ms : Nat) (free : Addr → Prop) : Prop :=
  MetFree l y (headSpec ws rm) Pc (fun _ _ _ _ _ => True) (vx_Q Qc XC mc ms free)
def vx_Post (XC : String → State → State → Prop) (mc ms : Nat) (free : Addr → Prop) : Pt → Array Value → Addr → Pt → Prop := fun A a q B =>
  ∃ (g : JFrame) (mk : MethodId) (t : State) (L : List Loc) (E : String) (ce : Cell), B.U.heap = t.heap ∧ B.U.vm = t.vm ∧ XC E (A.U.calling g mk a) t ∧ t.heap[q]? = some ce ∧ ce.vm = .none ∧ A.U.vm.findClass E = some ce.cls ∧ B.locs = A.locs ++ L ∧ (∀ z ∈ L, free z.base) ∧ B.cells = A.cells + mc ∧ B.slots = A.slots + ms
def vx_Back (l : Launch) (R : Room) (p : Program) (e : Env) (below : List Frame) (s : State) (sargs : Array Value) (y : MethodName) (len W9 : Nat)
    (Pre : Pt → Array Value → Prop) (Post : Pt → Array Value → Option Value → Pt → Prop) (PostX : Pt → Array Value → Addr → Pt → Prop) : Prop :=
  ∀ (m : MethodId) (meth : Method) (c : Code) (A : Pt) (g : JFrame) (ig : Instr) (mk : MethodId) (a : Array Value),
    Stand p l e R s m sargs below meth c A.U A.locs A.cells A.slots → g.method = m → g.locals.size = c.maxLocals → decode c.code g.pc = .ok (ig, len) →
    2 * g.monitorRoom + (g.stack.map fun v => v.category).sum ≤ W9 → A.U.methodNamed? y = some mk → Pre A a →
    (∃ (v : Option Value) (B : Pt), Stand p l e R s m sargs below meth c B.U B.locs B.cells B.slots ∧ Post A a v B ∧
      Steps p.tables e below (doInvoke e (A.U.setTop g) [] mk a).1 (B.U.setTop { g with pc := g.pc + len, stack := v.toList ++ g.stack })) ∨
    (∃ (q : Addr) (B : Pt), Stand p l e R s m sargs below meth c B.U B.locs B.cells B.slots ∧ PostX A a q B ∧
      Steps p.tables e below (doInvoke e (A.U.setTop g) [] mk a).1 ((B.U.setTop g).pushFrame (.throwing q)))
section Payer
variable {l : Launch} {R : Room} {p : Program} {e : Env} {below : List Frame} {s : State} {sargs : Array Value} {y : MethodName} {len W9 : Nat}
theorem vx_back {ws : List Cond} {rm : Room} {Pc : Array Value → State → Prop} {Qc : Array Value → State → Outcome → State → Prop} {XC : String → State → State → Prop} {mc ms : Nat} {free : Addr → Prop} {bytes : ByteArray} {maxL : Nat} {ret : Option FieldType}
    (hM : vx_Met l y ws rm Pc Qc XC mc ms free) (hblind : FrameBlind Pc) (hrc : rm.cells = mc) (hrs : rm.slots = ms)
    (hframes : rm.frames + 1 ≤ R.frames) (hlocals : W9 + (maxL + 11) + rm.locals ≤ R.locals)
    (hws : ∀ w ∈ ws, ∀ a' U, s.WarmedH U.vm → w.before a' U = true) (hcode : Cond.code y bytes maxL ret ∈ ws) (hinit : ∀ a' U, s.WarmedH U.vm → (Cond.initialized y.cls).before a' U = true) :
    vx_Back l R p e below s sargs y len W9 (PreOf R mc ms Pc) (PostOf Qc mc ms free) (vx_Post XC mc ms free) := by
  intro m meth c A g ig mk a X hg hsize hdg hW hn hp
  have h1 : (headSpec ws rm).pre.before a A.U = true := atoms_intro fun w hw => hws w hw _ _ X.warmed
  have h2 : (Cond.code y bytes maxL ret).before a A.U = true := hws _ hcode _ _ X.warmed
  have h3 : (Cond.initialized y.cls).before a A.U = true := hinit _ _ X.warmed
  have h4 : A.cells + (headSpec ws rm).room.cells ≤ R.cells := by rw [show (headSpec ws rm).room.cells = mc from hrc]; exact hp.1
  have h5 : A.slots + (headSpec ws rm).room.slots ≤ R.slots := by rw [show (headSpec ws rm).room.slots = ms from hrs]; exact hp.2.1
  have hPc : Pc a (A.U.calling g mk a) := hblind _ _ _ _ hp.2.2
  obtain ⟨U, Ls, c0, s0⟩ := A
  dsimp only [Pt.U, Pt.locs, Pt.cells, Pt.slots] at h1 h2 h3 h4 h5 X hn hPc ⊢
  obtain ⟨methY, cY, hmY, hcY, -, hlY, -, -, -, -⟩ := Cond.code_spec hn h2
  obtain ⟨kY, hkY, -⟩ := className_of_methodNamed hn
  have hinitY : kY.init = .initialized := Cond.initialized_spec (findClass_of_methodNamed hn) hkY h3
  have h : At U g.method c below := by rw [hg]; exact X.here
  have hlocals9 : W9 + (maxL + 11) + (headSpec ws rm).room.locals ≤ R.locals := hlocals
  have happ : (headSpec ws rm).appliesLoose y e.platform (U.calling g mk a) = true :=
    Spec.appliesLoose_calling (g := g) h hdg hn hkY hinitY
      (X.room_calling (g := g) (R' := (headSpec ws rm).room) hsize hmY hcY hframes (by rw [hlY]; omega) h4 h5) h1
  obtain ⟨mid, hmid⟩ := h.above
  have hfr : (U.setTop g).frames = (.java g :: mid) ++ below := by rw [State.frames_setTop' g h.top, hmid]; rfl
  obtain ⟨o, s₂, hsteps, -, hend, hq⟩ := Steps.callFree hM p X.admits X.cas X.clock (acts := []) hfr happ hPc trivial
  have hq' : vx_Q Qc XC mc ms free a (U.calling g mk a) o s₂ := hq
  rw [State.frames_setTop' g h.top] at hend
  obtain ⟨g₀, hg0⟩ := Option.isSome_iff_exists.mp h.top
  obtain ⟨r, hr⟩ := State.topJava?_eq_some.mp hg0
  have hr' : (({ U with heap := s₂.heap, slotsUsed := s₂.slotsUsed } : State).setVm s₂.vm).frames = .java g₀ :: r := hr
  rcases hq' with ⟨hqc, L, hfe, hL⟩ | ⟨q, rfl, E, ce, L, hx, hce, hcv, hcl, hW₂, hsm, hL⟩
  · obtain ⟨⟨v, rfl⟩, hW₂, e2, q2, q3, q4, q5, q6⟩ := id hfe
    have e3 : s₂ = ({ (U.calling g mk a).setFrames s₂.frames with heap := s₂.heap, slotsUsed := s₂.slotsUsed } : State).setVm s₂.vm := by
      have : s₂ = ({ s₂ with vm := (U.calling g mk a).vm } : State).setVm s₂.vm := rfl
      rw [e2] at this
      exact this
    obtain ⟨c₂, i₂, len₂, hc₂, hd₂, hf₂⟩ := hend
    have hW' : U.WarmedH s₂.vm := hW₂
    have hcc : c₂ = c := by
      have h1 : s₂.code? g.method = U.code? g.method := by
        rw [State.code?_eq, State.code?_eq, hW'.alike.method?]
      exact Option.some.inj (hc₂.symm.trans (h1.trans h.code))
    subst hcc
    have hlen : len₂ = len := by rw [hdg] at hd₂; cases hd₂; rfl
    subst hlen
    have hs₂ : s₂ = (({ U with heap := s₂.heap, slotsUsed := s₂.slotsUsed } : State).setVm s₂.vm).setTop { g with pc := g.pc + len₂, stack := v.toList ++ g.stack } := by
      refine e3.trans ?_
      rw [hf₂, State.calling_eq h.top, State.setFrames_setFrames, State.setTop_of_frames _ hr', hr]
      rfl
    have hsame : U.sameButNew ({ U with heap := s₂.heap, slotsUsed := s₂.slotsUsed } : State) L mc ms := by
      refine ⟨?_, q2, q3, q4, q5, q6⟩
      obtain ⟨t, ht, -⟩ := State.frames_cons hr
      show ({ U with heap := s₂.heap, slotsUsed := s₂.slotsUsed } : State) = { U.setFrames U.frames with heap := s₂.heap, slotsUsed := s₂.slotsUsed }
      rw [State.setFrames_self ht]
    subst hg
    refine Or.inl ⟨v, ⟨(({ U with heap := s₂.heap, slotsUsed := s₂.slotsUsed } : State).setVm s₂.vm), Ls ++ L, c0 + mc, s0 + ms⟩,
      ⟨X.admits, X.cas, X.clock, X.frames, X.room, X.hears, X.method, X.code, (X.here.setHeapUsed s₂.heap s₂.slotsUsed).setVm hW'.alike, X.tail, State.WarmedH.trans X.warmed hW', X.limits, X.bytes, X.same.trans (hsame.setVm s.vm)⟩,
      ⟨g, mk, s₂, L, rfl, rfl, hqc, rfl, hL, rfl, rfl⟩, ?_⟩
    show Steps p.tables e below _ ((({ U with heap := s₂.heap, slotsUsed := s₂.slotsUsed } : State).setVm s₂.vm).setTop { g with pc := g.pc + len₂, stack := v.toList ++ g.stack })
    rw [← hs₂]
    exact hsteps
  · obtain ⟨e2, q2, q3, q4, q5, q6⟩ := id hsm
    have e3 : s₂ = ({ (U.calling g mk a).setFrames s₂.frames with heap := s₂.heap, slotsUsed := s₂.slotsUsed } : State).setVm s₂.vm := by
      have : s₂ = ({ s₂ with vm := (U.calling g mk a).vm } : State).setVm s₂.vm := rfl
      rw [e2] at this
      exact this
    have hf₂ : s₂.frames = .throwing q :: .java g :: U.frames.tail := hend
    have hW' : U.WarmedH s₂.vm := hW₂
    have hs₂ : s₂ = ((({ U with heap := s₂.heap, slotsUsed := s₂.slotsUsed } : State).setVm s₂.vm).setTop g).pushFrame (.throwing q) := by
      refine e3.trans ?_
      rw [hf₂, State.calling_eq h.top, State.setFrames_setFrames, State.pushFrame, State.frames_setTop _ hr', State.setTop_of_frames _ hr', State.setFrames_setFrames, hr]
      rfl
    have hsame : U.sameButNew ({ U with heap := s₂.heap, slotsUsed := s₂.slotsUsed } : State) L mc ms := by
      refine ⟨?_, q2, q3, q4, q5, q6⟩
      obtain ⟨t, ht, -⟩ := State.frames_cons hr
      show ({ U with heap := s₂.heap, slotsUsed := s₂.slotsUsed } : State) = { U.setFrames U.frames with heap := s₂.heap, slotsUsed := s₂.slotsUsed }
      rw [State.setFrames_self ht]
    subst hg
    refine Or.inr ⟨q, ⟨(({ U with heap := s₂.heap, slotsUsed := s₂.slotsUsed } : State).setVm s₂.vm), Ls ++ L, c0 + mc, s0 + ms⟩,
      ⟨X.admits, X.cas, X.clock, X.frames, X.room, X.hears, X.method, X.code, (X.here.setHeapUsed s₂.heap s₂.slotsUsed).setVm hW'.alike, X.tail, State.WarmedH.trans X.warmed hW', X.limits, X.bytes, X.same.trans (hsame.setVm s.vm)⟩,
      ⟨g, mk, s₂, L, E, ce, rfl, rfl, hx, hce, hcv, hcl, rfl, hL, rfl, rfl⟩, ?_⟩
    show Steps p.tables e below _ (((({ U with heap := s₂.heap, slotsUsed := s₂.slotsUsed } : State).setVm s₂.vm).setTop g).pushFrame (.throwing q))
    rw [← hs₂]
    exact hsteps
end Payer
section Calls
variable {p : Program} {l : Launch} {e : Env} {R : Room} {s : State} {m : MethodId} {args : Array Value} {below : List Frame} {meth : Method} {c : Code} {T : State} {locs : List Loc} {cells slots : Nat}
theorem vx_callV (X : Stand p l e R s m args below meth c T locs cells slots) (hexec : p.tables.exec = Jvm.exec) {own C : String} {index : Nat} {y : MethodName} {bytes : ByteArray} {maxL : Nat} {ret : Option FieldType}
    (hown : s.vm.findClass own = some m.cls) (hlink : (Cond.methodLink own index y).before args s = true) (hinst : (Cond.instanceMethod y).before args s = true) (hsel : (Cond.selects C y y).before args s = true)
    (hcode : (Cond.code y bytes maxL ret).before args s = true) (hy : y.cls ≠ "java/lang/invoke/MethodHandle" ∧ y.cls ≠ "java/lang/invoke/VarHandle")
    {W9 : Nat} {Pre : Pt → Array Value → Prop} {Post : Pt → Array Value → Option Value → Pt → Prop} {PostX : Pt → Array Value → Addr → Pt → Prop} (hK : vx_Back l R p e below s args y 3 W9 Pre Post PostX)
    {b : Addr} {cellB : Cell} (hcell : T.heap[b]? = some cellB) (hobj : cellB.vm.isStatics = false) (hcls : s.vm.findClass C = some cellB.cls)
    {g : JFrame} (hg : g.method = m) (hsize : g.locals.size = c.maxLocals) {argsL rest : List Value} (hlen : ∀ sig, parseMethodDescriptor y.desc = some sig → argsL.length = sig.parameters.length)
    (hstack : g.stack = argsL.reverse ++ .ref b :: rest) (hW : 2 * g.monitorRoom + (rest.map fun v => v.category).sum ≤ W9) (hdg : decode c.code g.pc = .ok (.invokevirtual index, 3))
    (hpre : ∀ vm₁, s.WarmedH vm₁ → Pre ⟨T.setVm vm₁, locs, cells, slots⟩ (Value.ref b :: argsL).toArray) :
    (∃ (v : Option Value) (vm₁ : Vm) (B : Pt), s.WarmedH vm₁ ∧ Stand p l e R s m args below meth c B.U B.locs B.cells B.slots ∧ Post ⟨T.setVm vm₁, locs, cells, slots⟩ (Value.ref b :: argsL).toArray v B ∧
      ∀ target, Steps p.tables e below (B.U.setTop { g with pc := g.pc + 3, stack := v.toList ++ rest }) target → Steps p.tables e below (T.setTop g) target) ∨
    (∃ (q : Addr) (vm₁ : Vm) (B : Pt), s.WarmedH vm₁ ∧ Stand p l e R s m args below meth c B.U B.locs B.cells B.slots ∧ PostX ⟨T.setVm vm₁, locs, cells, slots⟩ (Value.ref b :: argsL).toArray q B ∧
      Steps p.tables e below (T.setTop g) ((B.U.setTop { g with stack := rest }).pushFrame (.throwing q))) := by
  obtain ⟨mk, methM, hnamed, hmethM, hstM, habM⟩ := Cond.instanceMethod_spec hinst
  obtain ⟨methM', cM, hmethM', -, -, -, -, -, -, hsigM⟩ := Cond.code_spec hnamed hcode
  cases hmethM.symm.trans hmethM'
  obtain ⟨c2, r2, m2, q1, q2, q3, q4, kP, hkP, hkPi⟩ := Cond.selects_spec hsel
  cases hcls.symm.trans q1
  cases (State.methodFound?_of_named hnamed hy).symm.trans q2
  cases hnamed.symm.trans q3
  have hselP : selectMethod e.platform s.vm cellB.cls mk = .method mk := by rw [Launch.admits_selectMethod X.admits]; exact q4
  obtain ⟨vm₁, X₁, hstep₁⟩ := X.invokevirtual hexec hown hlink hnamed hmethM hstM hkP hkPi hy (a := b) (cell := cellB) hcell
    (fun z h => by rw [h] at hobj; cases hobj) hselP hmethM habM hkP hkPi (g := g) hg (argsL := argsL) (rest := rest) (hlen _ hsigM) hstack hdg
  rcases hK m meth c ⟨T.setVm vm₁, locs, cells, slots⟩ { g with stack := rest } (.invokevirtual index) mk (Value.ref b :: argsL).toArray X₁ hg hsize hdg hW (X₁.named hnamed) (hpre vm₁ X₁.warmed) with ⟨v, B, X', hpost, hsteps⟩ | ⟨q, B, X', hpost, hsteps⟩
  · exact Or.inl ⟨v, vm₁, B, X₁.warmed, X', hpost, fun target h => hstep₁ _ fun acts => by rw [doInvoke_state]; exact hsteps.trans h⟩
  · exact Or.inr ⟨q, vm₁, B, X₁.warmed, X', hpost, hstep₁ _ fun acts => by rw [doInvoke_state]; exact hsteps⟩
theorem vx_callS (X : Stand p l e R s m args below meth c T locs cells slots) (hexec : p.tables.exec = Jvm.exec) {own : String} {index : Nat} {y : MethodName} {bytes : ByteArray} {maxL : Nat} {ret : Option FieldType}
    (hown : s.vm.findClass own = some m.cls) (hlink : (Cond.methodLink own index y).before args s = true) (hstat : (Cond.static y).before args s = true) (hinit : (Cond.initialized y.cls).before args s = true)
    (hcode : (Cond.code y bytes maxL ret).before args s = true) (hy : y.cls ≠ "java/lang/invoke/MethodHandle" ∧ y.cls ≠ "java/lang/invoke/VarHandle")
    {W9 : Nat} {Pre : Pt → Array Value → Prop} {Post : Pt → Array Value → Option Value → Pt → Prop} {PostX : Pt → Array Value → Addr → Pt → Prop} (hK : vx_Back l R p e below s args y 3 W9 Pre Post PostX)
    {g : JFrame} (hg : g.method = m) (hsize : g.locals.size = c.maxLocals) {argsL rest : List Value} (hlen : ∀ sig, parseMethodDescriptor y.desc = some sig → argsL.length = sig.parameters.length)
    (hstack : g.stack = argsL.reverse ++ rest) (hW : 2 * g.monitorRoom + (rest.map fun v => v.category).sum ≤ W9) (hdg : decode c.code g.pc = .ok (.invokestatic index, 3))
    (hpre : ∀ vm₁, s.WarmedH vm₁ → Pre ⟨T.setVm vm₁, locs, cells, slots⟩ argsL.toArray) :
    (∃ (v : Option Value) (vm₁ : Vm) (B : Pt), s.WarmedH vm₁ ∧ Stand p l e R s m args below meth c B.U B.locs B.cells B.slots ∧ Post ⟨T.setVm vm₁, locs, cells, slots⟩ argsL.toArray v B ∧
      ∀ target, Steps p.tables e below (B.U.setTop { g with pc := g.pc + 3, stack := v.toList ++ rest }) target → Steps p.tables e below (T.setTop g) target) ∨
    (∃ (q : Addr) (vm₁ : Vm) (B : Pt), s.WarmedH vm₁ ∧ Stand p l e R s m args below meth c B.U B.locs B.cells B.slots ∧ PostX ⟨T.setVm vm₁, locs, cells, slots⟩ argsL.toArray q B ∧
      Steps p.tables e below (T.setTop g) ((B.U.setTop { g with stack := rest }).pushFrame (.throwing q))) := by
  obtain ⟨mk, hnamed⟩ := Cond.code_named hcode
  obtain ⟨methM, cM, hmethM, -, -, -, -, -, -, hsigM⟩ := Cond.code_spec hnamed hcode
  have hstatic : methM.isStatic = true := Cond.static_spec hnamed hmethM hstat
  obtain ⟨kP, hkP, -⟩ := className_of_methodNamed hnamed
  have hinitP : kP.init = .initialized := Cond.initialized_spec (findClass_of_methodNamed hnamed) hkP hinit
  obtain ⟨vm₁, X₁, hstep₁⟩ := X.invokestatic hexec hown hlink hnamed hmethM hstatic hkP hinitP hy (g := g) hg (argsL := argsL) (rest := rest) (hlen _ hsigM) hstack hdg
  rcases hK m meth c ⟨T.setVm vm₁, locs, cells, slots⟩ { g with stack := rest } (.invokestatic index) mk argsL.toArray X₁ hg hsize hdg hW (X₁.named hnamed) (hpre vm₁ X₁.warmed) with ⟨v, B, X', hpost, hsteps⟩ | ⟨q, B, X', hpost, hsteps⟩
  · exact Or.inl ⟨v, vm₁, B, X₁.warmed, X', hpost, fun target h => hstep₁ _ fun acts => by rw [doInvoke_state]; exact hsteps.trans h⟩
  · exact Or.inr ⟨q, vm₁, B, X₁.warmed, X', hpost, hstep₁ _ fun acts => by rw [doInvoke_state]; exact hsteps⟩
end Calls
theorem vx_cls {s : State} {T : State} {vm₁ : Vm} {E : String} {k : ClassId} (hW : s.WarmedH vm₁) (h : (T.setVm vm₁).vm.findClass E = some k) : s.vm.findClass E = some k := by
  have h1 : vm₁.findClass E = some k := h
  rw [hW.alike.findClass] at h1
  exact h1
/-- the method's frame g, with q thrown over it -/
def vx_W (p : Program) (l : Launch) (e : Env) (R : Room) (s : State) (m : MethodId) (args : Array Value) (below : List Frame) (meth : Method) (c : Code) (H : Heap) (locs : List Loc) (cells slots : Nat) (Q : State → Prop) (g : JFrame) (q : Addr) : Prop :=
  ∀ T : State, T.heap = H → Stand p l e R s m args below meth c T locs cells slots → ∃ t, Steps p.tables e below ((T.setTop g).pushFrame (.throwing q)) t ∧ Q t
def vx_Run (p : Program) (l : Launch) (e : Env) (R : Room) (s : State) (m : MethodId) (args : Array Value) (below : List Frame) (meth : Method) (c : Code) (H : Heap) (locs : List Loc) (cells slots mc ms : Nat) (g : JFrame) (rest : List Value) (Qa : State → Outcome → State → Prop) (XC : String → State → State → Prop) (free : Addr → Prop) : Prop :=
  ∀ T : State, T.heap = H → Stand p l e R s m args below meth c T locs cells slots →
    (∃ (v : Option Value) (st₀ t T' : State) (L : List Loc), st₀.heap = H ∧ Stand p l e R s m args below meth c T' (locs ++ L) (cells + mc) (slots + ms) ∧ (∀ q ∈ L, free q.base) ∧ T'.heap = t.heap ∧ T'.vm = t.vm ∧ Qa st₀ (.returned v) t ∧
      Goes p e below T g T' { g with pc := g.pc + 3, stack := v.toList ++ rest }) ∨
    (∃ (q : Addr) (st₀ t T' : State) (L : List Loc) (E : String) (ce : Cell), st₀.heap = H ∧ Stand p l e R s m args below meth c T' (locs ++ L) (cells + mc) (slots + ms) ∧ (∀ z ∈ L, free z.base) ∧ T'.heap = t.heap ∧ T'.vm = t.vm ∧ XC E st₀ t ∧ t.heap[q]? = some ce ∧ ce.vm = .none ∧ s.vm.findClass E = some ce.cls ∧
      Steps p.tables e below (T.setTop g) ((T'.setTop { g with stack := rest }).pushFrame (.throwing q)))
def vx_X {S : Type} (px : S → Prop) (B : String → S → State → Prop) (A : Nat → Prop) : String → State → State → Prop := fun E st t => ∃ u : S, px u ∧ B E u t ∧ va_F A st t
section Runs
variable {p : Program} {l : Launch} {e : Env} {R : Room} {s : State} {m : MethodId} {args : Array Value} {below : List Frame} {meth : Method} {c : Code} {H : Heap} {locs : List Loc} {cells slots : Nat}
variable {y : MethodName} {bytes cc : ByteArray} {maxL nL mc ms n index : Nat} {ret : Option FieldType} {ws : List Cond} {rm : Room} {Pc : Array Value → State → Prop} {Qc : Array Value → State → Outcome → State → Prop} {XC : String → State → State → Prop} {free : Addr → Prop} {Ts : List Cond} {own C : String} {b : Addr} {As rest : List Value} {g : JFrame}
theorem vx_callBack (cb : CallB R s args own index y bytes maxL ret ws rm mc ms n) (hM : vx_Met l y ws rm Pc Qc XC mc ms free) (hbl : FrameBlind Pc) : vx_Back l R p e below s args y 3 8 (PreOf R mc ms Pc) (PostOf Qc mc ms free) (vx_Post XC mc ms free) := by
  obtain ⟨hrc, hrs, hfr, hlo, hws, hcw, -, hini, -⟩ := cb
  exact vx_back (bytes := bytes) (maxL := maxL) (ret := ret) hM hbl hrc hrs hfr hlo hws hcw (fun a' U hW => word_at hW (Or.inl (by first | rfl | simp [Cond.onTables, Cond.keeps, Cond.steady])) hini)
theorem vx_runV (S : CallFix p m c cc nL s args Ts own) (hM : vx_Met l y ws rm Pc Qc XC mc ms free) (cw : CallW R s args own C index y bytes maxL ret ws rm mc ms n) (hp : PreV s H C b Pc As)
    (hg : g.method = m) (hn : As.length = n) (hsize : g.locals.size = nL) (hstack : g.stack = As.reverse ++ .ref b :: rest) (hW : 2 * g.monitorRoom + (rest.map fun v => v.category).sum ≤ 8) (hdg : decode cc g.pc = .ok (.invokevirtual index, 3)) (hf : cells + mc ≤ R.cells ∧ slots + ms ≤ R.slots) :
    vx_Run p l e R s m args below meth c H locs cells slots mc ms g rest (Qc (Value.ref b :: As).toArray) XC free := by
  have hK : vx_Back l R p e below s args y 3 8 (PreOf R mc ms Pc) (PostOf Qc mc ms free) (vx_Post XC mc ms free) := vx_callBack cw.1 hM hp.1
  obtain ⟨⟨-, -, -, -, -, -, hcode, -, hy, hlen, hl⟩, hin, hse⟩ := cw
  obtain ⟨hx, hb, hml, ho, -⟩ := S
  obtain ⟨-, ⟨cellB, hcB, hoB, hclB⟩, hPc⟩ := hp
  intro T hT X
  rcases vx_callV X hx (C := C) (bytes := bytes) (maxL := maxL) (ret := ret) ho hl hin hse hcode hy hK (by rw [hT]; exact hcB) hoB hclB hg (hsize.trans hml.symm) (argsL := As) (rest := rest) (fun sig h => hn.trans (hlen sig h)) hstack hW (by rw [hb]; exact hdg)
    (fun vm₁ hW₁ => ⟨hf.1, hf.2, hPc (T.setVm vm₁) hT hW₁⟩) with ⟨v, vm₁, ⟨U', l2, c2, s2⟩, hW₁, X', ⟨g', mk, t, L, e1, e2, hq, h1, hL, h2, h3⟩, st⟩ | ⟨q, vm₁, ⟨U', l2, c2, s2⟩, hW₁, X', ⟨g', mk, t, L, E, ce, e1, e2, hq, hce, hcv, hcl, h1, hL, h2, h3⟩, st⟩
  · dsimp only [Pt.U, Pt.locs, Pt.cells, Pt.slots] at X' e1 e2 h1 h2 h3 st
    subst h1; subst h2; subst h3
    exact Or.inl ⟨v, (T.setVm vm₁).calling g' mk (Value.ref b :: As).toArray, t, U', L, hT, X', hL, e1, e2, hq, st⟩
  · dsimp only [Pt.U, Pt.locs, Pt.cells, Pt.slots] at X' e1 e2 h1 h2 h3 st hcl
    subst h1; subst h2; subst h3
    exact Or.inr ⟨q, (T.setVm vm₁).calling g' mk (Value.ref b :: As).toArray, t, U', L, E, ce, hT, X', hL, e1, e2, hq, hce, hcv, vx_cls hW₁ hcl, st⟩
theorem vx_runS (S : CallFix p m c cc nL s args Ts own) (hM : vx_Met l y ws rm Pc Qc XC mc ms free) (cw : CallB R s args own index y bytes maxL ret ws rm mc ms n ∧ (Cond.static y).before args s = true) (hp : PreS s H Pc As)
    (hg : g.method = m) (hn : As.length = n) (hsize : g.locals.size = nL) (hstack : g.stack = As.reverse ++ rest) (hW : 2 * g.monitorRoom + (rest.map fun v => v.category).sum ≤ 8) (hdg : decode cc g.pc = .ok (.invokestatic index, 3)) (hf : cells + mc ≤ R.cells ∧ slots + ms ≤ R.slots) :
    vx_Run p l e R s m args below meth c H locs cells slots mc ms g rest (Qc As.toArray) XC free := by
  have hK : vx_Back l R p e below s args y 3 8 (PreOf R mc ms Pc) (PostOf Qc mc ms free) (vx_Post XC mc ms free) := vx_callBack cw.1 hM hp.1
  obtain ⟨⟨-, -, -, -, -, -, hcode, hini, hy, hlen, hl⟩, hstt⟩ := cw
  obtain ⟨hx, hb, hml, ho, -⟩ := S
  intro T hT X
  rcases vx_callS X hx (bytes := bytes) (maxL := maxL) (ret := ret) ho hl hstt hini hcode hy hK hg (hsize.trans hml.symm) (argsL := As) (rest := rest) (fun sig h => hn.trans (hlen sig h)) hstack hW (by rw [hb]; exact hdg)
    (fun vm₁ hW₁ => ⟨hf.1, hf.2, hp.2 (T.setVm vm₁) hT hW₁⟩) with ⟨v, vm₁, ⟨U', l2, c2, s2⟩, hW₁, X', ⟨g', mk, t, L, e1, e2, hq, h1, hL, h2, h3⟩, st⟩ | ⟨q, vm₁, ⟨U', l2, c2, s2⟩, hW₁, X', ⟨g', mk, t, L, E, ce, e1, e2, hq, hce, hcv, hcl, h1, hL, h2, h3⟩, st⟩
  · dsimp only [Pt.U, Pt.locs, Pt.cells, Pt.slots] at X' e1 e2 h1 h2 h3 st
    subst h1; subst h2; subst h3
    exact Or.inl ⟨v, (T.setVm vm₁).calling g' mk As.toArray, t, U', L, hT, X', hL, e1, e2, hq, st⟩
  · dsimp only [Pt.U, Pt.locs, Pt.cells, Pt.slots] at X' e1 e2 h1 h2 h3 st hcl
    subst h1; subst h2; subst h3
    exact Or.inr ⟨q, (T.setVm vm₁).calling g' mk As.toArray, t, U', L, E, ce, hT, X', hL, e1, e2, hq, hce, hcv, vx_cls hW₁ hcl, st⟩
end Runs
section Rows
variable {p : Program} {l : Launch} {e : Env} {R : Room} {s : State} {m : MethodId} {args : Array Value} {below : List Frame} {meth : Method} {c : Code} {H : Heap} {locs : List Loc} {cells slots : Nat} {Q : State → Prop}
variable {mc ms : Nat} {free : Addr → Prop} {A0 A1 : Nat → Prop} {H0 : Heap} {a : Array Value} {pc : Nat} {ls : Array Slot} {st0 rest : List Value}
theorem vx_keep {st₀ t T' : State} {L : List Loc} (h0 : st₀.heap = H) (e1 : T'.heap = t.heap) (hS : va_S A0 H0 H locs) (hA : ∀ q, q < H.size → A1 q → A0 q) (hf : ∀ q, free q → A0 q) (hL : ∀ q ∈ L, free q.base) (hF : va_F A1 st₀ t) :
    H.size ≤ T'.heap.size ∧ (∀ q : Nat, q < H.size → ¬ A1 q → T'.heap[q]? = H[q]?) ∧ va_S A0 H0 T'.heap (locs ++ L) := by
  obtain ⟨hz, hk⟩ := hF
  rw [h0] at hz hk
  exact ⟨by rw [e1]; exact hz, fun q h1 h2 => by rw [e1]; exact hk q h1 h2,
    ⟨Nat.le_trans hS.1 (by rw [e1]; exact hz), fun q h1 h2 => by rw [e1, hk q (Nat.lt_of_lt_of_le h1 hS.1) (fun z => h2 (hA q (Nat.lt_of_lt_of_le h1 hS.1) z))]; exact hS.2.1 q h1 h2, fun q hq => by
      rcases List.mem_append.mp hq with h | h
      · exact hS.2.2 q h
      · exact hf _ (hL q h)⟩⟩
theorem vx_calli {S SX : Type} {post : Int32 → S → Prop} {px : SX → Prop} {B : S → State → Prop} {BX : String → SX → State → Prop} {AX : Nat → Prop} (hr : vx_Run p l e R s m args below meth c H locs cells slots mc ms (F0 m pc ls st0) rest (va_Qi post B A1 a) (vx_X px BX AX) free) (hS : va_S A0 H0 H locs) (hA : ∀ q, q < H.size → A1 q → A0 q) (hf : ∀ q, free q → A0 q) (hAX : ∀ q, q < H.size → AX q → A0 q)
    (kx : ∀ (E : String) (ce : Cell) (q9 : Addr) (u : SX) (t : State) (H1 : Heap) (locs1 : List Loc), t.heap = H1 → s.vm.Alike t.vm → px u → BX E u t → H.size ≤ H1.size → (∀ q : Nat, q < H.size → ¬ AX q → H1[q]? = H[q]?) → va_S A0 H0 H1 locs1 → H1[q9]? = some ce → ce.vm = .none → s.vm.findClass E = some ce.cls → vx_W p l e R s m args below meth c H1 locs1 (cells + mc) (slots + ms) Q (F0 m pc ls rest) q9)
    (kk : ∀ (r : Int32) (u : S) (t : State) (H1 : Heap) (locs1 : List Loc), t.heap = H1 → s.vm.Alike t.vm → post r u → B u t → H.size ≤ H1.size → (∀ q : Nat, q < H.size → ¬ A1 q → H1[q]? = H[q]?) → va_S A0 H0 H1 locs1 → W p l e R s m args below meth c H1 locs1 (cells + mc) (slots + ms) Q (F0 m (pc + 3) ls (.int r :: rest))) : W p l e R s m args below meth c H locs cells slots Q (F0 m pc ls st0) := by
  intro T hT X
  rcases hr T hT X with ⟨v, st₀, t, T', L, h0, X', hL, e1, e2, ⟨⟨r, u, hv, hp, hb⟩, hF⟩, st⟩ | ⟨q, st₀, t, T', L, E, ce, h0, X', hL, e1, e2, ⟨u, hp, hb, hF⟩, hce, hcv, hcl, st⟩
  · cases hv
    obtain ⟨k1, k2, k3⟩ := vx_keep h0 e1 hS hA hf hL hF
    obtain ⟨t2, a1, b1⟩ := kk r u t T'.heap (locs ++ L) e1.symm (by rw [← e2]; exact X'.warmed.alike) hp hb k1 k2 k3 T' rfl X'
    exact ⟨t2, st t2 a1, b1⟩
  · obtain ⟨k1, k2, k3⟩ := vx_keep h0 e1 hS hAX hf hL hF
    obtain ⟨t2, a1, b1⟩ := kx E ce q u t T'.heap (locs ++ L) e1.symm (by rw [← e2]; exact X'.warmed.alike) hp hb k1 k2 k3 (by rw [e1]; exact hce) hcv hcl T' rfl X'
    exact ⟨t2, st.trans a1, b1⟩
theorem vx_calll {S SX : Type} {post : Int64 → S → Prop} {px : SX → Prop} {B : S → State → Prop} {BX : String → SX → State → Prop} {AX : Nat → Prop} (hr : vx_Run p l e R s m args below meth c H locs cells slots mc ms (F0 m pc ls st0) rest (va_Ql post B A1 a) (vx_X px BX AX) free) (hS : va_S A0 H0 H locs) (hA : ∀ q, q < H.size → A1 q → A0 q) (hf : ∀ q, free q → A0 q) (hAX : ∀ q, q < H.size → AX q → A0 q)
    (kx : ∀ (E : String) (ce : Cell) (q9 : Addr) (u : SX) (t : State) (H1 : Heap) (locs1 : List Loc), t.heap = H1 → s.vm.Alike t.vm → px u → BX E u t → H.size ≤ H1.size → (∀ q : Nat, q < H.size → ¬ AX q → H1[q]? = H[q]?) → va_S A0 H0 H1 locs1 → H1[q9]? = some ce → ce.vm = .none → s.vm.findClass E = some ce.cls → vx_W p l e R s m args below meth c H1 locs1 (cells + mc) (slots + ms) Q (F0 m pc ls rest) q9)
    (kk : ∀ (r : Int64) (u : S) (t : State) (H1 : Heap) (locs1 : List Loc), t.heap = H1 → s.vm.Alike t.vm → post r u → B u t → H.size ≤ H1.size → (∀ q : Nat, q < H.size → ¬ A1 q → H1[q]? = H[q]?) → va_S A0 H0 H1 locs1 → W p l e R s m args below meth c H1 locs1 (cells + mc) (slots + ms) Q (F0 m (pc + 3) ls (.long r :: rest))) : W p l e R s m args below meth c H locs cells slots Q (F0 m pc ls st0) := by
  intro T hT X
  rcases hr T hT X with ⟨v, st₀, t, T', L, h0, X', hL, e1, e2, ⟨⟨r, u, hv, hp, hb⟩, hF⟩, st⟩ | ⟨q, st₀, t, T', L, E, ce, h0, X', hL, e1, e2, ⟨u, hp, hb, hF⟩, hce, hcv, hcl, st⟩
  · cases hv
    obtain ⟨k1, k2, k3⟩ := vx_keep h0 e1 hS hA hf hL hF
    obtain ⟨t2, a1, b1⟩ := kk r u t T'.heap (locs ++ L) e1.symm (by rw [← e2]; exact X'.warmed.alike) hp hb k1 k2 k3 T' rfl X'
    exact ⟨t2, st t2 a1, b1⟩
  · obtain ⟨k1, k2, k3⟩ := vx_keep h0 e1 hS hAX hf hL hF
    obtain ⟨t2, a1, b1⟩ := kx E ce q u t T'.heap (locs ++ L) e1.symm (by rw [← e2]; exact X'.warmed.alike) hp hb k1 k2 k3 (by rw [e1]; exact hce) hcv hcl T' rfl X'
    exact ⟨t2, st.trans a1, b1⟩
theorem vx_callf {S SX : Type} {post : UInt32 → S → Prop} {px : SX → Prop} {B : S → State → Prop} {BX : String → SX → State → Prop} {AX : Nat → Prop} (hr : vx_Run p l e R s m args below meth c H locs cells slots mc ms (F0 m pc ls st0) rest (va_Qf post B A1 a) (vx_X px BX AX) free) (hS : va_S A0 H0 H locs) (hA : ∀ q, q < H.size → A1 q → A0 q) (hf : ∀ q, free q → A0 q) (hAX : ∀ q, q < H.size → AX q → A0 q)
    (kx : ∀ (E : String) (ce : Cell) (q9 : Addr) (u : SX) (t : State) (H1 : Heap) (locs1 : List Loc), t.heap = H1 → s.vm.Alike t.vm → px u → BX E u t → H.size ≤ H1.size → (∀ q : Nat, q < H.size → ¬ AX q → H1[q]? = H[q]?) → va_S A0 H0 H1 locs1 → H1[q9]? = some ce → ce.vm = .none → s.vm.findClass E = some ce.cls → vx_W p l e R s m args below meth c H1 locs1 (cells + mc) (slots + ms) Q (F0 m pc ls rest) q9)
    (kk : ∀ (r : UInt32) (u : S) (t : State) (H1 : Heap) (locs1 : List Loc), t.heap = H1 → s.vm.Alike t.vm → post r u → B u t → H.size ≤ H1.size → (∀ q : Nat, q < H.size → ¬ A1 q → H1[q]? = H[q]?) → va_S A0 H0 H1 locs1 → W p l e R s m args below meth c H1 locs1 (cells + mc) (slots + ms) Q (F0 m (pc + 3) ls (.float r :: rest))) : W p l e R s m args below meth c H locs cells slots Q (F0 m pc ls st0) := by
  intro T hT X
  rcases hr T hT X with ⟨v, st₀, t, T', L, h0, X', hL, e1, e2, ⟨⟨r, u, hv, hp, hb⟩, hF⟩, st⟩ | ⟨q, st₀, t, T', L, E, ce, h0, X', hL, e1, e2, ⟨u, hp, hb, hF⟩, hce, hcv, hcl, st⟩
  · cases hv
    obtain ⟨k1, k2, k3⟩ := vx_keep h0 e1 hS hA hf hL hF
    obtain ⟨t2, a1, b1⟩ := kk r u t T'.heap (locs ++ L) e1.symm (by rw [← e2]; exact X'.warmed.alike) hp hb k1 k2 k3 T' rfl X'
    exact ⟨t2, st t2 a1, b1⟩
  · obtain ⟨k1, k2, k3⟩ := vx_keep h0 e1 hS hAX hf hL hF
    obtain ⟨t2, a1, b1⟩ := kx E ce q u t T'.heap (locs ++ L) e1.symm (by rw [← e2]; exact X'.warmed.alike) hp hb k1 k2 k3 (by rw [e1]; exact hce) hcv hcl T' rfl X'
    exact ⟨t2, st.trans a1, b1⟩
theorem vx_calld {S SX : Type} {post : UInt64 → S → Prop} {px : SX → Prop} {B : S → State → Prop} {BX : String → SX → State → Prop} {AX : Nat → Prop} (hr : vx_Run p l e R s m args below meth c H locs cells slots mc ms (F0 m pc ls st0) rest (va_Qd post B A1 a) (vx_X px BX AX) free) (hS : va_S A0 H0 H locs) (hA : ∀ q, q < H.size → A1 q → A0 q) (hf : ∀ q, free q → A0 q) (hAX : ∀ q, q < H.size → AX q → A0 q)
    (kx : ∀ (E : String) (ce : Cell) (q9 : Addr) (u : SX) (t : State) (H1 : Heap) (locs1 : List Loc), t.heap = H1 → s.vm.Alike t.vm → px u → BX E u t → H.size ≤ H1.size → (∀ q : Nat, q < H.size → ¬ AX q → H1[q]? = H[q]?) → va_S A0 H0 H1 locs1 → H1[q9]? = some ce → ce.vm = .none → s.vm.findClass E = some ce.cls → vx_W p l e R s m args below meth c H1 locs1 (cells + mc) (slots + ms) Q (F0 m pc ls rest) q9)
    (kk : ∀ (r : UInt64) (u : S) (t : State) (H1 : Heap) (locs1 : List Loc), t.heap = H1 → s.vm.Alike t.vm → post r u → B u t → H.size ≤ H1.size → (∀ q : Nat, q < H.size → ¬ A1 q → H1[q]? = H[q]?) → va_S A0 H0 H1 locs1 → W p l e R s m args below meth c H1 locs1 (cells + mc) (slots + ms) Q (F0 m (pc + 3) ls (.double r :: rest))) : W p l e R s m args below meth c H locs cells slots Q (F0 m pc ls st0) := by
  intro T hT X
  rcases hr T hT X with ⟨v, st₀, t, T', L, h0, X', hL, e1, e2, ⟨⟨r, u, hv, hp, hb⟩, hF⟩, st⟩ | ⟨q, st₀, t, T', L, E, ce, h0, X', hL, e1, e2, ⟨u, hp, hb, hF⟩, hce, hcv, hcl, st⟩
  · cases hv
    obtain ⟨k1, k2, k3⟩ := vx_keep h0 e1 hS hA hf hL hF
    obtain ⟨t2, a1, b1⟩ := kk r u t T'.heap (locs ++ L) e1.symm (by rw [← e2]; exact X'.warmed.alike) hp hb k1 k2 k3 T' rfl X'
    exact ⟨t2, st t2 a1, b1⟩
  · obtain ⟨k1, k2, k3⟩ := vx_keep h0 e1 hS hAX hf hL hF
    obtain ⟨t2, a1, b1⟩ := kx E ce q u t T'.heap (locs ++ L) e1.symm (by rw [← e2]; exact X'.warmed.alike) hp hb k1 k2 k3 (by rw [e1]; exact hce) hcv hcl T' rfl X'
    exact ⟨t2, st.trans a1, b1⟩
theorem vx_callv {S SX : Type} {post : S → Prop} {px : SX → Prop} {B : S → State → Prop} {BX : String → SX → State → Prop} {AX : Nat → Prop} (hr : vx_Run p l e R s m args below meth c H locs cells slots mc ms (F0 m pc ls st0) rest (va_Qv post B A1 a) (vx_X px BX AX) free) (hS : va_S A0 H0 H locs) (hA : ∀ q, q < H.size → A1 q → A0 q) (hf : ∀ q, free q → A0 q) (hAX : ∀ q, q < H.size → AX q → A0 q)
    (kx : ∀ (E : String) (ce : Cell) (q9 : Addr) (u : SX) (t : State) (H1 : Heap) (locs1 : List Loc), t.heap = H1 → s.vm.Alike t.vm → px u → BX E u t → H.size ≤ H1.size → (∀ q : Nat, q < H.size → ¬ AX q → H1[q]? = H[q]?) → va_S A0 H0 H1 locs1 → H1[q9]? = some ce → ce.vm = .none → s.vm.findClass E = some ce.cls → vx_W p l e R s m args below meth c H1 locs1 (cells + mc) (slots + ms) Q (F0 m pc ls rest) q9)
    (kk : ∀ (u : S) (t : State) (H1 : Heap) (locs1 : List Loc), t.heap = H1 → s.vm.Alike t.vm → post u → B u t → H.size ≤ H1.size → (∀ q : Nat, q < H.size → ¬ A1 q → H1[q]? = H[q]?) → va_S A0 H0 H1 locs1 → W p l e R s m args below meth c H1 locs1 (cells + mc) (slots + ms) Q (F0 m (pc + 3) ls (rest))) : W p l e R s m args below meth c H locs cells slots Q (F0 m pc ls st0) := by
  intro T hT X
  rcases hr T hT X with ⟨v, st₀, t, T', L, h0, X', hL, e1, e2, ⟨⟨u, hv, hp, hb⟩, hF⟩, st⟩ | ⟨q, st₀, t, T', L, E, ce, h0, X', hL, e1, e2, ⟨u, hp, hb, hF⟩, hce, hcv, hcl, st⟩
  · cases hv
    obtain ⟨k1, k2, k3⟩ := vx_keep h0 e1 hS hA hf hL hF
    obtain ⟨t2, a1, b1⟩ := kk u t T'.heap (locs ++ L) e1.symm (by rw [← e2]; exact X'.warmed.alike) hp hb k1 k2 k3 T' rfl X'
    exact ⟨t2, st t2 a1, b1⟩
  · obtain ⟨k1, k2, k3⟩ := vx_keep h0 e1 hS hAX hf hL hF
    obtain ⟨t2, a1, b1⟩ := kx E ce q u t T'.heap (locs ++ L) e1.symm (by rw [← e2]; exact X'.warmed.alike) hp hb k1 k2 k3 (by rw [e1]; exact hce) hcv hcl T' rfl X'
    exact ⟨t2, st.trans a1, b1⟩
/-- caught by the row x of this method's table; the rows ahead don't take it -/
theorem vx_catch {own name : String} {E : String} {ce : Cell} {q : Addr} (hown : s.vm.findClass own = some m.cls) (pre : List ExceptionTableEntry) (x : ExceptionTableEntry) (suf : List ExceptionTableEntry) (hsplit : c.exceptionTable.toList = pre ++ x :: suf)
    (hpass : ∀ z ∈ pre, covers z pc = false ∨ (z.catchType ≠ 0 ∧ ∃ nm : String, (Cond.classLink own z.catchType nm).before args s = true ∧ va_Nc E nm s)) (hx : covers x pc = true) (h0 : x.catchType ≠ 0)
    (hlink : (Cond.classLink own x.catchType name).before args s = true) (hcast : (Cond.castable E name).before args s = true) (hcell : H[q]? = some ce) (hv : ce.vm = .none) (hcl : s.vm.findClass E = some ce.cls)
    (kk : W p l e R s m args below meth c H locs cells slots Q (F0 m x.handlerPc ls [.ref q])) : vx_W p l e R s m args below meth c H locs cells slots Q (F0 m pc ls rest) q := by
  intro T hT X
  have hpl : e.platform.magicAccessors = ({} : Platform).magicAccessors := by rw [X.admits.platform]
  obtain ⟨c3, c4, hc3, hc4, hasg⟩ := Cond.castable_spec hcast
  cases Option.some.inj (hc3.symm.trans hcl)
  obtain ⟨c5, hc5, hcl5⟩ := Cond.classLink_spec hown hlink e.platform hpl
  cases Option.some.inj (hc4.symm.trans hc5)
  obtain ⟨vm', X', st⟩ := X.thenCaughtThrough q (g := F0 m pc ls rest) rfl (Steps.refl _) (by rw [hT]; exact hcell) (by rw [hv]; rfl) (by obtain ⟨k9, h9, -⟩ := Vm.findClass_spec hcl; exact ⟨k9, h9⟩) pre x suf hsplit
    (fun z hz => by
      rcases hpass z hz with h | ⟨hz0, nm, hl1, hn1⟩
      · exact Or.inl h
      · obtain ⟨c6, hc6, hcl6⟩ := Cond.classLink_spec hown hl1 e.platform hpl
        obtain ⟨a8, b8, h1, h2, h3⟩ := hn1
        cases Option.some.inj (h1.symm.trans hcl)
        cases Option.some.inj (h2.symm.trans hc6)
        exact Or.inr ⟨hz0, _, hcl6, h3⟩) hx (Or.inr ⟨h0, c4, hcl5, hasg⟩)
  obtain ⟨t, a1, b1⟩ := kk (T.setVm vm') hT X'
  exact ⟨t, st.trans a1, b1⟩
end Rows
section Ends
variable {p : Program} {l : Launch} {e : Env} {R : Room} {s : State} {m : MethodId} {args : Array Value} {below : List Frame} {meth : Method} {c : Code} {H : Heap} {locs : List Loc} {cells slots : Nat} {Q : State → Prop}
variable {mc ms : Nat} {free : Addr → Prop} {A0 A1 : Nat → Prop} {H0 : Heap} {a : Array Value} {ls : Array Slot} {st0 rest : List Value}
variable {Qc : Array Value → State → Outcome → State → Prop} {XC : String → State → State → Prop}
/-- what a body that may throw owes at its end -/
def vx_MQ (below : List Frame) (Qc : Array Value → State → Outcome → State → Prop) (XC : String → State → State → Prop) (a : Array Value) (s : State) (mc ms : Nat) (free : Addr → Prop) : State → Prop := fun t =>
  ∃ o, t.status = .running ∧ Ended t below o ∧ vx_Q Qc XC mc ms free a s o t
theorem vx_ret {g : JFrame} {mc ms : Nat} (k : W p l e R s m args below meth c H locs cells slots (MQ below Qc args s mc ms free) g) : W p l e R s m args below meth c H locs cells slots (vx_MQ below Qc XC args s mc ms free) g := by
  intro T hT X
  obtain ⟨t, a1, o, b1, b2, b3, b4⟩ := k T hT X
  exact ⟨t, a1, o, b1, b2, Or.inl ⟨b3, b4⟩⟩
/-- not caught here: it goes on to the caller -/
theorem vx_widen {g : JFrame} {q : Addr} {k n : Nat} (h1 : cells ≤ k) (h2 : slots ≤ n) (kk : vx_W p l e R s m args below meth c H locs k n Q g q) : vx_W p l e R s m args below meth c H locs cells slots Q g q := fun T hT X => kk T hT (stand_widen X h1 h2)
theorem vx_out {pc : Nat} {E : String} {ce : Cell} {q : Addr} {mc ms : Nat} (hout : ∀ x ∈ c.exceptionTable.toList, covers x pc = false) (hlocks : meth.locks = false) (hcell : H[q]? = some ce) (hv : ce.vm = .none) (hcl : s.vm.findClass E = some ce.cls)
    (hx : ∀ t : State, t.heap = H → s.vm.Alike t.vm → XC E s t) (hf : ∀ z ∈ locs, free z.base) (hc : cells ≤ mc) (hs : slots ≤ ms) :
    vx_W p l e R s m args below meth c H locs cells slots (vx_MQ below Qc XC args s mc ms free) (F0 m pc ls rest) q := by
  intro T hT X
  obtain ⟨st1, hrun, hend, hW, hsm⟩ := X.leaveThrown q (g := F0 m pc ls rest) rfl rfl rfl hout hlocks
  have hcell9 : (T.setFrames (.throwing q :: below)).heap[q]? = some ce := by
    show T.heap[q]? = some ce
    rw [hT]; exact hcell
  exact ⟨_, st1, .threw q, hrun, hend, Or.inr ⟨q, rfl, E, ce, locs, hx _ hT hW.alike, hcell9, hv, hcl, hW, hsm.mono hc hs, hf⟩⟩
theorem vx_frame {U : State} {k n : Nat} (h : s.sameButNew ({ U with vm := s.vm } : State) locs k n) : s.heap.size ≤ U.heap.size ∧ ∀ q : Nat, q < s.heap.size → (∀ z ∈ locs, z.base ≠ q) → U.heap[q]? = s.heap[q]? := by
  obtain ⟨-, h2, -, -, -, h6⟩ := h
  refine ⟨h2, fun q hq hz => ?_⟩
  obtain ⟨c9, e1, e2, e3, e4⟩ := h6 q _ (Array.getElem?_eq_getElem hq)
  have hs : c9.slots = (s.heap[q]).slots := Array.ext_getElem? fun i => e4 i fun hm => hz _ hm rfl
  have h9 : c9 = s.heap[q] := by
    rw [hs] at e2
    exact e2
  have e5 : U.heap[q]? = some c9 := e1
  rw [e5, h9, Array.getElem?_eq_getElem hq]
/-- the words of a throw but the four that speak of the heap -/
def vx_no (w : Cond) : Bool := decide (w ≠ .isRef (.static Bundle.tN "UNASSIGNED_STACK" Bundle.steD)) && decide (w ≠ .isRef (.static Bundle.tN "SUPPRESSED_SENTINEL" Bundle.listD)) && decide (w ≠ .laysStatic Bundle.tN "UNASSIGNED_STACK" Bundle.steD) && decide (w ≠ .laysStatic Bundle.tN "SUPPRESSED_SENTINEL" Bundle.listD)
def vx_at0 (own : String) (ic : Nat) (X : String) (names : List String) : List Cond := (Bundle.ownAtoms0 own ic X names).filter vx_no
def vx_atS (own : String) (ic : Nat) (X : String) (names : List String) : List Cond := (Bundle.ownAtoms own ic X names).filter vx_no
/-- a word that the tables alone decide, or a good one -/
def vx_ot (w : Cond) : Bool := w.onTables || goodWord w
theorem vx_ot_at {args a' : Array Value} {s U : State} {w : Cond} (hW : s.WarmedH U.vm) (hvm : s.vm = U.vm) (hg : vx_ot w = true) (h : w.before args s = true) : w.before a' U = true := by
  simp only [vx_ot, Bool.or_eq_true] at hg
  rcases hg with hg | hg
  · exact va_tabs hg hvm h
  · exact word_at hW (good_of_word hg) h
/-- a list's words: the good ones out of the method's own list, the others by premises of their own -/
theorem vx_hat {args : Array Value} {s : State} {L B : List Cond} (h1 : ∀ w ∈ L.filter goodWord, w.before args s = true) (h2 : ∀ w ∈ L.filter (fun w => !goodWord w), w ∈ B) (h3 : ∀ w ∈ B, w.before args s = true) : ∀ w ∈ L, w.before args s = true := by
  intro w hw
  by_cases g : goodWord w = true
  · exact h1 w (List.mem_filter.mpr ⟨hw, g⟩)
  · refine h3 w (h2 w (List.mem_filter.mpr ⟨hw, ?_⟩))
    show (!goodWord w) = true
    cases hgw : goodWord w
    · rfl
    · exact absurd hgw g
theorem vx_c {args : Array Value} {s : State} {w : Cond} {B : List Cond} (h : w.before args s = true) (t : ∀ w ∈ B, w.before args s = true) : ∀ w' ∈ w :: B, w'.before args s = true := fun w' h' => (List.mem_cons.mp h').elim (fun e => by rw [e]; exact h) (t w')
theorem vx_n {args : Array Value} {s : State} : ∀ w ∈ ([] : List Cond), w.before args s = true := fun _ h => nomatch h
theorem vx_own {args : Array Value} {s : State} {L : List Cond} (h1 : ∀ w ∈ L.filter vx_no, w.before args s = true)
    (hU : (Cond.isRef (.static Bundle.tN "UNASSIGNED_STACK" Bundle.steD)).before args s = true) (hN : (Cond.isRef (.static Bundle.tN "SUPPRESSED_SENTINEL" Bundle.listD)).before args s = true)
    (lU : (Cond.laysStatic Bundle.tN "UNASSIGNED_STACK" Bundle.steD).before args s = true) (lN : (Cond.laysStatic Bundle.tN "SUPPRESSED_SENTINEL" Bundle.listD).before args s = true) : ∀ w ∈ L, w.before args s = true := by
  intro w hw
  by_cases e1 : w = .isRef (.static Bundle.tN "UNASSIGNED_STACK" Bundle.steD)
  · rw [e1]; exact hU
  · by_cases e2 : w = .isRef (.static Bundle.tN "SUPPRESSED_SENTINEL" Bundle.listD)
    · rw [e2]; exact hN
    · by_cases e3 : w = .laysStatic Bundle.tN "UNASSIGNED_STACK" Bundle.steD
      · rw [e3]; exact lU
      · by_cases e4 : w = .laysStatic Bundle.tN "SUPPRESSED_SENTINEL" Bundle.listD
        · rw [e4]; exact lN
        · exact h1 w (List.mem_filter.mpr ⟨hw, by unfold vx_no; rw [decide_eq_true e1, decide_eq_true e2, decide_eq_true e3, decide_eq_true e4]; rfl⟩)
/-- where a static field lies, its class's statics cell in H -/
def vx_L (C n d : String) (A : Nat → Prop) (U : State) (H : Heap) : Prop := ∃ (c : ClassId) (k : Class) (i : Nat) (f : Field) (a : Nat) (cell : Cell), U.vm.findClass C = some c ∧ U.fieldFound? C n d = some (c, k, i, f) ∧ f.isStatic = true ∧ k.statics = some a ∧ H[a]? = some cell ∧ cell.vm.isStatics = true ∧ cell.cls = c ∧ f.slot < cell.slots.size ∧ k.staticTypes[f.slot]? = some f.type ∧ ¬ A a
theorem vx_L.moved {C n d : String} {A : Nat → Prop} {u U : State} {H : Heap} (hvm : u.vm.Alike U.vm) (h : vx_L C n d A u H) : vx_L C n d A U H := by
  obtain ⟨c, k, i, f, a, cell, h1, h2, h3, h4, h5, h6, h7, h8, h9, h10⟩ := h
  obtain ⟨k', hi', he⟩ := State.fieldFound?_setVm hvm h2
  exact ⟨c, k', i, f, a, cell, by rw [hvm.findClass]; exact h1, hi', h3, by rw [he]; exact h4, h5, h6, h7, h8, by rw [he]; exact h9, h10⟩
theorem vx_L.kept {C n d : String} {A : Nat → Prop} {U : State} {H H1 : Heap} (h : vx_L C n d A U H) (hq : ∀ a : Nat, a < H.size → ¬ A a → H1[a]? = H[a]?) : vx_L C n d A U H1 := by
  obtain ⟨c, k, i, f, a, cell, h1, h2, h3, h4, h5, h6, h7, h8, h9, h10⟩ := h
  exact ⟨c, k, i, f, a, cell, h1, h2, h3, h4, by rw [hq a (Array.getElem?_eq_some_iff.mp h5).1 h10]; exact h5, h6, h7, h8, h9, h10⟩
theorem vx_L.narrow {C n d : String} {A B : Nat → Prop} {U : State} {H : Heap} (h : vx_L C n d A U H) (hAB : ∀ q, B q → A q) : vx_L C n d B U H := by
  obtain ⟨c, k, i, f, a, cell, h1, h2, h3, h4, h5, h6, h7, h8, h9, h10⟩ := h
  exact ⟨c, k, i, f, a, cell, h1, h2, h3, h4, h5, h6, h7, h8, h9, fun z => h10 (hAB _ z)⟩
theorem vx_L.word {C n d : String} {A : Nat → Prop} {s : State} {args : Array Value} (h : vx_L C n d A s s.heap) : (Cond.laysStatic C n d).before args s = true := by
  obtain ⟨c, k, i, f, a, cell, h1, h2, h3, h4, h5, h6, h7, h8, h9, -⟩ := h
  show (Cond.laysStatic C n d).holds args s none s [] = true
  exact Cond.laysStatic_of h1 h2 h3 h4 h5 h6 h7 h8 h9
/-- .. and what it holds: null or some reference -/
def vx_Zq (C n d : String) (A : Nat → Prop) (U : State) (H : Heap) : Prop := va_Zq C n d A U H ∧ vx_L C n d A U H
theorem vx_Zq.moved {C n d : String} {A : Nat → Prop} {u U : State} {H : Heap} (hvm : u.vm.Alike U.vm) (h : vx_Zq C n d A u H) : vx_Zq C n d A U H := ⟨va_Zq.moved hvm h.1, vx_L.moved hvm h.2⟩
theorem vx_Zq.kept {C n d : String} {A : Nat → Prop} {U : State} {H H1 : Heap} (h : vx_Zq C n d A U H) (hq : ∀ a : Nat, a < H.size → ¬ A a → H1[a]? = H[a]?) : vx_Zq C n d A U H1 := ⟨va_Zq.kept h.1 hq, vx_L.kept h.2 hq⟩
theorem vx_Zq.narrow {C n d : String} {A B : Nat → Prop} {U : State} {H : Heap} (h : vx_Zq C n d A U H) (hAB : ∀ q, B q → A q) : vx_Zq C n d B U H := ⟨va_Zq.narrow h.1 hAB, vx_L.narrow h.2 hAB⟩
theorem vx_Zqof {args : Array Value} {s : State} {C n d : String} {A : Nat → Prop} (hl : (Cond.laysStatic C n d).before args s = true) (hini : (Cond.initialized C).before args s = true) (h : (Cond.isRef (.static C n d)).before args s = true) (hA : ∀ a : Nat, a < s.heap.size → ¬ A a) : vx_Zq C n d A s s.heap := by
  refine ⟨va_Zqof hl hini h hA, ?_⟩
  obtain ⟨c, k, i, f, a, cell, h1, h2, h3, h4, h5, h6, h7, h8, h9⟩ := Cond.laysStatic_spec hl
  exact ⟨c, k, i, f, a, cell, h1, h2, h3, h4, h5, h6, h7, h8, h9, hA a (Array.getElem?_eq_some_iff.mp h5).1⟩
theorem vx_isRef {C n d : String} {v : Value} {A : Nat → Prop} {s : State} {args : Array Value} (h : va_Z C n d v A s s.heap) (hv : v.isRef = true) : (Cond.isRef (.static C n d)).before args s = true := by
  obtain ⟨cf, kf, fi, f, a, cell, h1, h2, h3, h4, h5, h6, h7, -⟩ := h
  have he : (Term.static C n d).eval args s none [] s = some v := by
    simp [Term.eval, State.fieldNamed?, h1, h2, h4, h5, h6, h7]
  simp only [Cond.before, Cond.holds, Cond.value, he]
  cases v <;> simp_all [Value.isRef]
theorem vx_isRefq {C n d : String} {A : Nat → Prop} {s : State} {args : Array Value} (h : va_Zq C n d A s s.heap) : (Cond.isRef (.static C n d)).before args s = true := by
  rcases h with h | ⟨t, h⟩
  · exact vx_isRef h rfl
  · exact vx_isRef h rfl
/-- the same frame, seen from here: as if the method were called anew in this heap -/
theorem vx_rebase {T : State} (X : Stand p l e R s m args below meth c T locs cells slots) {R' : Room} (hf : R'.frames ≤ R.frames) (hl : R'.locals ≤ R.locals) (hc : cells + R'.cells ≤ R.cells) (hs : slots + R'.slots ≤ R.slots) :
    Stand p l e R' ((T.setVm s.vm).setFrames (.invoking m args :: below)) m args below meth c T [] 0 0 := by
  have htop : (T.setVm s.vm).topJava?.isSome := X.here.top
  have hF : ((T.setVm s.vm).setFrames (.invoking m args :: below)).frames = .invoking m args :: below := State.frames_setFrames _ (State.cur_lt_of_top htop)
  obtain ⟨g₀, hg0⟩ := Option.isSome_iff_exists.mp htop
  obtain ⟨r, hr⟩ := State.topJava?_eq_some.mp hg0
  have hl9 : e.platform.stackLimits (T.setVm s.vm).me = e.platform.stackLimits s.me := X.limits
  have hb9 : (T.setVm s.vm).me.stackBytes = s.me.stackBytes := X.bytes
  refine ⟨X.admits, X.cas, X.clock, hF, ?_, X.hears, X.method, X.code, X.here, X.tail, X.warmed, ?_, ?_, ?_⟩
  · have h := X.room
    have hU : ((T.setVm s.vm).setFrames (.invoking m args :: below)).localsInUse = s.localsInUse := by
      rw [State.localsInUse_invoking hF (meth := meth) (c := c) X.method X.code, State.localsInUse_invoking X.frames X.method X.code]
    simp only [State.hasRoom, Bool.and_eq_true, decide_eq_true_eq] at h ⊢
    obtain ⟨⟨⟨⟨h1, h2, h3, h4, h5, h6⟩, h7⟩, h8⟩, h9⟩ := h
    rw [X.frames, List.length_cons] at h2 h3
    have q1 := X.heapSize
    have q2 := X.used
    simp only [hF, hU, List.length_cons, State.stackLimits_setFrames, State.stackBytes_setFrames, hl9, hb9]
    refine ⟨⟨⟨⟨by omega, by omega, by omega, by omega, by omega, h6⟩, ?_⟩, ?_⟩, X.book⟩
    · show T.heap.size + R'.cells ≤ e.platform.maxCells
      omega
    · show T.slotsUsed + R'.slots ≤ e.platform.maxSlots
      omega
  · rw [State.stackLimits_setFrames]; rfl
  · rw [State.stackBytes_setFrames]; rfl
  · refine ⟨?_, Nat.le_refl _, Nat.le_refl _, ?_, ?_, fun a c9 h9 => ⟨c9, h9, rfl, rfl, fun _ _ => rfl⟩⟩
    · obtain ⟨t, ht, -⟩ := State.frames_cons hr
      show T.setVm s.vm = { ((T.setVm s.vm).setFrames (.invoking m args :: below)).setFrames (T.setVm s.vm).frames with heap := T.heap, slotsUsed := T.slotsUsed }
      rw [State.setFrames_setFrames, State.setFrames_self ht]
      rfl
    · show T.slotsUsed = T.slotsUsed + ((T.heap.toList.drop T.heap.size).map (·.slots.size)).sum
      rw [List.drop_eq_nil_of_le (Nat.le_of_eq Array.length_toList)]
      rfl
    · show ((T.heap.toList.drop T.heap.size).map (·.slots.size)).sum ≤ 0
      rw [List.drop_eq_nil_of_le (Nat.le_of_eq Array.length_toList)]
      exact Nat.le_refl _
/-- 'throw new E()': new; dup; invokespecial; athrow -/
theorem vx_throw0 {cc : ByteArray} {pc : Nat} (hexec : p.tables.exec = Jvm.exec) (hb : c.code = cc) (hl : l.stackTraces = false) {own cls : String} {names : List String} {ik ic mc ms : Nat} {A : Nat → Prop}
    (hown : s.vm.findClass own = some m.cls) (hcls : Bundle.fit cls = true) (hnames : ∀ n ∈ names, Bundle.fit n = true)
    (hk : (Cond.classLink own ik cls).before args s = true) (hini : (Cond.initialized cls).before args s = true) (hat : ∀ w ∈ vx_at0 own ic cls names, w.before args s = true)
    (hgood : ∀ w ∈ Cond.classLink own ik cls :: Cond.initialized cls :: vx_at0 own ic cls names, vx_ot w = true)
    (hU : vx_Zq Bundle.tN "UNASSIGNED_STACK" Bundle.steD A s s.heap) (hN : vx_Zq Bundle.tN "SUPPRESSED_SENTINEL" Bundle.listD A s s.heap) (hS : va_S A s.heap H locs) (hsize : ls.size = c.maxLocals)
    (d0 : decode cc pc = .ok (.new ik, 3)) (d3 : decode cc (pc + 3) = .ok (.dup, 1)) (d4 : decode cc (pc + 4) = .ok (.invokespecial ic, 3)) (d7 : decode cc (pc + 7) = .ok (.athrow, 1))
    (hout : ∀ x ∈ c.exceptionTable.toList, covers x (pc + 7) = false)
    (hRframes : names.length + 3 < R.frames) (hRlocals : (rest.map fun v => v.category).sum + (13 * (names.length + 1) + 42) ≤ R.locals) (hRcells : cells + 1 ≤ R.cells) (hRslots : slots + 6 ≤ R.slots) (hlocks : meth.locks = false)
    (hx : ∀ t : State, s.vm.Alike t.vm → H.size ≤ t.heap.size → (∀ q : Nat, q < H.size → t.heap[q]? = H[q]?) → XC cls s t)
    (hf : ∀ z ∈ locs, free z.base) (hc : cells + 1 ≤ mc) (hs : slots + 6 ≤ ms) :
    W p l e R s m args below meth c H locs cells slots (vx_MQ below Qc XC args s mc ms free) (F0 m pc ls rest) := by
  intro T hT X
  have htr : e.platform.stackTraces = false := (show e.platform.stackTraces = l.stackTraces by rw [X.admits.platform]).trans hl
  have Y := vx_rebase X (R' := { frames := R.frames, locals := R.locals, cells := 1, slots := 6 }) (Nat.le_refl _) (Nat.le_refl _) hRcells hRslots
  obtain ⟨s', hA⟩ : ∃ z, z = (T.setVm s.vm).setFrames (.invoking m args :: below) := ⟨_, rfl⟩
  rw [← hA] at Y
  have hvm : s'.vm = s.vm := by rw [hA]; rfl
  have hhp : s'.heap = H := by rw [hA]; exact hT
  have hW0 : s.WarmedH s'.vm := by rw [hvm]; exact State.WarmedH.refl s
  have hat' : ∀ w ∈ vx_at0 own ic cls names, w.before args s' = true := fun w hw => vx_ot_at hW0 hvm.symm (hgood w (List.mem_cons_of_mem _ (List.mem_cons_of_mem _ hw))) (hat w hw)
  have hk' : (Cond.classLink own ik cls).before args s' = true := vx_ot_at hW0 hvm.symm (hgood _ List.mem_cons_self) hk
  have hini' : (Cond.initialized cls).before args s' = true := vx_ot_at hW0 hvm.symm (hgood _ (List.mem_cons_of_mem _ List.mem_cons_self)) hini
  have hU' : vx_Zq Bundle.tN "UNASSIGNED_STACK" Bundle.steD A s' s'.heap := by rw [hhp]; exact vx_Zq.moved hW0.alike (hU.kept hS.2.1)
  have hN' : vx_Zq Bundle.tN "SUPPRESSED_SENTINEL" Bundle.listD A s' s'.heap := by rw [hhp]; exact vx_Zq.moved hW0.alike (hN.kept hS.2.1)
  have h : ∀ w ∈ Bundle.ownAtoms0 own ic cls names, w.before args s' = true := vx_own hat' (vx_isRefq hU'.1) (vx_isRefq hN'.1) hU'.2.word hN'.2.word
  have hown' : s'.vm.findClass own = some m.cls := by rw [hvm]; exact hown
  have hins : (Cond.instantiable cls 6).before args s' = true := h _ (by simp [Bundle.ownAtoms0])
  obtain ⟨vm₁, cX, kX, hfX, hkX, -, -, X₁, st1⟩ := Y.newCold hexec (own := own) (C := cls) (index := ik) (n := 6) hown' hk' hins hini'
    (g := F0 m pc ls rest) rfl (by rw [hb]; exact d0) (Nat.le_refl _) (Nat.le_refl _)
  generalize hT1 : (T.setVm vm₁).pushCell { cls := cX, slots := kX.instanceTypes.map defaultValue, vm := .none } = T1 at X₁ st1
  have hcat : (Value.ref T.heap.size).category = 1 := rfl
  have hcellA : T1.heap[T.heap.size]? = some (freshCell cX kX) := by rw [← hT1]; exact State.heap_pushCell_size _ _
  have d3' : decode c.code (pc + 3) = .ok (.dup, 1) := by rw [hb]; exact d3
  obtain ⟨U, hsteps, hrun, hend, hW, hsame, ce, hce, hO⟩ := X₁.ctorThrow0 hexec htr (own := own) (cls := cls) (names := names) (ic := ic) hown' hcls hnames h (fun x hx => nomatch hx) hfX hkX hcellA (by rw [hhp, hT]; exact Nat.le_refl _)
    (g := { method := m, pc := pc + 4, locals := ls, stack := .ref T.heap.size :: .ref T.heap.size :: rest, locked := none }) rfl hsize rfl rfl (rest := rest) rfl
    (by rw [hb]; exact d4) (by rw [hb]; exact d7) hout hRframes (by simp only [List.map_cons, List.sum_cons, hcat]; omega) hlocks
  obtain ⟨f1, f2⟩ := vx_frame hsame
  rw [hhp] at f1 f2
  have hWs : s.WarmedH U.vm := State.WarmedH.trans hW0 hW
  have hcl : s.vm.findClass cls = some ce.cls := by
    have h9 := hO.cls
    rw [hvm] at h9
    exact h9
  have hall : s.sameButNew ({ U with vm := s.vm } : State) locs mc ms := by
    subst hA
    obtain ⟨e1, e2⟩ := hsame
    rw [State.setFrames_setFrames] at e1
    have h2 : (T.setVm s.vm).sameButNew ({ U with vm := s.vm } : State) [] (0 + 1) (0 + 6) := ⟨e1, e2⟩
    have h3 := X.same.trans h2
    rw [List.append_nil] at h3
    exact h3.mono hc hs
  refine ⟨U, ?_, .threw T.heap.size, hrun, hend, Or.inr ⟨T.heap.size, rfl, cls, ce, locs, hx U hWs.alike f1 (fun q hq => f2 q hq (fun z hz => nomatch hz)), hce, hO.vm, hcl, hWs, hall, hf⟩⟩
  refine st1 _ ?_
  show Steps p.tables e below (T1.setTop { method := m, pc := pc + 3, locals := ls, stack := .ref T.heap.size :: rest, locked := none }) _
  jvm_step X₁.here [X₁.here.top, hexec, d3', Value.category]
  exact hsteps
/-- 'throw new E("text")': new; dup; ldc; invokespecial; athrow -/
theorem vx_throwS {cc : ByteArray} {pc : Nat} (hexec : p.tables.exec = Jvm.exec) (hb : c.code = cc) (hl : l.stackTraces = false) {own cls text : String} {names : List String} {ik is ic mc ms sa : Nat} {A : Nat → Prop}
    (hown : s.vm.findClass own = some m.cls) (hcls : Bundle.fit cls = true) (hnames : ∀ n ∈ names, Bundle.fit n = true)
    (hk : (Cond.classLink own ik cls).before args s = true) (hini : (Cond.initialized cls).before args s = true) (hstr : vk_R own is text sa s) (hat : ∀ w ∈ vx_atS own ic cls names, w.before args s = true)
    (hgood : ∀ w ∈ Cond.classLink own ik cls :: Cond.initialized cls :: vx_atS own ic cls names, vx_ot w = true)
    (hU : vx_Zq Bundle.tN "UNASSIGNED_STACK" Bundle.steD A s s.heap) (hN : vx_Zq Bundle.tN "SUPPRESSED_SENTINEL" Bundle.listD A s s.heap) (hS : va_S A s.heap H locs) (hsize : ls.size = c.maxLocals)
    (d0 : decode cc pc = .ok (.new ik, 3)) (d3 : decode cc (pc + 3) = .ok (.dup, 1)) (d4 : decode cc (pc + 4) = .ok (.ldc is, 2)) (d6 : decode cc (pc + 6) = .ok (.invokespecial ic, 3)) (d9 : decode cc (pc + 9) = .ok (.athrow, 1))
    (hout : ∀ x ∈ c.exceptionTable.toList, covers x (pc + 9) = false)
    (hRframes : names.length + 3 < R.frames) (hRlocals : (rest.map fun v => v.category).sum + (13 * (names.length + 1) + 43) ≤ R.locals) (hRcells : cells + 1 ≤ R.cells) (hRslots : slots + 6 ≤ R.slots) (hlocks : meth.locks = false)
    (hx : ∀ t : State, s.vm.Alike t.vm → H.size ≤ t.heap.size → (∀ q : Nat, q < H.size → t.heap[q]? = H[q]?) → XC cls s t)
    (hf : ∀ z ∈ locs, free z.base) (hc : cells + 1 ≤ mc) (hs : slots + 6 ≤ ms) :
    W p l e R s m args below meth c H locs cells slots (vx_MQ below Qc XC args s mc ms free) (F0 m pc ls rest) := by
  intro T hT X
  have htr : e.platform.stackTraces = false := (show e.platform.stackTraces = l.stackTraces by rw [X.admits.platform]).trans hl
  have Y := vx_rebase X (R' := { frames := R.frames, locals := R.locals, cells := 1, slots := 6 }) (Nat.le_refl _) (Nat.le_refl _) hRcells hRslots
  obtain ⟨s', hA⟩ : ∃ z, z = (T.setVm s.vm).setFrames (.invoking m args :: below) := ⟨_, rfl⟩
  rw [← hA] at Y
  have hvm : s'.vm = s.vm := by rw [hA]; rfl
  have hhp : s'.heap = H := by rw [hA]; exact hT
  have hW0 : s.WarmedH s'.vm := by rw [hvm]; exact State.WarmedH.refl s
  have hat' : ∀ w ∈ vx_atS own ic cls names, w.before args s' = true := fun w hw => vx_ot_at hW0 hvm.symm (hgood w (List.mem_cons_of_mem _ (List.mem_cons_of_mem _ hw))) (hat w hw)
  have hk' : (Cond.classLink own ik cls).before args s' = true := vx_ot_at hW0 hvm.symm (hgood _ List.mem_cons_self) hk
  have hini' : (Cond.initialized cls).before args s' = true := vx_ot_at hW0 hvm.symm (hgood _ (List.mem_cons_of_mem _ List.mem_cons_self)) hini
  have hU' : vx_Zq Bundle.tN "UNASSIGNED_STACK" Bundle.steD A s' s'.heap := by rw [hhp]; exact vx_Zq.moved hW0.alike (hU.kept hS.2.1)
  have hN' : vx_Zq Bundle.tN "SUPPRESSED_SENTINEL" Bundle.listD A s' s'.heap := by rw [hhp]; exact vx_Zq.moved hW0.alike (hN.kept hS.2.1)
  have h : ∀ w ∈ Bundle.ownAtoms own ic cls names, w.before args s' = true := vx_own hat' (vx_isRefq hU'.1) (vx_isRefq hN'.1) hU'.2.word hN'.2.word
  have hown' : s'.vm.findClass own = some m.cls := by rw [hvm]; exact hown
  have hins : (Cond.instantiable cls 6).before args s' = true := h _ (by simp [Bundle.ownAtoms])
  obtain ⟨vm₁, cX, kX, hfX, hkX, -, -, X₁, st1⟩ := Y.newCold hexec (own := own) (C := cls) (index := ik) (n := 6) hown' hk' hins hini'
    (g := F0 m pc ls rest) rfl (by rw [hb]; exact d0) (Nat.le_refl _) (Nat.le_refl _)
  generalize hT1 : (T.setVm vm₁).pushCell { cls := cX, slots := kX.instanceTypes.map defaultValue, vm := .none } = T1 at X₁ st1
  have hcat : (Value.ref T.heap.size).category = 1 := rfl
  have hcellA : T1.heap[T.heap.size]? = some (freshCell cX kX) := by rw [← hT1]; exact State.heap_pushCell_size _ _
  have d3' : decode c.code (pc + 3) = .ok (.dup, 1) := by rw [hb]; exact d3
  have d4' : decode c.code (pc + 4) = .ok (.ldc is, 2) := by rw [hb]; exact d4
  have hstr' : vk_R own is text sa s' := vk_R.warm hW0 hstr
  obtain ⟨U, hsteps, hrun, hend, hW, hsame, ce, hce, hO⟩ := X₁.ctorThrowS hexec htr (own := own) (cls := cls) (names := names) (ic := ic) hown' hcls hnames h (fun x hx => nomatch hx) hfX hkX hcellA (by rw [hhp, hT]; exact Nat.le_refl _) (msg := .ref sa) rfl
    (g := { method := m, pc := pc + 6, locals := ls, stack := .ref sa :: .ref T.heap.size :: .ref T.heap.size :: rest, locked := none }) rfl hsize rfl rfl (rest := rest) rfl
    (by rw [hb]; exact d6) (by rw [hb]; exact d9) hout hRframes (by simp only [List.map_cons, List.sum_cons, hcat]; omega) hlocks
  obtain ⟨f1, f2⟩ := vx_frame hsame
  rw [hhp] at f1 f2
  have hWs : s.WarmedH U.vm := State.WarmedH.trans hW0 hW
  have hcl : s.vm.findClass cls = some ce.cls := by
    have h9 := hO.cls
    rw [hvm] at h9
    exact h9
  have hall : s.sameButNew ({ U with vm := s.vm } : State) locs mc ms := by
    subst hA
    obtain ⟨e1, e2⟩ := hsame
    rw [State.setFrames_setFrames] at e1
    have h2 : (T.setVm s.vm).sameButNew ({ U with vm := s.vm } : State) [] (0 + 1) (0 + 6) := ⟨e1, e2⟩
    have h3 := X.same.trans h2
    rw [List.append_nil] at h3
    exact h3.mono hc hs
  refine ⟨U, ?_, .threw T.heap.size, hrun, hend, Or.inr ⟨T.heap.size, rfl, cls, ce, locs, hx U hWs.alike f1 (fun q hq => f2 q hq (fun z hz => nomatch hz)), hce, hO.vm, hcl, hWs, hall, hf⟩⟩
  refine st1 _ ?_
  show Steps p.tables e below (T1.setTop { method := m, pc := pc + 3, locals := ls, stack := .ref T.heap.size :: rest, locked := none }) _
  jvm_step X₁.here [X₁.here.top, hexec, d3', Value.category]
  exact X₁.ldcString hexec (own := own) (text := text) (index := is) (a := sa) hown' hstr'.1 hstr'.2
    (g := { method := m, pc := pc + 4, locals := ls, stack := .ref T.heap.size :: .ref T.heap.size :: rest, locked := none }) rfl d4' _ hsteps
/-- 'throw new E("text")', the text by a wide index -/
theorem vx_throwSW {cc : ByteArray} {pc : Nat} (hexec : p.tables.exec = Jvm.exec) (hb : c.code = cc) (hl : l.stackTraces = false) {own cls text : String} {names : List String} {ik is ic mc ms sa : Nat} {A : Nat → Prop}
    (hown : s.vm.findClass own = some m.cls) (hcls : Bundle.fit cls = true) (hnames : ∀ n ∈ names, Bundle.fit n = true)
    (hk : (Cond.classLink own ik cls).before args s = true) (hini : (Cond.initialized cls).before args s = true) (hstr : vk_R own is text sa s) (hat : ∀ w ∈ vx_atS own ic cls names, w.before args s = true)
    (hgood : ∀ w ∈ Cond.classLink own ik cls :: Cond.initialized cls :: vx_atS own ic cls names, vx_ot w = true)
    (hU : vx_Zq Bundle.tN "UNASSIGNED_STACK" Bundle.steD A s s.heap) (hN : vx_Zq Bundle.tN "SUPPRESSED_SENTINEL" Bundle.listD A s s.heap) (hS : va_S A s.heap H locs) (hsize : ls.size = c.maxLocals)
    (d0 : decode cc pc = .ok (.new ik, 3)) (d3 : decode cc (pc + 3) = .ok (.dup, 1)) (d4 : decode cc (pc + 4) = .ok (.ldc_w is, 3)) (d7 : decode cc (pc + 7) = .ok (.invokespecial ic, 3)) (d10 : decode cc (pc + 10) = .ok (.athrow, 1))
    (hout : ∀ x ∈ c.exceptionTable.toList, covers x (pc + 10) = false)
    (hRframes : names.length + 3 < R.frames) (hRlocals : (rest.map fun v => v.category).sum + (13 * (names.length + 1) + 43) ≤ R.locals) (hRcells : cells + 1 ≤ R.cells) (hRslots : slots + 6 ≤ R.slots) (hlocks : meth.locks = false)
    (hx : ∀ t : State, s.vm.Alike t.vm → H.size ≤ t.heap.size → (∀ q : Nat, q < H.size → t.heap[q]? = H[q]?) → XC cls s t)
    (hf : ∀ z ∈ locs, free z.base) (hc : cells + 1 ≤ mc) (hs : slots + 6 ≤ ms) :
    W p l e R s m args below meth c H locs cells slots (vx_MQ below Qc XC args s mc ms free) (F0 m pc ls rest) := by
  intro T hT X
  have htr : e.platform.stackTraces = false := (show e.platform.stackTraces = l.stackTraces by rw [X.admits.platform]).trans hl
  have Y := vx_rebase X (R' := { frames := R.frames, locals := R.locals, cells := 1, slots := 6 }) (Nat.le_refl _) (Nat.le_refl _) hRcells hRslots
  obtain ⟨s', hA⟩ : ∃ z, z = (T.setVm s.vm).setFrames (.invoking m args :: below) := ⟨_, rfl⟩
  rw [← hA] at Y
  have hvm : s'.vm = s.vm := by rw [hA]; rfl
  have hhp : s'.heap = H := by rw [hA]; exact hT
  have hW0 : s.WarmedH s'.vm := by rw [hvm]; exact State.WarmedH.refl s
  have hat' : ∀ w ∈ vx_atS own ic cls names, w.before args s' = true := fun w hw => vx_ot_at hW0 hvm.symm (hgood w (List.mem_cons_of_mem _ (List.mem_cons_of_mem _ hw))) (hat w hw)
  have hk' : (Cond.classLink own ik cls).before args s' = true := vx_ot_at hW0 hvm.symm (hgood _ List.mem_cons_self) hk
  have hini' : (Cond.initialized cls).before args s' = true := vx_ot_at hW0 hvm.symm (hgood _ (List.mem_cons_of_mem _ List.mem_cons_self)) hini
  have hU' : vx_Zq Bundle.tN "UNASSIGNED_STACK" Bundle.steD A s' s'.heap := by rw [hhp]; exact vx_Zq.moved hW0.alike (hU.kept hS.2.1)
  have hN' : vx_Zq Bundle.tN "SUPPRESSED_SENTINEL" Bundle.listD A s' s'.heap := by rw [hhp]; exact vx_Zq.moved hW0.alike (hN.kept hS.2.1)
  have h : ∀ w ∈ Bundle.ownAtoms own ic cls names, w.before args s' = true := vx_own hat' (vx_isRefq hU'.1) (vx_isRefq hN'.1) hU'.2.word hN'.2.word
  have hown' : s'.vm.findClass own = some m.cls := by rw [hvm]; exact hown
  have hins : (Cond.instantiable cls 6).before args s' = true := h _ (by simp [Bundle.ownAtoms])
  obtain ⟨vm₁, cX, kX, hfX, hkX, -, -, X₁, st1⟩ := Y.newCold hexec (own := own) (C := cls) (index := ik) (n := 6) hown' hk' hins hini'
    (g := F0 m pc ls rest) rfl (by rw [hb]; exact d0) (Nat.le_refl _) (Nat.le_refl _)
  generalize hT1 : (T.setVm vm₁).pushCell { cls := cX, slots := kX.instanceTypes.map defaultValue, vm := .none } = T1 at X₁ st1
  have hcat : (Value.ref T.heap.size).category = 1 := rfl
  have hcellA : T1.heap[T.heap.size]? = some (freshCell cX kX) := by rw [← hT1]; exact State.heap_pushCell_size _ _
  have d3' : decode c.code (pc + 3) = .ok (.dup, 1) := by rw [hb]; exact d3
  have d4' : decode c.code (pc + 4) = .ok (.ldc_w is, 3) := by rw [hb]; exact d4
  have hstr' : vk_R own is text sa s' := vk_R.warm hW0 hstr
  obtain ⟨U, hsteps, hrun, hend, hW, hsame, ce, hce, hO⟩ := X₁.ctorThrowS hexec htr (own := own) (cls := cls) (names := names) (ic := ic) hown' hcls hnames h (fun x hx => nomatch hx) hfX hkX hcellA (by rw [hhp, hT]; exact Nat.le_refl _) (msg := .ref sa) rfl
    (g := { method := m, pc := pc + 7, locals := ls, stack := .ref sa :: .ref T.heap.size :: .ref T.heap.size :: rest, locked := none }) rfl hsize rfl rfl (rest := rest) rfl
    (by rw [hb]; exact d7) (by rw [hb]; exact d10) hout hRframes (by simp only [List.map_cons, List.sum_cons, hcat]; omega) hlocks
  obtain ⟨f1, f2⟩ := vx_frame hsame
  rw [hhp] at f1 f2
  have hWs : s.WarmedH U.vm := State.WarmedH.trans hW0 hW
  have hcl : s.vm.findClass cls = some ce.cls := by
    have h9 := hO.cls
    rw [hvm] at h9
    exact h9
  have hall : s.sameButNew ({ U with vm := s.vm } : State) locs mc ms := by
    subst hA
    obtain ⟨e1, e2⟩ := hsame
    rw [State.setFrames_setFrames] at e1
    have h2 : (T.setVm s.vm).sameButNew ({ U with vm := s.vm } : State) [] (0 + 1) (0 + 6) := ⟨e1, e2⟩
    have h3 := X.same.trans h2
    rw [List.append_nil] at h3
    exact h3.mono hc hs
  refine ⟨U, ?_, .threw T.heap.size, hrun, hend, Or.inr ⟨T.heap.size, rfl, cls, ce, locs, hx U hWs.alike f1 (fun q hq => f2 q hq (fun z hz => nomatch hz)), hce, hO.vm, hcl, hWs, hall, hf⟩⟩
  refine st1 _ ?_
  show Steps p.tables e below (T1.setTop { method := m, pc := pc + 3, locals := ls, stack := .ref T.heap.size :: rest, locked := none }) _
  jvm_step X₁.here [X₁.here.top, hexec, d3', Value.category]
  exact X₁.ldcStringW hexec (own := own) (text := text) (index := is) (a := sa) hown' hstr'.1 hstr'.2
    (g := { method := m, pc := pc + 4, locals := ls, stack := .ref T.heap.size :: .ref T.heap.size :: rest, locked := none }) rfl d4' _ hsteps
end Ends
section Bodies
variable {l : Launch}
theorem vx_ofW {y : MethodName} {ws ws' : List Cond} {rm : Room} {Pc : Array Value → State → Prop} {Qc : Array Value → State → Outcome → State → Prop} {XC : String → State → State → Prop} {mc ms : Nat} {free : Addr → Prop} {cc : ByteArray} {maxL : Nat} {ret : Option FieldType}
    (hy : plainName y.cls = true) (hw : ws = Cond.code y cc maxL ret :: ws')
    (body : ∀ p e s m args below meth c s₁, BodyLoose p l y (headSpec ws rm) cc maxL ret e s m args below meth c s₁ → c.maxLocals = maxL → (∀ x ∈ c.exceptionTable.toList, False) → Pc args s →
      W p l e (headSpec ws rm).room s m args below meth c s.heap [] 0 0 (vx_MQ below Qc XC args s mc ms free) (entryFrame m args maxL)) : vx_Met l y ws rm Pc Qc XC mc ms free := by
  refine MetFree.of_bodyS (code := cc) (maxLocals := maxL) (ret := ret) hy ?_ ?_
  · intro args s m h hn
    obtain ⟨meth, c, h1, h2, h3, h4, h5, h6, -, -⟩ := Cond.code_spec hn (atoms_spec (ws := ws) h _ (by rw [hw]; exact List.mem_cons_self))
    exact ⟨meth, c, h1, h2, h3, h4, h5, h6⟩
  · intro p e s m args below meth c s₁ B hml hP _
    have hh0 : s₁.heap = s.heap := by rw [B.state]; rfl
    have ht : ∀ x ∈ c.exceptionTable.toList, False := by
      obtain ⟨meth9, c9, h1, h2, -, -, -, -, h7, -⟩ := Cond.code_spec B.named (atoms_spec (ws := ws) B.pre _ (by rw [hw]; exact List.mem_cons_self))
      cases Option.some.inj (h1.symm.trans B.method)
      cases Option.some.inj (h2.symm.trans (Stand.of_body B).code)
      intro x hx
      rw [Array.isEmpty_iff.mp h7] at hx
      cases hx
    obtain ⟨t, a1, o, b1, b2, b3⟩ := body p e s m args below meth c s₁ B hml ht hP s₁ hh0 (Stand.of_body B)
    exact ⟨t, o, a1, b1, b2, b3⟩
/-- the table of a body with handlers -/
theorem vx_table {p : Program} {x y : MethodName} {S : Spec} {cc bytes : ByteArray} {maxL maxL' : Nat} {ret ret' : Option FieldType} {e : Env} {s s₁ : State} {m : MethodId} {args : Array Value} {below : List Frame} {meth : Method} {c : Code} {hh : List (Nat × Nat × Nat × Nat)}
    (B : BodyLoose p l y S cc maxL ret e s m args below meth c s₁) (h : (Cond.codeWith y bytes maxL' ret' hh).before args s = true) : c.exceptionTable.toList = tableOf hh := by
  obtain ⟨m9, meth9, c9, hn9, h1, h2, -, -, h6, -⟩ := Cond.codeWith_spec h
  cases Option.some.inj (hn9.symm.trans B.named)
  cases Option.some.inj (h1.symm.trans B.method)
  cases Option.some.inj (h2.symm.trans (Stand.of_body B).code)
  rw [← h6, table_eq]
end Bodies
end VXA
/-! ===== END ===== -/
/-! ===== BEGIN a static call of a method with an exception table ===== -/
section VXS
variable {p : Program} {l : Launch} {e : Env} {R : Room} {s : State} {m : MethodId} {args : Array Value} {below : List Frame} {meth : Method} {c : Code} {T : State} {H : Heap} {locs : List Loc} {cells slots : Nat}
abbrev vx_CSW (R : Room) (s : State) (args : Array Value) (own : String) (index : Nat) (y : MethodName) (bytes : ByteArray) (maxL : Nat) (ret : Option FieldType) (hh : List (Nat × Nat × Nat × Nat)) (ws : List Cond) (rm : Room) (mc ms n : Nat) : Prop :=
  (rm.cells = mc ∧ rm.slots = ms ∧ rm.frames + 1 ≤ R.frames ∧ 8 + (maxL + 11) + rm.locals ≤ R.locals ∧ (∀ w ∈ ws, ∀ (a' : Array Value) (U : State), s.WarmedH U.vm → w.before a' U = true) ∧ Cond.codeWith y bytes maxL ret hh ∈ ws) ∧
  (Cond.codeWith y bytes maxL ret hh).before args s = true ∧ (Cond.initialized y.cls).before args s = true ∧ (y.cls ≠ "java/lang/invoke/MethodHandle" ∧ y.cls ≠ "java/lang/invoke/VarHandle") ∧
  (∀ sig, parseMethodDescriptor y.desc = some sig → n = sig.parameters.length) ∧ (Cond.methodLink own index y).before args s = true ∧ (Cond.static y).before args s = true
theorem vx_cwSW {own : String} {index maxL mc ms : Nat} {y : MethodName} {bytes : ByteArray} {ret : Option FieldType} {hh : List (Nat × Nat × Nat × Nat)} {Ts ws ws' : List Cond} {rm : Room} (n : Nat) (ht : ∀ w ∈ Ts, w.before args s = true) (hT : GoodIn Ts (va_wsS own index y ws)) (hw : ws = Cond.codeWith y bytes maxL ret hh :: ws') (hrc : rm.cells = mc) (hrs : rm.slots = ms)
    (hd : y.cls ≠ "java/lang/invoke/MethodHandle" ∧ y.cls ≠ "java/lang/invoke/VarHandle" ∧ (parseMethodDescriptor y.desc).map (fun d => d.parameters.length) = some n) (hR : rm.frames + 1 ≤ R.frames ∧ 8 + (maxL + 11) + rm.locals ≤ R.locals) :
    vx_CSW R s args own index y bytes maxL ret hh ws rm mc ms n := by
  have ok : ∀ w ∈ va_wsS own index y ws, w.before args s = true := fun w h => ht w (hT w h).1
  have hG : GoodIn Ts ws := fun w h => hT w (by unfold va_wsS; exact List.mem_append_right _ h)
  have hc : Cond.codeWith y bytes maxL ret hh ∈ ws := by rw [hw]; exact List.mem_cons_self
  refine ⟨⟨hrc, hrs, hR.1, hR.2, pay_in ht hG, hc⟩, ht _ (hG _ hc).1, ok _ (by simp [va_wsS]), ⟨hd.1, hd.2.1⟩, fun sig h => ?_, ok _ (by simp [va_wsS]), ok _ (by simp [va_wsS])⟩
  have h2 := hd.2.2
  rw [h] at h2
  exact (Option.some.inj h2).symm
theorem vx_callSW (X : Stand p l e R s m args below meth c T locs cells slots) (hexec : p.tables.exec = Jvm.exec) {own : String} {index : Nat} {y : MethodName} {bytes : ByteArray} {maxL : Nat} {ret : Option FieldType} {hh : List (Nat × Nat × Nat × Nat)}
    (hown : s.vm.findClass own = some m.cls) (hlink : (Cond.methodLink own index y).before args s = true) (hstat : (Cond.static y).before args s = true) (hinit : (Cond.initialized y.cls).before args s = true)
    (hcode : (Cond.codeWith y bytes maxL ret hh).before args s = true) (hy : y.cls ≠ "java/lang/invoke/MethodHandle" ∧ y.cls ≠ "java/lang/invoke/VarHandle")
    {W9 : Nat} {Pre : Pt → Array Value → Prop} {Post : Pt → Array Value → Option Value → Pt → Prop} (hK : Back l R p e below s args y 3 W9 Pre Post)
    {g : JFrame} (hg : g.method = m) (hsize : g.locals.size = c.maxLocals) {argsL rest : List Value} (hlen : ∀ sig, parseMethodDescriptor y.desc = some sig → argsL.length = sig.parameters.length)
    (hstack : g.stack = argsL.reverse ++ rest) (hW : 2 * g.monitorRoom + (rest.map fun v => v.category).sum ≤ W9) (hdg : decode c.code g.pc = .ok (.invokestatic index, 3))
    (hpre : ∀ vm₁, s.WarmedH vm₁ → Pre ⟨T.setVm vm₁, locs, cells, slots⟩ argsL.toArray) :
    ∃ (v : Option Value) (vm₁ : Vm) (B : Pt), s.WarmedH vm₁ ∧ Stand p l e R s m args below meth c B.U B.locs B.cells B.slots ∧ Post ⟨T.setVm vm₁, locs, cells, slots⟩ argsL.toArray v B ∧
      ∀ target, Steps p.tables e below (B.U.setTop { g with pc := g.pc + 3, stack := v.toList ++ rest }) target → Steps p.tables e below (T.setTop g) target := by
  obtain ⟨mk, methM, cM, hnamed, hmethM, -, -, -, -, -, -, hsigM⟩ := Cond.codeWith_spec hcode
  have hstatic : methM.isStatic = true := Cond.static_spec hnamed hmethM hstat
  obtain ⟨kP, hkP, -⟩ := className_of_methodNamed hnamed
  have hinitP : kP.init = .initialized := Cond.initialized_spec (findClass_of_methodNamed hnamed) hkP hinit
  obtain ⟨vm₁, X₁, hstep₁⟩ := X.invokestatic hexec hown hlink hnamed hmethM hstatic hkP hinitP hy (g := g) hg (argsL := argsL) (rest := rest) (hlen _ hsigM) hstack hdg
  obtain ⟨v, B, X', hpost, hsteps⟩ := hK m meth c ⟨T.setVm vm₁, locs, cells, slots⟩ { g with stack := rest } (.invokestatic index) mk argsL.toArray X₁ hg hsize hdg hW (X₁.named hnamed) (hpre vm₁ X₁.warmed)
  exact ⟨v, vm₁, B, X₁.warmed, X', hpost, fun target h => hstep₁ _ fun acts => by rw [doInvoke_state]; exact hsteps.trans h⟩
theorem vx_runSW {y : MethodName} {bytes cc : ByteArray} {maxL nL mc ms n index : Nat} {ret : Option FieldType} {hh : List (Nat × Nat × Nat × Nat)} {ws : List Cond} {rm : Room} {Pc : Array Value → State → Prop} {Qc : Array Value → State → Outcome → State → Prop} {free : Addr → Prop} {Ts : List Cond} {own : String} {As rest : List Value} {g : JFrame}
    (S : CallFix p m c cc nL s args Ts own) (hM : Met l y ws rm Pc Qc mc ms free) (cw : vx_CSW R s args own index y bytes maxL ret hh ws rm mc ms n) (hp : PreS s H Pc As)
    (hg : g.method = m) (hn : As.length = n) (hsize : g.locals.size = nL) (hstack : g.stack = As.reverse ++ rest) (hW : 2 * g.monitorRoom + (rest.map fun v => v.category).sum ≤ 8) (hdg : decode cc g.pc = .ok (.invokestatic index, 3)) (hf : cells + mc ≤ R.cells ∧ slots + ms ≤ R.slots) :
    va_Run p l e R s m args below meth c H locs cells slots mc ms g rest (Qc As.toArray) (free) := by
  obtain ⟨⟨hrc, hrs, hfr, hlo, hws, hcw⟩, hcode, hini, hy, hlen, hl, hstt⟩ := cw
  have hK : Back l R p e below s args y 3 8 (PreOf R mc ms Pc) (PostOf Qc mc ms free) := va_backW (hh := hh) (bytes := bytes) (maxL := maxL) (ret := ret) hM hp.1 hrc hrs hfr hlo hws hcw (fun a' U hW => word_at hW (Or.inl (by first | rfl | simp [Cond.onTables, Cond.keeps, Cond.steady])) hini)
  obtain ⟨hx, hb, hml, ho, -⟩ := S
  intro T hT X
  obtain ⟨v, vm₁, ⟨U', l2, c2, s2⟩, hW₁, X', ⟨g', mk, t, L, e1, e2, hq, h1, hL, h2, h3⟩, st⟩ := vx_callSW X hx (hh := hh) (bytes := bytes) (maxL := maxL) (ret := ret) ho hl hstt hini hcode hy hK hg (hsize.trans hml.symm) (argsL := As) (rest := rest) (fun sig h => hn.trans (hlen sig h)) hstack hW (by rw [hb]; exact hdg)
    (fun vm₁ hW₁ => ⟨hf.1, hf.2, hp.2 (T.setVm vm₁) hT hW₁⟩)
  dsimp only [Pt.U, Pt.locs, Pt.cells, Pt.slots] at X' e1 e2 h1 h2 h3 st
  subst h1; subst h2; subst h3
  exact ⟨v, (T.setVm vm₁).calling g' mk As.toArray, t, U', L, hT, X', hL, e1, e2, hq, st⟩
/-- not caught here, past rows that name other classes: it goes on to the caller -/
theorem vx_outP {p : Program} {l : Launch} {e : Env} {R : Room} {s : State} {m : MethodId} {args : Array Value} {below : List Frame} {meth : Method} {c : Code} {H : Heap} {locs : List Loc} {cells slots : Nat} {free : Addr → Prop} {ls : Array Slot} {rest : List Value} {Qc : Array Value → State → Outcome → State → Prop} {XC : String → State → State → Prop}
    {pc : Nat} {own E : String} {ce : Cell} {q : Addr} {mc ms : Nat} (hown : s.vm.findClass own = some m.cls) (hlocks : meth.locks = false)
    (hpass : ∀ z ∈ c.exceptionTable.toList, covers z pc = false ∨ (z.catchType ≠ 0 ∧ ∃ nm : String, (Cond.classLink own z.catchType nm).before args s = true ∧ va_Nc E nm s)) (hcell : H[q]? = some ce) (hv : ce.vm = .none) (hcl : s.vm.findClass E = some ce.cls)
    (hx : ∀ t : State, t.heap = H → s.vm.Alike t.vm → XC E s t) (hf : ∀ z ∈ locs, free z.base) (hc : cells ≤ mc) (hs : slots ≤ ms) :
    vx_W p l e R s m args below meth c H locs cells slots (vx_MQ below Qc XC args s mc ms free) (F0 m pc ls rest) q := by
  intro T hT X
  have hpl : e.platform.magicAccessors = ({} : Platform).magicAccessors := by rw [X.admits.platform]
  obtain ⟨vm', hW', X', st⟩ := X.outThrough hlocks q (g := F0 m pc ls rest) rfl rfl rfl (cell := ce) (by rw [hT]; exact hcell) (by rw [hv]; rfl)
    (by obtain ⟨k9, h9, -⟩ := Vm.findClass_spec hcl; exact ⟨k9, h9⟩) (fun z hz => by
      rcases hpass z hz with h | ⟨hz0, nm, hl1, hn1⟩
      · exact Or.inl h
      · obtain ⟨c6, hc6, hcl6⟩ := Cond.classLink_spec hown hl1 e.platform hpl
        obtain ⟨a8, b8, h1, h2, h3⟩ := hn1
        cases Option.some.inj (h1.symm.trans hcl)
        cases Option.some.inj (h2.symm.trans hc6)
        exact Or.inr ⟨hz0, _, hcl6, h3⟩)
  obtain ⟨g₀, hfr⟩ := X'.frames_eq
  have hcell9 : ((T.setVm vm').setFrames (.throwing q :: below)).heap[q]? = some ce := by
    show T.heap[q]? = some ce
    rw [hT]; exact hcell
  have hend : Ended ((T.setVm vm').setFrames (.throwing q :: below)) below (.threw q) := State.frames_setFrames _ (State.cur_lt_of_frames hfr)
  refine ⟨(T.setVm vm').setFrames (.throwing q :: below), ?_, .threw q, X'.here.running, hend, Or.inr ⟨q, rfl, E, ce, locs, hx _ hT (X'.ends _).1.alike, hcell9, hv, hcl, (X'.ends _).1, (X'.ends _).2.mono hc hs, hf⟩⟩
  rw [X.pushThrowing_eq]
  exact st
/-- a thing of a world lies in the heap -/
theorem vx_lt {D : va_G} {cl : List vw_C} {ws : va_W} {H1 : Heap} (h : va_P D cl ws H1) {k : Nat} {q : Nat × va_E} (hk : ws[k]? = some q) : q.1 < H1.size := (h k q hk).lt
end VXS
/-! ===== END ===== -/
/-! ===== BEGIN methods with a table of their own: called by a name, returning or throwing ===== -/
section VXH
/-! vx_backW, vx_callVX, vx_callSX, vx_callVW, vx_runVW, vx_runVX, vx_runSX, vx_ofWH follow the same proofs as their sisters above (Free/Laws.lean, Shelf42/LK1.lean); vx_outP calls Shelf42/NT130.lean (outThrough). -/
section
variable {l : Launch} {R : Room} {p : Program} {e : Env} {below : List Frame} {s : State} {sargs : Array Value} {y : MethodName} {len W9 : Nat}
theorem vx_backW {ws : List Cond} {rm : Room} {Pc : Array Value → State → Prop} {Qc : Array Value → State → Outcome → State → Prop} {XC : String → State → State → Prop} {mc ms : Nat} {free : Addr → Prop} {bytes : ByteArray} {maxL : Nat} {ret : Option FieldType} {hh : List (Nat × Nat × Nat × Nat)}
    (hM : vx_Met l y ws rm Pc Qc XC mc ms free) (hblind : FrameBlind Pc) (hrc : rm.cells = mc) (hrs : rm.slots = ms)
    (hframes : rm.frames + 1 ≤ R.frames) (hlocals : W9 + (maxL + 11) + rm.locals ≤ R.locals)
    (hws : ∀ w ∈ ws, ∀ a' U, s.WarmedH U.vm → w.before a' U = true) (hcode : Cond.codeWith y bytes maxL ret hh ∈ ws) (hinit : ∀ a' U, s.WarmedH U.vm → (Cond.initialized y.cls).before a' U = true) :
    vx_Back l R p e below s sargs y len W9 (PreOf R mc ms Pc) (PostOf Qc mc ms free) (vx_Post XC mc ms free) := by
  intro m meth c A g ig mk a X hg hsize hdg hW hn hp
  have h1 : (headSpec ws rm).pre.before a A.U = true := atoms_intro fun w hw => hws w hw _ _ X.warmed
  have h2 : (Cond.codeWith y bytes maxL ret hh).before a A.U = true := hws _ hcode _ _ X.warmed
  have h3 : (Cond.initialized y.cls).before a A.U = true := hinit _ _ X.warmed
  have h4 : A.cells + (headSpec ws rm).room.cells ≤ R.cells := by rw [show (headSpec ws rm).room.cells = mc from hrc]; exact hp.1
  have h5 : A.slots + (headSpec ws rm).room.slots ≤ R.slots := by rw [show (headSpec ws rm).room.slots = ms from hrs]; exact hp.2.1
  have hPc : Pc a (A.U.calling g mk a) := hblind _ _ _ _ hp.2.2
  obtain ⟨U, Ls, c0, s0⟩ := A
  dsimp only [Pt.U, Pt.locs, Pt.cells, Pt.slots] at h1 h2 h3 h4 h5 X hn hPc ⊢
  obtain ⟨m9, methY, cY, hn9, hmY, hcY, -, hlY, -⟩ := Cond.codeWith_spec h2
  cases Option.some.inj (hn9.symm.trans hn)
  obtain ⟨kY, hkY, -⟩ := className_of_methodNamed hn
  have hinitY : kY.init = .initialized := Cond.initialized_spec (findClass_of_methodNamed hn) hkY h3
  have h : At U g.method c below := by rw [hg]; exact X.here
  have hlocals9 : W9 + (maxL + 11) + (headSpec ws rm).room.locals ≤ R.locals := hlocals
  have happ : (headSpec ws rm).appliesLoose y e.platform (U.calling g mk a) = true :=
    Spec.appliesLoose_calling (g := g) h hdg hn hkY hinitY
      (X.room_calling (g := g) (R' := (headSpec ws rm).room) hsize hmY hcY hframes (by rw [hlY]; omega) h4 h5) h1
  obtain ⟨mid, hmid⟩ := h.above
  have hfr : (U.setTop g).frames = (.java g :: mid) ++ below := by rw [State.frames_setTop' g h.top, hmid]; rfl
  obtain ⟨o, s₂, hsteps, -, hend, hq⟩ := Steps.callFree hM p X.admits X.cas X.clock (acts := []) hfr happ hPc trivial
  have hq' : vx_Q Qc XC mc ms free a (U.calling g mk a) o s₂ := hq
  rw [State.frames_setTop' g h.top] at hend
  obtain ⟨g₀, hg0⟩ := Option.isSome_iff_exists.mp h.top
  obtain ⟨r, hr⟩ := State.topJava?_eq_some.mp hg0
  have hr' : (({ U with heap := s₂.heap, slotsUsed := s₂.slotsUsed } : State).setVm s₂.vm).frames = .java g₀ :: r := hr
  rcases hq' with ⟨hqc, L, hfe, hL⟩ | ⟨q, rfl, E, ce, L, hx, hce, hcv, hcl, hW₂, hsm, hL⟩
  · obtain ⟨⟨v, rfl⟩, hW₂, e2, q2, q3, q4, q5, q6⟩ := id hfe
    have e3 : s₂ = ({ (U.calling g mk a).setFrames s₂.frames with heap := s₂.heap, slotsUsed := s₂.slotsUsed } : State).setVm s₂.vm := by
      have : s₂ = ({ s₂ with vm := (U.calling g mk a).vm } : State).setVm s₂.vm := rfl
      rw [e2] at this
      exact this
    obtain ⟨c₂, i₂, len₂, hc₂, hd₂, hf₂⟩ := hend
    have hW' : U.WarmedH s₂.vm := hW₂
    have hcc : c₂ = c := by
      have h1 : s₂.code? g.method = U.code? g.method := by
        rw [State.code?_eq, State.code?_eq, hW'.alike.method?]
      exact Option.some.inj (hc₂.symm.trans (h1.trans h.code))
    subst hcc
    have hlen : len₂ = len := by rw [hdg] at hd₂; cases hd₂; rfl
    subst hlen
    have hs₂ : s₂ = (({ U with heap := s₂.heap, slotsUsed := s₂.slotsUsed } : State).setVm s₂.vm).setTop { g with pc := g.pc + len₂, stack := v.toList ++ g.stack } := by
      refine e3.trans ?_
      rw [hf₂, State.calling_eq h.top, State.setFrames_setFrames, State.setTop_of_frames _ hr', hr]
      rfl
    have hsame : U.sameButNew ({ U with heap := s₂.heap, slotsUsed := s₂.slotsUsed } : State) L mc ms := by
      refine ⟨?_, q2, q3, q4, q5, q6⟩
      obtain ⟨t, ht, -⟩ := State.frames_cons hr
      show ({ U with heap := s₂.heap, slotsUsed := s₂.slotsUsed } : State) = { U.setFrames U.frames with heap := s₂.heap, slotsUsed := s₂.slotsUsed }
      rw [State.setFrames_self ht]
    subst hg
    refine Or.inl ⟨v, ⟨(({ U with heap := s₂.heap, slotsUsed := s₂.slotsUsed } : State).setVm s₂.vm), Ls ++ L, c0 + mc, s0 + ms⟩,
      ⟨X.admits, X.cas, X.clock, X.frames, X.room, X.hears, X.method, X.code, (X.here.setHeapUsed s₂.heap s₂.slotsUsed).setVm hW'.alike, X.tail, State.WarmedH.trans X.warmed hW', X.limits, X.bytes, X.same.trans (hsame.setVm s.vm)⟩,
      ⟨g, mk, s₂, L, rfl, rfl, hqc, rfl, hL, rfl, rfl⟩, ?_⟩
    show Steps p.tables e below _ ((({ U with heap := s₂.heap, slotsUsed := s₂.slotsUsed } : State).setVm s₂.vm).setTop { g with pc := g.pc + len₂, stack := v.toList ++ g.stack })
    rw [← hs₂]
    exact hsteps
  · obtain ⟨e2, q2, q3, q4, q5, q6⟩ := id hsm
    have e3 : s₂ = ({ (U.calling g mk a).setFrames s₂.frames with heap := s₂.heap, slotsUsed := s₂.slotsUsed } : State).setVm s₂.vm := by
      have : s₂ = ({ s₂ with vm := (U.calling g mk a).vm } : State).setVm s₂.vm := rfl
      rw [e2] at this
      exact this
    have hf₂ : s₂.frames = .throwing q :: .java g :: U.frames.tail := hend
    have hW' : U.WarmedH s₂.vm := hW₂
    have hs₂ : s₂ = ((({ U with heap := s₂.heap, slotsUsed := s₂.slotsUsed } : State).setVm s₂.vm).setTop g).pushFrame (.throwing q) := by
      refine e3.trans ?_
      rw [hf₂, State.calling_eq h.top, State.setFrames_setFrames, State.pushFrame, State.frames_setTop _ hr', State.setTop_of_frames _ hr', State.setFrames_setFrames, hr]
      rfl
    have hsame : U.sameButNew ({ U with heap := s₂.heap, slotsUsed := s₂.slotsUsed } : State) L mc ms := by
      refine ⟨?_, q2, q3, q4, q5, q6⟩
      obtain ⟨t, ht, -⟩ := State.frames_cons hr
      show ({ U with heap := s₂.heap, slotsUsed := s₂.slotsUsed } : State) = { U.setFrames U.frames with heap := s₂.heap, slotsUsed := s₂.slotsUsed }
      rw [State.setFrames_self ht]
    subst hg
    refine Or.inr ⟨q, ⟨(({ U with heap := s₂.heap, slotsUsed := s₂.slotsUsed } : State).setVm s₂.vm), Ls ++ L, c0 + mc, s0 + ms⟩,
      ⟨X.admits, X.cas, X.clock, X.frames, X.room, X.hears, X.method, X.code, (X.here.setHeapUsed s₂.heap s₂.slotsUsed).setVm hW'.alike, X.tail, State.WarmedH.trans X.warmed hW', X.limits, X.bytes, X.same.trans (hsame.setVm s.vm)⟩,
      ⟨g, mk, s₂, L, E, ce, rfl, rfl, hx, hce, hcv, hcl, rfl, hL, rfl, rfl⟩, ?_⟩
    show Steps p.tables e below _ (((({ U with heap := s₂.heap, slotsUsed := s₂.slotsUsed } : State).setVm s₂.vm).setTop g).pushFrame (.throwing q))
    rw [← hs₂]
    exact hsteps
end
variable {p : Program} {l : Launch} {e : Env} {R : Room} {s : State} {m : MethodId} {args : Array Value} {below : List Frame} {meth : Method} {c : Code} {T : State} {H : Heap} {locs : List Loc} {cells slots : Nat}
theorem vx_callVX (X : Stand p l e R s m args below meth c T locs cells slots) (hexec : p.tables.exec = Jvm.exec) {own C : String} {index : Nat} {y : MethodName} {bytes : ByteArray} {maxL : Nat} {ret : Option FieldType} {hh : List (Nat × Nat × Nat × Nat)}
    (hown : s.vm.findClass own = some m.cls) (hlink : (Cond.methodLink own index y).before args s = true) (hinst : (Cond.instanceMethod y).before args s = true) (hsel : (Cond.selects C y y).before args s = true)
    (hcode : (Cond.codeWith y bytes maxL ret hh).before args s = true) (hy : y.cls ≠ "java/lang/invoke/MethodHandle" ∧ y.cls ≠ "java/lang/invoke/VarHandle")
    {W9 : Nat} {Pre : Pt → Array Value → Prop} {Post : Pt → Array Value → Option Value → Pt → Prop} {PostX : Pt → Array Value → Addr → Pt → Prop} (hK : vx_Back l R p e below s args y 3 W9 Pre Post PostX)
    {b : Addr} {cellB : Cell} (hcell : T.heap[b]? = some cellB) (hobj : cellB.vm.isStatics = false) (hcls : s.vm.findClass C = some cellB.cls)
    {g : JFrame} (hg : g.method = m) (hsize : g.locals.size = c.maxLocals) {argsL rest : List Value} (hlen : ∀ sig, parseMethodDescriptor y.desc = some sig → argsL.length = sig.parameters.length)
    (hstack : g.stack = argsL.reverse ++ .ref b :: rest) (hW : 2 * g.monitorRoom + (rest.map fun v => v.category).sum ≤ W9) (hdg : decode c.code g.pc = .ok (.invokevirtual index, 3))
    (hpre : ∀ vm₁, s.WarmedH vm₁ → Pre ⟨T.setVm vm₁, locs, cells, slots⟩ (Value.ref b :: argsL).toArray) :
    (∃ (v : Option Value) (vm₁ : Vm) (B : Pt), s.WarmedH vm₁ ∧ Stand p l e R s m args below meth c B.U B.locs B.cells B.slots ∧ Post ⟨T.setVm vm₁, locs, cells, slots⟩ (Value.ref b :: argsL).toArray v B ∧
      ∀ target, Steps p.tables e below (B.U.setTop { g with pc := g.pc + 3, stack := v.toList ++ rest }) target → Steps p.tables e below (T.setTop g) target) ∨
    (∃ (q : Addr) (vm₁ : Vm) (B : Pt), s.WarmedH vm₁ ∧ Stand p l e R s m args below meth c B.U B.locs B.cells B.slots ∧ PostX ⟨T.setVm vm₁, locs, cells, slots⟩ (Value.ref b :: argsL).toArray q B ∧
      Steps p.tables e below (T.setTop g) ((B.U.setTop { g with stack := rest }).pushFrame (.throwing q))) := by
  obtain ⟨mk, methM, hnamed, hmethM, hstM, habM⟩ := Cond.instanceMethod_spec hinst
  obtain ⟨m8, methM', cM, hn8, hmethM', -, -, -, -, -, -, hsigM⟩ := Cond.codeWith_spec hcode
  cases Option.some.inj (hn8.symm.trans hnamed)
  cases hmethM.symm.trans hmethM'
  obtain ⟨c2, r2, m2, q1, q2, q3, q4, kP, hkP, hkPi⟩ := Cond.selects_spec hsel
  cases hcls.symm.trans q1
  cases (State.methodFound?_of_named hnamed hy).symm.trans q2
  cases hnamed.symm.trans q3
  have hselP : selectMethod e.platform s.vm cellB.cls mk = .method mk := by rw [Launch.admits_selectMethod X.admits]; exact q4
  obtain ⟨vm₁, X₁, hstep₁⟩ := X.invokevirtual hexec hown hlink hnamed hmethM hstM hkP hkPi hy (a := b) (cell := cellB) hcell
    (fun z h => by rw [h] at hobj; cases hobj) hselP hmethM habM hkP hkPi (g := g) hg (argsL := argsL) (rest := rest) (hlen _ hsigM) hstack hdg
  rcases hK m meth c ⟨T.setVm vm₁, locs, cells, slots⟩ { g with stack := rest } (.invokevirtual index) mk (Value.ref b :: argsL).toArray X₁ hg hsize hdg hW (X₁.named hnamed) (hpre vm₁ X₁.warmed) with ⟨v, B, X', hpost, hsteps⟩ | ⟨q, B, X', hpost, hsteps⟩
  · exact Or.inl ⟨v, vm₁, B, X₁.warmed, X', hpost, fun target h => hstep₁ _ fun acts => by rw [doInvoke_state]; exact hsteps.trans h⟩
  · exact Or.inr ⟨q, vm₁, B, X₁.warmed, X', hpost, hstep₁ _ fun acts => by rw [doInvoke_state]; exact hsteps⟩
theorem vx_callSX (X : Stand p l e R s m args below meth c T locs cells slots) (hexec : p.tables.exec = Jvm.exec) {own : String} {index : Nat} {y : MethodName} {bytes : ByteArray} {maxL : Nat} {ret : Option FieldType} {hh : List (Nat × Nat × Nat × Nat)}
    (hown : s.vm.findClass own = some m.cls) (hlink : (Cond.methodLink own index y).before args s = true) (hstat : (Cond.static y).before args s = true) (hinit : (Cond.initialized y.cls).before args s = true)
    (hcode : (Cond.codeWith y bytes maxL ret hh).before args s = true) (hy : y.cls ≠ "java/lang/invoke/MethodHandle" ∧ y.cls ≠ "java/lang/invoke/VarHandle")
    {W9 : Nat} {Pre : Pt → Array Value → Prop} {Post : Pt → Array Value → Option Value → Pt → Prop} {PostX : Pt → Array Value → Addr → Pt → Prop} (hK : vx_Back l R p e below s args y 3 W9 Pre Post PostX)
    {g : JFrame} (hg : g.method = m) (hsize : g.locals.size = c.maxLocals) {argsL rest : List Value} (hlen : ∀ sig, parseMethodDescriptor y.desc = some sig → argsL.length = sig.parameters.length)
    (hstack : g.stack = argsL.reverse ++ rest) (hW : 2 * g.monitorRoom + (rest.map fun v => v.category).sum ≤ W9) (hdg : decode c.code g.pc = .ok (.invokestatic index, 3))
    (hpre : ∀ vm₁, s.WarmedH vm₁ → Pre ⟨T.setVm vm₁, locs, cells, slots⟩ argsL.toArray) :
    (∃ (v : Option Value) (vm₁ : Vm) (B : Pt), s.WarmedH vm₁ ∧ Stand p l e R s m args below meth c B.U B.locs B.cells B.slots ∧ Post ⟨T.setVm vm₁, locs, cells, slots⟩ argsL.toArray v B ∧
      ∀ target, Steps p.tables e below (B.U.setTop { g with pc := g.pc + 3, stack := v.toList ++ rest }) target → Steps p.tables e below (T.setTop g) target) ∨
    (∃ (q : Addr) (vm₁ : Vm) (B : Pt), s.WarmedH vm₁ ∧ Stand p l e R s m args below meth c B.U B.locs B.cells B.slots ∧ PostX ⟨T.setVm vm₁, locs, cells, slots⟩ argsL.toArray q B ∧
      Steps p.tables e below (T.setTop g) ((B.U.setTop { g with stack := rest }).pushFrame (.throwing q))) := by
  obtain ⟨mk, methM, cM, hnamed, hmethM, -, -, -, -, -, -, hsigM⟩ := Cond.codeWith_spec hcode
  have hstatic : methM.isStatic = true := Cond.static_spec hnamed hmethM hstat
  obtain ⟨kP, hkP, -⟩ := className_of_methodNamed hnamed
  have hinitP : kP.init = .initialized := Cond.initialized_spec (findClass_of_methodNamed hnamed) hkP hinit
  obtain ⟨vm₁, X₁, hstep₁⟩ := X.invokestatic hexec hown hlink hnamed hmethM hstatic hkP hinitP hy (g := g) hg (argsL := argsL) (rest := rest) (hlen _ hsigM) hstack hdg
  rcases hK m meth c ⟨T.setVm vm₁, locs, cells, slots⟩ { g with stack := rest } (.invokestatic index) mk argsL.toArray X₁ hg hsize hdg hW (X₁.named hnamed) (hpre vm₁ X₁.warmed) with ⟨v, B, X', hpost, hsteps⟩ | ⟨q, B, X', hpost, hsteps⟩
  · exact Or.inl ⟨v, vm₁, B, X₁.warmed, X', hpost, fun target h => hstep₁ _ fun acts => by rw [doInvoke_state]; exact hsteps.trans h⟩
  · exact Or.inr ⟨q, vm₁, B, X₁.warmed, X', hpost, hstep₁ _ fun acts => by rw [doInvoke_state]; exact hsteps⟩
theorem vx_callVW (X : Stand p l e R s m args below meth c T locs cells slots) (hexec : p.tables.exec = Jvm.exec) {own C : String} {index : Nat} {y : MethodName} {bytes : ByteArray} {maxL : Nat} {ret : Option FieldType} {hh : List (Nat × Nat × Nat × Nat)}
    (hown : s.vm.findClass own = some m.cls) (hlink : (Cond.methodLink own index y).before args s = true) (hinst : (Cond.instanceMethod y).before args s = true) (hsel : (Cond.selects C y y).before args s = true)
    (hcode : (Cond.codeWith y bytes maxL ret hh).before args s = true) (hy : y.cls ≠ "java/lang/invoke/MethodHandle" ∧ y.cls ≠ "java/lang/invoke/VarHandle")
    {W9 : Nat} {Pre : Pt → Array Value → Prop} {Post : Pt → Array Value → Option Value → Pt → Prop} (hK : Back l R p e below s args y 3 W9 Pre Post)
    {b : Addr} {cellB : Cell} (hcell : T.heap[b]? = some cellB) (hobj : cellB.vm.isStatics = false) (hcls : s.vm.findClass C = some cellB.cls)
    {g : JFrame} (hg : g.method = m) (hsize : g.locals.size = c.maxLocals) {argsL rest : List Value} (hlen : ∀ sig, parseMethodDescriptor y.desc = some sig → argsL.length = sig.parameters.length)
    (hstack : g.stack = argsL.reverse ++ .ref b :: rest) (hW : 2 * g.monitorRoom + (rest.map fun v => v.category).sum ≤ W9) (hdg : decode c.code g.pc = .ok (.invokevirtual index, 3))
    (hpre : ∀ vm₁, s.WarmedH vm₁ → Pre ⟨T.setVm vm₁, locs, cells, slots⟩ (Value.ref b :: argsL).toArray) :
    ∃ (v : Option Value) (vm₁ : Vm) (B : Pt), s.WarmedH vm₁ ∧ Stand p l e R s m args below meth c B.U B.locs B.cells B.slots ∧ Post ⟨T.setVm vm₁, locs, cells, slots⟩ (Value.ref b :: argsL).toArray v B ∧
      ∀ target, Steps p.tables e below (B.U.setTop { g with pc := g.pc + 3, stack := v.toList ++ rest }) target → Steps p.tables e below (T.setTop g) target := by
  obtain ⟨mk, methM, hnamed, hmethM, hstM, habM⟩ := Cond.instanceMethod_spec hinst
  obtain ⟨m8, methM', cM, hn8, hmethM', -, -, -, -, -, -, hsigM⟩ := Cond.codeWith_spec hcode
  cases Option.some.inj (hn8.symm.trans hnamed)
  cases hmethM.symm.trans hmethM'
  obtain ⟨c2, r2, m2, q1, q2, q3, q4, kP, hkP, hkPi⟩ := Cond.selects_spec hsel
  cases hcls.symm.trans q1
  cases (State.methodFound?_of_named hnamed hy).symm.trans q2
  cases hnamed.symm.trans q3
  have hselP : selectMethod e.platform s.vm cellB.cls mk = .method mk := by rw [Launch.admits_selectMethod X.admits]; exact q4
  obtain ⟨vm₁, X₁, hstep₁⟩ := X.invokevirtual hexec hown hlink hnamed hmethM hstM hkP hkPi hy (a := b) (cell := cellB) hcell
    (fun z h => by rw [h] at hobj; cases hobj) hselP hmethM habM hkP hkPi (g := g) hg (argsL := argsL) (rest := rest) (hlen _ hsigM) hstack hdg
  obtain ⟨v, B, X', hpost, hsteps⟩ := hK m meth c ⟨T.setVm vm₁, locs, cells, slots⟩ { g with stack := rest } (.invokevirtual index) mk (Value.ref b :: argsL).toArray X₁ hg hsize hdg hW (X₁.named hnamed) (hpre vm₁ X₁.warmed)
  exact ⟨v, vm₁, B, X₁.warmed, X', hpost, fun target h => hstep₁ _ fun acts => by rw [doInvoke_state]; exact hsteps.trans h⟩
abbrev vx_CVW (R : Room) (s : State) (args : Array Value) (own C : String) (index : Nat) (y : MethodName) (bytes : ByteArray) (maxL : Nat) (ret : Option FieldType) (hh : List (Nat × Nat × Nat × Nat)) (ws : List Cond) (rm : Room) (mc ms n : Nat) : Prop :=
  (rm.cells = mc ∧ rm.slots = ms ∧ rm.frames + 1 ≤ R.frames ∧ 8 + (maxL + 11) + rm.locals ≤ R.locals ∧ (∀ w ∈ ws, ∀ (a' : Array Value) (U : State), s.WarmedH U.vm → w.before a' U = true) ∧ Cond.codeWith y bytes maxL ret hh ∈ ws) ∧
  (Cond.codeWith y bytes maxL ret hh).before args s = true ∧ (Cond.initialized y.cls).before args s = true ∧ (y.cls ≠ "java/lang/invoke/MethodHandle" ∧ y.cls ≠ "java/lang/invoke/VarHandle") ∧
  (∀ sig, parseMethodDescriptor y.desc = some sig → n = sig.parameters.length) ∧ (Cond.methodLink own index y).before args s = true ∧ (Cond.instanceMethod y).before args s = true ∧ (Cond.selects C y y).before args s = true
theorem vx_cwVW {own C : String} {index maxL mc ms : Nat} {y : MethodName} {bytes : ByteArray} {ret : Option FieldType} {hh : List (Nat × Nat × Nat × Nat)} {Ts ws ws' : List Cond} {rm : Room} (n : Nat) (ht : ∀ w ∈ Ts, w.before args s = true) (hT : GoodIn Ts (wsV own index C y ws)) (hw : ws = Cond.codeWith y bytes maxL ret hh :: ws') (hrc : rm.cells = mc) (hrs : rm.slots = ms)
    (hd : y.cls = C ∧ y.cls ≠ "java/lang/invoke/MethodHandle" ∧ y.cls ≠ "java/lang/invoke/VarHandle" ∧ (parseMethodDescriptor y.desc).map (fun d => d.parameters.length) = some n) (hR : rm.frames + 1 ≤ R.frames ∧ 8 + (maxL + 11) + rm.locals ≤ R.locals) :
    vx_CVW R s args own C index y bytes maxL ret hh ws rm mc ms n := by
  obtain ⟨hC, hd⟩ := hd
  subst hC
  have ok : ∀ w ∈ wsV own index y.cls y ws, w.before args s = true := fun w h => ht w (hT w h).1
  have hG : GoodIn Ts ws := fun w h => hT w (by unfold wsV; exact List.mem_append_right _ h)
  have hc : Cond.codeWith y bytes maxL ret hh ∈ ws := by rw [hw]; exact List.mem_cons_self
  refine ⟨⟨hrc, hrs, hR.1, hR.2, pay_in ht hG, hc⟩, ht _ (hG _ hc).1, ok _ (by simp [wsV]), ⟨hd.1, hd.2.1⟩, fun sig h => ?_, ok _ (by simp [wsV]), ok _ (by simp [wsV]), ok _ (by simp [wsV])⟩
  have h2 := hd.2.2
  rw [h] at h2
  exact (Option.some.inj h2).symm
theorem vx_runVW {y : MethodName} {bytes cc : ByteArray} {maxL nL mc ms n index : Nat} {ret : Option FieldType} {hh : List (Nat × Nat × Nat × Nat)} {ws : List Cond} {rm : Room} {Pc : Array Value → State → Prop} {Qc : Array Value → State → Outcome → State → Prop} {free : Addr → Prop} {Ts : List Cond} {own C : String} {b : Addr} {As rest : List Value} {g : JFrame}
    (S : CallFix p m c cc nL s args Ts own) (hM : Met l y ws rm Pc Qc mc ms free) (cw : vx_CVW R s args own C index y bytes maxL ret hh ws rm mc ms n) (hp : PreV s H C b Pc As)
    (hg : g.method = m) (hn : As.length = n) (hsize : g.locals.size = nL) (hstack : g.stack = As.reverse ++ .ref b :: rest) (hW : 2 * g.monitorRoom + (rest.map fun v => v.category).sum ≤ 8) (hdg : decode cc g.pc = .ok (.invokevirtual index, 3)) (hf : cells + mc ≤ R.cells ∧ slots + ms ≤ R.slots) :
    va_Run p l e R s m args below meth c H locs cells slots mc ms g rest (Qc (Value.ref b :: As).toArray) free := by
  obtain ⟨⟨hrc, hrs, hfr, hlo, hws, hcw⟩, hcode, hini, hy, hlen, hl, hin, hse⟩ := cw
  have hK : Back l R p e below s args y 3 8 (PreOf R mc ms Pc) (PostOf Qc mc ms free) := va_backW (hh := hh) (bytes := bytes) (maxL := maxL) (ret := ret) hM hp.1 hrc hrs hfr hlo hws hcw (fun a' U hW => word_at hW (Or.inl (by first | rfl | simp [Cond.onTables, Cond.keeps, Cond.steady])) hini)
  obtain ⟨hx, hb, hml, ho, -⟩ := S
  obtain ⟨-, ⟨cellB, hcB, hoB, hclB⟩, hPc⟩ := hp
  intro T hT X
  obtain ⟨v, vm₁, ⟨U', l2, c2, s2⟩, hW₁, X', ⟨g', mk, t, L, e1, e2, hq, h1, hL, h2, h3⟩, st⟩ := vx_callVW X hx (C := C) (hh := hh) (bytes := bytes) (maxL := maxL) (ret := ret) ho hl hin hse hcode hy hK (by rw [hT]; exact hcB) hoB hclB hg (hsize.trans hml.symm) (argsL := As) (rest := rest) (fun sig h => hn.trans (hlen sig h)) hstack hW (by rw [hb]; exact hdg)
    (fun vm₁ hW₁ => ⟨hf.1, hf.2, hPc (T.setVm vm₁) hT hW₁⟩)
  dsimp only [Pt.U, Pt.locs, Pt.cells, Pt.slots] at X' e1 e2 h1 h2 h3 st
  subst h1; subst h2; subst h3
  exact ⟨v, (T.setVm vm₁).calling g' mk (Value.ref b :: As).toArray, t, U', L, hT, X', hL, e1, e2, hq, st⟩
section
variable {y : MethodName} {bytes cc : ByteArray} {maxL nL mc ms n index : Nat} {ret : Option FieldType} {ws : List Cond} {rm : Room} {Pc : Array Value → State → Prop} {Qc : Array Value → State → Outcome → State → Prop} {XC : String → State → State → Prop} {free : Addr → Prop} {Ts : List Cond} {own C : String} {b : Addr} {As rest : List Value} {g : JFrame}
theorem vx_runVX {hh : List (Nat × Nat × Nat × Nat)} (S : CallFix p m c cc nL s args Ts own) (hM : vx_Met l y ws rm Pc Qc XC mc ms free) (cw : vx_CVW R s args own C index y bytes maxL ret hh ws rm mc ms n) (hp : PreV s H C b Pc As)
    (hg : g.method = m) (hn : As.length = n) (hsize : g.locals.size = nL) (hstack : g.stack = As.reverse ++ .ref b :: rest) (hW : 2 * g.monitorRoom + (rest.map fun v => v.category).sum ≤ 8) (hdg : decode cc g.pc = .ok (.invokevirtual index, 3)) (hf : cells + mc ≤ R.cells ∧ slots + ms ≤ R.slots) :
    vx_Run p l e R s m args below meth c H locs cells slots mc ms g rest (Qc (Value.ref b :: As).toArray) XC free := by
  obtain ⟨⟨hrc, hrs, hfr, hlo, hws, hcw⟩, hcode, hini, hy, hlen, hl, hin, hse⟩ := cw
  have hK : vx_Back l R p e below s args y 3 8 (PreOf R mc ms Pc) (PostOf Qc mc ms free) (vx_Post XC mc ms free) := vx_backW (hh := hh) (bytes := bytes) (maxL := maxL) (ret := ret) hM hp.1 hrc hrs hfr hlo hws hcw (fun a' U hW => word_at hW (Or.inl (by first | rfl | simp [Cond.onTables, Cond.keeps, Cond.steady])) hini)
  obtain ⟨hx, hb, hml, ho, -⟩ := S
  obtain ⟨-, ⟨cellB, hcB, hoB, hclB⟩, hPc⟩ := hp
  intro T hT X
  rcases vx_callVX X hx (C := C) (hh := hh) (bytes := bytes) (maxL := maxL) (ret := ret) ho hl hin hse hcode hy hK (by rw [hT]; exact hcB) hoB hclB hg (hsize.trans hml.symm) (argsL := As) (rest := rest) (fun sig h => hn.trans (hlen sig h)) hstack hW (by rw [hb]; exact hdg)
    (fun vm₁ hW₁ => ⟨hf.1, hf.2, hPc (T.setVm vm₁) hT hW₁⟩) with ⟨v, vm₁, ⟨U', l2, c2, s2⟩, hW₁, X', ⟨g', mk, t, L, e1, e2, hq, h1, hL, h2, h3⟩, st⟩ | ⟨q, vm₁, ⟨U', l2, c2, s2⟩, hW₁, X', ⟨g', mk, t, L, E, ce, e1, e2, hq, hce, hcv, hcl, h1, hL, h2, h3⟩, st⟩
  · dsimp only [Pt.U, Pt.locs, Pt.cells, Pt.slots] at X' e1 e2 h1 h2 h3 st
    subst h1; subst h2; subst h3
    exact Or.inl ⟨v, (T.setVm vm₁).calling g' mk (Value.ref b :: As).toArray, t, U', L, hT, X', hL, e1, e2, hq, st⟩
  · dsimp only [Pt.U, Pt.locs, Pt.cells, Pt.slots] at X' e1 e2 h1 h2 h3 st hcl
    subst h1; subst h2; subst h3
    exact Or.inr ⟨q, (T.setVm vm₁).calling g' mk (Value.ref b :: As).toArray, t, U', L, E, ce, hT, X', hL, e1, e2, hq, hce, hcv, vx_cls hW₁ hcl, st⟩
theorem vx_runSX {hh : List (Nat × Nat × Nat × Nat)} (S : CallFix p m c cc nL s args Ts own) (hM : vx_Met l y ws rm Pc Qc XC mc ms free) (cw : vx_CSW R s args own index y bytes maxL ret hh ws rm mc ms n) (hp : PreS s H Pc As)
    (hg : g.method = m) (hn : As.length = n) (hsize : g.locals.size = nL) (hstack : g.stack = As.reverse ++ rest) (hW : 2 * g.monitorRoom + (rest.map fun v => v.category).sum ≤ 8) (hdg : decode cc g.pc = .ok (.invokestatic index, 3)) (hf : cells + mc ≤ R.cells ∧ slots + ms ≤ R.slots) :
    vx_Run p l e R s m args below meth c H locs cells slots mc ms g rest (Qc As.toArray) XC free := by
  obtain ⟨⟨hrc, hrs, hfr, hlo, hws, hcw⟩, hcode, hini, hy, hlen, hl, hstt⟩ := cw
  have hK : vx_Back l R p e below s args y 3 8 (PreOf R mc ms Pc) (PostOf Qc mc ms free) (vx_Post XC mc ms free) := vx_backW (hh := hh) (bytes := bytes) (maxL := maxL) (ret := ret) hM hp.1 hrc hrs hfr hlo hws hcw (fun a' U hW => word_at hW (Or.inl (by first | rfl | simp [Cond.onTables, Cond.keeps, Cond.steady])) hini)
  obtain ⟨hx, hb, hml, ho, -⟩ := S
  intro T hT X
  rcases vx_callSX X hx (hh := hh) (bytes := bytes) (maxL := maxL) (ret := ret) ho hl hstt hini hcode hy hK hg (hsize.trans hml.symm) (argsL := As) (rest := rest) (fun sig h => hn.trans (hlen sig h)) hstack hW (by rw [hb]; exact hdg)
    (fun vm₁ hW₁ => ⟨hf.1, hf.2, hp.2 (T.setVm vm₁) hT hW₁⟩) with ⟨v, vm₁, ⟨U', l2, c2, s2⟩, hW₁, X', ⟨g', mk, t, L, e1, e2, hq, h1, hL, h2, h3⟩, st⟩ | ⟨q, vm₁, ⟨U', l2, c2, s2⟩, hW₁, X', ⟨g', mk, t, L, E, ce, e1, e2, hq, hce, hcv, hcl, h1, hL, h2, h3⟩, st⟩
  · dsimp only [Pt.U, Pt.locs, Pt.cells, Pt.slots] at X' e1 e2 h1 h2 h3 st
    subst h1; subst h2; subst h3
    exact Or.inl ⟨v, (T.setVm vm₁).calling g' mk As.toArray, t, U', L, hT, X', hL, e1, e2, hq, st⟩
  · dsimp only [Pt.U, Pt.locs, Pt.cells, Pt.slots] at X' e1 e2 h1 h2 h3 st hcl
    subst h1; subst h2; subst h3
    exact Or.inr ⟨q, (T.setVm vm₁).calling g' mk As.toArray, t, U', L, E, ce, hT, X', hL, e1, e2, hq, hce, hcv, vx_cls hW₁ hcl, st⟩
end
end VXH
theorem vx_ofWH {l : Launch} {y : MethodName} {ws ws' : List Cond} {rm : Room} {Pc : Array Value → State → Prop} {Qc : Array Value → State → Outcome → State → Prop} {XC : String → State → State → Prop} {mc ms : Nat} {free : Addr → Prop} {cc : ByteArray} {maxL : Nat} {ret : Option FieldType} {hh : List (Nat × Nat × Nat × Nat)}
    (hy : plainName y.cls = true) (hw : ws = Cond.codeWith y cc maxL ret hh :: ws')
    (body : ∀ p e s m args below meth c s₁, BodyLoose p l y (headSpec ws rm) cc maxL ret e s m args below meth c s₁ → c.maxLocals = maxL → Pc args s →
      W p l e (headSpec ws rm).room s m args below meth c s.heap [] 0 0 (vx_MQ below Qc XC args s mc ms free) (entryFrame m args maxL)) : vx_Met l y ws rm Pc Qc XC mc ms free := by
  refine MetFree.of_bodyS (code := cc) (maxLocals := maxL) (ret := ret) hy ?_ ?_
  · intro args s m h hn
    obtain ⟨m9, meth, c, hn9, h1, h2, h3, h4, -, h5, h6, -⟩ := Cond.codeWith_spec (atoms_spec (ws := ws) h _ (by rw [hw]; exact List.mem_cons_self))
    cases hn.symm.trans hn9
    exact ⟨meth, c, h1, h2, h3, h4, h5, h6⟩
  · intro p e s m args below meth c s₁ B hml hP _
    have hh0 : s₁.heap = s.heap := by rw [B.state]; rfl
    obtain ⟨t, a1, o, b1, b2, b3⟩ := body p e s m args below meth c s₁ B hml hP s₁ hh0 (Stand.of_body B)
    exact ⟨t, o, a1, b1, b2, b3⟩
/-! ===== END ===== -/

/-! ===== BEGIN printed: names, fields, word lists, decode rows ===== -/
end
section
def RX0 : String := "TermJudge$Constants"
def TX0 : u_T := fun k => match k with
  | 0 => ("TermJudge$Constants", "types", "[I", true)
  | 1 => ("TermJudge$Constants", "bodies", "[I", true)
  | _ => ("TermJudge$Constants", "made", "I", false)
def tyX0 : Nat → FieldType := fun k => match k with
  | 0 => .array .int
  | 1 => .array .int
  | _ => .int
abbrev wsX00 : List Cond := u_ws RX0 TX0 3
theorem nmX0 : ∀ a, a < 3 → ∀ b, b < 3 → a ≠ b → (TX0 a).2.1 ≠ (TX0 b).2.1 := by decide +kernel
theorem tyX0_ok : ∀ k, k < 3 → parseFieldDescriptor (TX0 k).2.2.1 = some (tyX0 k) := by decide +kernel
abbrev cX0_init : ByteArray := prog_2_method_1_code
def yX0_init : MethodName := ⟨RX0, "<init>", "()V"⟩
abbrev cX0_count : ByteArray := prog_2_method_2_code
def yX0_count : MethodName := ⟨RX0, "count", "()I"⟩
abbrev cX0_isFull : ByteArray := prog_2_method_3_code
def yX0_isFull : MethodName := ⟨RX0, "isFull", "()Z"⟩
abbrev cX0_isThere : ByteArray := prog_2_method_4_code
def yX0_isThere : MethodName := ⟨RX0, "isThere", "(I)Z"⟩
abbrev cX0_typeAt : ByteArray := prog_2_method_5_code
def yX0_typeAt : MethodName := ⟨RX0, "typeAt", "(I)I"⟩
abbrev cX0_bodyAt : ByteArray := prog_2_method_6_code
def yX0_bodyAt : MethodName := ⟨RX0, "bodyAt", "(I)I"⟩
abbrev cX0_add : ByteArray := prog_2_method_7_code
def yX0_add : MethodName := ⟨RX0, "add", "(II)I"⟩
def RX1 : String := "TermJudge$Finder"
def TX1 : u_T := fun k => match k with
  | 0 => ("TermJudge$Finder", "nodes", "LTermJudge$Nodes;", true)
  | 1 => ("TermJudge$Finder", "known", "LTermJudge$Constants;", true)
  | 2 => ("TermJudge$Finder", "reducer", "LTermJudge$Reducer;", true)
  | 3 => ("TermJudge$Finder", "types", "[I", true)
  | _ => ("TermJudge$Finder", "typeCount", "I", false)
def tyX1 : Nat → FieldType := fun k => match k with
  | 0 => .object "TermJudge$Nodes"
  | 1 => .object "TermJudge$Constants"
  | 2 => .object "TermJudge$Reducer"
  | 3 => .array .int
  | _ => .int
abbrev wsX10 : List Cond := u_ws RX1 TX1 5
theorem nmX1 : ∀ a, a < 5 → ∀ b, b < 5 → a ≠ b → (TX1 a).2.1 ≠ (TX1 b).2.1 := by decide +kernel
theorem tyX1_ok : ∀ k, k < 5 → parseFieldDescriptor (TX1 k).2.2.1 = some (tyX1 k) := by decide +kernel
abbrev cX1_init : ByteArray := prog_3_method_1_code
def yX1_init : MethodName := ⟨RX1, "<init>", "(LTermJudge$Nodes;LTermJudge$Constants;LTermJudge$Reducer;)V"⟩
abbrev cX1_forgetTypes : ByteArray := prog_3_method_2_code
def yX1_forgetTypes : MethodName := ⟨RX1, "forgetTypes", "()V"⟩
abbrev cX1_typeFound : ByteArray := prog_3_method_3_code
def yX1_typeFound : MethodName := ⟨RX1, "typeFound", "(I)I"⟩
abbrev cX1_levelOf : ByteArray := prog_3_method_4_code
def yX1_levelOf : MethodName := ⟨RX1, "levelOf", "(I)I"⟩
abbrev cX1_typeOfVariable : ByteArray := prog_3_method_5_code
def yX1_typeOfVariable : MethodName := ⟨RX1, "typeOfVariable", "(I)I"⟩
abbrev cX1_typeOfPi : ByteArray := prog_3_method_6_code
def yX1_typeOfPi : MethodName := ⟨RX1, "typeOfPi", "(II)I"⟩
abbrev cX1_typeOfFunction : ByteArray := prog_3_method_7_code
def yX1_typeOfFunction : MethodName := ⟨RX1, "typeOfFunction", "(II)I"⟩
abbrev cX1_typeOfApplication : ByteArray := prog_3_method_8_code
def yX1_typeOfApplication : MethodName := ⟨RX1, "typeOfApplication", "(II)I"⟩
abbrev cX1_open : ByteArray := prog_3_method_9_code
def yX1_open : MethodName := ⟨RX1, "open", "(I)V"⟩
abbrev cX1_notTooMuch : ByteArray := prog_3_method_10_code
def yX1_notTooMuch : MethodName := ⟨RX1, "notTooMuch", "(I)I"⟩
def RX2 : String := "TermJudge$Marks"
def TX2 : u_T := fun k => match k with
  | 0 => ("TermJudge$Marks", "row", "[I", true)
  | 1 => ("TermJudge$Marks", "length", "I", false)
  | _ => ("TermJudge$Marks", "next", "I", false)
def tyX2 : Nat → FieldType := fun k => match k with
  | 0 => .array .int
  | 1 => .int
  | _ => .int
abbrev wsX20 : List Cond := u_ws RX2 TX2 3
theorem nmX2 : ∀ a, a < 3 → ∀ b, b < 3 → a ≠ b → (TX2 a).2.1 ≠ (TX2 b).2.1 := by decide +kernel
theorem tyX2_ok : ∀ k, k < 3 → parseFieldDescriptor (TX2 k).2.2.1 = some (tyX2 k) := by decide +kernel
abbrev cX2_init : ByteArray := prog_4_method_1_code
def yX2_init : MethodName := ⟨RX2, "<init>", "()V"⟩
abbrev cX2_isEmpty : ByteArray := prog_4_method_2_code
def yX2_isEmpty : MethodName := ⟨RX2, "isEmpty", "()Z"⟩
abbrev cX2_at : ByteArray := prog_4_method_3_code
def yX2_at : MethodName := ⟨RX2, "at", "(I)I"⟩
abbrev cX2_hasTooGreat : ByteArray := prog_4_method_4_code
def yX2_hasTooGreat : MethodName := ⟨RX2, "hasTooGreat", "(I)Z"⟩
abbrev cX2_write : ByteArray := prog_4_method_5_code
def yX2_write : MethodName := ⟨RX2, "write", "(LTermJudge$Nodes;I)I"⟩
abbrev cX2_writeNode : ByteArray := prog_4_method_6_code
def yX2_writeNode : MethodName := ⟨RX2, "writeNode", "(LTermJudge$Nodes;I)V"⟩
abbrev cX2_read : ByteArray := prog_4_method_7_code
def yX2_read : MethodName := ⟨RX2, "read", "(LTermJudge$Nodes;Z)I"⟩
abbrev cX2_readNode : ByteArray := prog_4_method_8_code
def yX2_readNode : MethodName := ⟨RX2, "readNode", "(LTermJudge$Nodes;Z)I"⟩
def RX3 : String := "TermJudge$Nodes"
def TX3 : u_T := fun k => match k with
  | 0 => ("TermJudge$Nodes", "kinds", "[I", false)
  | 1 => ("TermJudge$Nodes", "lefts", "[I", false)
  | 2 => ("TermJudge$Nodes", "rights", "[I", false)
  | 3 => ("TermJudge$Nodes", "sizes", "[I", false)
  | 4 => ("TermJudge$Nodes", "depths", "[I", false)
  | 5 => ("TermJudge$Nodes", "madeTerms", "I", false)
  | 6 => ("TermJudge$Nodes", "lastingEnd", "I", false)
  | _ => ("TermJudge$Nodes", "end", "I", false)
def tyX3 : Nat → FieldType := fun k => match k with
  | 0 => .array .int
  | 1 => .array .int
  | 2 => .array .int
  | 3 => .array .int
  | 4 => .array .int
  | 5 => .int
  | 6 => .int
  | _ => .int
abbrev wsX30 : List Cond := u_ws RX3 TX3 8
theorem nmX3 : ∀ a, a < 8 → ∀ b, b < 8 → a ≠ b → (TX3 a).2.1 ≠ (TX3 b).2.1 := by decide +kernel
theorem tyX3_ok : ∀ k, k < 8 → parseFieldDescriptor (TX3 k).2.2.1 = some (tyX3 k) := by decide +kernel
abbrev cX3_init : ByteArray := prog_5_method_1_code
def yX3_init : MethodName := ⟨RX3, "<init>", "()V"⟩
abbrev cX3_termCount : ByteArray := prog_5_method_2_code
def yX3_termCount : MethodName := ⟨RX3, "termCount", "()I"⟩
abbrev cX3_isTerm : ByteArray := prog_5_method_3_code
def yX3_isTerm : MethodName := ⟨RX3, "isTerm", "(I)Z"⟩
abbrev cX3_kindOf : ByteArray := prog_5_method_4_code
def yX3_kindOf : MethodName := ⟨RX3, "kindOf", "(I)I"⟩
abbrev cX3_leftOf : ByteArray := prog_5_method_5_code
def yX3_leftOf : MethodName := ⟨RX3, "leftOf", "(I)I"⟩
abbrev cX3_rightOf : ByteArray := prog_5_method_6_code
def yX3_rightOf : MethodName := ⟨RX3, "rightOf", "(I)I"⟩
abbrev cX3_sizeOf : ByteArray := prog_5_method_7_code
def yX3_sizeOf : MethodName := ⟨RX3, "sizeOf", "(I)I"⟩
abbrev cX3_depthOf : ByteArray := prog_5_method_8_code
def yX3_depthOf : MethodName := ⟨RX3, "depthOf", "(I)I"⟩
abbrev cX3_mayJoin : ByteArray := prog_5_method_9_code
def yX3_mayJoin : MethodName := ⟨RX3, "mayJoin", "(II)Z"⟩
abbrev cX3_isTooMuch : ByteArray := prog_5_method_10_code
def yX3_isTooMuch : MethodName := ⟨RX3, "isTooMuch", "(I)Z"⟩
abbrev cX3_addTerm : ByteArray := prog_5_method_11_code
def yX3_addTerm : MethodName := ⟨RX3, "addTerm", "(III)I"⟩
abbrev cX3_termLike : ByteArray := prog_5_method_12_code
def yX3_termLike : MethodName := ⟨RX3, "termLike", "(III)I"⟩
abbrev cX3_cutTerms : ByteArray := prog_5_method_13_code
def yX3_cutTerms : MethodName := ⟨RX3, "cutTerms", "(I)V"⟩
abbrev cX3_add : ByteArray := prog_5_method_14_code
def yX3_add : MethodName := ⟨RX3, "add", "(III)I"⟩
abbrev cX3_fill : ByteArray := prog_5_method_15_code
def yX3_fill : MethodName := ⟨RX3, "fill", "(IIII)V"⟩
abbrev cX3_grow : ByteArray := prog_5_method_16_code
def yX3_grow : MethodName := ⟨RX3, "grow", "()V"⟩
abbrev cX3_dropPassing : ByteArray := prog_5_method_17_code
def yX3_dropPassing : MethodName := ⟨RX3, "dropPassing", "()V"⟩
abbrev cX3_keepPassing : ByteArray := prog_5_method_18_code
def yX3_keepPassing : MethodName := ⟨RX3, "keepPassing", "()V"⟩
abbrev cX3_changed : ByteArray := prog_5_method_19_code
def yX3_changed : MethodName := ⟨RX3, "changed", "(IIII)I"⟩
abbrev cX3_withHead : ByteArray := prog_5_method_20_code
def yX3_withHead : MethodName := ⟨RX3, "withHead", "(III)I"⟩
def RX4 : String := "TermJudge$Reducer"
def TX4 : u_T := fun k => match k with
  | 0 => ("TermJudge$Reducer", "nodes", "LTermJudge$Nodes;", true)
  | 1 => ("TermJudge$Reducer", "known", "LTermJudge$Constants;", true)
  | 2 => ("TermJudge$Reducer", "firsts", "[I", true)
  | 3 => ("TermJudge$Reducer", "seconds", "[I", true)
  | 4 => ("TermJudge$Reducer", "openPairs", "I", false)
  | 5 => ("TermJudge$Reducer", "fuel", "I", false)
  | _ => ("TermJudge$Reducer", "made", "I", false)
def tyX4 : Nat → FieldType := fun k => match k with
  | 0 => .object "TermJudge$Nodes"
  | 1 => .object "TermJudge$Constants"
  | 2 => .array .int
  | 3 => .array .int
  | 4 => .int
  | 5 => .int
  | _ => .int
abbrev wsX40 : List Cond := u_ws RX4 TX4 7
theorem nmX4 : ∀ a, a < 7 → ∀ b, b < 7 → a ≠ b → (TX4 a).2.1 ≠ (TX4 b).2.1 := by decide +kernel
theorem tyX4_ok : ∀ k, k < 7 → parseFieldDescriptor (TX4 k).2.2.1 = some (tyX4 k) := by decide +kernel
abbrev cX4_init : ByteArray := prog_6_method_1_code
def yX4_init : MethodName := ⟨RX4, "<init>", "(LTermJudge$Nodes;LTermJudge$Constants;)V"⟩
abbrev cX4_refuel : ByteArray := prog_6_method_2_code
def yX4_refuel : MethodName := ⟨RX4, "refuel", "(I)V"⟩
abbrev cX4_madeCount : ByteArray := prog_6_method_3_code
def yX4_madeCount : MethodName := ⟨RX4, "madeCount", "()I"⟩
abbrev cX4_headForm : ByteArray := prog_6_method_4_code
def yX4_headForm : MethodName := ⟨RX4, "headForm", "(I)I"⟩
abbrev cX4_nextPlace : ByteArray := prog_6_method_5_code
def yX4_nextPlace : MethodName := ⟨RX4, "nextPlace", "(I)I"⟩
abbrev cX4_areSame : ByteArray := prog_6_method_6_code
def yX4_areSame : MethodName := ⟨RX4, "areSame", "(II)Z"⟩
abbrev cX4_valueOf : ByteArray := prog_6_method_7_code
def yX4_valueOf : MethodName := ⟨RX4, "valueOf", "([I)I"⟩
abbrev cX4_mayBeSame : ByteArray := prog_6_method_8_code
def yX4_mayBeSame : MethodName := ⟨RX4, "mayBeSame", "(II)Z"⟩
abbrev cX4_openParts : ByteArray := prog_6_method_9_code
def yX4_openParts : MethodName := ⟨RX4, "openParts", "(II)V"⟩
abbrev cX4_open : ByteArray := prog_6_method_10_code
def yX4_open : MethodName := ⟨RX4, "open", "(II)V"⟩
def RX5 : String := "TermJudge"
def TX5 : u_T := fun k => match k with
  | 0 => ("TermJudge", "nodes", "LTermJudge$Nodes;", true)
  | 1 => ("TermJudge", "known", "LTermJudge$Constants;", true)
  | 2 => ("TermJudge", "reducer", "LTermJudge$Reducer;", true)
  | 3 => ("TermJudge", "finder", "LTermJudge$Finder;", true)
  | 4 => ("TermJudge", "result", "LTermJudge$Marks;", true)
  | _ => ("TermJudge", "foundType", "LTermJudge$Marks;", true)
def tyX5 : Nat → FieldType := fun k => match k with
  | 0 => .object "TermJudge$Nodes"
  | 1 => .object "TermJudge$Constants"
  | 2 => .object "TermJudge$Reducer"
  | 3 => .object "TermJudge$Finder"
  | 4 => .object "TermJudge$Marks"
  | _ => .object "TermJudge$Marks"
abbrev wsX50 : List Cond := u_ws RX5 TX5 6
theorem nmX5 : ∀ a, a < 6 → ∀ b, b < 6 → a ≠ b → (TX5 a).2.1 ≠ (TX5 b).2.1 := by decide +kernel
theorem tyX5_ok : ∀ k, k < 6 → parseFieldDescriptor (TX5 k).2.2.1 = some (tyX5 k) := by decide +kernel
abbrev cX5_init : ByteArray := prog_1_method_1_code
def yX5_init : MethodName := ⟨RX5, "<init>", "()V"⟩
abbrev cX5_make : ByteArray := prog_1_method_2_code
def yX5_make : MethodName := ⟨RX5, "make", "(III)I"⟩
abbrev cX5_terms : ByteArray := prog_1_method_3_code
def yX5_terms : MethodName := ⟨RX5, "terms", "()I"⟩
abbrev cX5_term : ByteArray := prog_1_method_4_code
def yX5_term : MethodName := ⟨RX5, "term", "(II)I"⟩
abbrev cX5_infer : ByteArray := prog_1_method_5_code
def yX5_infer : MethodName := ⟨RX5, "infer", "(II)I"⟩
abbrev cX5_reduce : ByteArray := prog_1_method_6_code
def yX5_reduce : MethodName := ⟨RX5, "reduce", "(II)I"⟩
abbrev cX5_same : ByteArray := prog_1_method_7_code
def yX5_same : MethodName := ⟨RX5, "same", "(III)Z"⟩
abbrev cX5_check : ByteArray := prog_1_method_8_code
def yX5_check : MethodName := ⟨RX5, "check", "(III)Z"⟩
abbrev cX5_declare : ByteArray := prog_1_method_9_code
def yX5_declare : MethodName := ⟨RX5, "declare", "(II)I"⟩
abbrev cX5_define : ByteArray := prog_1_method_10_code
def yX5_define : MethodName := ⟨RX5, "define", "(II)I"⟩
abbrev cX5_constants : ByteArray := prog_1_method_11_code
def yX5_constants : MethodName := ⟨RX5, "constants", "()I"⟩
abbrev cX5_hasBody : ByteArray := prog_1_method_12_code
def yX5_hasBody : MethodName := ⟨RX5, "hasBody", "(I)Z"⟩
abbrev cX5_typeOf : ByteArray := prog_1_method_13_code
def yX5_typeOf : MethodName := ⟨RX5, "typeOf", "(I)I"⟩
abbrev cX5_mark : ByteArray := prog_1_method_14_code
def yX5_mark : MethodName := ⟨RX5, "mark", "(I)I"⟩
abbrev cX5_keep : ByteArray := prog_1_method_15_code
def yX5_keep : MethodName := ⟨RX5, "keep", "()I"⟩
abbrev cX5_reduced : ByteArray := prog_1_method_16_code
def yX5_reduced : MethodName := ⟨RX5, "reduced", "()I"⟩
abbrev cX5_hasParts : ByteArray := prog_1_method_17_code
def yX5_hasParts : MethodName := ⟨RX5, "hasParts", "(I)Z"⟩
abbrev cX5_mayBeMade : ByteArray := prog_1_method_18_code
def yX5_mayBeMade : MethodName := ⟨RX5, "mayBeMade", "(III)Z"⟩
abbrev cX5_begin : ByteArray := prog_1_method_19_code
def yX5_begin : MethodName := ⟨RX5, "begin", "(III)V"⟩
abbrev cX5_refuseUnlooked : ByteArray := prog_1_method_20_code
def yX5_refuseUnlooked : MethodName := ⟨RX5, "refuseUnlooked", "()I"⟩
abbrev cX5_lasting : ByteArray := prog_1_method_21_code
def yX5_lasting : MethodName := ⟨RX5, "lasting", "(LTermJudge$Marks;)I"⟩
def RX6 : String := "TermJudgeModel"
def TX6 : u_T := fun k => match k with
  | 0 => ("TermJudgeModel", "code", "I", false)
  | 1 => ("TermJudgeModel", "terms", "I", false)
  | 2 => ("TermJudgeModel", "kind", "[I", true)
  | 3 => ("TermJudgeModel", "partA", "[I", true)
  | 4 => ("TermJudgeModel", "partB", "[I", true)
  | 5 => ("TermJudgeModel", "nodes", "[I", true)
  | 6 => ("TermJudgeModel", "deep", "[I", true)
  | 7 => ("TermJudgeModel", "constants", "I", false)
  | 8 => ("TermJudgeModel", "hasBody", "[Z", true)
  | 9 => ("TermJudgeModel", "hasResult", "Z", false)
  | 10 => ("TermJudgeModel", "row", "[I", true)
  | 11 => ("TermJudgeModel", "length", "[I", true)
  | 12 => ("TermJudgeModel", "made", "I", false)
  | 13 => ("TermJudgeModel", "out", "[I", true)
  | 14 => ("TermJudgeModel", "great", "Z", false)
  | 15 => ("TermJudgeModel", "pile", "[I", true)
  | 16 => ("TermJudgeModel", "inner", "[I", true)
  | 17 => ("TermJudgeModel", "fuel", "I", false)
  | 18 => ("TermJudgeModel", "used", "I", false)
  | 19 => ("TermJudgeModel", "fault", "I", false)
  | 20 => ("TermJudgeModel", "open", "I", false)
  | 21 => ("TermJudgeModel", "asked", "[I", true)
  | 22 => ("TermJudgeModel", "state", "[I", true)
  | 23 => ("TermJudgeModel", "level", "[I", true)
  | 24 => ("TermJudgeModel", "top", "I", false)
  | 25 => ("TermJudgeModel", "known", "I", false)
  | 26 => ("TermJudgeModel", "context", "[I", true)
  | 27 => ("TermJudgeModel", "waiting", "I", false)
  | 28 => ("TermJudgeModel", "cells", "I", false)
  | 29 => ("TermJudgeModel", "waits", "[I", true)
  | 30 => ("TermJudgeModel", "leftLength", "[I", true)
  | _ => ("TermJudgeModel", "rightLength", "[I", true)
def tyX6 : Nat → FieldType := fun k => match k with
  | 0 => .int
  | 1 => .int
  | 2 => .array .int
  | 3 => .array .int
  | 4 => .array .int
  | 5 => .array .int
  | 6 => .array .int
  | 7 => .int
  | 8 => .array .boolean
  | 9 => .boolean
  | 10 => .array .int
  | 11 => .array .int
  | 12 => .int
  | 13 => .array .int
  | 14 => .boolean
  | 15 => .array .int
  | 16 => .array .int
  | 17 => .int
  | 18 => .int
  | 19 => .int
  | 20 => .int
  | 21 => .array .int
  | 22 => .array .int
  | 23 => .array .int
  | 24 => .int
  | 25 => .int
  | 26 => .array .int
  | 27 => .int
  | 28 => .int
  | 29 => .array .int
  | 30 => .array .int
  | _ => .array .int
abbrev wsX60 : List Cond := u_ws RX6 TX6 32
theorem nmX6 : ∀ a, a < 32 → ∀ b, b < 32 → a ≠ b → (TX6 a).2.1 ≠ (TX6 b).2.1 := by decide +kernel
theorem tyX6_ok : ∀ k, k < 32 → parseFieldDescriptor (TX6 k).2.2.1 = some (tyX6 k) := by decide +kernel
abbrev cX6_init : ByteArray := prog_8_method_1_code
def yX6_init : MethodName := ⟨RX6, "<init>", "()V"⟩
abbrev cX6_thrown : ByteArray := prog_8_method_2_code
def yX6_thrown : MethodName := ⟨RX6, "thrown", "()I"⟩
abbrev cX6_fail : ByteArray := prog_8_method_3_code
def yX6_fail : MethodName := ⟨RX6, "fail", "(I)I"⟩
abbrev cX6_kindOf : ByteArray := prog_8_method_4_code
def yX6_kindOf : MethodName := ⟨RX6, "kindOf", "(I)I"⟩
abbrev cX6_hasParts : ByteArray := prog_8_method_5_code
def yX6_hasParts : MethodName := ⟨RX6, "hasParts", "(I)Z"⟩
abbrev cX6_bindsIn : ByteArray := prog_8_method_6_code
def yX6_bindsIn : MethodName := ⟨RX6, "bindsIn", "(I)Z"⟩
abbrev cX6_at : ByteArray := prog_8_method_7_code
def yX6_at : MethodName := ⟨RX6, "at", "(II)I"⟩
abbrev cX6_endOf : ByteArray := prog_8_method_8_code
def yX6_endOf : MethodName := ⟨RX6, "endOf", "(II)I"⟩
abbrev cX6_copyPart : ByteArray := prog_8_method_9_code
def yX6_copyPart : MethodName := ⟨RX6, "copyPart", "(III)V"⟩
abbrev cX6_copy : ByteArray := prog_8_method_10_code
def yX6_copy : MethodName := ⟨RX6, "copy", "(II)V"⟩
abbrev cX6_setAtom : ByteArray := prog_8_method_11_code
def yX6_setAtom : MethodName := ⟨RX6, "setAtom", "(II)V"⟩
abbrev cX6_deepOf : ByteArray := prog_8_method_12_code
def yX6_deepOf : MethodName := ⟨RX6, "deepOf", "(I)I"⟩
abbrev cX6_raise : ByteArray := prog_8_method_13_code
def yX6_raise : MethodName := ⟨RX6, "raise", "(II)V"⟩
abbrev cX6_begin : ByteArray := prog_8_method_14_code
def yX6_begin : MethodName := ⟨RX6, "begin", "()V"⟩
abbrev cX6_put : ByteArray := prog_8_method_15_code
def yX6_put : MethodName := ⟨RX6, "put", "(I)V"⟩
abbrev cX6_putAll : ByteArray := prog_8_method_16_code
def yX6_putAll : MethodName := ⟨RX6, "putAll", "(III)V"⟩
abbrev cX6_putRaised : ByteArray := prog_8_method_17_code
def yX6_putRaised : MethodName := ⟨RX6, "putRaised", "(IIII)V"⟩
abbrev cX6_putFor : ByteArray := prog_8_method_18_code
def yX6_putFor : MethodName := ⟨RX6, "putFor", "(IIIIII)V"⟩
abbrev cX6_take : ByteArray := prog_8_method_19_code
def yX6_take : MethodName := ⟨RX6, "take", "(I)Z"⟩
abbrev cX6_toHead : ByteArray := prog_8_method_20_code
def yX6_toHead : MethodName := ⟨RX6, "toHead", "(I)V"⟩
abbrev cX6_pushRest : ByteArray := prog_8_method_21_code
def yX6_pushRest : MethodName := ⟨RX6, "pushRest", "(II)V"⟩
abbrev cX6_pop : ByteArray := prog_8_method_22_code
def yX6_pop : MethodName := ⟨RX6, "pop", "(II)V"⟩
abbrev cX6_areSame : ByteArray := prog_8_method_23_code
def yX6_areSame : MethodName := ⟨RX6, "areSame", "()Z"⟩
abbrev cX6_ask : ByteArray := prog_8_method_24_code
def yX6_ask : MethodName := ⟨RX6, "ask", "(I)V"⟩
abbrev cX6_levelIn : ByteArray := prog_8_method_25_code
def yX6_levelIn : MethodName := ⟨RX6, "levelIn", "(I)I"⟩
abbrev cX6_askPart : ByteArray := prog_8_method_26_code
def yX6_askPart : MethodName := ⟨RX6, "askPart", "(II)V"⟩
abbrev cX6_start : ByteArray := prog_8_method_27_code
def yX6_start : MethodName := ⟨RX6, "start", "(I)V"⟩
abbrev cX6_second : ByteArray := prog_8_method_28_code
def yX6_second : MethodName := ⟨RX6, "second", "(I)V"⟩
abbrev cX6_last : ByteArray := prog_8_method_29_code
def yX6_last : MethodName := ⟨RX6, "last", "(I)V"⟩
abbrev cX6_toType : ByteArray := prog_8_method_30_code
def yX6_toType : MethodName := ⟨RX6, "toType", "(I)V"⟩
abbrev cX6_make : ByteArray := prog_8_method_31_code
def yX6_make : MethodName := ⟨RX6, "make", "(III)I"⟩
abbrev cX6_terms : ByteArray := prog_8_method_32_code
def yX6_terms : MethodName := ⟨RX6, "terms", "()I"⟩
abbrev cX6_isTerm : ByteArray := prog_8_method_33_code
def yX6_isTerm : MethodName := ⟨RX6, "isTerm", "(I)Z"⟩
abbrev cX6_term : ByteArray := prog_8_method_34_code
def yX6_term : MethodName := ⟨RX6, "term", "(II)I"⟩
abbrev cX6_load : ByteArray := prog_8_method_35_code
def yX6_load : MethodName := ⟨RX6, "load", "(II)V"⟩
abbrev cX6_starts : ByteArray := prog_8_method_36_code
def yX6_starts : MethodName := ⟨RX6, "starts", "(III)Z"⟩
abbrev cX6_setResult : ByteArray := prog_8_method_37_code
def yX6_setResult : MethodName := ⟨RX6, "setResult", "(I)I"⟩
abbrev cX6_infer : ByteArray := prog_8_method_38_code
def yX6_infer : MethodName := ⟨RX6, "infer", "(II)I"⟩
abbrev cX6_reduce : ByteArray := prog_8_method_39_code
def yX6_reduce : MethodName := ⟨RX6, "reduce", "(II)I"⟩
abbrev cX6_same : ByteArray := prog_8_method_40_code
def yX6_same : MethodName := ⟨RX6, "same", "(III)Z"⟩
abbrev cX6_check : ByteArray := prog_8_method_41_code
def yX6_check : MethodName := ⟨RX6, "check", "(III)Z"⟩
abbrev cX6_declare : ByteArray := prog_8_method_42_code
def yX6_declare : MethodName := ⟨RX6, "declare", "(II)I"⟩
abbrev cX6_define : ByteArray := prog_8_method_43_code
def yX6_define : MethodName := ⟨RX6, "define", "(II)I"⟩
abbrev cX6_constants : ByteArray := prog_8_method_44_code
def yX6_constants : MethodName := ⟨RX6, "constants", "()I"⟩
abbrev cX6_hasBody : ByteArray := prog_8_method_45_code
def yX6_hasBody : MethodName := ⟨RX6, "hasBody", "(I)Z"⟩
abbrev cX6_typeOf : ByteArray := prog_8_method_46_code
def yX6_typeOf : MethodName := ⟨RX6, "typeOf", "(I)I"⟩
abbrev cX6_mark : ByteArray := prog_8_method_47_code
def yX6_mark : MethodName := ⟨RX6, "mark", "(I)I"⟩
abbrev cX6_find : ByteArray := prog_8_method_48_code
def yX6_find : MethodName := ⟨RX6, "find", "(III)I"⟩
abbrev cX6_keep : ByteArray := prog_8_method_49_code
def yX6_keep : MethodName := ⟨RX6, "keep", "()I"⟩
abbrev cX6_reduced : ByteArray := prog_8_method_50_code
def yX6_reduced : MethodName := ⟨RX6, "reduced", "()I"⟩
def RJx145de : String := "java/io/Serializable"
def TJx145de : u_T := fun k => match k with
  | _ => ("", "", "", false)
def tyJx145de : Nat → FieldType := fun k => match k with
  | _ => .int
abbrev wsJx145de0 : List Cond := u_ws RJx145de TJx145de 0
theorem nmJx145de : ∀ a, a < 0 → ∀ b, b < 0 → a ≠ b → (TJx145de a).2.1 ≠ (TJx145de b).2.1 := by decide +kernel
theorem tyJx145de_ok : ∀ k, k < 0 → parseFieldDescriptor (TJx145de k).2.2.1 = some (tyJx145de k) := by decide +kernel
def RJx8e188 : String := "java/lang/Cloneable"
def TJx8e188 : u_T := fun k => match k with
  | _ => ("", "", "", false)
def tyJx8e188 : Nat → FieldType := fun k => match k with
  | _ => .int
abbrev wsJx8e1880 : List Cond := u_ws RJx8e188 TJx8e188 0
theorem nmJx8e188 : ∀ a, a < 0 → ∀ b, b < 0 → a ≠ b → (TJx8e188 a).2.1 ≠ (TJx8e188 b).2.1 := by decide +kernel
theorem tyJx8e188_ok : ∀ k, k < 0 → parseFieldDescriptor (TJx8e188 k).2.2.1 = some (tyJx8e188 k) := by decide +kernel
def RJ9 : String := "java/lang/Math"
def TJ9 : u_T := fun k => match k with
  | _ => ("", "", "", false)
def tyJ9 : Nat → FieldType := fun k => match k with
  | _ => .int
abbrev wsJ90 : List Cond := u_ws RJ9 TJ9 0
theorem nmJ9 : ∀ a, a < 0 → ∀ b, b < 0 → a ≠ b → (TJ9 a).2.1 ≠ (TJ9 b).2.1 := by decide +kernel
theorem tyJ9_ok : ∀ k, k < 0 → parseFieldDescriptor (TJ9 k).2.2.1 = some (tyJ9 k) := by decide +kernel
abbrev cJ9_max_7cf53 : ByteArray := prog_13_method_65_code
def yJ9_max_7cf53 : MethodName := ⟨RJ9, "max", "(II)I"⟩
abbrev cJ9_min_7cf53 : ByteArray := prog_13_method_69_code
def yJ9_min_7cf53 : MethodName := ⟨RJ9, "min", "(II)I"⟩
def RJ0 : String := "java/lang/String"
def TJ0 : u_T := fun k => match k with
  | _ => ("", "", "", false)
def tyJ0 : Nat → FieldType := fun k => match k with
  | _ => .int
abbrev wsJ00 : List Cond := u_ws RJ0 TJ0 0
theorem nmJ0 : ∀ a, a < 0 → ∀ b, b < 0 → a ≠ b → (TJ0 a).2.1 ≠ (TJ0 b).2.1 := by decide +kernel
theorem tyJ0_ok : ∀ k, k < 0 → parseFieldDescriptor (TJ0 k).2.2.1 = some (tyJ0 k) := by decide +kernel
def RJ10 : String := "java/lang/System"
def TJ10 : u_T := fun k => match k with
  | _ => ("", "", "", false)
def tyJ10 : Nat → FieldType := fun k => match k with
  | _ => .int
abbrev wsJ100 : List Cond := u_ws RJ10 TJ10 0
theorem nmJ10 : ∀ a, a < 0 → ∀ b, b < 0 → a ≠ b → (TJ10 a).2.1 ≠ (TJ10 b).2.1 := by decide +kernel
theorem tyJ10_ok : ∀ k, k < 0 → parseFieldDescriptor (TJ10 k).2.2.1 = some (tyJ10 k) := by decide +kernel
def RJ7 : String := "java/util/Arrays"
def TJ7 : u_T := fun k => match k with
  | _ => ("", "", "", false)
def tyJ7 : Nat → FieldType := fun k => match k with
  | _ => .int
abbrev wsJ70 : List Cond := u_ws RJ7 TJ7 0
theorem nmJ7 : ∀ a, a < 0 → ∀ b, b < 0 → a ≠ b → (TJ7 a).2.1 ≠ (TJ7 b).2.1 := by decide +kernel
theorem tyJ7_ok : ∀ k, k < 0 → parseFieldDescriptor (TJ7 k).2.2.1 = some (tyJ7 k) := by decide +kernel
abbrev cJ7_copyOf_59c91 : ByteArray := prog_19_method_123_code
def yJ7_copyOf_59c91 : MethodName := ⟨RJ7, "copyOf", "([II)[I"⟩
def RL : String := "TermJudgeLaw"
abbrev cL_infer : ByteArray := method_3_code
def yL_infer : MethodName := ⟨RL, "infer", "(LTermJudge;II[J)I"⟩
abbrev cL_reduce : ByteArray := method_4_code
def yL_reduce : MethodName := ⟨RL, "reduce", "(LTermJudge;II[J)I"⟩
abbrev cL_same : ByteArray := method_5_code
def yL_same : MethodName := ⟨RL, "same", "(LTermJudge;III[J)I"⟩
abbrev cL_check : ByteArray := method_6_code
def yL_check : MethodName := ⟨RL, "check", "(LTermJudge;III[J)I"⟩
abbrev cL_declare : ByteArray := method_7_code
def yL_declare : MethodName := ⟨RL, "declare", "(LTermJudge;II[J)I"⟩
abbrev cL_define : ByteArray := method_8_code
def yL_define : MethodName := ⟨RL, "define", "(LTermJudge;II[J)I"⟩
abbrev cL_law : ByteArray := code
def yL_law : MethodName := ⟨RL, "law", "([I)Z"⟩
abbrev vwCl : List vw_C := [(RX0, TX0, 3), (RX1, TX1, 5), (RX2, TX2, 3), (RX3, TX3, 8), (RX4, TX4, 7), (RX5, TX5, 6), (RX6, TX6, 32)]
/-! ===== the machine as tables: methods by number ===== -/
abbrev am_I : Type := Instr × Nat × Nat × Nat
-- 0 TermJudge$Constants.<init>()V
-- 1 TermJudge$Constants.count()I
-- 2 TermJudge$Constants.isFull()Z
-- 3 TermJudge$Constants.isThere(I)Z
-- 4 TermJudge$Constants.typeAt(I)I
-- 5 TermJudge$Constants.bodyAt(I)I
-- 6 TermJudge$Constants.add(II)I
-- 7 TermJudge$Finder.<init>(LTermJudge$Nodes;LTermJudge$Constants;LTermJudge$Reducer;)V
-- 8 TermJudge$Finder.forgetTypes()V
-- 9 TermJudge$Finder.typeFound(I)I
-- 10 TermJudge$Finder.levelOf(I)I
-- 11 TermJudge$Finder.typeOfVariable(I)I
-- 12 TermJudge$Finder.typeOfPi(II)I
-- 13 TermJudge$Finder.typeOfFunction(II)I
-- 14 TermJudge$Finder.typeOfApplication(II)I
-- 15 TermJudge$Finder.open(I)V
-- 16 TermJudge$Finder.notTooMuch(I)I
-- 17 TermJudge$Marks.<init>()V
-- 18 TermJudge$Marks.isEmpty()Z
-- 19 TermJudge$Marks.at(I)I
-- 20 TermJudge$Marks.hasTooGreat(I)Z
-- 21 TermJudge$Marks.write(LTermJudge$Nodes;I)I
-- 22 TermJudge$Marks.writeNode(LTermJudge$Nodes;I)V
-- 23 TermJudge$Marks.read(LTermJudge$Nodes;Z)I
-- 24 TermJudge$Marks.readNode(LTermJudge$Nodes;Z)I
-- 25 TermJudge$Nodes.<init>()V
-- 26 TermJudge$Nodes.termCount()I
-- 27 TermJudge$Nodes.isTerm(I)Z
-- 28 TermJudge$Nodes.kindOf(I)I
-- 29 TermJudge$Nodes.leftOf(I)I
-- 30 TermJudge$Nodes.rightOf(I)I
-- 31 TermJudge$Nodes.sizeOf(I)I
-- 32 TermJudge$Nodes.depthOf(I)I
-- 33 TermJudge$Nodes.mayJoin(II)Z
-- 34 TermJudge$Nodes.isTooMuch(I)Z
-- 35 TermJudge$Nodes.addTerm(III)I
-- 36 TermJudge$Nodes.termLike(III)I
-- 37 TermJudge$Nodes.cutTerms(I)V
-- 38 TermJudge$Nodes.add(III)I
-- 39 TermJudge$Nodes.fill(IIII)V
-- 40 TermJudge$Nodes.grow()V
-- 41 TermJudge$Nodes.dropPassing()V
-- 42 TermJudge$Nodes.keepPassing()V
-- 43 TermJudge$Nodes.changed(IIII)I
-- 44 TermJudge$Nodes.withHead(III)I
-- 45 TermJudge$Reducer.<init>(LTermJudge$Nodes;LTermJudge$Constants;)V
-- 46 TermJudge$Reducer.refuel(I)V
-- 47 TermJudge$Reducer.madeCount()I
-- 48 TermJudge$Reducer.headForm(I)I
-- 49 TermJudge$Reducer.nextPlace(I)I
-- 50 TermJudge$Reducer.areSame(II)Z
-- 51 TermJudge$Reducer.valueOf([I)I
-- 52 TermJudge$Reducer.mayBeSame(II)Z
-- 53 TermJudge$Reducer.openParts(II)V
-- 54 TermJudge$Reducer.open(II)V
-- 55 TermJudge.<init>()V
-- 56 TermJudge.make(III)I
-- 57 TermJudge.terms()I
-- 58 TermJudge.term(II)I
-- 59 TermJudge.infer(II)I
-- 60 TermJudge.reduce(II)I
-- 61 TermJudge.same(III)Z
-- 62 TermJudge.check(III)Z
-- 63 TermJudge.declare(II)I
-- 64 TermJudge.define(II)I
-- 65 TermJudge.constants()I
-- 66 TermJudge.hasBody(I)Z
-- 67 TermJudge.typeOf(I)I
-- 68 TermJudge.mark(I)I
-- 69 TermJudge.keep()I
-- 70 TermJudge.reduced()I
-- 71 TermJudge.hasParts(I)Z
-- 72 TermJudge.mayBeMade(III)Z
-- 73 TermJudge.begin(III)V
-- 74 TermJudge.refuseUnlooked()I
-- 75 TermJudge.lasting(LTermJudge$Marks;)I
-- 76 TermJudgeModel.<init>()V
-- 77 TermJudgeModel.thrown()I
-- 78 TermJudgeModel.fail(I)I
-- 79 TermJudgeModel.kindOf(I)I
-- 80 TermJudgeModel.hasParts(I)Z
-- 81 TermJudgeModel.bindsIn(I)Z
-- 82 TermJudgeModel.at(II)I
-- 83 TermJudgeModel.endOf(II)I
-- 84 TermJudgeModel.copyPart(III)V
-- 85 TermJudgeModel.copy(II)V
-- 86 TermJudgeModel.setAtom(II)V
-- 87 TermJudgeModel.deepOf(I)I
-- 88 TermJudgeModel.raise(II)V
-- 89 TermJudgeModel.begin()V
-- 90 TermJudgeModel.put(I)V
-- 91 TermJudgeModel.putAll(III)V
-- 92 TermJudgeModel.putRaised(IIII)V
-- 93 TermJudgeModel.putFor(IIIIII)V
-- 94 TermJudgeModel.take(I)Z
-- 95 TermJudgeModel.toHead(I)V
-- 96 TermJudgeModel.pushRest(II)V
-- 97 TermJudgeModel.pop(II)V
-- 98 TermJudgeModel.areSame()Z
-- 99 TermJudgeModel.ask(I)V
-- 100 TermJudgeModel.levelIn(I)I
-- 101 TermJudgeModel.askPart(II)V
-- 102 TermJudgeModel.start(I)V
-- 103 TermJudgeModel.second(I)V
-- 104 TermJudgeModel.last(I)V
-- 105 TermJudgeModel.toType(I)V
-- 106 TermJudgeModel.make(III)I
-- 107 TermJudgeModel.terms()I
-- 108 TermJudgeModel.isTerm(I)Z
-- 109 TermJudgeModel.term(II)I
-- 110 TermJudgeModel.load(II)V
-- 111 TermJudgeModel.starts(III)Z
-- 112 TermJudgeModel.setResult(I)I
-- 113 TermJudgeModel.infer(II)I
-- 114 TermJudgeModel.reduce(II)I
-- 115 TermJudgeModel.same(III)Z
-- 116 TermJudgeModel.check(III)Z
-- 117 TermJudgeModel.declare(II)I
-- 118 TermJudgeModel.define(II)I
-- 119 TermJudgeModel.constants()I
-- 120 TermJudgeModel.hasBody(I)Z
-- 121 TermJudgeModel.typeOf(I)I
-- 122 TermJudgeModel.mark(I)I
-- 123 TermJudgeModel.find(III)I
-- 124 TermJudgeModel.keep()I
-- 125 TermJudgeModel.reduced()I
-- 126 TermJudgeLaw.infer(LTermJudge;II[J)I
-- 127 TermJudgeLaw.reduce(LTermJudge;II[J)I
-- 128 TermJudgeLaw.same(LTermJudge;III[J)I
-- 129 TermJudgeLaw.check(LTermJudge;III[J)I
-- 130 TermJudgeLaw.declare(LTermJudge;II[J)I
-- 131 TermJudgeLaw.define(LTermJudge;II[J)I
-- 132 TermJudgeLaw.law([I)Z
def am_y : Nat → MethodName := fun k => match k with
  | 0 => yX0_init
  | 1 => yX0_count
  | 2 => yX0_isFull
  | 3 => yX0_isThere
  | 4 => yX0_typeAt
  | 5 => yX0_bodyAt
  | 6 => yX0_add
  | 7 => yX1_init
  | 8 => yX1_forgetTypes
  | 9 => yX1_typeFound
  | 10 => yX1_levelOf
  | 11 => yX1_typeOfVariable
  | 12 => yX1_typeOfPi
  | 13 => yX1_typeOfFunction
  | 14 => yX1_typeOfApplication
  | 15 => yX1_open
  | 16 => yX1_notTooMuch
  | 17 => yX2_init
  | 18 => yX2_isEmpty
  | 19 => yX2_at
  | 20 => yX2_hasTooGreat
  | 21 => yX2_write
  | 22 => yX2_writeNode
  | 23 => yX2_read
  | 24 => yX2_readNode
  | 25 => yX3_init
  | 26 => yX3_termCount
  | 27 => yX3_isTerm
  | 28 => yX3_kindOf
  | 29 => yX3_leftOf
  | 30 => yX3_rightOf
  | 31 => yX3_sizeOf
  | 32 => yX3_depthOf
  | 33 => yX3_mayJoin
  | 34 => yX3_isTooMuch
  | 35 => yX3_addTerm
  | 36 => yX3_termLike
  | 37 => yX3_cutTerms
  | 38 => yX3_add
  | 39 => yX3_fill
  | 40 => yX3_grow
  | 41 => yX3_dropPassing
  | 42 => yX3_keepPassing
  | 43 => yX3_changed
  | 44 => yX3_withHead
  | 45 => yX4_init
  | 46 => yX4_refuel
  | 47 => yX4_madeCount
  | 48 => yX4_headForm
  | 49 => yX4_nextPlace
  | 50 => yX4_areSame
  | 51 => yX4_valueOf
  | 52 => yX4_mayBeSame
  | 53 => yX4_openParts
  | 54 => yX4_open
  | 55 => yX5_init
  | 56 => yX5_make
  | 57 => yX5_terms
  | 58 => yX5_term
  | 59 => yX5_infer
  | 60 => yX5_reduce
  | 61 => yX5_same
  | 62 => yX5_check
  | 63 => yX5_declare
  | 64 => yX5_define
  | 65 => yX5_constants
  | 66 => yX5_hasBody
  | 67 => yX5_typeOf
  | 68 => yX5_mark
  | 69 => yX5_keep
  | 70 => yX5_reduced
  | 71 => yX5_hasParts
  | 72 => yX5_mayBeMade
  | 73 => yX5_begin
  | 74 => yX5_refuseUnlooked
  | 75 => yX5_lasting
  | 76 => yX6_init
  | 77 => yX6_thrown
  | 78 => yX6_fail
  | 79 => yX6_kindOf
  | 80 => yX6_hasParts
  | 81 => yX6_bindsIn
  | 82 => yX6_at
  | 83 => yX6_endOf
  | 84 => yX6_copyPart
  | 85 => yX6_copy
  | 86 => yX6_setAtom
  | 87 => yX6_deepOf
  | 88 => yX6_raise
  | 89 => yX6_begin
  | 90 => yX6_put
  | 91 => yX6_putAll
  | 92 => yX6_putRaised
  | 93 => yX6_putFor
  | 94 => yX6_take
  | 95 => yX6_toHead
  | 96 => yX6_pushRest
  | 97 => yX6_pop
  | 98 => yX6_areSame
  | 99 => yX6_ask
  | 100 => yX6_levelIn
  | 101 => yX6_askPart
  | 102 => yX6_start
  | 103 => yX6_second
  | 104 => yX6_last
  | 105 => yX6_toType
  | 106 => yX6_make
  | 107 => yX6_terms
  | 108 => yX6_isTerm
  | 109 => yX6_term
  | 110 => yX6_load
  | 111 => yX6_starts
  | 112 => yX6_setResult
  | 113 => yX6_infer
  | 114 => yX6_reduce
  | 115 => yX6_same
  | 116 => yX6_check
  | 117 => yX6_declare
  | 118 => yX6_define
  | 119 => yX6_constants
  | 120 => yX6_hasBody
  | 121 => yX6_typeOf
  | 122 => yX6_mark
  | 123 => yX6_find
  | 124 => yX6_keep
  | 125 => yX6_reduced
  | 126 => yL_infer
  | 127 => yL_reduce
  | 128 => yL_same
  | 129 => yL_check
  | 130 => yL_declare
  | 131 => yL_define
  | 132 => yL_law
  | _ => yL_law
def am_b : Nat → ByteArray := fun k => match k with
  | 0 => cX0_init
  | 1 => cX0_count
  | 2 => cX0_isFull
  | 3 => cX0_isThere
  | 4 => cX0_typeAt
  | 5 => cX0_bodyAt
  | 6 => cX0_add
  | 7 => cX1_init
  | 8 => cX1_forgetTypes
  | 9 => cX1_typeFound
  | 10 => cX1_levelOf
  | 11 => cX1_typeOfVariable
  | 12 => cX1_typeOfPi
  | 13 => cX1_typeOfFunction
  | 14 => cX1_typeOfApplication
  | 15 => cX1_open
  | 16 => cX1_notTooMuch
  | 17 => cX2_init
  | 18 => cX2_isEmpty
  | 19 => cX2_at
  | 20 => cX2_hasTooGreat
  | 21 => cX2_write
  | 22 => cX2_writeNode
  | 23 => cX2_read
  | 24 => cX2_readNode
  | 25 => cX3_init
  | 26 => cX3_termCount
  | 27 => cX3_isTerm
  | 28 => cX3_kindOf
  | 29 => cX3_leftOf
  | 30 => cX3_rightOf
  | 31 => cX3_sizeOf
  | 32 => cX3_depthOf
  | 33 => cX3_mayJoin
  | 34 => cX3_isTooMuch
  | 35 => cX3_addTerm
  | 36 => cX3_termLike
  | 37 => cX3_cutTerms
  | 38 => cX3_add
  | 39 => cX3_fill
  | 40 => cX3_grow
  | 41 => cX3_dropPassing
  | 42 => cX3_keepPassing
  | 43 => cX3_changed
  | 44 => cX3_withHead
  | 45 => cX4_init
  | 46 => cX4_refuel
  | 47 => cX4_madeCount
  | 48 => cX4_headForm
  | 49 => cX4_nextPlace
  | 50 => cX4_areSame
  | 51 => cX4_valueOf
  | 52 => cX4_mayBeSame
  | 53 => cX4_openParts
  | 54 => cX4_open
  | 55 => cX5_init
  | 56 => cX5_make
  | 57 => cX5_terms
  | 58 => cX5_term
  | 59 => cX5_infer
  | 60 => cX5_reduce
  | 61 => cX5_same
  | 62 => cX5_check
  | 63 => cX5_declare
  | 64 => cX5_define
  | 65 => cX5_constants
  | 66 => cX5_hasBody
  | 67 => cX5_typeOf
  | 68 => cX5_mark
  | 69 => cX5_keep
  | 70 => cX5_reduced
  | 71 => cX5_hasParts
  | 72 => cX5_mayBeMade
  | 73 => cX5_begin
  | 74 => cX5_refuseUnlooked
  | 75 => cX5_lasting
  | 76 => cX6_init
  | 77 => cX6_thrown
  | 78 => cX6_fail
  | 79 => cX6_kindOf
  | 80 => cX6_hasParts
  | 81 => cX6_bindsIn
  | 82 => cX6_at
  | 83 => cX6_endOf
  | 84 => cX6_copyPart
  | 85 => cX6_copy
  | 86 => cX6_setAtom
  | 87 => cX6_deepOf
  | 88 => cX6_raise
  | 89 => cX6_begin
  | 90 => cX6_put
  | 91 => cX6_putAll
  | 92 => cX6_putRaised
  | 93 => cX6_putFor
  | 94 => cX6_take
  | 95 => cX6_toHead
  | 96 => cX6_pushRest
  | 97 => cX6_pop
  | 98 => cX6_areSame
  | 99 => cX6_ask
  | 100 => cX6_levelIn
  | 101 => cX6_askPart
  | 102 => cX6_start
  | 103 => cX6_second
  | 104 => cX6_last
  | 105 => cX6_toType
  | 106 => cX6_make
  | 107 => cX6_terms
  | 108 => cX6_isTerm
  | 109 => cX6_term
  | 110 => cX6_load
  | 111 => cX6_starts
  | 112 => cX6_setResult
  | 113 => cX6_infer
  | 114 => cX6_reduce
  | 115 => cX6_same
  | 116 => cX6_check
  | 117 => cX6_declare
  | 118 => cX6_define
  | 119 => cX6_constants
  | 120 => cX6_hasBody
  | 121 => cX6_typeOf
  | 122 => cX6_mark
  | 123 => cX6_find
  | 124 => cX6_keep
  | 125 => cX6_reduced
  | 126 => cL_infer
  | 127 => cL_reduce
  | 128 => cL_same
  | 129 => cL_check
  | 130 => cL_declare
  | 131 => cL_define
  | 132 => cL_law
  | _ => cL_law
def am_ml : Nat → Nat := fun k => match k with
  | 0 => 1
  | 1 => 1
  | 2 => 1
  | 3 => 2
  | 4 => 2
  | 5 => 2
  | 6 => 3
  | 7 => 4
  | 8 => 1
  | 9 => 4
  | 10 => 3
  | 11 => 3
  | 12 => 5
  | 13 => 4
  | 14 => 4
  | 15 => 2
  | 16 => 2
  | 17 => 1
  | 18 => 1
  | 19 => 2
  | 20 => 3
  | 21 => 3
  | 22 => 4
  | 23 => 3
  | 24 => 7
  | 25 => 1
  | 26 => 1
  | 27 => 2
  | 28 => 2
  | 29 => 2
  | 30 => 2
  | 31 => 2
  | 32 => 2
  | 33 => 3
  | 34 => 2
  | 35 => 4
  | 36 => 5
  | 37 => 2
  | 38 => 4
  | 39 => 6
  | 40 => 2
  | 41 => 1
  | 42 => 1
  | 43 => 10
  | 44 => 4
  | 45 => 3
  | 46 => 2
  | 47 => 1
  | 48 => 8
  | 49 => 6
  | 50 => 6
  | 51 => 2
  | 52 => 4
  | 53 => 3
  | 54 => 3
  | 55 => 1
  | 56 => 4
  | 57 => 1
  | 58 => 3
  | 59 => 3
  | 60 => 3
  | 61 => 4
  | 62 => 4
  | 63 => 3
  | 64 => 3
  | 65 => 1
  | 66 => 2
  | 67 => 2
  | 68 => 2
  | 69 => 3
  | 70 => 1
  | 71 => 1
  | 72 => 4
  | 73 => 4
  | 74 => 1
  | 75 => 3
  | 76 => 1
  | 77 => 1
  | 78 => 2
  | 79 => 1
  | 80 => 1
  | 81 => 1
  | 82 => 3
  | 83 => 5
  | 84 => 6
  | 85 => 4
  | 86 => 3
  | 87 => 6
  | 88 => 7
  | 89 => 1
  | 90 => 2
  | 91 => 5
  | 92 => 9
  | 93 => 12
  | 94 => 3
  | 95 => 10
  | 96 => 4
  | 97 => 4
  | 98 => 5
  | 99 => 2
  | 100 => 3
  | 101 => 3
  | 102 => 5
  | 103 => 4
  | 104 => 6
  | 105 => 3
  | 106 => 6
  | 107 => 1
  | 108 => 2
  | 109 => 3
  | 110 => 7
  | 111 => 4
  | 112 => 2
  | 113 => 3
  | 114 => 3
  | 115 => 5
  | 116 => 5
  | 117 => 3
  | 118 => 4
  | 119 => 1
  | 120 => 2
  | 121 => 2
  | 122 => 2
  | 123 => 5
  | 124 => 6
  | 125 => 1
  | 126 => 5
  | 127 => 5
  | 128 => 6
  | 129 => 6
  | 130 => 5
  | 131 => 5
  | 132 => 7
  | _ => 0
def am_rt : Nat → Option FieldType := fun k => match k with
  | 0 => none
  | 1 => some .int
  | 2 => some .boolean
  | 3 => some .boolean
  | 4 => some .int
  | 5 => some .int
  | 6 => some .int
  | 7 => none
  | 8 => none
  | 9 => some .int
  | 10 => some .int
  | 11 => some .int
  | 12 => some .int
  | 13 => some .int
  | 14 => some .int
  | 15 => none
  | 16 => some .int
  | 17 => none
  | 18 => some .boolean
  | 19 => some .int
  | 20 => some .boolean
  | 21 => some .int
  | 22 => none
  | 23 => some .int
  | 24 => some .int
  | 25 => none
  | 26 => some .int
  | 27 => some .boolean
  | 28 => some .int
  | 29 => some .int
  | 30 => some .int
  | 31 => some .int
  | 32 => some .int
  | 33 => some .boolean
  | 34 => some .boolean
  | 35 => some .int
  | 36 => some .int
  | 37 => none
  | 38 => some .int
  | 39 => none
  | 40 => none
  | 41 => none
  | 42 => none
  | 43 => some .int
  | 44 => some .int
  | 45 => none
  | 46 => none
  | 47 => some .int
  | 48 => some .int
  | 49 => some .int
  | 50 => some .boolean
  | 51 => some .int
  | 52 => some .boolean
  | 53 => none
  | 54 => none
  | 55 => none
  | 56 => some .int
  | 57 => some .int
  | 58 => some .int
  | 59 => some .int
  | 60 => some .int
  | 61 => some .boolean
  | 62 => some .boolean
  | 63 => some .int
  | 64 => some .int
  | 65 => some .int
  | 66 => some .boolean
  | 67 => some .int
  | 68 => some .int
  | 69 => some .int
  | 70 => some .int
  | 71 => some .boolean
  | 72 => some .boolean
  | 73 => none
  | 74 => some .int
  | 75 => some .int
  | 76 => none
  | 77 => some .int
  | 78 => some .int
  | 79 => some .int
  | 80 => some .boolean
  | 81 => some .boolean
  | 82 => some .int
  | 83 => some .int
  | 84 => none
  | 85 => none
  | 86 => none
  | 87 => some .int
  | 88 => none
  | 89 => none
  | 90 => none
  | 91 => none
  | 92 => none
  | 93 => none
  | 94 => some .boolean
  | 95 => none
  | 96 => none
  | 97 => none
  | 98 => some .boolean
  | 99 => none
  | 100 => some .int
  | 101 => none
  | 102 => none
  | 103 => none
  | 104 => none
  | 105 => none
  | 106 => some .int
  | 107 => some .int
  | 108 => some .boolean
  | 109 => some .int
  | 110 => none
  | 111 => some .boolean
  | 112 => some .int
  | 113 => some .int
  | 114 => some .int
  | 115 => some .boolean
  | 116 => some .boolean
  | 117 => some .int
  | 118 => some .int
  | 119 => some .int
  | 120 => some .boolean
  | 121 => some .int
  | 122 => some .int
  | 123 => some .int
  | 124 => some .int
  | 125 => some .int
  | 126 => some .int
  | 127 => some .int
  | 128 => some .int
  | 129 => some .int
  | 130 => some .int
  | 131 => some .int
  | 132 => some .boolean
  | _ => none
def am_own : Nat → String := fun k => match k with
  | 0 => RX0
  | 1 => RX0
  | 2 => RX0
  | 3 => RX0
  | 4 => RX0
  | 5 => RX0
  | 6 => RX0
  | 7 => RX1
  | 8 => RX1
  | 9 => RX1
  | 10 => RX1
  | 11 => RX1
  | 12 => RX1
  | 13 => RX1
  | 14 => RX1
  | 15 => RX1
  | 16 => RX1
  | 17 => RX2
  | 18 => RX2
  | 19 => RX2
  | 20 => RX2
  | 21 => RX2
  | 22 => RX2
  | 23 => RX2
  | 24 => RX2
  | 25 => RX3
  | 26 => RX3
  | 27 => RX3
  | 28 => RX3
  | 29 => RX3
  | 30 => RX3
  | 31 => RX3
  | 32 => RX3
  | 33 => RX3
  | 34 => RX3
  | 35 => RX3
  | 36 => RX3
  | 37 => RX3
  | 38 => RX3
  | 39 => RX3
  | 40 => RX3
  | 41 => RX3
  | 42 => RX3
  | 43 => RX3
  | 44 => RX3
  | 45 => RX4
  | 46 => RX4
  | 47 => RX4
  | 48 => RX4
  | 49 => RX4
  | 50 => RX4
  | 51 => RX4
  | 52 => RX4
  | 53 => RX4
  | 54 => RX4
  | 55 => RX5
  | 56 => RX5
  | 57 => RX5
  | 58 => RX5
  | 59 => RX5
  | 60 => RX5
  | 61 => RX5
  | 62 => RX5
  | 63 => RX5
  | 64 => RX5
  | 65 => RX5
  | 66 => RX5
  | 67 => RX5
  | 68 => RX5
  | 69 => RX5
  | 70 => RX5
  | 71 => RX5
  | 72 => RX5
  | 73 => RX5
  | 74 => RX5
  | 75 => RX5
  | 76 => RX6
  | 77 => RX6
  | 78 => RX6
  | 79 => RX6
  | 80 => RX6
  | 81 => RX6
  | 82 => RX6
  | 83 => RX6
  | 84 => RX6
  | 85 => RX6
  | 86 => RX6
  | 87 => RX6
  | 88 => RX6
  | 89 => RX6
  | 90 => RX6
  | 91 => RX6
  | 92 => RX6
  | 93 => RX6
  | 94 => RX6
  | 95 => RX6
  | 96 => RX6
  | 97 => RX6
  | 98 => RX6
  | 99 => RX6
  | 100 => RX6
  | 101 => RX6
  | 102 => RX6
  | 103 => RX6
  | 104 => RX6
  | 105 => RX6
  | 106 => RX6
  | 107 => RX6
  | 108 => RX6
  | 109 => RX6
  | 110 => RX6
  | 111 => RX6
  | 112 => RX6
  | 113 => RX6
  | 114 => RX6
  | 115 => RX6
  | 116 => RX6
  | 117 => RX6
  | 118 => RX6
  | 119 => RX6
  | 120 => RX6
  | 121 => RX6
  | 122 => RX6
  | 123 => RX6
  | 124 => RX6
  | 125 => RX6
  | 126 => RL
  | 127 => RL
  | 128 => RL
  | 129 => RL
  | 130 => RL
  | 131 => RL
  | 132 => RL
  | _ => RL
def am_hh : Nat → List (Nat × Nat × Nat × Nat) := fun k => match k with
  | 126 => [(0, 10, 13, 13), (0, 10, 17, 15), (0, 10, 21, 17)]
  | 127 => [(0, 10, 13, 13), (0, 10, 17, 17)]
  | 128 => [(0, 19, 22, 13), (0, 19, 26, 17)]
  | 129 => [(0, 19, 22, 13), (0, 19, 26, 15), (0, 19, 30, 17)]
  | 130 => [(0, 10, 13, 13), (0, 10, 17, 15), (0, 10, 21, 17)]
  | 131 => [(0, 10, 13, 13), (0, 10, 17, 15), (0, 10, 21, 17)]
  | _ => []
def am_mz : Nat → Nat × Nat × Nat × Nat := fun k => match k with
  | 0 => (111, 110, 0, 53)
  | 1 => (283, 281, 282, 53)
  | 2 => (652, 650, 651, 53)
  | 3 => (219, 217, 218, 53)
  | 4 => (300, 298, 299, 53)
  | 5 => (291, 289, 290, 53)
  | 6 => (660, 658, 659, 53)
  | 7 => (155, 154, 0, 55)
  | 8 => (496, 494, 495, 55)
  | 9 => (500, 498, 499, 55)
  | 10 => (541, 539, 540, 55)
  | 11 => (507, 506, 7, 55)
  | 12 => (536, 535, 8, 55)
  | 13 => (581, 580, 11, 55)
  | 14 => (591, 590, 13, 55)
  | 15 => (573, 572, 10, 55)
  | 16 => (585, 584, 12, 55)
  | 17 => (177, 176, 0, 56)
  | 18 => (328, 326, 327, 56)
  | 19 => (320, 318, 319, 56)
  | 20 => (332, 330, 331, 56)
  | 21 => (304, 302, 303, 56)
  | 22 => (308, 307, 2, 56)
  | 23 => (337, 335, 336, 56)
  | 24 => (341, 340, 3, 56)
  | 25 => (79, 78, 0, 52)
  | 26 => (257, 255, 256, 52)
  | 27 => (226, 224, 225, 52)
  | 28 => (265, 263, 264, 52)
  | 29 => (269, 267, 268, 52)
  | 30 => (273, 271, 272, 52)
  | 31 => (234, 232, 233, 52)
  | 32 => (238, 236, 237, 52)
  | 33 => (230, 228, 229, 52)
  | 34 => (566, 564, 565, 52)
  | 35 => (245, 243, 244, 52)
  | 36 => (345, 343, 344, 52)
  | 37 => (446, 444, 445, 52)
  | 38 => (353, 351, 352, 52)
  | 39 => (249, 248, 1, 52)
  | 40 => (357, 356, 4, 52)
  | 41 => (488, 486, 487, 52)
  | 42 => (675, 673, 674, 52)
  | 43 => (527, 525, 526, 52)
  | 44 => (561, 559, 560, 52)
  | 45 => (127, 126, 0, 54)
  | 46 => (492, 490, 491, 54)
  | 47 => (454, 452, 453, 54)
  | 48 => (545, 543, 544, 54)
  | 49 => (549, 548, 9, 54)
  | 50 => (596, 594, 595, 54)
  | 51 => (606, 605, 15, 54)
  | 52 => (611, 610, 16, 54)
  | 53 => (616, 615, 17, 54)
  | 54 => (600, 599, 14, 54)
  | 55 => (71, 70, 0, 51)
  | 56 => (211, 209, 210, 51)
  | 57 => (253, 251, 252, 51)
  | 58 => (261, 259, 260, 51)
  | 59 => (464, 462, 463, 51)
  | 60 => (624, 622, 623, 51)
  | 61 => (632, 630, 631, 51)
  | 62 => (640, 638, 639, 51)
  | 63 => (648, 646, 647, 51)
  | 64 => (667, 665, 666, 51)
  | 65 => (279, 277, 278, 51)
  | 66 => (287, 285, 286, 51)
  | 67 => (296, 294, 295, 51)
  | 68 => (316, 314, 315, 51)
  | 69 => (324, 322, 323, 51)
  | 70 => (450, 448, 449, 51)
  | 71 => (222, 221, 0, 51)
  | 72 => (215, 214, 0, 51)
  | 73 => (468, 467, 6, 51)
  | 74 => (656, 655, 18, 51)
  | 75 => (671, 670, 19, 51)
  | 76 => (680, 679, 0, 57)
  | 77 => (783, 781, 782, 57)
  | 78 => (924, 923, 48, 57)
  | 79 => (830, 829, 0, 57)
  | 80 => (841, 840, 0, 57)
  | 81 => (844, 843, 0, 57)
  | 82 => (827, 826, 26, 57)
  | 83 => (860, 859, 32, 57)
  | 84 => (856, 855, 31, 57)
  | 85 => (834, 833, 27, 57)
  | 86 => (848, 847, 29, 57)
  | 87 => (896, 895, 41, 57)
  | 88 => (838, 837, 28, 57)
  | 89 => (872, 871, 35, 57)
  | 90 => (880, 879, 37, 57)
  | 91 => (876, 875, 36, 57)
  | 92 => (888, 887, 39, 57)
  | 93 => (884, 883, 38, 57)
  | 94 => (892, 891, 40, 57)
  | 95 => (868, 867, 34, 57)
  | 96 => (912, 911, 45, 57)
  | 97 => (916, 915, 46, 57)
  | 98 => (908, 907, 44, 57)
  | 99 => (819, 818, 24, 57)
  | 100 => (900, 899, 42, 57)
  | 101 => (852, 851, 30, 57)
  | 102 => (823, 822, 25, 57)
  | 103 => (864, 863, 33, 57)
  | 104 => (904, 903, 43, 57)
  | 105 => (815, 814, 23, 57)
  | 106 => (787, 785, 786, 57)
  | 107 => (791, 789, 790, 57)
  | 108 => (799, 798, 20, 57)
  | 109 => (795, 793, 794, 57)
  | 110 => (811, 810, 22, 57)
  | 111 => (807, 806, 21, 57)
  | 112 => (920, 919, 47, 57)
  | 113 => (803, 801, 802, 57)
  | 114 => (928, 926, 927, 57)
  | 115 => (932, 930, 931, 57)
  | 116 => (936, 934, 935, 57)
  | 117 => (940, 938, 939, 57)
  | 118 => (944, 942, 943, 57)
  | 119 => (948, 946, 947, 57)
  | 120 => (952, 950, 951, 57)
  | 121 => (956, 954, 955, 57)
  | 122 => (960, 958, 959, 57)
  | 123 => (968, 967, 49, 57)
  | 124 => (964, 962, 963, 57)
  | 125 => (973, 971, 972, 57)
  | 126 => (457, 456, 0, 50)
  | 127 => (620, 619, 0, 50)
  | 128 => (628, 627, 0, 50)
  | 129 => (636, 635, 0, 50)
  | 130 => (644, 643, 0, 50)
  | 131 => (663, 662, 0, 50)
  | _ => (0, 0, 0, 0)
def am_na : Nat → Nat := fun k => match k with
  | 0 => 0
  | 1 => 0
  | 2 => 0
  | 3 => 1
  | 4 => 1
  | 5 => 1
  | 6 => 2
  | 7 => 3
  | 8 => 0
  | 9 => 1
  | 10 => 1
  | 11 => 1
  | 12 => 2
  | 13 => 2
  | 14 => 2
  | 15 => 1
  | 16 => 1
  | 17 => 0
  | 18 => 0
  | 19 => 1
  | 20 => 1
  | 21 => 2
  | 22 => 2
  | 23 => 2
  | 24 => 2
  | 25 => 0
  | 26 => 0
  | 27 => 1
  | 28 => 1
  | 29 => 1
  | 30 => 1
  | 31 => 1
  | 32 => 1
  | 33 => 2
  | 34 => 1
  | 35 => 3
  | 36 => 3
  | 37 => 1
  | 38 => 3
  | 39 => 4
  | 40 => 0
  | 41 => 0
  | 42 => 0
  | 43 => 4
  | 44 => 3
  | 45 => 2
  | 46 => 1
  | 47 => 0
  | 48 => 1
  | 49 => 1
  | 50 => 2
  | 51 => 1
  | 52 => 2
  | 53 => 2
  | 54 => 2
  | 55 => 0
  | 56 => 3
  | 57 => 0
  | 58 => 2
  | 59 => 2
  | 60 => 2
  | 61 => 3
  | 62 => 3
  | 63 => 2
  | 64 => 2
  | 65 => 0
  | 66 => 1
  | 67 => 1
  | 68 => 1
  | 69 => 0
  | 70 => 0
  | 71 => 1
  | 72 => 3
  | 73 => 3
  | 74 => 0
  | 75 => 1
  | 76 => 0
  | 77 => 0
  | 78 => 1
  | 79 => 1
  | 80 => 1
  | 81 => 1
  | 82 => 2
  | 83 => 2
  | 84 => 3
  | 85 => 2
  | 86 => 2
  | 87 => 1
  | 88 => 2
  | 89 => 0
  | 90 => 1
  | 91 => 3
  | 92 => 4
  | 93 => 6
  | 94 => 1
  | 95 => 1
  | 96 => 2
  | 97 => 2
  | 98 => 0
  | 99 => 1
  | 100 => 1
  | 101 => 2
  | 102 => 1
  | 103 => 1
  | 104 => 1
  | 105 => 1
  | 106 => 3
  | 107 => 0
  | 108 => 1
  | 109 => 2
  | 110 => 2
  | 111 => 3
  | 112 => 1
  | 113 => 2
  | 114 => 2
  | 115 => 3
  | 116 => 3
  | 117 => 2
  | 118 => 2
  | 119 => 0
  | 120 => 1
  | 121 => 1
  | 122 => 1
  | 123 => 3
  | 124 => 0
  | 125 => 0
  | 126 => 4
  | 127 => 4
  | 128 => 5
  | 129 => 5
  | 130 => 4
  | 131 => 4
  | 132 => 1
  | _ => 0
def am_oc : Nat → Nat := fun k => match k with
  | 0 => 0
  | 1 => 0
  | 2 => 0
  | 3 => 0
  | 4 => 0
  | 5 => 0
  | 6 => 0
  | 7 => 1
  | 8 => 1
  | 9 => 1
  | 10 => 1
  | 11 => 1
  | 12 => 1
  | 13 => 1
  | 14 => 1
  | 15 => 1
  | 16 => 1
  | 17 => 2
  | 18 => 2
  | 19 => 2
  | 20 => 2
  | 21 => 2
  | 22 => 2
  | 23 => 2
  | 24 => 2
  | 25 => 3
  | 26 => 3
  | 27 => 3
  | 28 => 3
  | 29 => 3
  | 30 => 3
  | 31 => 3
  | 32 => 3
  | 33 => 3
  | 34 => 3
  | 35 => 3
  | 36 => 3
  | 37 => 3
  | 38 => 3
  | 39 => 3
  | 40 => 3
  | 41 => 3
  | 42 => 3
  | 43 => 3
  | 44 => 3
  | 45 => 4
  | 46 => 4
  | 47 => 4
  | 48 => 4
  | 49 => 4
  | 50 => 4
  | 51 => 4
  | 52 => 4
  | 53 => 4
  | 54 => 4
  | 55 => 5
  | 56 => 5
  | 57 => 5
  | 58 => 5
  | 59 => 5
  | 60 => 5
  | 61 => 5
  | 62 => 5
  | 63 => 5
  | 64 => 5
  | 65 => 5
  | 66 => 5
  | 67 => 5
  | 68 => 5
  | 69 => 5
  | 70 => 5
  | 71 => 5
  | 72 => 5
  | 73 => 5
  | 74 => 5
  | 75 => 5
  | 76 => 6
  | 77 => 6
  | 78 => 6
  | 79 => 6
  | 80 => 6
  | 81 => 6
  | 82 => 6
  | 83 => 6
  | 84 => 6
  | 85 => 6
  | 86 => 6
  | 87 => 6
  | 88 => 6
  | 89 => 6
  | 90 => 6
  | 91 => 6
  | 92 => 6
  | 93 => 6
  | 94 => 6
  | 95 => 6
  | 96 => 6
  | 97 => 6
  | 98 => 6
  | 99 => 6
  | 100 => 6
  | 101 => 6
  | 102 => 6
  | 103 => 6
  | 104 => 6
  | 105 => 6
  | 106 => 6
  | 107 => 6
  | 108 => 6
  | 109 => 6
  | 110 => 6
  | 111 => 6
  | 112 => 6
  | 113 => 6
  | 114 => 6
  | 115 => 6
  | 116 => 6
  | 117 => 6
  | 118 => 6
  | 119 => 6
  | 120 => 6
  | 121 => 6
  | 122 => 6
  | 123 => 6
  | 124 => 6
  | 125 => 6
  | _ => 99
def am_T : Nat → u_T := fun k => match k with
  | 0 => TX0
  | 1 => TX1
  | 2 => TX2
  | 3 => TX3
  | 4 => TX4
  | 5 => TX5
  | 6 => TX6
  | _ => TX0
def am_C : Nat → String := fun k => match k with
  | 0 => RX0
  | 1 => RX1
  | 2 => RX2
  | 3 => RX3
  | 4 => RX4
  | 5 => RX5
  | 6 => RX6
  | _ => RL
def am_N : Nat → Nat := fun k => match k with
  | 0 => 3
  | 1 => 5
  | 2 => 3
  | 3 => 8
  | 4 => 7
  | 5 => 6
  | 6 => 32
  | _ => 0
def am_ty : Nat → Nat → FieldType := fun k => match k with
  | 0 => tyX0
  | 1 => tyX1
  | 2 => tyX2
  | 3 => tyX3
  | 4 => tyX4
  | 5 => tyX5
  | 6 => tyX6
  | _ => tyX0
def am_df : Nat → List Value := fun k => match k with
  | 0 => [.null, .null, .int 0]
  | 1 => [.null, .null, .null, .null, .int 0]
  | 2 => [.null, .int 0, .int 0]
  | 3 => [.null, .null, .null, .null, .null, .int 0, .int 0, .int 0]
  | 4 => [.null, .null, .null, .null, .int 0, .int 0, .int 0]
  | 5 => [.null, .null, .null, .null, .null, .null]
  | 6 => [.int 0, .int 0, .null, .null, .null, .null, .null, .int 0, .null, .int 0, .null, .null, .int 0, .null, .int 0, .null, .null, .int 0, .int 0, .int 0, .int 0, .null, .null, .null, .int 0, .int 0, .null, .int 0, .int 0, .null, .null, .null]
  | _ => []
def am_cz : Nat → Nat × Nat := fun k => match k with
  | 0 => (108, 53)
  | 1 => (152, 55)
  | 2 => (174, 56)
  | 3 => (76, 52)
  | 4 => (124, 54)
  | 5 => (68, 51)
  | 6 => (677, 57)
  | _ => (0, 0)
def am_lz : Nat → List Nat := fun k => match k with
  | 0 => [116, 118, 120]
  | 1 => [162, 164, 166, 168, 170]
  | 2 => [182, 184, 186]
  | 3 => [89, 91, 93, 95, 97, 99, 101, 103]
  | 4 => [136, 138, 140, 142, 144, 146, 148]
  | 5 => [195, 197, 199, 201, 203, 205]
  | 6 => [714, 716, 718, 720, 722, 724, 726, 728, 730, 732, 734, 736, 738, 740, 742, 744, 746, 748, 750, 752, 754, 756, 758, 760, 762, 764, 766, 768, 770, 772, 774, 776]
  | _ => []
def am_az : Nat → Nat := fun k => match k with
  | 0 => 106
  | 1 => 779
  | _ => 974
def am_oz : Nat × Nat := (73, 74)
def am_xz : Nat × Nat × Nat := (240, 58, 241)
def am_en : Nat → String := fun k => match k with
  | 0 => "java/lang/IllegalArgumentException"
  | 1 => "java/lang/IllegalStateException"
  | 2 => "java/lang/UnsupportedOperationException"
  | _ => ""
def am_cat : Nat → Nat := fun k => match k with
  | 13 => 0
  | 15 => 1
  | 17 => 2
  | _ => 9
def am_catz : Nat → Nat := fun k => match k with
  | 13 => 458
  | 15 => 459
  | 17 => 460
  | _ => 0
def am_c0 : List (List (Nat × am_I)) := [[(0, .aload_n 0, 0, 0, 0), (1, .invokespecial 3, 1001, 0, 112), (4, .aload_n 0, 0, 0, 0), (5, .bipush 16, 0, 0, 0), (7, .newarray .int, 0, 0, 0), (9, .putfield 9, 0, 0, 113), (12, .aload_n 0, 0, 0, 0), (13, .bipush 16, 0, 0, 0), (15, .newarray .int, 0, 0, 0), (17, .putfield 15, 0, 1, 114), (20, .aload_n 0, 0, 0, 0), (21, .iconst 0, 0, 0, 0), (22, .putfield 18, 0, 2, 115), (25, .return_, 0, 0, 0)]]
def am_c1 : List (List (Nat × am_I)) := [[(0, .aload_n 0, 0, 0, 0), (1, .getfield 18, 0, 2, 115), (4, .ireturn, 0, 0, 0)]]
def am_c2 : List (List (Nat × am_I)) := [[(0, .aload_n 0, 0, 0, 0), (1, .getfield 18, 0, 2, 115), (4, .bipush 16, 0, 0, 0), (6, .if_icmp .lt 7, 0, 0, 0), (9, .iconst 1, 0, 0, 0), (10, .goto 4, 0, 0, 0), (13, .iconst 0, 0, 0, 0), (14, .ireturn, 0, 0, 0)]]
def am_c3 : List (List (Nat × am_I)) := [[(0, .iload_n 1, 0, 0, 0), (1, .ifCond .lt 21, 0, 0, 0), (4, .iload_n 1, 0, 0, 0), (5, .aload_n 0, 0, 0, 0), (6, .getfield 18, 0, 2, 115), (9, .if_icmp .ge 13, 0, 0, 0), (12, .iload_n 1, 0, 0, 0), (13, .bipush 16, 0, 0, 0), (15, .if_icmp .ge 7, 0, 0, 0), (18, .iconst 1, 0, 0, 0), (19, .goto 4, 0, 0, 0), (22, .iconst 0, 0, 0, 0), (23, .ireturn, 0, 0, 0)]]
def am_c4 : List (List (Nat × am_I)) := [[(0, .aload_n 0, 0, 0, 0), (1, .iload_n 1, 0, 0, 0), (2, .invokevirtual 22, 3, 2, 292), (5, .ifCond .eq 12, 0, 0, 0), (8, .aload_n 0, 0, 0, 0), (9, .getfield 9, 0, 0, 113), (12, .iload_n 1, 0, 0, 0), (13, .iaload, 0, 0, 0), (14, .goto 4, 0, 0, 0), (17, .iconst (-1), 0, 0, 0), (18, .ireturn, 0, 0, 0)]]
def am_c5 : List (List (Nat × am_I)) := [[(0, .aload_n 0, 0, 0, 0), (1, .iload_n 1, 0, 0, 0), (2, .invokevirtual 22, 3, 2, 292), (5, .ifCond .eq 12, 0, 0, 0), (8, .aload_n 0, 0, 0, 0), (9, .getfield 15, 0, 1, 114), (12, .iload_n 1, 0, 0, 0), (13, .iaload, 0, 0, 0), (14, .goto 4, 0, 0, 0), (17, .iconst (-1), 0, 0, 0), (18, .ireturn, 0, 0, 0)]]
def am_c6 : List (List (Nat × am_I)) := [[(0, .aload_n 0, 0, 0, 0), (1, .getfield 18, 0, 2, 115), (4, .ifCond .lt 12, 0, 0, 0), (7, .aload_n 0, 0, 0, 0), (8, .getfield 18, 0, 2, 115), (11, .bipush 16, 0, 0, 0), (13, .if_icmp .lt 5, 0, 0, 0), (16, .iconst (-1), 0, 0, 0), (17, .ireturn, 0, 0, 0), (18, .aload_n 0, 0, 0, 0), (19, .getfield 9, 0, 0, 113), (22, .aload_n 0, 0, 0, 0), (23, .getfield 18, 0, 2, 115), (26, .iload_n 1, 0, 0, 0), (27, .iastore, 0, 0, 0), (28, .aload_n 0, 0, 0, 0), (29, .getfield 15, 0, 1, 114)],
  [(32, .aload_n 0, 0, 0, 0), (33, .getfield 18, 0, 2, 115), (36, .iload_n 2, 0, 0, 0), (37, .iastore, 0, 0, 0), (38, .aload_n 0, 0, 0, 0), (39, .dup, 0, 0, 0), (40, .getfield 18, 0, 2, 115), (43, .iconst 1, 0, 0, 0), (44, .iadd, 0, 0, 0), (45, .putfield 18, 0, 2, 115), (48, .aload_n 0, 0, 0, 0), (49, .getfield 18, 0, 2, 115), (52, .iconst 1, 0, 0, 0), (53, .isub, 0, 0, 0), (54, .ireturn, 0, 0, 0)]]
def am_c7 : List (List (Nat × am_I)) := [[(0, .aload_n 0, 0, 0, 0), (1, .invokespecial 3, 1001, 0, 156), (4, .aload_n 0, 0, 0, 0), (5, .bipush 12, 0, 0, 0), (7, .newarray .int, 0, 0, 0), (9, .putfield 9, 1, 3, 160), (12, .aload_n 0, 0, 0, 0), (13, .iconst 0, 0, 0, 0), (14, .putfield 15, 1, 4, 161), (17, .aload_n 0, 0, 0, 0), (18, .aload_n 1, 0, 0, 0), (19, .putfield 19, 1, 0, 157), (22, .aload_n 0, 0, 0, 0), (23, .aload_n 2, 0, 0, 0), (24, .putfield 23, 1, 1, 158), (27, .aload_n 0, 0, 0, 0), (28, .aload_n 3, 0, 0, 0), (29, .putfield 27, 1, 2, 159)],
  [(32, .return_, 0, 0, 0)]]
def am_c8 : List (List (Nat × am_I)) := [[(0, .aload_n 0, 0, 0, 0), (1, .iconst 0, 0, 0, 0), (2, .putfield 15, 1, 4, 161), (5, .return_, 0, 0, 0)]]
def am_c9 : List (List (Nat × am_I)) := [[(0, .aload_n 0, 0, 0, 0), (1, .getfield 19, 1, 0, 157), (4, .iload_n 1, 0, 0, 0), (5, .invokevirtual 31, 29, 2, 501), (8, .istore_n 2, 0, 0, 0), (9, .aload_n 0, 0, 0, 0), (10, .getfield 19, 1, 0, 157), (13, .iload_n 1, 0, 0, 0), (14, .invokevirtual 37, 30, 2, 502), (17, .istore_n 3, 0, 0, 0), (18, .aload_n 0, 0, 0, 0), (19, .getfield 19, 1, 0, 157), (22, .iload_n 1, 0, 0, 0), (23, .invokevirtual 40, 28, 2, 503), (26, .tableswitch 87 0 5 #[38, 44, 66, 73, 80, 57], 0, 38, 0)],
  [],
  [(64, .aload_n 0, 0, 0, 0), (65, .iload_n 2, 0, 0, 0), (66, .invokevirtual 43, 11, 2, 504), (69, .ireturn, 0, 0, 0), (70, .aload_n 0, 0, 0, 0), (71, .getfield 19, 1, 0, 157), (74, .iconst 1, 0, 0, 0), (75, .iload_n 2, 0, 0, 0), (76, .iconst 1, 0, 0, 0), (77, .iadd, 0, 0, 0), (78, .iconst (-1), 0, 0, 0), (79, .invokevirtual 46, 38, 6, 531), (82, .ireturn, 0, 0, 0), (83, .aload_n 0, 0, 0, 0), (84, .getfield 23, 1, 1, 158), (87, .iload_n 2, 0, 0, 0), (88, .invokevirtual 50, 4, 2, 532), (91, .ireturn, 0, 0, 0), (92, .aload_n 0, 0, 0, 0), (93, .iload_n 2, 0, 0, 0), (94, .iload_n 3, 0, 0, 0), (95, .invokevirtual 55, 12, 4, 533)],
  [(98, .ireturn, 0, 0, 0), (99, .aload_n 0, 0, 0, 0), (100, .iload_n 2, 0, 0, 0), (101, .iload_n 3, 0, 0, 0), (102, .invokevirtual 59, 13, 4, 578), (105, .ireturn, 0, 0, 0), (106, .aload_n 0, 0, 0, 0), (107, .iload_n 2, 0, 0, 0), (108, .iload_n 3, 0, 0, 0), (109, .invokevirtual 62, 14, 4, 588), (112, .ireturn, 0, 0, 0), (113, .iconst (-1), 0, 0, 0), (114, .ireturn, 0, 0, 0)]]
def am_c10 : List (List (Nat × am_I)) := [[(0, .aload_n 0, 0, 0, 0), (1, .getfield 27, 1, 2, 159), (4, .iload_n 1, 0, 0, 0), (5, .invokevirtual 65, 48, 2, 542), (8, .istore_n 2, 0, 0, 0), (9, .aload_n 0, 0, 0, 0), (10, .getfield 19, 1, 0, 157), (13, .iload_n 2, 0, 0, 0), (14, .invokevirtual 40, 28, 2, 503), (17, .iconst 1, 0, 0, 0), (18, .if_icmp .eq 13, 0, 0, 0), (21, .new 70, 1000, 1, 508), (31, .aload_n 0, 0, 0, 0)],
  [(32, .getfield 19, 1, 0, 157), (35, .iload_n 2, 0, 0, 0), (36, .invokevirtual 31, 29, 2, 501), (39, .ireturn, 0, 0, 0)]]
def am_c11 : List (List (Nat × am_I)) := [[(0, .aload_n 0, 0, 0, 0), (1, .getfield 15, 1, 4, 161), (4, .iconst 1, 0, 0, 0), (5, .isub, 0, 0, 0), (6, .iload_n 1, 0, 0, 0), (7, .isub, 0, 0, 0), (8, .istore_n 2, 0, 0, 0), (9, .iload_n 2, 0, 0, 0), (10, .ifCond .lt 17, 0, 0, 0), (13, .iload_n 2, 0, 0, 0), (14, .aload_n 0, 0, 0, 0), (15, .getfield 15, 1, 4, 161), (18, .if_icmp .ge 9, 0, 0, 0), (21, .iload_n 2, 0, 0, 0), (22, .bipush 12, 0, 0, 0), (24, .if_icmp .lt 13, 0, 0, 0), (27, .new 70, 1001, 1, 508)],
  [(37, .aload_n 0, 0, 0, 0), (38, .getfield 19, 1, 0, 157), (41, .aload_n 0, 0, 0, 0), (42, .getfield 9, 1, 3, 160), (45, .iload_n 2, 0, 0, 0), (46, .iaload, 0, 0, 0), (47, .iconst 0, 0, 0, 0), (48, .iconst (-1), 0, 0, 0), (49, .iload_n 1, 0, 0, 0), (50, .iconst 1, 0, 0, 0), (51, .iadd, 0, 0, 0), (52, .invokevirtual 79, 43, 8, 524), (55, .ireturn, 0, 0, 0)]]
def am_c12 : List (List (Nat × am_I)) := [[(0, .aload_n 0, 0, 0, 0), (1, .aload_n 0, 0, 0, 0), (2, .iload_n 1, 0, 0, 0), (3, .invokevirtual 83, 9, 2, 537), (6, .invokevirtual 86, 10, 2, 538), (9, .istore_n 3, 0, 0, 0), (10, .aload_n 0, 0, 0, 0), (11, .iload_n 1, 0, 0, 0), (12, .invokevirtual 89, 15, 2, 570), (15, .aload_n 0, 0, 0, 0), (16, .aload_n 0, 0, 0, 0), (17, .iload_n 2, 0, 0, 0), (18, .invokevirtual 83, 9, 2, 537), (21, .invokevirtual 86, 10, 2, 538), (24, .istore 4, 0, 0, 0), (26, .aload_n 0, 0, 0, 0), (27, .dup, 0, 0, 0), (28, .getfield 15, 1, 4, 161), (31, .iconst 1, 0, 0, 0)],
  [(32, .isub, 0, 0, 0), (33, .putfield 15, 1, 4, 161), (36, .aload_n 0, 0, 0, 0), (37, .getfield 19, 1, 0, 157), (40, .iconst 1, 0, 0, 0), (41, .iload_n 3, 0, 0, 0), (42, .iload 4, 0, 0, 0), (44, .invokestatic 93, 1002, 0, 577), (47, .iconst (-1), 0, 0, 0), (48, .invokevirtual 46, 38, 6, 531), (51, .ireturn, 0, 0, 0)]]
def am_c13 : List (List (Nat × am_I)) := [[(0, .aload_n 0, 0, 0, 0), (1, .aload_n 0, 0, 0, 0), (2, .iload_n 1, 0, 0, 0), (3, .invokevirtual 83, 9, 2, 537), (6, .invokevirtual 86, 10, 2, 538), (9, .pop, 0, 0, 0), (10, .aload_n 0, 0, 0, 0), (11, .iload_n 1, 0, 0, 0), (12, .invokevirtual 89, 15, 2, 570), (15, .aload_n 0, 0, 0, 0), (16, .iload_n 2, 0, 0, 0), (17, .invokevirtual 83, 9, 2, 537), (20, .istore_n 3, 0, 0, 0), (21, .aload_n 0, 0, 0, 0), (22, .dup, 0, 0, 0), (23, .getfield 15, 1, 4, 161), (26, .iconst 1, 0, 0, 0), (27, .isub, 0, 0, 0), (28, .putfield 15, 1, 4, 161), (31, .aload_n 0, 0, 0, 0)],
  [(32, .aload_n 0, 0, 0, 0), (33, .getfield 19, 1, 0, 157), (36, .iconst 2, 0, 0, 0), (37, .iload_n 1, 0, 0, 0), (38, .iload_n 3, 0, 0, 0), (39, .invokevirtual 46, 38, 6, 531), (42, .invokevirtual 98, 16, 2, 582), (45, .ireturn, 0, 0, 0)]]
def am_c14 : List (List (Nat × am_I)) := [[(0, .aload_n 0, 0, 0, 0), (1, .getfield 27, 1, 2, 159), (4, .aload_n 0, 0, 0, 0), (5, .iload_n 1, 0, 0, 0), (6, .invokevirtual 83, 9, 2, 537), (9, .invokevirtual 65, 48, 2, 542), (12, .istore_n 3, 0, 0, 0), (13, .aload_n 0, 0, 0, 0), (14, .getfield 19, 1, 0, 157), (17, .iload_n 3, 0, 0, 0), (18, .invokevirtual 40, 28, 2, 503), (21, .iconst 2, 0, 0, 0), (22, .if_icmp .eq 13, 0, 0, 0), (25, .new 70, 1002, 1, 508)],
  [(35, .aload_n 0, 0, 0, 0), (36, .getfield 27, 1, 2, 159), (39, .aload_n 0, 0, 0, 0), (40, .iload_n 2, 0, 0, 0), (41, .invokevirtual 83, 9, 2, 537), (44, .aload_n 0, 0, 0, 0), (45, .getfield 19, 1, 0, 157), (48, .iload_n 3, 0, 0, 0), (49, .invokevirtual 31, 29, 2, 501), (52, .invokevirtual 103, 50, 4, 593), (55, .ifCond .ne 13, 0, 0, 0), (58, .new 70, 1003, 1, 508)],
  [(68, .aload_n 0, 0, 0, 0), (69, .aload_n 0, 0, 0, 0), (70, .getfield 19, 1, 0, 157), (73, .aload_n 0, 0, 0, 0), (74, .getfield 19, 1, 0, 157), (77, .iload_n 3, 0, 0, 0), (78, .invokevirtual 37, 30, 2, 502), (81, .iconst 0, 0, 0, 0), (82, .iload_n 2, 0, 0, 0), (83, .iconst (-1), 0, 0, 0), (84, .invokevirtual 79, 43, 8, 524), (87, .invokevirtual 98, 16, 2, 582), (90, .ireturn, 0, 0, 0)]]
def am_c15 : List (List (Nat × am_I)) := [[(0, .aload_n 0, 0, 0, 0), (1, .getfield 15, 1, 4, 161), (4, .ifCond .lt 12, 0, 0, 0), (7, .aload_n 0, 0, 0, 0), (8, .getfield 15, 1, 4, 161), (11, .bipush 12, 0, 0, 0), (13, .if_icmp .lt 13, 0, 0, 0), (16, .new 109, 1004, 2, 574), (26, .aload_n 0, 0, 0, 0), (27, .getfield 9, 1, 3, 160), (30, .aload_n 0, 0, 0, 0), (31, .getfield 15, 1, 4, 161)],
  [(34, .iload_n 1, 0, 0, 0), (35, .iastore, 0, 0, 0), (36, .aload_n 0, 0, 0, 0), (37, .dup, 0, 0, 0), (38, .getfield 15, 1, 4, 161), (41, .iconst 1, 0, 0, 0), (42, .iadd, 0, 0, 0), (43, .putfield 15, 1, 4, 161), (46, .return_, 0, 0, 0)]]
def am_c16 : List (List (Nat × am_I)) := [[(0, .aload_n 0, 0, 0, 0), (1, .getfield 19, 1, 0, 157), (4, .iload_n 1, 0, 0, 0), (5, .invokevirtual 114, 34, 2, 586), (8, .ifCond .eq 13, 0, 0, 0), (11, .new 109, 1005, 2, 574), (21, .iload_n 1, 0, 0, 0), (22, .ireturn, 0, 0, 0)]]
def am_c17 : List (List (Nat × am_I)) := [[(0, .aload_n 0, 0, 0, 0), (1, .invokespecial 3, 1001, 0, 178), (4, .aload_n 0, 0, 0, 0), (5, .bipush 60, 0, 0, 0), (7, .newarray .int, 0, 0, 0), (9, .putfield 9, 2, 0, 179), (12, .aload_n 0, 0, 0, 0), (13, .iconst 0, 0, 0, 0), (14, .putfield 15, 2, 1, 180), (17, .aload_n 0, 0, 0, 0), (18, .iconst 0, 0, 0, 0), (19, .putfield 19, 2, 2, 181), (22, .return_, 0, 0, 0)]]
def am_c18 : List (List (Nat × am_I)) := [[(0, .aload_n 0, 0, 0, 0), (1, .getfield 15, 2, 1, 180), (4, .ifCond .ne 7, 0, 0, 0), (7, .iconst 1, 0, 0, 0), (8, .goto 4, 0, 0, 0), (11, .iconst 0, 0, 0, 0), (12, .ireturn, 0, 0, 0)]]
def am_c19 : List (List (Nat × am_I)) := [[(0, .iload_n 1, 0, 0, 0), (1, .ifCond .lt 26, 0, 0, 0), (4, .iload_n 1, 0, 0, 0), (5, .aload_n 0, 0, 0, 0), (6, .getfield 15, 2, 1, 180), (9, .if_icmp .ge 18, 0, 0, 0), (12, .iload_n 1, 0, 0, 0), (13, .bipush 60, 0, 0, 0), (15, .if_icmp .ge 12, 0, 0, 0), (18, .aload_n 0, 0, 0, 0), (19, .getfield 9, 2, 0, 179), (22, .iload_n 1, 0, 0, 0), (23, .iaload, 0, 0, 0), (24, .goto 4, 0, 0, 0), (27, .iconst (-1), 0, 0, 0), (28, .ireturn, 0, 0, 0)]]
def am_c20 : List (List (Nat × am_I)) := [[(0, .iconst 0, 0, 0, 0), (1, .istore_n 2, 0, 0, 0), (2, .iload_n 2, 0, 0, 0), (3, .aload_n 0, 0, 0, 0), (4, .getfield 15, 2, 1, 180), (7, .if_icmp .ge 36, 0, 0, 0), (10, .aload_n 0, 0, 0, 0), (11, .iload_n 2, 0, 0, 0), (12, .invokevirtual 22, 19, 2, 333), (15, .bipush 10, 0, 0, 0), (17, .irem, 0, 0, 0), (18, .iload_n 1, 0, 0, 0), (19, .if_icmp .ne 18, 0, 0, 0), (22, .aload_n 0, 0, 0, 0), (23, .iload_n 2, 0, 0, 0), (24, .invokevirtual 22, 19, 2, 333), (27, .bipush 10, 0, 0, 0), (29, .idiv, 0, 0, 0), (30, .bipush 9, 0, 0, 0)],
  [(32, .if_icmp .le 5, 0, 0, 0), (35, .iconst 1, 0, 0, 0), (36, .ireturn, 0, 0, 0), (37, .iinc 2 1, 0, 0, 0), (40, .goto (-38), 0, 0, 0), (43, .iconst 0, 0, 0, 0), (44, .ireturn, 0, 0, 0)]]
def am_c21 : List (List (Nat × am_I)) := [[(0, .aload_n 0, 0, 0, 0), (1, .iconst 0, 0, 0, 0), (2, .putfield 15, 2, 1, 180), (5, .aload_n 0, 0, 0, 0), (6, .aload_n 1, 0, 0, 0), (7, .iload_n 2, 0, 0, 0), (8, .invokevirtual 26, 22, 4, 305), (11, .aload_n 0, 0, 0, 0), (12, .getfield 15, 2, 1, 180), (15, .ireturn, 0, 0, 0)]]
def am_c22 : List (List (Nat × am_I)) := [[(0, .aload_n 0, 0, 0, 0), (1, .getfield 15, 2, 1, 180), (4, .ifCond .lt 12, 0, 0, 0), (7, .aload_n 0, 0, 0, 0), (8, .getfield 15, 2, 1, 180), (11, .bipush 60, 0, 0, 0), (13, .if_icmp .lt 4, 0, 0, 0), (16, .return_, 0, 0, 0), (17, .aload_n 1, 0, 0, 0), (18, .iload_n 2, 0, 0, 0), (19, .invokevirtual 30, 28, 2, 309), (22, .istore_n 3, 0, 0, 0), (23, .aload_n 0, 0, 0, 0), (24, .getfield 9, 2, 0, 179), (27, .aload_n 0, 0, 0, 0), (28, .getfield 15, 2, 1, 180), (31, .iload_n 3, 0, 0, 0)],
  [(32, .invokestatic 35, 71, 3, 310), (35, .ifCond .eq 7, 0, 0, 0), (38, .iload_n 3, 0, 0, 0), (39, .goto 13, 0, 0, 0), (42, .iload_n 3, 0, 0, 0), (43, .bipush 10, 0, 0, 0), (45, .aload_n 1, 0, 0, 0), (46, .iload_n 2, 0, 0, 0), (47, .invokevirtual 39, 29, 2, 311), (50, .imul, 0, 0, 0), (51, .iadd, 0, 0, 0), (52, .iastore, 0, 0, 0), (53, .aload_n 0, 0, 0, 0), (54, .dup, 0, 0, 0), (55, .getfield 15, 2, 1, 180), (58, .iconst 1, 0, 0, 0), (59, .iadd, 0, 0, 0), (60, .putfield 15, 2, 1, 180), (63, .iload_n 3, 0, 0, 0)],
  [(64, .invokestatic 35, 71, 3, 310), (67, .ifCond .eq 23, 0, 0, 0), (70, .aload_n 0, 0, 0, 0), (71, .aload_n 1, 0, 0, 0), (72, .aload_n 1, 0, 0, 0), (73, .iload_n 2, 0, 0, 0), (74, .invokevirtual 39, 29, 2, 311), (77, .invokevirtual 26, 22, 4, 305), (80, .aload_n 0, 0, 0, 0), (81, .aload_n 1, 0, 0, 0), (82, .aload_n 1, 0, 0, 0), (83, .iload_n 2, 0, 0, 0), (84, .invokevirtual 42, 30, 2, 312), (87, .invokevirtual 26, 22, 4, 305), (90, .return_, 0, 0, 0)]]
def am_c23 : List (List (Nat × am_I)) := [[(0, .aload_n 0, 0, 0, 0), (1, .iconst 0, 0, 0, 0), (2, .putfield 19, 2, 2, 181), (5, .aload_n 0, 0, 0, 0), (6, .aload_n 1, 0, 0, 0), (7, .iload_n 2, 0, 0, 0), (8, .invokevirtual 45, 24, 4, 338), (11, .ireturn, 0, 0, 0)]]
def am_c24 : List (List (Nat × am_I)) := [[(0, .aload_n 0, 0, 0, 0), (1, .aload_n 0, 0, 0, 0), (2, .getfield 19, 2, 2, 181), (5, .invokevirtual 22, 19, 2, 333), (8, .istore_n 3, 0, 0, 0), (9, .iload_n 3, 0, 0, 0), (10, .iconst (-1), 0, 0, 0), (11, .if_icmp .ne 5, 0, 0, 0), (14, .iconst (-1), 0, 0, 0), (15, .ireturn, 0, 0, 0), (16, .aload_n 0, 0, 0, 0), (17, .dup, 0, 0, 0), (18, .getfield 19, 2, 2, 181), (21, .iconst 1, 0, 0, 0), (22, .iadd, 0, 0, 0), (23, .putfield 19, 2, 2, 181), (26, .iload_n 3, 0, 0, 0), (27, .bipush 10, 0, 0, 0), (29, .irem, 0, 0, 0), (30, .istore 4, 0, 0, 0)],
  [(32, .iload_n 3, 0, 0, 0), (33, .bipush 10, 0, 0, 0), (35, .idiv, 0, 0, 0), (36, .istore 5, 0, 0, 0), (38, .iconst (-1), 0, 0, 0), (39, .istore 6, 0, 0, 0), (41, .iload 4, 0, 0, 0), (43, .invokestatic 35, 71, 3, 310), (46, .ifCond .eq 37, 0, 0, 0), (49, .aload_n 0, 0, 0, 0), (50, .aload_n 1, 0, 0, 0), (51, .iload_n 2, 0, 0, 0), (52, .invokevirtual 45, 24, 4, 338), (55, .istore 5, 0, 0, 0), (57, .iload 5, 0, 0, 0), (59, .iconst (-1), 0, 0, 0), (60, .if_icmp .ne 7, 0, 0, 0), (63, .iconst (-1), 0, 0, 0)],
  [(64, .goto 9, 0, 0, 0), (67, .aload_n 0, 0, 0, 0), (68, .aload_n 1, 0, 0, 0), (69, .iload_n 2, 0, 0, 0), (70, .invokevirtual 45, 24, 4, 338), (73, .istore 6, 0, 0, 0), (75, .iload 6, 0, 0, 0), (77, .iconst (-1), 0, 0, 0), (78, .if_icmp .ne 5, 0, 0, 0), (81, .iconst (-1), 0, 0, 0), (82, .ireturn, 0, 0, 0), (83, .iload_n 2, 0, 0, 0), (84, .ifCond .eq 16, 0, 0, 0), (87, .aload_n 1, 0, 0, 0), (88, .iload 4, 0, 0, 0), (90, .iload 5, 0, 0, 0), (92, .iload 6, 0, 0, 0), (94, .invokevirtual 49, 36, 6, 342)],
  [(97, .goto 13, 0, 0, 0), (100, .aload_n 1, 0, 0, 0), (101, .iload 4, 0, 0, 0), (103, .iload 5, 0, 0, 0), (105, .iload 6, 0, 0, 0), (107, .invokevirtual 53, 38, 6, 350), (110, .ireturn, 0, 0, 0)]]
def am_c25 : List (List (Nat × am_I)) := [[(0, .aload_n 0, 0, 0, 0), (1, .invokespecial 3, 1001, 0, 80), (4, .aload_n 0, 0, 0, 0), (5, .sipush 512, 0, 0, 0), (8, .newarray .int, 0, 0, 0), (10, .putfield 9, 3, 0, 81), (13, .aload_n 0, 0, 0, 0), (14, .sipush 512, 0, 0, 0), (17, .newarray .int, 0, 0, 0), (19, .putfield 15, 3, 1, 82), (22, .aload_n 0, 0, 0, 0), (23, .sipush 512, 0, 0, 0), (26, .newarray .int, 0, 0, 0), (28, .putfield 18, 3, 2, 83), (31, .aload_n 0, 0, 0, 0)],
  [(32, .sipush 512, 0, 0, 0), (35, .newarray .int, 0, 0, 0), (37, .putfield 21, 3, 3, 84), (40, .aload_n 0, 0, 0, 0), (41, .sipush 512, 0, 0, 0), (44, .newarray .int, 0, 0, 0), (46, .putfield 24, 3, 4, 85), (49, .aload_n 0, 0, 0, 0), (50, .iconst 0, 0, 0, 0), (51, .putfield 27, 3, 5, 86), (54, .aload_n 0, 0, 0, 0), (55, .bipush 120, 0, 0, 0), (57, .putfield 31, 3, 6, 87), (60, .aload_n 0, 0, 0, 0), (61, .bipush 120, 0, 0, 0), (63, .putfield 34, 3, 7, 88)],
  [(66, .return_, 0, 0, 0)]]
def am_c26 : List (List (Nat × am_I)) := [[(0, .aload_n 0, 0, 0, 0), (1, .getfield 27, 3, 5, 86), (4, .ireturn, 0, 0, 0)]]
def am_c27 : List (List (Nat × am_I)) := [[(0, .iload_n 1, 0, 0, 0), (1, .ifCond .lt 15, 0, 0, 0), (4, .iload_n 1, 0, 0, 0), (5, .aload_n 0, 0, 0, 0), (6, .getfield 27, 3, 5, 86), (9, .if_icmp .ge 7, 0, 0, 0), (12, .iconst 1, 0, 0, 0), (13, .goto 4, 0, 0, 0), (16, .iconst 0, 0, 0, 0), (17, .ireturn, 0, 0, 0)]]
def am_c28 : List (List (Nat × am_I)) := [[(0, .iload_n 1, 0, 0, 0), (1, .ifCond .lt 21, 0, 0, 0), (4, .iload_n 1, 0, 0, 0), (5, .aload_n 0, 0, 0, 0), (6, .getfield 9, 3, 0, 81), (9, .arraylength, 0, 0, 0), (10, .if_icmp .ge 12, 0, 0, 0), (13, .aload_n 0, 0, 0, 0), (14, .getfield 9, 3, 0, 81), (17, .iload_n 1, 0, 0, 0), (18, .iaload, 0, 0, 0), (19, .goto 4, 0, 0, 0), (22, .iconst (-1), 0, 0, 0), (23, .ireturn, 0, 0, 0)]]
def am_c29 : List (List (Nat × am_I)) := [[(0, .iload_n 1, 0, 0, 0), (1, .ifCond .lt 21, 0, 0, 0), (4, .iload_n 1, 0, 0, 0), (5, .aload_n 0, 0, 0, 0), (6, .getfield 15, 3, 1, 82), (9, .arraylength, 0, 0, 0), (10, .if_icmp .ge 12, 0, 0, 0), (13, .aload_n 0, 0, 0, 0), (14, .getfield 15, 3, 1, 82), (17, .iload_n 1, 0, 0, 0), (18, .iaload, 0, 0, 0), (19, .goto 4, 0, 0, 0), (22, .iconst (-1), 0, 0, 0), (23, .ireturn, 0, 0, 0)]]
def am_c30 : List (List (Nat × am_I)) := [[(0, .iload_n 1, 0, 0, 0), (1, .ifCond .lt 21, 0, 0, 0), (4, .iload_n 1, 0, 0, 0), (5, .aload_n 0, 0, 0, 0), (6, .getfield 18, 3, 2, 83), (9, .arraylength, 0, 0, 0), (10, .if_icmp .ge 12, 0, 0, 0), (13, .aload_n 0, 0, 0, 0), (14, .getfield 18, 3, 2, 83), (17, .iload_n 1, 0, 0, 0), (18, .iaload, 0, 0, 0), (19, .goto 4, 0, 0, 0), (22, .iconst (-1), 0, 0, 0), (23, .ireturn, 0, 0, 0)]]
def am_c31 : List (List (Nat × am_I)) := [[(0, .iload_n 1, 0, 0, 0), (1, .ifCond .lt 21, 0, 0, 0), (4, .iload_n 1, 0, 0, 0), (5, .aload_n 0, 0, 0, 0), (6, .getfield 21, 3, 3, 84), (9, .arraylength, 0, 0, 0), (10, .if_icmp .ge 12, 0, 0, 0), (13, .aload_n 0, 0, 0, 0), (14, .getfield 21, 3, 3, 84), (17, .iload_n 1, 0, 0, 0), (18, .iaload, 0, 0, 0), (19, .goto 4, 0, 0, 0), (22, .iconst (-1), 0, 0, 0), (23, .ireturn, 0, 0, 0)]]
def am_c32 : List (List (Nat × am_I)) := [[(0, .iload_n 1, 0, 0, 0), (1, .ifCond .lt 21, 0, 0, 0), (4, .iload_n 1, 0, 0, 0), (5, .aload_n 0, 0, 0, 0), (6, .getfield 24, 3, 4, 85), (9, .arraylength, 0, 0, 0), (10, .if_icmp .ge 12, 0, 0, 0), (13, .aload_n 0, 0, 0, 0), (14, .getfield 24, 3, 4, 85), (17, .iload_n 1, 0, 0, 0), (18, .iaload, 0, 0, 0), (19, .goto 4, 0, 0, 0), (22, .iconst (-1), 0, 0, 0), (23, .ireturn, 0, 0, 0)]]
def am_c33 : List (List (Nat × am_I)) := [[(0, .iconst 1, 0, 0, 0), (1, .aload_n 0, 0, 0, 0), (2, .iload_n 1, 0, 0, 0), (3, .invokevirtual 37, 31, 2, 231), (6, .iadd, 0, 0, 0), (7, .aload_n 0, 0, 0, 0), (8, .iload_n 2, 0, 0, 0), (9, .invokevirtual 37, 31, 2, 231), (12, .iadd, 0, 0, 0), (13, .bipush 60, 0, 0, 0), (15, .if_icmp .gt 27, 0, 0, 0), (18, .iconst 1, 0, 0, 0), (19, .aload_n 0, 0, 0, 0), (20, .iload_n 1, 0, 0, 0), (21, .invokevirtual 41, 32, 2, 235), (24, .aload_n 0, 0, 0, 0), (25, .iload_n 2, 0, 0, 0), (26, .invokevirtual 41, 32, 2, 235), (29, .invokestatic 44, 1002, 0, 239)],
  [(32, .iadd, 0, 0, 0), (33, .bipush 12, 0, 0, 0), (35, .if_icmp .gt 7, 0, 0, 0), (38, .iconst 1, 0, 0, 0), (39, .goto 4, 0, 0, 0), (42, .iconst 0, 0, 0, 0), (43, .ireturn, 0, 0, 0)]]
def am_c34 : List (List (Nat × am_I)) := [[(0, .aload_n 0, 0, 0, 0), (1, .iload_n 1, 0, 0, 0), (2, .invokevirtual 37, 31, 2, 231), (5, .bipush 60, 0, 0, 0), (7, .if_icmp .gt 13, 0, 0, 0), (10, .aload_n 0, 0, 0, 0), (11, .iload_n 1, 0, 0, 0), (12, .invokevirtual 41, 32, 2, 235), (15, .bipush 12, 0, 0, 0), (17, .if_icmp .le 7, 0, 0, 0), (20, .iconst 1, 0, 0, 0), (21, .goto 4, 0, 0, 0), (24, .iconst 0, 0, 0, 0), (25, .ireturn, 0, 0, 0)]]
def am_c35 : List (List (Nat × am_I)) := [[(0, .aload_n 0, 0, 0, 0), (1, .getfield 27, 3, 5, 86), (4, .bipush 120, 0, 0, 0), (6, .if_icmp .lt 5, 0, 0, 0), (9, .iconst (-1), 0, 0, 0), (10, .ireturn, 0, 0, 0), (11, .aload_n 0, 0, 0, 0), (12, .aload_n 0, 0, 0, 0), (13, .getfield 27, 3, 5, 86), (16, .iload_n 1, 0, 0, 0), (17, .iload_n 2, 0, 0, 0), (18, .iload_n 3, 0, 0, 0), (19, .invokevirtual 50, 39, 8, 246), (22, .aload_n 0, 0, 0, 0), (23, .dup, 0, 0, 0), (24, .getfield 27, 3, 5, 86), (27, .iconst 1, 0, 0, 0), (28, .iadd, 0, 0, 0), (29, .putfield 27, 3, 5, 86)],
  [(32, .aload_n 0, 0, 0, 0), (33, .getfield 27, 3, 5, 86), (36, .iconst 1, 0, 0, 0), (37, .isub, 0, 0, 0), (38, .ireturn, 0, 0, 0)]]
def am_c36 : List (List (Nat × am_I)) := [[(0, .iconst 0, 0, 0, 0), (1, .istore 4, 0, 0, 0), (3, .iload 4, 0, 0, 0), (5, .aload_n 0, 0, 0, 0), (6, .getfield 27, 3, 5, 86), (9, .if_icmp .ge 42, 0, 0, 0), (12, .aload_n 0, 0, 0, 0), (13, .iload 4, 0, 0, 0), (15, .invokevirtual 54, 28, 2, 346), (18, .iload_n 1, 0, 0, 0), (19, .if_icmp .ne 26, 0, 0, 0), (22, .aload_n 0, 0, 0, 0), (23, .iload 4, 0, 0, 0), (25, .invokevirtual 57, 29, 2, 347), (28, .iload_n 2, 0, 0, 0), (29, .if_icmp .ne 16, 0, 0, 0)],
  [(32, .aload_n 0, 0, 0, 0), (33, .iload 4, 0, 0, 0), (35, .invokevirtual 60, 30, 2, 348), (38, .iload_n 3, 0, 0, 0), (39, .if_icmp .ne 6, 0, 0, 0), (42, .iload 4, 0, 0, 0), (44, .ireturn, 0, 0, 0), (45, .iinc 4 1, 0, 0, 0), (48, .goto (-45), 0, 0, 0), (51, .aload_n 0, 0, 0, 0), (52, .iload_n 1, 0, 0, 0), (53, .iload_n 2, 0, 0, 0), (54, .iload_n 3, 0, 0, 0), (55, .invokevirtual 63, 35, 6, 349), (58, .ireturn, 0, 0, 0)]]
def am_c37 : List (List (Nat × am_I)) := [[(0, .aload_n 0, 0, 0, 0), (1, .iload_n 1, 0, 0, 0), (2, .putfield 27, 3, 5, 86), (5, .return_, 0, 0, 0)]]
def am_c38 : List (List (Nat × am_I)) := [[(0, .aload_n 0, 0, 0, 0), (1, .getfield 34, 3, 7, 88), (4, .aload_n 0, 0, 0, 0), (5, .getfield 9, 3, 0, 81), (8, .arraylength, 0, 0, 0), (9, .if_icmp .lt 7, 0, 0, 0), (12, .aload_n 0, 0, 0, 0), (13, .invokevirtual 67, 40, 0, 354), (16, .aload_n 0, 0, 0, 0), (17, .aload_n 0, 0, 0, 0), (18, .getfield 34, 3, 7, 88), (21, .iload_n 1, 0, 0, 0), (22, .iload_n 2, 0, 0, 0), (23, .iload_n 3, 0, 0, 0), (24, .invokevirtual 50, 39, 8, 246), (27, .aload_n 0, 0, 0, 0), (28, .dup, 0, 0, 0), (29, .getfield 34, 3, 7, 88)],
  [(32, .iconst 1, 0, 0, 0), (33, .iadd, 0, 0, 0), (34, .putfield 34, 3, 7, 88), (37, .aload_n 0, 0, 0, 0), (38, .getfield 34, 3, 7, 88), (41, .iconst 1, 0, 0, 0), (42, .isub, 0, 0, 0), (43, .ireturn, 0, 0, 0)]]
def am_c39 : List (List (Nat × am_I)) := [[(0, .aload_n 0, 0, 0, 0), (1, .getfield 9, 3, 0, 81), (4, .arraylength, 0, 0, 0), (5, .istore 5, 0, 0, 0), (7, .iload_n 1, 0, 0, 0), (8, .ifCond .lt 9, 0, 0, 0), (11, .iload_n 1, 0, 0, 0), (12, .iload 5, 0, 0, 0), (14, .if_icmp .lt 4, 0, 0, 0), (17, .return_, 0, 0, 0), (18, .aload_n 0, 0, 0, 0), (19, .getfield 9, 3, 0, 81), (22, .iload_n 1, 0, 0, 0), (23, .iload_n 2, 0, 0, 0), (24, .iastore, 0, 0, 0), (25, .aload_n 0, 0, 0, 0), (26, .getfield 15, 3, 1, 82), (29, .iload_n 1, 0, 0, 0), (30, .iload_n 3, 0, 0, 0), (31, .iastore, 0, 0, 0)],
  [(32, .aload_n 0, 0, 0, 0), (33, .getfield 18, 3, 2, 83), (36, .iload_n 1, 0, 0, 0), (37, .iload 4, 0, 0, 0), (39, .iastore, 0, 0, 0), (40, .aload_n 0, 0, 0, 0), (41, .getfield 21, 3, 3, 84), (44, .iload_n 1, 0, 0, 0), (45, .iconst 1, 0, 0, 0), (46, .iastore, 0, 0, 0), (47, .aload_n 0, 0, 0, 0), (48, .getfield 24, 3, 4, 85), (51, .iload_n 1, 0, 0, 0), (52, .iconst 1, 0, 0, 0), (53, .iastore, 0, 0, 0), (54, .iload 4, 0, 0, 0), (56, .iconst (-1), 0, 0, 0), (57, .if_icmp .eq 71, 0, 0, 0), (60, .iload_n 3, 0, 0, 0), (61, .ifCond .lt 67, 0, 0, 0)],
  [(64, .iload_n 3, 0, 0, 0), (65, .iload 5, 0, 0, 0), (67, .if_icmp .ge 61, 0, 0, 0), (70, .iload 4, 0, 0, 0), (72, .ifCond .lt 56, 0, 0, 0), (75, .iload 4, 0, 0, 0), (77, .iload 5, 0, 0, 0), (79, .if_icmp .ge 49, 0, 0, 0), (82, .aload_n 0, 0, 0, 0), (83, .getfield 21, 3, 3, 84), (86, .iload_n 1, 0, 0, 0), (87, .iconst 1, 0, 0, 0), (88, .aload_n 0, 0, 0, 0), (89, .getfield 21, 3, 3, 84), (92, .iload_n 3, 0, 0, 0), (93, .iaload, 0, 0, 0), (94, .iadd, 0, 0, 0), (95, .aload_n 0, 0, 0, 0)],
  [(96, .getfield 21, 3, 3, 84), (99, .iload 4, 0, 0, 0), (101, .iaload, 0, 0, 0), (102, .iadd, 0, 0, 0), (103, .iastore, 0, 0, 0), (104, .aload_n 0, 0, 0, 0), (105, .getfield 24, 3, 4, 85), (108, .iload_n 1, 0, 0, 0), (109, .iconst 1, 0, 0, 0), (110, .aload_n 0, 0, 0, 0), (111, .getfield 24, 3, 4, 85), (114, .iload_n 3, 0, 0, 0), (115, .iaload, 0, 0, 0), (116, .aload_n 0, 0, 0, 0), (117, .getfield 24, 3, 4, 85), (120, .iload 4, 0, 0, 0), (122, .iaload, 0, 0, 0), (123, .invokestatic 44, 1002, 0, 239), (126, .iadd, 0, 0, 0), (127, .iastore, 0, 0, 0)],
  [(128, .return_, 0, 0, 0)]]
def am_c40 : List (List (Nat × am_I)) := [[(0, .aload_n 0, 0, 0, 0), (1, .getfield 9, 3, 0, 81), (4, .arraylength, 0, 0, 0), (5, .iconst 2, 0, 0, 0), (6, .imul, 0, 0, 0), (7, .istore_n 1, 0, 0, 0), (8, .iload_n 1, 0, 0, 0), (9, .ldc 70, 65536, 0, 358), (11, .if_icmp .le 13, 0, 0, 0), (14, .new 71, 1006, 2, 359), (24, .aload_n 0, 0, 0, 0), (25, .aload_n 0, 0, 0, 0), (26, .getfield 9, 3, 0, 81), (29, .iload_n 1, 0, 0, 0), (30, .invokestatic 78, 1003, 0, 0)],
  [(33, .putfield 9, 3, 0, 81), (36, .aload_n 0, 0, 0, 0), (37, .aload_n 0, 0, 0, 0), (38, .getfield 15, 3, 1, 82), (41, .iload_n 1, 0, 0, 0), (42, .invokestatic 78, 1003, 0, 0), (45, .putfield 15, 3, 1, 82), (48, .aload_n 0, 0, 0, 0), (49, .aload_n 0, 0, 0, 0), (50, .getfield 18, 3, 2, 83), (53, .iload_n 1, 0, 0, 0), (54, .invokestatic 78, 1003, 0, 0), (57, .putfield 18, 3, 2, 83), (60, .aload_n 0, 0, 0, 0), (61, .aload_n 0, 0, 0, 0), (62, .getfield 21, 3, 3, 84)],
  [(65, .iload_n 1, 0, 0, 0), (66, .invokestatic 78, 1003, 0, 0), (69, .putfield 21, 3, 3, 84), (72, .aload_n 0, 0, 0, 0), (73, .aload_n 0, 0, 0, 0), (74, .getfield 24, 3, 4, 85), (77, .iload_n 1, 0, 0, 0), (78, .invokestatic 78, 1003, 0, 0), (81, .putfield 24, 3, 4, 85), (84, .return_, 0, 0, 0)]]
def am_c41 : List (List (Nat × am_I)) := [[(0, .aload_n 0, 0, 0, 0), (1, .aload_n 0, 0, 0, 0), (2, .getfield 31, 3, 6, 87), (5, .putfield 34, 3, 7, 88), (8, .return_, 0, 0, 0)]]
def am_c42 : List (List (Nat × am_I)) := [[(0, .aload_n 0, 0, 0, 0), (1, .aload_n 0, 0, 0, 0), (2, .getfield 34, 3, 7, 88), (5, .putfield 31, 3, 6, 87), (8, .return_, 0, 0, 0)]]
def am_c43 : List (List (Nat × am_I)) := [[(0, .aload_n 0, 0, 0, 0), (1, .iload_n 1, 0, 0, 0), (2, .invokevirtual 54, 28, 2, 346), (5, .istore 5, 0, 0, 0), (7, .aload_n 0, 0, 0, 0), (8, .iload_n 1, 0, 0, 0), (9, .invokevirtual 57, 29, 2, 347), (12, .istore 6, 0, 0, 0), (14, .iload 5, 0, 0, 0), (16, .ifCond .ne 58, 0, 0, 0), (19, .iload_n 3, 0, 0, 0), (20, .iconst (-1), 0, 0, 0), (21, .if_icmp .eq 26, 0, 0, 0), (24, .iload 6, 0, 0, 0), (26, .iload_n 2, 0, 0, 0), (27, .if_icmp .ne 20, 0, 0, 0), (30, .iload_n 2, 0, 0, 0), (31, .ifCond .ne 7, 0, 0, 0)],
  [(34, .iload_n 3, 0, 0, 0), (35, .goto 11, 0, 0, 0), (38, .aload_n 0, 0, 0, 0), (39, .iload_n 3, 0, 0, 0), (40, .iconst 0, 0, 0, 0), (41, .iconst (-1), 0, 0, 0), (42, .iload_n 2, 0, 0, 0), (43, .invokevirtual 84, 43, 8, 528), (46, .ireturn, 0, 0, 0), (47, .iload 6, 0, 0, 0), (49, .iload_n 2, 0, 0, 0), (50, .if_icmp .lt 8, 0, 0, 0), (53, .iload 4, 0, 0, 0), (55, .ifCond .ne 7, 0, 0, 0), (58, .iload_n 1, 0, 0, 0), (59, .goto 14, 0, 0, 0), (62, .aload_n 0, 0, 0, 0), (63, .iconst 0, 0, 0, 0)],
  [(64, .iload 6, 0, 0, 0), (66, .iload 4, 0, 0, 0), (68, .iadd, 0, 0, 0), (69, .iconst (-1), 0, 0, 0), (70, .invokevirtual 88, 38, 6, 529), (73, .ireturn, 0, 0, 0), (74, .iload 5, 0, 0, 0), (76, .invokestatic 91, 71, 3, 530), (79, .ifCond .ne 5, 0, 0, 0), (82, .iload_n 1, 0, 0, 0), (83, .ireturn, 0, 0, 0), (84, .aload_n 0, 0, 0, 0), (85, .iload_n 1, 0, 0, 0), (86, .invokevirtual 60, 30, 2, 348), (89, .istore 7, 0, 0, 0), (91, .aload_n 0, 0, 0, 0), (92, .iload 6, 0, 0, 0), (94, .iload_n 2, 0, 0, 0), (95, .iload_n 3, 0, 0, 0)],
  [(96, .iload 4, 0, 0, 0), (98, .invokevirtual 84, 43, 8, 528), (101, .istore 8, 0, 0, 0), (103, .aload_n 0, 0, 0, 0), (104, .iload 7, 0, 0, 0), (106, .iload 5, 0, 0, 0), (108, .iconst 4, 0, 0, 0), (109, .if_icmp .ne 7, 0, 0, 0), (112, .iload_n 2, 0, 0, 0), (113, .goto 6, 0, 0, 0), (116, .iload_n 2, 0, 0, 0), (117, .iconst 1, 0, 0, 0), (118, .iadd, 0, 0, 0), (119, .iload_n 3, 0, 0, 0), (120, .iload 4, 0, 0, 0), (122, .invokevirtual 84, 43, 8, 528), (125, .istore 9, 0, 0, 0), (127, .iload 8, 0, 0, 0)],
  [(129, .iload 6, 0, 0, 0), (131, .if_icmp .ne 14, 0, 0, 0), (134, .iload 9, 0, 0, 0), (136, .iload 7, 0, 0, 0), (138, .if_icmp .ne 7, 0, 0, 0), (141, .iload_n 1, 0, 0, 0), (142, .goto 13, 0, 0, 0), (145, .aload_n 0, 0, 0, 0), (146, .iload 5, 0, 0, 0), (148, .iload 8, 0, 0, 0), (150, .iload 9, 0, 0, 0), (152, .invokevirtual 88, 38, 6, 529), (155, .ireturn, 0, 0, 0)]]
def am_c44 : List (List (Nat × am_I)) := [[(0, .iload_n 1, 0, 0, 0), (1, .iload_n 2, 0, 0, 0), (2, .if_icmp .eq 12, 0, 0, 0), (5, .aload_n 0, 0, 0, 0), (6, .iload_n 1, 0, 0, 0), (7, .invokevirtual 54, 28, 2, 346), (10, .iconst 4, 0, 0, 0), (11, .if_icmp .eq 5, 0, 0, 0), (14, .iload_n 3, 0, 0, 0), (15, .ireturn, 0, 0, 0), (16, .aload_n 0, 0, 0, 0), (17, .iconst 4, 0, 0, 0), (18, .aload_n 0, 0, 0, 0), (19, .aload_n 0, 0, 0, 0), (20, .iload_n 1, 0, 0, 0), (21, .invokevirtual 57, 29, 2, 347), (24, .iload_n 2, 0, 0, 0), (25, .iload_n 3, 0, 0, 0), (26, .invokevirtual 95, 44, 6, 562), (29, .aload_n 0, 0, 0, 0), (30, .iload_n 1, 0, 0, 0), (31, .invokevirtual 60, 30, 2, 348)],
  [(34, .invokevirtual 88, 38, 6, 529), (37, .ireturn, 0, 0, 0)]]
def am_c45 : List (List (Nat × am_I)) := [[(0, .aload_n 0, 0, 0, 0), (1, .invokespecial 3, 1001, 0, 128), (4, .aload_n 0, 0, 0, 0), (5, .sipush 512, 0, 0, 0), (8, .newarray .int, 0, 0, 0), (10, .putfield 9, 4, 2, 131), (13, .aload_n 0, 0, 0, 0), (14, .sipush 512, 0, 0, 0), (17, .newarray .int, 0, 0, 0), (19, .putfield 15, 4, 3, 132), (22, .aload_n 0, 0, 0, 0), (23, .iconst 0, 0, 0, 0), (24, .putfield 18, 4, 4, 133), (27, .aload_n 0, 0, 0, 0), (28, .iconst 0, 0, 0, 0), (29, .putfield 22, 4, 5, 134)],
  [(32, .aload_n 0, 0, 0, 0), (33, .iconst 0, 0, 0, 0), (34, .putfield 25, 4, 6, 135), (37, .aload_n 0, 0, 0, 0), (38, .aload_n 1, 0, 0, 0), (39, .putfield 28, 4, 0, 129), (42, .aload_n 0, 0, 0, 0), (43, .aload_n 2, 0, 0, 0), (44, .putfield 32, 4, 1, 130), (47, .return_, 0, 0, 0)]]
def am_c46 : List (List (Nat × am_I)) := [[(0, .aload_n 0, 0, 0, 0), (1, .iload_n 1, 0, 0, 0), (2, .putfield 22, 4, 5, 134), (5, .aload_n 0, 0, 0, 0), (6, .iconst 0, 0, 0, 0), (7, .putfield 25, 4, 6, 135), (10, .return_, 0, 0, 0)]]
def am_c47 : List (List (Nat × am_I)) := [[(0, .aload_n 0, 0, 0, 0), (1, .getfield 25, 4, 6, 135), (4, .ireturn, 0, 0, 0)]]
def am_c48 : List (List (Nat × am_I)) := [[(0, .iload_n 1, 0, 0, 0), (1, .istore_n 2, 0, 0, 0), (2, .iconst 0, 0, 0, 0), (3, .istore_n 3, 0, 0, 0), (4, .iload_n 3, 0, 0, 0), (5, .bipush 30, 0, 0, 0), (7, .if_icmp .gt 166, 0, 0, 0), (10, .aload_n 0, 0, 0, 0), (11, .iload_n 2, 0, 0, 0), (12, .invokevirtual 36, 49, 2, 546), (15, .istore 4, 0, 0, 0), (17, .iload 4, 0, 0, 0), (19, .iconst (-1), 0, 0, 0), (20, .if_icmp .ne 5, 0, 0, 0), (23, .iload_n 2, 0, 0, 0), (24, .ireturn, 0, 0, 0), (25, .aload_n 0, 0, 0, 0), (26, .getfield 25, 4, 6, 135), (29, .aload_n 0, 0, 0, 0), (30, .getfield 22, 4, 5, 134)],
  [(33, .if_icmp .lt 13, 0, 0, 0), (36, .new 40, 1007, 2, 553), (46, .aload_n 0, 0, 0, 0), (47, .getfield 28, 4, 0, 129), (50, .iload 4, 0, 0, 0), (52, .invokevirtual 47, 29, 2, 551), (55, .istore 5, 0, 0, 0), (57, .aload_n 0, 0, 0, 0), (58, .getfield 28, 4, 0, 129), (61, .iload 4, 0, 0, 0), (63, .invokevirtual 52, 28, 2, 550)],
  [(66, .iconst 5, 0, 0, 0), (67, .if_icmp .ne 7, 0, 0, 0), (70, .iconst 1, 0, 0, 0), (71, .goto 4, 0, 0, 0), (74, .iconst 0, 0, 0, 0), (75, .istore 6, 0, 0, 0), (77, .iload 6, 0, 0, 0), (79, .ifCond .eq 15, 0, 0, 0), (82, .aload_n 0, 0, 0, 0), (83, .getfield 32, 4, 1, 130), (86, .iload 5, 0, 0, 0), (88, .invokevirtual 55, 5, 2, 552), (91, .goto 30, 0, 0, 0), (94, .aload_n 0, 0, 0, 0), (95, .getfield 28, 4, 0, 129)],
  [(98, .aload_n 0, 0, 0, 0), (99, .getfield 28, 4, 0, 129), (102, .iload 5, 0, 0, 0), (104, .invokevirtual 60, 30, 2, 556), (107, .iconst 0, 0, 0, 0), (108, .aload_n 0, 0, 0, 0), (109, .getfield 28, 4, 0, 129), (112, .iload 4, 0, 0, 0), (114, .invokevirtual 60, 30, 2, 556), (117, .iconst (-1), 0, 0, 0), (118, .invokevirtual 63, 43, 8, 557), (121, .istore 7, 0, 0, 0), (123, .aload_n 0, 0, 0, 0), (124, .getfield 28, 4, 0, 129), (127, .iload_n 2, 0, 0, 0)],
  [(128, .iload 4, 0, 0, 0), (130, .iload 7, 0, 0, 0), (132, .invokevirtual 67, 44, 6, 558), (135, .istore_n 2, 0, 0, 0), (136, .aload_n 0, 0, 0, 0), (137, .getfield 28, 4, 0, 129), (140, .iload_n 2, 0, 0, 0), (141, .invokevirtual 71, 34, 2, 563), (144, .ifCond .eq 13, 0, 0, 0), (147, .new 40, 1008, 2, 553), (157, .aload_n 0, 0, 0, 0), (158, .dup, 0, 0, 0), (159, .getfield 25, 4, 6, 135)],
  [(162, .iconst 1, 0, 0, 0), (163, .iadd, 0, 0, 0), (164, .putfield 25, 4, 6, 135), (167, .iinc 3 1, 0, 0, 0), (170, .goto (-166), 0, 0, 0), (173, .new 40, 1009, 2, 553)]]
def am_c49 : List (List (Nat × am_I)) := [[(0, .iload_n 1, 0, 0, 0), (1, .istore_n 2, 0, 0, 0), (2, .iconst (-1), 0, 0, 0), (3, .istore_n 3, 0, 0, 0), (4, .iconst 0, 0, 0, 0), (5, .istore 4, 0, 0, 0), (7, .iload 4, 0, 0, 0), (9, .bipush 12, 0, 0, 0), (11, .if_icmp .ge 32, 0, 0, 0), (14, .aload_n 0, 0, 0, 0), (15, .getfield 28, 4, 0, 129), (18, .iload_n 2, 0, 0, 0), (19, .invokevirtual 52, 28, 2, 550), (22, .iconst 4, 0, 0, 0), (23, .if_icmp .ne 20, 0, 0, 0), (26, .iload_n 2, 0, 0, 0), (27, .istore_n 3, 0, 0, 0), (28, .aload_n 0, 0, 0, 0), (29, .getfield 28, 4, 0, 129)],
  [(32, .iload_n 2, 0, 0, 0), (33, .invokevirtual 47, 29, 2, 551), (36, .istore_n 2, 0, 0, 0), (37, .iinc 4 1, 0, 0, 0), (40, .goto (-33), 0, 0, 0), (43, .aload_n 0, 0, 0, 0), (44, .getfield 28, 4, 0, 129), (47, .iload_n 2, 0, 0, 0), (48, .invokevirtual 52, 28, 2, 550), (51, .istore 4, 0, 0, 0), (53, .iload 4, 0, 0, 0), (55, .iconst 3, 0, 0, 0), (56, .if_icmp .ne 5, 0, 0, 0), (59, .iload_n 3, 0, 0, 0), (60, .ireturn, 0, 0, 0), (61, .iload 4, 0, 0, 0), (63, .iconst 5, 0, 0, 0)],
  [(64, .if_icmp .ne 26, 0, 0, 0), (67, .aload_n 0, 0, 0, 0), (68, .getfield 32, 4, 1, 130), (71, .aload_n 0, 0, 0, 0), (72, .getfield 28, 4, 0, 129), (75, .iload_n 2, 0, 0, 0), (76, .invokevirtual 47, 29, 2, 551), (79, .invokevirtual 55, 5, 2, 552), (82, .iconst (-1), 0, 0, 0), (83, .if_icmp .eq 7, 0, 0, 0), (86, .iconst 1, 0, 0, 0), (87, .goto 4, 0, 0, 0), (90, .iconst 0, 0, 0, 0), (91, .istore 5, 0, 0, 0), (93, .iload 5, 0, 0, 0), (95, .ifCond .eq 7, 0, 0, 0)],
  [(98, .iload_n 2, 0, 0, 0), (99, .goto 4, 0, 0, 0), (102, .iconst (-1), 0, 0, 0), (103, .ireturn, 0, 0, 0)]]
def am_c50 : List (List (Nat × am_I)) := [[(0, .aload_n 0, 0, 0, 0), (1, .iconst 0, 0, 0, 0), (2, .putfield 18, 4, 4, 133), (5, .aload_n 0, 0, 0, 0), (6, .iload_n 1, 0, 0, 0), (7, .iload_n 2, 0, 0, 0), (8, .invokevirtual 79, 54, 4, 597), (11, .iconst 0, 0, 0, 0), (12, .istore_n 3, 0, 0, 0), (13, .aload_n 0, 0, 0, 0), (14, .getfield 18, 4, 4, 133), (17, .ifCond .le 89, 0, 0, 0), (20, .iload_n 3, 0, 0, 0), (21, .ldc 83, 1000000, 0, 602), (23, .if_icmp .ge 83, 0, 0, 0), (26, .aload_n 0, 0, 0, 0), (27, .dup, 0, 0, 0), (28, .getfield 18, 4, 4, 133), (31, .iconst 1, 0, 0, 0)],
  [(32, .isub, 0, 0, 0), (33, .putfield 18, 4, 4, 133), (36, .aload_n 0, 0, 0, 0), (37, .aload_n 0, 0, 0, 0), (38, .aload_n 0, 0, 0, 0), (39, .getfield 9, 4, 2, 131), (42, .invokevirtual 84, 51, 2, 603), (45, .invokevirtual 88, 48, 2, 607), (48, .istore 4, 0, 0, 0), (50, .aload_n 0, 0, 0, 0), (51, .aload_n 0, 0, 0, 0), (52, .aload_n 0, 0, 0, 0), (53, .getfield 15, 4, 3, 132), (56, .invokevirtual 84, 51, 2, 603), (59, .invokevirtual 88, 48, 2, 607), (62, .istore 5, 0, 0, 0)],
  [(64, .aload_n 0, 0, 0, 0), (65, .iload 4, 0, 0, 0), (67, .iload 5, 0, 0, 0), (69, .invokevirtual 91, 52, 4, 608), (72, .ifCond .ne 5, 0, 0, 0), (75, .iconst 0, 0, 0, 0), (76, .ireturn, 0, 0, 0), (77, .aload_n 0, 0, 0, 0), (78, .getfield 28, 4, 0, 129), (81, .iload 4, 0, 0, 0), (83, .invokevirtual 52, 28, 2, 550), (86, .invokestatic 95, 71, 3, 612), (89, .ifCond .eq 11, 0, 0, 0), (92, .aload_n 0, 0, 0, 0), (93, .iload 4, 0, 0, 0), (95, .iload 5, 0, 0, 0)],
  [(97, .invokevirtual 98, 53, 4, 613), (100, .iinc 3 1, 0, 0, 0), (103, .goto (-90), 0, 0, 0), (106, .aload_n 0, 0, 0, 0), (107, .getfield 18, 4, 4, 133), (110, .ifCond .ne 7, 0, 0, 0), (113, .iconst 1, 0, 0, 0), (114, .goto 4, 0, 0, 0), (117, .iconst 0, 0, 0, 0), (118, .ireturn, 0, 0, 0)]]
def am_c51 : List (List (Nat × am_I)) := [[(0, .aload_n 0, 0, 0, 0), (1, .getfield 18, 4, 4, 133), (4, .ifCond .lt 21, 0, 0, 0), (7, .aload_n 0, 0, 0, 0), (8, .getfield 18, 4, 4, 133), (11, .aload_n 1, 0, 0, 0), (12, .arraylength, 0, 0, 0), (13, .if_icmp .ge 12, 0, 0, 0), (16, .aload_n 1, 0, 0, 0), (17, .aload_n 0, 0, 0, 0), (18, .getfield 18, 4, 4, 133), (21, .iaload, 0, 0, 0), (22, .goto 4, 0, 0, 0), (25, .iconst (-1), 0, 0, 0), (26, .ireturn, 0, 0, 0)]]
def am_c52 : List (List (Nat × am_I)) := [[(0, .aload_n 0, 0, 0, 0), (1, .getfield 28, 4, 0, 129), (4, .iload_n 1, 0, 0, 0), (5, .invokevirtual 52, 28, 2, 550), (8, .istore_n 3, 0, 0, 0), (9, .iload_n 3, 0, 0, 0), (10, .aload_n 0, 0, 0, 0), (11, .getfield 28, 4, 0, 129), (14, .iload_n 2, 0, 0, 0), (15, .invokevirtual 52, 28, 2, 550), (18, .if_icmp .eq 5, 0, 0, 0), (21, .iconst 0, 0, 0, 0), (22, .ireturn, 0, 0, 0), (23, .iload_n 3, 0, 0, 0), (24, .invokestatic 95, 71, 3, 612), (27, .ifCond .ne 22, 0, 0, 0), (30, .aload_n 0, 0, 0, 0), (31, .getfield 28, 4, 0, 129)],
  [(34, .iload_n 1, 0, 0, 0), (35, .invokevirtual 47, 29, 2, 551), (38, .aload_n 0, 0, 0, 0), (39, .getfield 28, 4, 0, 129), (42, .iload_n 2, 0, 0, 0), (43, .invokevirtual 47, 29, 2, 551), (46, .if_icmp .ne 7, 0, 0, 0), (49, .iconst 1, 0, 0, 0), (50, .goto 4, 0, 0, 0), (53, .iconst 0, 0, 0, 0), (54, .ireturn, 0, 0, 0)]]
def am_c53 : List (List (Nat × am_I)) := [[(0, .aload_n 0, 0, 0, 0), (1, .aload_n 0, 0, 0, 0), (2, .getfield 28, 4, 0, 129), (5, .iload_n 1, 0, 0, 0), (6, .invokevirtual 60, 30, 2, 556), (9, .aload_n 0, 0, 0, 0), (10, .getfield 28, 4, 0, 129), (13, .iload_n 2, 0, 0, 0), (14, .invokevirtual 60, 30, 2, 556), (17, .invokevirtual 79, 54, 4, 597), (20, .aload_n 0, 0, 0, 0), (21, .aload_n 0, 0, 0, 0), (22, .getfield 28, 4, 0, 129), (25, .iload_n 1, 0, 0, 0), (26, .invokevirtual 47, 29, 2, 551), (29, .aload_n 0, 0, 0, 0), (30, .getfield 28, 4, 0, 129)],
  [(33, .iload_n 2, 0, 0, 0), (34, .invokevirtual 47, 29, 2, 551), (37, .invokevirtual 79, 54, 4, 597), (40, .return_, 0, 0, 0)]]
def am_c54 : List (List (Nat × am_I)) := [[(0, .aload_n 0, 0, 0, 0), (1, .getfield 18, 4, 4, 133), (4, .ifCond .lt 13, 0, 0, 0), (7, .aload_n 0, 0, 0, 0), (8, .getfield 18, 4, 4, 133), (11, .sipush 512, 0, 0, 0), (14, .if_icmp .lt 13, 0, 0, 0), (17, .new 40, 1010, 2, 553), (27, .aload_n 0, 0, 0, 0), (28, .getfield 9, 4, 2, 131), (31, .aload_n 0, 0, 0, 0)],
  [(32, .getfield 18, 4, 4, 133), (35, .iload_n 1, 0, 0, 0), (36, .iastore, 0, 0, 0), (37, .aload_n 0, 0, 0, 0), (38, .getfield 15, 4, 3, 132), (41, .aload_n 0, 0, 0, 0), (42, .getfield 18, 4, 4, 133), (45, .iload_n 2, 0, 0, 0), (46, .iastore, 0, 0, 0), (47, .aload_n 0, 0, 0, 0), (48, .dup, 0, 0, 0), (49, .getfield 18, 4, 4, 133), (52, .iconst 1, 0, 0, 0), (53, .iadd, 0, 0, 0), (54, .putfield 18, 4, 4, 133), (57, .return_, 0, 0, 0)]]
def am_c55 : List (List (Nat × am_I)) := [[(0, .aload_n 0, 0, 0, 0), (1, .invokespecial 1, 1001, 0, 72), (4, .aload_n 0, 0, 0, 0), (5, .new 7, 3, 0, 75), (8, .dup, 0, 0, 0), (9, .invokespecial 9, 25, 1, 77), (12, .putfield 10, 5, 0, 189), (15, .aload_n 0, 0, 0, 0), (16, .new 16, 0, 0, 107), (19, .dup, 0, 0, 0), (20, .invokespecial 18, 0, 1, 109), (23, .putfield 19, 5, 1, 190), (26, .aload_n 0, 0, 0, 0), (27, .new 23, 4, 0, 123), (30, .dup, 0, 0, 0), (31, .aload_n 0, 0, 0, 0)],
  [(32, .getfield 10, 5, 0, 189), (35, .aload_n 0, 0, 0, 0), (36, .getfield 19, 5, 1, 190), (39, .invokespecial 25, 45, 4, 125), (42, .putfield 28, 5, 2, 191), (45, .aload_n 0, 0, 0, 0), (46, .new 32, 1, 0, 151), (49, .dup, 0, 0, 0), (50, .aload_n 0, 0, 0, 0), (51, .getfield 10, 5, 0, 189), (54, .aload_n 0, 0, 0, 0), (55, .getfield 19, 5, 1, 190), (58, .aload_n 0, 0, 0, 0), (59, .getfield 28, 5, 2, 191), (62, .invokespecial 34, 7, 6, 153)],
  [(65, .putfield 37, 5, 3, 192), (68, .aload_n 0, 0, 0, 0), (69, .new 41, 2, 0, 173), (72, .dup, 0, 0, 0), (73, .invokespecial 43, 17, 1, 175), (76, .putfield 44, 5, 4, 193), (79, .aload_n 0, 0, 0, 0), (80, .new 41, 2, 0, 173), (83, .dup, 0, 0, 0), (84, .invokespecial 43, 17, 1, 175), (87, .putfield 48, 5, 5, 194), (90, .return_, 0, 0, 0)]]
def am_c56 : List (List (Nat × am_I)) := [[(0, .aload_n 0, 0, 0, 0), (1, .iload_n 1, 0, 0, 0), (2, .iload_n 2, 0, 0, 0), (3, .iload_n 3, 0, 0, 0), (4, .invokevirtual 51, 72, 6, 212), (7, .ifCond .ne 5, 0, 0, 0), (10, .iconst (-1), 0, 0, 0), (11, .ireturn, 0, 0, 0), (12, .aload_n 0, 0, 0, 0), (13, .getfield 10, 5, 0, 189), (16, .iload_n 1, 0, 0, 0), (17, .iload_n 2, 0, 0, 0), (18, .iload_n 1, 0, 0, 0), (19, .invokestatic 55, 71, 2, 220), (22, .ifCond .eq 7, 0, 0, 0), (25, .iload_n 3, 0, 0, 0), (26, .goto 4, 0, 0, 0), (29, .iconst (-1), 0, 0, 0), (30, .invokevirtual 59, 35, 6, 242)],
  [(33, .ireturn, 0, 0, 0)]]
def am_c57 : List (List (Nat × am_I)) := [[(0, .aload_n 0, 0, 0, 0), (1, .getfield 10, 5, 0, 189), (4, .invokevirtual 63, 26, 0, 254), (7, .ireturn, 0, 0, 0)]]
def am_c58 : List (List (Nat × am_I)) := [[(0, .aload_n 0, 0, 0, 0), (1, .getfield 10, 5, 0, 189), (4, .iload_n 1, 0, 0, 0), (5, .invokevirtual 67, 27, 2, 223), (8, .ifCond .ne 5, 0, 0, 0), (11, .iconst (-1), 0, 0, 0), (12, .ireturn, 0, 0, 0), (13, .iload_n 2, 0, 0, 0), (14, .tableswitch 79 0 4 #[34, 43, 52, 61, 70], 0, 34, 0)],
  [(48, .aload_n 0, 0, 0, 0), (49, .getfield 10, 5, 0, 189), (52, .iload_n 1, 0, 0, 0), (53, .invokevirtual 70, 28, 2, 262), (56, .ireturn, 0, 0, 0), (57, .aload_n 0, 0, 0, 0), (58, .getfield 10, 5, 0, 189), (61, .iload_n 1, 0, 0, 0), (62, .invokevirtual 74, 29, 2, 266)],
  [(65, .ireturn, 0, 0, 0), (66, .aload_n 0, 0, 0, 0), (67, .getfield 10, 5, 0, 189), (70, .iload_n 1, 0, 0, 0), (71, .invokevirtual 77, 30, 2, 270), (74, .ireturn, 0, 0, 0), (75, .aload_n 0, 0, 0, 0), (76, .getfield 10, 5, 0, 189), (79, .iload_n 1, 0, 0, 0), (80, .invokevirtual 80, 31, 2, 274), (83, .ireturn, 0, 0, 0), (84, .aload_n 0, 0, 0, 0), (85, .getfield 10, 5, 0, 189), (88, .iload_n 1, 0, 0, 0), (89, .invokevirtual 83, 32, 2, 275), (92, .ireturn, 0, 0, 0), (93, .iconst (-1), 0, 0, 0), (94, .ireturn, 0, 0, 0)]]
def am_c59 : List (List (Nat × am_I)) := [[(0, .aload_n 0, 0, 0, 0), (1, .iload_n 1, 0, 0, 0), (2, .iload_n 1, 0, 0, 0), (3, .iload_n 2, 0, 0, 0), (4, .invokevirtual 86, 73, 6, 465), (7, .aload_n 0, 0, 0, 0), (8, .getfield 44, 5, 4, 193), (11, .aload_n 0, 0, 0, 0), (12, .getfield 10, 5, 0, 189), (15, .aload_n 0, 0, 0, 0), (16, .getfield 37, 5, 3, 192), (19, .iload_n 1, 0, 0, 0), (20, .invokevirtual 90, 9, 2, 497), (23, .invokevirtual 93, 21, 4, 301), (26, .ireturn, 0, 0, 0)]]
def am_c60 : List (List (Nat × am_I)) := [[(0, .aload_n 0, 0, 0, 0), (1, .iload_n 1, 0, 0, 0), (2, .iload_n 1, 0, 0, 0), (3, .iload_n 2, 0, 0, 0), (4, .invokevirtual 86, 73, 6, 465), (7, .aload_n 0, 0, 0, 0), (8, .getfield 44, 5, 4, 193), (11, .aload_n 0, 0, 0, 0), (12, .getfield 10, 5, 0, 189), (15, .aload_n 0, 0, 0, 0), (16, .getfield 28, 5, 2, 191), (19, .iload_n 1, 0, 0, 0), (20, .invokevirtual 97, 48, 2, 625), (23, .invokevirtual 93, 21, 4, 301), (26, .ireturn, 0, 0, 0)]]
def am_c61 : List (List (Nat × am_I)) := [[(0, .aload_n 0, 0, 0, 0), (1, .iload_n 1, 0, 0, 0), (2, .iload_n 2, 0, 0, 0), (3, .iload_n 3, 0, 0, 0), (4, .invokevirtual 86, 73, 6, 465), (7, .aload_n 0, 0, 0, 0), (8, .getfield 28, 5, 2, 191), (11, .iload_n 1, 0, 0, 0), (12, .iload_n 2, 0, 0, 0), (13, .invokevirtual 100, 50, 4, 633), (16, .ireturn, 0, 0, 0)]]
def am_c62 : List (List (Nat × am_I)) := [[(0, .aload_n 0, 0, 0, 0), (1, .iload_n 1, 0, 0, 0), (2, .iload_n 2, 0, 0, 0), (3, .iload_n 3, 0, 0, 0), (4, .invokevirtual 86, 73, 6, 465), (7, .aload_n 0, 0, 0, 0), (8, .getfield 37, 5, 3, 192), (11, .aload_n 0, 0, 0, 0), (12, .getfield 37, 5, 3, 192), (15, .iload_n 2, 0, 0, 0), (16, .invokevirtual 90, 9, 2, 497), (19, .invokevirtual 104, 10, 2, 641), (22, .pop, 0, 0, 0), (23, .aload_n 0, 0, 0, 0), (24, .getfield 28, 5, 2, 191), (27, .aload_n 0, 0, 0, 0), (28, .getfield 37, 5, 3, 192), (31, .iload_n 1, 0, 0, 0)],
  [(32, .invokevirtual 90, 9, 2, 497), (35, .iload_n 2, 0, 0, 0), (36, .invokevirtual 100, 50, 4, 633), (39, .ireturn, 0, 0, 0)]]
def am_c63 : List (List (Nat × am_I)) := [[(0, .aload_n 0, 0, 0, 0), (1, .getfield 19, 5, 1, 190), (4, .invokevirtual 107, 2, 0, 649), (7, .ifCond .eq 8, 0, 0, 0), (10, .aload_n 0, 0, 0, 0), (11, .invokevirtual 111, 74, 0, 653), (14, .ireturn, 0, 0, 0), (15, .aload_n 0, 0, 0, 0), (16, .iload_n 1, 0, 0, 0), (17, .iload_n 1, 0, 0, 0), (18, .iload_n 2, 0, 0, 0), (19, .invokevirtual 86, 73, 6, 465), (22, .aload_n 0, 0, 0, 0), (23, .getfield 37, 5, 3, 192), (26, .aload_n 0, 0, 0, 0), (27, .getfield 37, 5, 3, 192), (30, .iload_n 1, 0, 0, 0), (31, .invokevirtual 90, 9, 2, 497)],
  [(34, .invokevirtual 104, 10, 2, 641), (37, .pop, 0, 0, 0), (38, .aload_n 0, 0, 0, 0), (39, .getfield 19, 5, 1, 190), (42, .iload_n 1, 0, 0, 0), (43, .iconst (-1), 0, 0, 0), (44, .invokevirtual 114, 6, 4, 657), (47, .ireturn, 0, 0, 0)]]
def am_c64 : List (List (Nat × am_I)) := [[(0, .aload_n 0, 0, 0, 0), (1, .getfield 19, 5, 1, 190), (4, .invokevirtual 107, 2, 0, 649), (7, .ifCond .eq 8, 0, 0, 0), (10, .aload_n 0, 0, 0, 0), (11, .invokevirtual 111, 74, 0, 653), (14, .ireturn, 0, 0, 0), (15, .aload_n 0, 0, 0, 0), (16, .iload_n 1, 0, 0, 0), (17, .iload_n 1, 0, 0, 0), (18, .iload_n 2, 0, 0, 0), (19, .invokevirtual 86, 73, 6, 465), (22, .aload_n 0, 0, 0, 0), (23, .getfield 48, 5, 5, 194), (26, .aload_n 0, 0, 0, 0), (27, .getfield 10, 5, 0, 189), (30, .aload_n 0, 0, 0, 0), (31, .getfield 37, 5, 3, 192)],
  [(34, .iload_n 1, 0, 0, 0), (35, .invokevirtual 90, 9, 2, 497), (38, .invokevirtual 93, 21, 4, 301), (41, .pop, 0, 0, 0), (42, .aload_n 0, 0, 0, 0), (43, .getfield 48, 5, 5, 194), (46, .iconst 1, 0, 0, 0), (47, .invokevirtual 118, 20, 2, 329), (50, .ifCond .eq 5, 0, 0, 0), (53, .iconst (-1), 0, 0, 0), (54, .ireturn, 0, 0, 0), (55, .aload_n 0, 0, 0, 0), (56, .getfield 19, 5, 1, 190), (59, .aload_n 0, 0, 0, 0), (60, .aload_n 0, 0, 0, 0), (61, .getfield 48, 5, 5, 194)],
  [(64, .invokevirtual 121, 75, 2, 668), (67, .iload_n 1, 0, 0, 0), (68, .invokevirtual 114, 6, 4, 657), (71, .ireturn, 0, 0, 0)]]
def am_c65 : List (List (Nat × am_I)) := [[(0, .aload_n 0, 0, 0, 0), (1, .getfield 19, 5, 1, 190), (4, .invokevirtual 125, 1, 0, 280), (7, .ireturn, 0, 0, 0)]]
def am_c66 : List (List (Nat × am_I)) := [[(0, .aload_n 0, 0, 0, 0), (1, .getfield 19, 5, 1, 190), (4, .iload_n 1, 0, 0, 0), (5, .invokevirtual 128, 5, 2, 288), (8, .iconst (-1), 0, 0, 0), (9, .if_icmp .eq 7, 0, 0, 0), (12, .iconst 1, 0, 0, 0), (13, .goto 4, 0, 0, 0), (16, .iconst 0, 0, 0, 0), (17, .ireturn, 0, 0, 0)]]
def am_c67 : List (List (Nat × am_I)) := [[(0, .aload_n 0, 0, 0, 0), (1, .getfield 19, 5, 1, 190), (4, .iload_n 1, 0, 0, 0), (5, .invokevirtual 131, 3, 2, 216), (8, .ifCond .ne 5, 0, 0, 0), (11, .iconst (-1), 0, 0, 0), (12, .ireturn, 0, 0, 0), (13, .aload_n 0, 0, 0, 0), (14, .getfield 44, 5, 4, 193), (17, .aload_n 0, 0, 0, 0), (18, .getfield 10, 5, 0, 189), (21, .aload_n 0, 0, 0, 0), (22, .getfield 19, 5, 1, 190), (25, .iload_n 1, 0, 0, 0), (26, .invokevirtual 134, 4, 2, 297), (29, .invokevirtual 93, 21, 4, 301)],
  [(32, .ireturn, 0, 0, 0)]]
def am_c68 : List (List (Nat × am_I)) := [[(0, .aload_n 0, 0, 0, 0), (1, .getfield 44, 5, 4, 193), (4, .iload_n 1, 0, 0, 0), (5, .invokevirtual 137, 19, 2, 317), (8, .ireturn, 0, 0, 0)]]
def am_c69 : List (List (Nat × am_I)) := [[(0, .aload_n 0, 0, 0, 0), (1, .getfield 44, 5, 4, 193), (4, .invokevirtual 140, 18, 0, 325), (7, .ifCond .ne 25, 0, 0, 0), (10, .aload_n 0, 0, 0, 0), (11, .getfield 44, 5, 4, 193), (14, .iconst 1, 0, 0, 0), (15, .invokevirtual 118, 20, 2, 329), (18, .ifCond .ne 14, 0, 0, 0), (21, .aload_n 0, 0, 0, 0), (22, .getfield 44, 5, 4, 193), (25, .iconst 0, 0, 0, 0), (26, .invokevirtual 118, 20, 2, 329), (29, .ifCond .eq 5, 0, 0, 0)],
  [(32, .iconst (-1), 0, 0, 0), (33, .ireturn, 0, 0, 0), (34, .aload_n 0, 0, 0, 0), (35, .getfield 10, 5, 0, 189), (38, .invokevirtual 63, 26, 0, 254), (41, .istore_n 1, 0, 0, 0), (42, .aload_n 0, 0, 0, 0), (43, .getfield 44, 5, 4, 193), (46, .aload_n 0, 0, 0, 0), (47, .getfield 10, 5, 0, 189), (50, .iconst 1, 0, 0, 0), (51, .invokevirtual 143, 23, 4, 334), (54, .istore_n 2, 0, 0, 0), (55, .iload_n 2, 0, 0, 0), (56, .iconst (-1), 0, 0, 0), (57, .if_icmp .ne 11, 0, 0, 0), (60, .aload_n 0, 0, 0, 0), (61, .getfield 10, 5, 0, 189)],
  [(64, .iload_n 1, 0, 0, 0), (65, .invokevirtual 147, 37, 2, 443), (68, .iload_n 2, 0, 0, 0), (69, .ireturn, 0, 0, 0)]]
def am_c70 : List (List (Nat × am_I)) := [[(0, .aload_n 0, 0, 0, 0), (1, .getfield 28, 5, 2, 191), (4, .invokevirtual 151, 47, 0, 451), (7, .ireturn, 0, 0, 0)]]
def am_c71 : List (List (Nat × am_I)) := [[(0, .iload_n 0, 0, 0, 0), (1, .iconst 2, 0, 0, 0), (2, .if_icmp .eq 13, 0, 0, 0), (5, .iload_n 0, 0, 0, 0), (6, .iconst 3, 0, 0, 0), (7, .if_icmp .eq 8, 0, 0, 0), (10, .iload_n 0, 0, 0, 0), (11, .iconst 4, 0, 0, 0), (12, .if_icmp .ne 7, 0, 0, 0), (15, .iconst 1, 0, 0, 0), (16, .goto 4, 0, 0, 0), (19, .iconst 0, 0, 0, 0), (20, .ireturn, 0, 0, 0)]]
def am_c72 : List (List (Nat × am_I)) := [[(0, .iload_n 1, 0, 0, 0), (1, .ifCond .eq 8, 0, 0, 0), (4, .iload_n 1, 0, 0, 0), (5, .iconst 1, 0, 0, 0), (6, .if_icmp .ne 19, 0, 0, 0), (9, .iload_n 2, 0, 0, 0), (10, .ifCond .lt 13, 0, 0, 0), (13, .iload_n 2, 0, 0, 0), (14, .bipush 9, 0, 0, 0), (16, .if_icmp .gt 7, 0, 0, 0), (19, .iconst 1, 0, 0, 0), (20, .goto 4, 0, 0, 0), (23, .iconst 0, 0, 0, 0), (24, .ireturn, 0, 0, 0), (25, .iload_n 1, 0, 0, 0), (26, .iconst 5, 0, 0, 0), (27, .if_icmp .ne 12, 0, 0, 0), (30, .aload_n 0, 0, 0, 0), (31, .getfield 19, 5, 1, 190)],
  [(34, .iload_n 2, 0, 0, 0), (35, .invokevirtual 131, 3, 2, 216), (38, .ireturn, 0, 0, 0), (39, .iload_n 1, 0, 0, 0), (40, .invokestatic 55, 71, 2, 220), (43, .ifCond .eq 41, 0, 0, 0), (46, .aload_n 0, 0, 0, 0), (47, .getfield 10, 5, 0, 189), (50, .iload_n 2, 0, 0, 0), (51, .invokevirtual 67, 27, 2, 223), (54, .ifCond .eq 30, 0, 0, 0), (57, .aload_n 0, 0, 0, 0), (58, .getfield 10, 5, 0, 189), (61, .iload_n 3, 0, 0, 0), (62, .invokevirtual 67, 27, 2, 223)],
  [(65, .ifCond .eq 19, 0, 0, 0), (68, .aload_n 0, 0, 0, 0), (69, .getfield 10, 5, 0, 189), (72, .iload_n 2, 0, 0, 0), (73, .iload_n 3, 0, 0, 0), (74, .invokevirtual 154, 33, 4, 227), (77, .ifCond .eq 7, 0, 0, 0), (80, .iconst 1, 0, 0, 0), (81, .goto 4, 0, 0, 0), (84, .iconst 0, 0, 0, 0), (85, .ireturn, 0, 0, 0)]]
def am_c73 : List (List (Nat × am_I)) := [[(0, .aload_n 0, 0, 0, 0), (1, .getfield 10, 5, 0, 189), (4, .iload_n 1, 0, 0, 0), (5, .invokevirtual 67, 27, 2, 223), (8, .ifCond .eq 24, 0, 0, 0), (11, .aload_n 0, 0, 0, 0), (12, .getfield 10, 5, 0, 189), (15, .iload_n 2, 0, 0, 0), (16, .invokevirtual 67, 27, 2, 223), (19, .ifCond .eq 13, 0, 0, 0), (22, .iload_n 3, 0, 0, 0), (23, .ifCond .lt 9, 0, 0, 0), (26, .iload_n 3, 0, 0, 0), (27, .bipush 30, 0, 0, 0), (29, .if_icmp .le 13, 0, 0, 0)],
  [(32, .new 157, 1011, 0, 469), (42, .aload_n 0, 0, 0, 0), (43, .getfield 10, 5, 0, 189), (46, .invokevirtual 164, 41, 0, 485), (49, .aload_n 0, 0, 0, 0), (50, .getfield 28, 5, 2, 191), (53, .iload_n 3, 0, 0, 0), (54, .invokevirtual 167, 46, 2, 489), (57, .aload_n 0, 0, 0, 0), (58, .getfield 37, 5, 3, 192), (61, .invokevirtual 170, 8, 0, 493)],
  [(64, .return_, 0, 0, 0)]]
def am_c74 : List (List (Nat × am_I)) := [[(0, .aload_n 0, 0, 0, 0), (1, .getfield 28, 5, 2, 191), (4, .iconst 0, 0, 0, 0), (5, .invokevirtual 167, 46, 2, 489), (8, .iconst (-1), 0, 0, 0), (9, .ireturn, 0, 0, 0)]]
def am_c75 : List (List (Nat × am_I)) := [[(0, .aload_n 0, 0, 0, 0), (1, .getfield 10, 5, 0, 189), (4, .invokevirtual 164, 41, 0, 485), (7, .aload_n 1, 0, 0, 0), (8, .aload_n 0, 0, 0, 0), (9, .getfield 10, 5, 0, 189), (12, .iconst 0, 0, 0, 0), (13, .invokevirtual 143, 23, 4, 334), (16, .istore_n 2, 0, 0, 0), (17, .aload_n 0, 0, 0, 0), (18, .getfield 10, 5, 0, 189), (21, .invokevirtual 173, 42, 0, 672), (24, .iload_n 2, 0, 0, 0), (25, .ireturn, 0, 0, 0)]]
def am_c76 : List (List (Nat × am_I)) := [[(0, .aload_n 0, 0, 0, 0), (1, .invokespecial 1, 1001, 0, 681), (4, .aload_n 0, 0, 0, 0), (5, .bipush 120, 0, 0, 0), (7, .newarray .int, 0, 0, 0), (9, .putfield 7, 6, 2, 684), (12, .aload_n 0, 0, 0, 0), (13, .bipush 120, 0, 0, 0), (15, .newarray .int, 0, 0, 0), (17, .putfield 13, 6, 3, 685), (20, .aload_n 0, 0, 0, 0), (21, .bipush 120, 0, 0, 0), (23, .newarray .int, 0, 0, 0), (25, .putfield 16, 6, 4, 686), (28, .aload_n 0, 0, 0, 0), (29, .bipush 120, 0, 0, 0), (31, .newarray .int, 0, 0, 0)],
  [(33, .putfield 19, 6, 5, 687), (36, .aload_n 0, 0, 0, 0), (37, .bipush 120, 0, 0, 0), (39, .newarray .int, 0, 0, 0), (41, .putfield 22, 6, 6, 688), (44, .aload_n 0, 0, 0, 0), (45, .bipush 16, 0, 0, 0), (47, .newarray .boolean, 1, 0, 0), (49, .putfield 25, 6, 8, 690), (52, .aload_n 0, 0, 0, 0), (53, .sipush 5760, 0, 0, 0), (56, .newarray .int, 0, 0, 0), (58, .putfield 29, 6, 10, 692), (61, .aload_n 0, 0, 0, 0), (62, .bipush 96, 0, 0, 0)],
  [(64, .newarray .int, 0, 0, 0), (66, .putfield 32, 6, 11, 693), (69, .aload_n 0, 0, 0, 0), (70, .bipush 60, 0, 0, 0), (72, .newarray .int, 0, 0, 0), (74, .putfield 35, 6, 13, 695), (77, .aload_n 0, 0, 0, 0), (78, .sipush 130, 0, 0, 0), (81, .newarray .int, 0, 0, 0), (83, .putfield 38, 6, 15, 697), (86, .aload_n 0, 0, 0, 0), (87, .sipush 130, 0, 0, 0), (90, .newarray .int, 0, 0, 0), (92, .putfield 41, 6, 16, 698), (95, .aload_n 0, 0, 0, 0)],
  [(96, .bipush 40, 0, 0, 0), (98, .newarray .int, 0, 0, 0), (100, .putfield 44, 6, 21, 703), (103, .aload_n 0, 0, 0, 0), (104, .bipush 40, 0, 0, 0), (106, .newarray .int, 0, 0, 0), (108, .putfield 47, 6, 22, 704), (111, .aload_n 0, 0, 0, 0), (112, .bipush 40, 0, 0, 0), (114, .newarray .int, 0, 0, 0), (116, .putfield 50, 6, 23, 705), (119, .aload_n 0, 0, 0, 0), (120, .bipush 40, 0, 0, 0), (122, .newarray .int, 0, 0, 0), (124, .putfield 53, 6, 26, 708), (127, .aload_n 0, 0, 0, 0)],
  [(128, .sipush 4000, 0, 0, 0), (131, .newarray .int, 0, 0, 0), (133, .putfield 56, 6, 29, 711), (136, .aload_n 0, 0, 0, 0), (137, .sipush 400, 0, 0, 0), (140, .newarray .int, 0, 0, 0), (142, .putfield 59, 6, 30, 712), (145, .aload_n 0, 0, 0, 0), (146, .sipush 400, 0, 0, 0), (149, .newarray .int, 0, 0, 0), (151, .putfield 62, 6, 31, 713), (154, .return_, 0, 0, 0)]]
def am_c77 : List (List (Nat × am_I)) := [[(0, .aload_n 0, 0, 0, 0), (1, .getfield 65, 6, 0, 682), (4, .ireturn, 0, 0, 0)]]
def am_c78 : List (List (Nat × am_I)) := [[(0, .aload_n 0, 0, 0, 0), (1, .iload_n 1, 0, 0, 0), (2, .putfield 65, 6, 0, 682), (5, .iconst 0, 0, 0, 0), (6, .ireturn, 0, 0, 0)]]
def am_c79 : List (List (Nat × am_I)) := [[(0, .iload_n 0, 0, 0, 0), (1, .bipush 10, 0, 0, 0), (3, .irem, 0, 0, 0), (4, .ireturn, 0, 0, 0)]]
def am_c80 : List (List (Nat × am_I)) := [[(0, .iload_n 0, 0, 0, 0), (1, .bipush 10, 0, 0, 0), (3, .irem, 0, 0, 0), (4, .iconst 2, 0, 0, 0), (5, .if_icmp .lt 15, 0, 0, 0), (8, .iload_n 0, 0, 0, 0), (9, .bipush 10, 0, 0, 0), (11, .irem, 0, 0, 0), (12, .iconst 4, 0, 0, 0), (13, .if_icmp .gt 7, 0, 0, 0), (16, .iconst 1, 0, 0, 0), (17, .goto 4, 0, 0, 0), (20, .iconst 0, 0, 0, 0), (21, .ireturn, 0, 0, 0)]]
def am_c81 : List (List (Nat × am_I)) := [[(0, .iload_n 0, 0, 0, 0), (1, .bipush 10, 0, 0, 0), (3, .irem, 0, 0, 0), (4, .iconst 2, 0, 0, 0), (5, .if_icmp .eq 11, 0, 0, 0), (8, .iload_n 0, 0, 0, 0), (9, .bipush 10, 0, 0, 0), (11, .irem, 0, 0, 0), (12, .iconst 3, 0, 0, 0), (13, .if_icmp .ne 7, 0, 0, 0), (16, .iconst 1, 0, 0, 0), (17, .goto 4, 0, 0, 0), (20, .iconst 0, 0, 0, 0), (21, .ireturn, 0, 0, 0)]]
def am_c82 : List (List (Nat × am_I)) := [[(0, .aload_n 0, 0, 0, 0), (1, .getfield 29, 6, 10, 692), (4, .bipush 60, 0, 0, 0), (6, .iload_n 1, 0, 0, 0), (7, .imul, 0, 0, 0), (8, .iload_n 2, 0, 0, 0), (9, .iadd, 0, 0, 0), (10, .iaload, 0, 0, 0), (11, .ireturn, 0, 0, 0)]]
def am_c83 : List (List (Nat × am_I)) := [[(0, .iconst 1, 0, 0, 0), (1, .istore_n 3, 0, 0, 0), (2, .iload_n 2, 0, 0, 0), (3, .istore 4, 0, 0, 0), (5, .iload_n 3, 0, 0, 0), (6, .ifCond .le 32, 0, 0, 0), (9, .aload_n 0, 0, 0, 0), (10, .iload_n 1, 0, 0, 0), (11, .iload 4, 0, 0, 0), (13, .invokevirtual 69, 82, 4, 824), (16, .invokestatic 73, 80, 2, 839), (19, .ifCond .eq 9, 0, 0, 0), (22, .iload_n 3, 0, 0, 0), (23, .iconst 1, 0, 0, 0), (24, .iadd, 0, 0, 0), (25, .goto 6, 0, 0, 0), (28, .iload_n 3, 0, 0, 0), (29, .iconst 1, 0, 0, 0), (30, .isub, 0, 0, 0), (31, .istore_n 3, 0, 0, 0)],
  [(32, .iinc 4 1, 0, 0, 0), (35, .goto (-30), 0, 0, 0), (38, .iload 4, 0, 0, 0), (40, .ireturn, 0, 0, 0)]]
def am_c84 : List (List (Nat × am_I)) := [[(0, .aload_n 0, 0, 0, 0), (1, .iload_n 2, 0, 0, 0), (2, .iload_n 3, 0, 0, 0), (3, .invokevirtual 77, 83, 4, 857), (6, .istore 4, 0, 0, 0), (8, .iload_n 3, 0, 0, 0), (9, .istore 5, 0, 0, 0), (11, .iload 5, 0, 0, 0), (13, .iload 4, 0, 0, 0), (15, .if_icmp .ge 30, 0, 0, 0), (18, .aload_n 0, 0, 0, 0), (19, .getfield 29, 6, 10, 692), (22, .bipush 60, 0, 0, 0), (24, .iload_n 1, 0, 0, 0), (25, .imul, 0, 0, 0), (26, .iload 5, 0, 0, 0), (28, .iadd, 0, 0, 0), (29, .iload_n 3, 0, 0, 0), (30, .isub, 0, 0, 0), (31, .aload_n 0, 0, 0, 0)],
  [(32, .iload_n 2, 0, 0, 0), (33, .iload 5, 0, 0, 0), (35, .invokevirtual 69, 82, 4, 824), (38, .iastore, 0, 0, 0), (39, .iinc 5 1, 0, 0, 0), (42, .goto (-31), 0, 0, 0), (45, .aload_n 0, 0, 0, 0), (46, .getfield 32, 6, 11, 693), (49, .iload_n 1, 0, 0, 0), (50, .iload 4, 0, 0, 0), (52, .iload_n 3, 0, 0, 0), (53, .isub, 0, 0, 0), (54, .iastore, 0, 0, 0), (55, .return_, 0, 0, 0)]]
def am_c85 : List (List (Nat × am_I)) := [[(0, .iconst 0, 0, 0, 0), (1, .istore_n 3, 0, 0, 0), (2, .iload_n 3, 0, 0, 0), (3, .aload_n 0, 0, 0, 0), (4, .getfield 32, 6, 11, 693), (7, .iload_n 2, 0, 0, 0), (8, .iaload, 0, 0, 0), (9, .if_icmp .ge 26, 0, 0, 0), (12, .aload_n 0, 0, 0, 0), (13, .getfield 29, 6, 10, 692), (16, .bipush 60, 0, 0, 0), (18, .iload_n 1, 0, 0, 0), (19, .imul, 0, 0, 0), (20, .iload_n 3, 0, 0, 0), (21, .iadd, 0, 0, 0), (22, .aload_n 0, 0, 0, 0), (23, .iload_n 2, 0, 0, 0), (24, .iload_n 3, 0, 0, 0), (25, .invokevirtual 69, 82, 4, 824), (28, .iastore, 0, 0, 0), (29, .iinc 3 1, 0, 0, 0)],
  [(32, .goto (-30), 0, 0, 0), (35, .aload_n 0, 0, 0, 0), (36, .getfield 32, 6, 11, 693), (39, .iload_n 1, 0, 0, 0), (40, .aload_n 0, 0, 0, 0), (41, .getfield 32, 6, 11, 693), (44, .iload_n 2, 0, 0, 0), (45, .iaload, 0, 0, 0), (46, .iastore, 0, 0, 0), (47, .return_, 0, 0, 0)]]
def am_c86 : List (List (Nat × am_I)) := [[(0, .aload_n 0, 0, 0, 0), (1, .getfield 29, 6, 10, 692), (4, .bipush 60, 0, 0, 0), (6, .iload_n 1, 0, 0, 0), (7, .imul, 0, 0, 0), (8, .iload_n 2, 0, 0, 0), (9, .iastore, 0, 0, 0), (10, .aload_n 0, 0, 0, 0), (11, .getfield 32, 6, 11, 693), (14, .iload_n 1, 0, 0, 0), (15, .iconst 1, 0, 0, 0), (16, .iastore, 0, 0, 0), (17, .return_, 0, 0, 0)]]
def am_c87 : List (List (Nat × am_I)) := [[(0, .iconst 1, 0, 0, 0), (1, .istore_n 2, 0, 0, 0), (2, .iconst 0, 0, 0, 0), (3, .istore_n 3, 0, 0, 0), (4, .aload_n 0, 0, 0, 0), (5, .getfield 38, 6, 15, 697), (8, .iconst 0, 0, 0, 0), (9, .iconst 1, 0, 0, 0), (10, .iastore, 0, 0, 0), (11, .iconst 0, 0, 0, 0), (12, .istore 4, 0, 0, 0), (14, .iload 4, 0, 0, 0), (16, .aload_n 0, 0, 0, 0), (17, .getfield 32, 6, 11, 693), (20, .iload_n 1, 0, 0, 0), (21, .iaload, 0, 0, 0), (22, .if_icmp .ge 74, 0, 0, 0), (25, .iinc 2 (-1), 0, 0, 0), (28, .aload_n 0, 0, 0, 0), (29, .getfield 38, 6, 15, 697)],
  [(32, .iload_n 2, 0, 0, 0), (33, .iaload, 0, 0, 0), (34, .istore 5, 0, 0, 0), (36, .iload 5, 0, 0, 0), (38, .iload_n 3, 0, 0, 0), (39, .if_icmp .le 8, 0, 0, 0), (42, .iload 5, 0, 0, 0), (44, .goto 4, 0, 0, 0), (47, .iload_n 3, 0, 0, 0), (48, .istore_n 3, 0, 0, 0), (49, .aload_n 0, 0, 0, 0), (50, .iload_n 1, 0, 0, 0), (51, .iload 4, 0, 0, 0), (53, .invokevirtual 69, 82, 4, 824), (56, .invokestatic 73, 80, 2, 839), (59, .ifCond .ne 6, 0, 0, 0), (62, .goto 28, 0, 0, 0)],
  [(65, .aload_n 0, 0, 0, 0), (66, .getfield 38, 6, 15, 697), (69, .iload_n 2, 0, 0, 0), (70, .iload 5, 0, 0, 0), (72, .iconst 1, 0, 0, 0), (73, .iadd, 0, 0, 0), (74, .iastore, 0, 0, 0), (75, .aload_n 0, 0, 0, 0), (76, .getfield 38, 6, 15, 697), (79, .iload_n 2, 0, 0, 0), (80, .iconst 1, 0, 0, 0), (81, .iadd, 0, 0, 0), (82, .iload 5, 0, 0, 0), (84, .iconst 1, 0, 0, 0), (85, .iadd, 0, 0, 0), (86, .iastore, 0, 0, 0), (87, .iinc 2 2, 0, 0, 0), (90, .iinc 4 1, 0, 0, 0), (93, .goto (-79), 0, 0, 0)],
  [(96, .iload_n 3, 0, 0, 0), (97, .ireturn, 0, 0, 0)]]
def am_c88 : List (List (Nat × am_I)) := [[(0, .iconst 1, 0, 0, 0), (1, .istore_n 3, 0, 0, 0), (2, .aload_n 0, 0, 0, 0), (3, .getfield 38, 6, 15, 697), (6, .iconst 0, 0, 0, 0), (7, .iconst 0, 0, 0, 0), (8, .iastore, 0, 0, 0), (9, .iconst 0, 0, 0, 0), (10, .istore 4, 0, 0, 0), (12, .iload 4, 0, 0, 0), (14, .aload_n 0, 0, 0, 0), (15, .getfield 32, 6, 11, 693), (18, .iload_n 1, 0, 0, 0), (19, .iaload, 0, 0, 0), (20, .if_icmp .ge 113, 0, 0, 0), (23, .iinc 3 (-1), 0, 0, 0), (26, .aload_n 0, 0, 0, 0), (27, .getfield 38, 6, 15, 697), (30, .iload_n 3, 0, 0, 0), (31, .iaload, 0, 0, 0)],
  [(32, .istore 5, 0, 0, 0), (34, .aload_n 0, 0, 0, 0), (35, .iload_n 1, 0, 0, 0), (36, .iload 4, 0, 0, 0), (38, .invokevirtual 69, 82, 4, 824), (41, .istore 6, 0, 0, 0), (43, .iload 6, 0, 0, 0), (45, .invokestatic 80, 79, 2, 828), (48, .ifCond .ne 32, 0, 0, 0), (51, .iload 6, 0, 0, 0), (53, .bipush 10, 0, 0, 0), (55, .idiv, 0, 0, 0), (56, .iload 5, 0, 0, 0), (58, .if_icmp .lt 22, 0, 0, 0), (61, .aload_n 0, 0, 0, 0), (62, .getfield 29, 6, 10, 692)],
  [(65, .bipush 60, 0, 0, 0), (67, .iload_n 1, 0, 0, 0), (68, .imul, 0, 0, 0), (69, .iload 4, 0, 0, 0), (71, .iadd, 0, 0, 0), (72, .iload 6, 0, 0, 0), (74, .bipush 10, 0, 0, 0), (76, .iload_n 2, 0, 0, 0), (77, .imul, 0, 0, 0), (78, .iadd, 0, 0, 0), (79, .iastore, 0, 0, 0), (80, .iload 6, 0, 0, 0), (82, .invokestatic 73, 80, 2, 839), (85, .ifCond .ne 6, 0, 0, 0), (88, .goto 39, 0, 0, 0), (91, .aload_n 0, 0, 0, 0), (92, .getfield 38, 6, 15, 697), (95, .iload_n 3, 0, 0, 0)],
  [(96, .iload 6, 0, 0, 0), (98, .invokestatic 84, 81, 2, 842), (101, .ifCond .eq 10, 0, 0, 0), (104, .iload 5, 0, 0, 0), (106, .iconst 1, 0, 0, 0), (107, .iadd, 0, 0, 0), (108, .goto 5, 0, 0, 0), (111, .iload 5, 0, 0, 0), (113, .iastore, 0, 0, 0), (114, .aload_n 0, 0, 0, 0), (115, .getfield 38, 6, 15, 697), (118, .iload_n 3, 0, 0, 0), (119, .iconst 1, 0, 0, 0), (120, .iadd, 0, 0, 0), (121, .iload 5, 0, 0, 0), (123, .iastore, 0, 0, 0), (124, .iinc 3 2, 0, 0, 0), (127, .iinc 4 1, 0, 0, 0)],
  [(130, .goto (-118), 0, 0, 0), (133, .return_, 0, 0, 0)]]
def am_c89 : List (List (Nat × am_I)) := [[(0, .aload_n 0, 0, 0, 0), (1, .iconst 0, 0, 0, 0), (2, .putfield 87, 6, 12, 694), (5, .aload_n 0, 0, 0, 0), (6, .iconst 0, 0, 0, 0), (7, .putfield 90, 6, 14, 696), (10, .return_, 0, 0, 0)]]
def am_c90 : List (List (Nat × am_I)) := [[(0, .aload_n 0, 0, 0, 0), (1, .getfield 87, 6, 12, 694), (4, .bipush 60, 0, 0, 0), (6, .if_icmp .ne 9, 0, 0, 0), (9, .aload_n 0, 0, 0, 0), (10, .iconst 1, 0, 0, 0), (11, .putfield 90, 6, 14, 696), (14, .return_, 0, 0, 0), (15, .aload_n 0, 0, 0, 0), (16, .getfield 35, 6, 13, 695), (19, .aload_n 0, 0, 0, 0), (20, .getfield 87, 6, 12, 694), (23, .iload_n 1, 0, 0, 0), (24, .iastore, 0, 0, 0), (25, .aload_n 0, 0, 0, 0), (26, .dup, 0, 0, 0), (27, .getfield 87, 6, 12, 694), (30, .iconst 1, 0, 0, 0), (31, .iadd, 0, 0, 0)],
  [(32, .putfield 87, 6, 12, 694), (35, .return_, 0, 0, 0)]]
def am_c91 : List (List (Nat × am_I)) := [[(0, .iload_n 2, 0, 0, 0), (1, .istore 4, 0, 0, 0), (3, .iload 4, 0, 0, 0), (5, .iload_n 3, 0, 0, 0), (6, .if_icmp .ge 27, 0, 0, 0), (9, .aload_n 0, 0, 0, 0), (10, .getfield 90, 6, 14, 696), (13, .ifCond .ne 20, 0, 0, 0), (16, .aload_n 0, 0, 0, 0), (17, .aload_n 0, 0, 0, 0), (18, .iload_n 1, 0, 0, 0), (19, .iload 4, 0, 0, 0), (21, .invokevirtual 69, 82, 4, 824), (24, .invokevirtual 94, 90, 2, 877), (27, .iinc 4 1, 0, 0, 0), (30, .goto (-27), 0, 0, 0)],
  [(33, .return_, 0, 0, 0)]]
def am_c92 : List (List (Nat × am_I)) := [[(0, .iconst 1, 0, 0, 0), (1, .istore 5, 0, 0, 0), (3, .aload_n 0, 0, 0, 0), (4, .getfield 41, 6, 16, 698), (7, .iconst 0, 0, 0, 0), (8, .iconst 0, 0, 0, 0), (9, .iastore, 0, 0, 0), (10, .iload_n 2, 0, 0, 0), (11, .istore 6, 0, 0, 0), (13, .iload 6, 0, 0, 0), (15, .iload_n 3, 0, 0, 0), (16, .if_icmp .ge 121, 0, 0, 0), (19, .aload_n 0, 0, 0, 0), (20, .getfield 90, 6, 14, 696), (23, .ifCond .ne 114, 0, 0, 0), (26, .iinc 5 (-1), 0, 0, 0), (29, .aload_n 0, 0, 0, 0), (30, .getfield 41, 6, 16, 698)],
  [(33, .iload 5, 0, 0, 0), (35, .iaload, 0, 0, 0), (36, .istore 7, 0, 0, 0), (38, .aload_n 0, 0, 0, 0), (39, .iload_n 1, 0, 0, 0), (40, .iload 6, 0, 0, 0), (42, .invokevirtual 69, 82, 4, 824), (45, .istore 8, 0, 0, 0), (47, .aload_n 0, 0, 0, 0), (48, .iload 8, 0, 0, 0), (50, .invokestatic 80, 79, 2, 828), (53, .ifCond .ne 24, 0, 0, 0), (56, .iload 8, 0, 0, 0), (58, .bipush 10, 0, 0, 0), (60, .idiv, 0, 0, 0), (61, .iload 7, 0, 0, 0), (63, .if_icmp .lt 14, 0, 0, 0)],
  [(66, .iload 8, 0, 0, 0), (68, .bipush 10, 0, 0, 0), (70, .iload 4, 0, 0, 0), (72, .imul, 0, 0, 0), (73, .iadd, 0, 0, 0), (74, .goto 5, 0, 0, 0), (77, .iload 8, 0, 0, 0), (79, .invokevirtual 94, 90, 2, 877), (82, .iload 8, 0, 0, 0), (84, .invokestatic 73, 80, 2, 839), (87, .ifCond .ne 6, 0, 0, 0), (90, .goto 41, 0, 0, 0), (93, .aload_n 0, 0, 0, 0), (94, .getfield 41, 6, 16, 698)],
  [(97, .iload 5, 0, 0, 0), (99, .iload 8, 0, 0, 0), (101, .invokestatic 84, 81, 2, 842), (104, .ifCond .eq 10, 0, 0, 0), (107, .iload 7, 0, 0, 0), (109, .iconst 1, 0, 0, 0), (110, .iadd, 0, 0, 0), (111, .goto 5, 0, 0, 0), (114, .iload 7, 0, 0, 0), (116, .iastore, 0, 0, 0), (117, .aload_n 0, 0, 0, 0), (118, .getfield 41, 6, 16, 698), (121, .iload 5, 0, 0, 0), (123, .iconst 1, 0, 0, 0), (124, .iadd, 0, 0, 0), (125, .iload 7, 0, 0, 0), (127, .iastore, 0, 0, 0)],
  [(128, .iinc 5 2, 0, 0, 0), (131, .iinc 6 1, 0, 0, 0), (134, .goto (-121), 0, 0, 0), (137, .return_, 0, 0, 0)]]
def am_c93 : List (List (Nat × am_I)) := [[(0, .iconst 1, 0, 0, 0), (1, .istore 7, 0, 0, 0), (3, .aload_n 0, 0, 0, 0), (4, .getfield 38, 6, 15, 697), (7, .iconst 0, 0, 0, 0), (8, .iconst 0, 0, 0, 0), (9, .iastore, 0, 0, 0), (10, .iload_n 2, 0, 0, 0), (11, .istore 8, 0, 0, 0), (13, .iload 8, 0, 0, 0), (15, .iload_n 3, 0, 0, 0), (16, .if_icmp .ge 148, 0, 0, 0), (19, .aload_n 0, 0, 0, 0), (20, .getfield 90, 6, 14, 696), (23, .ifCond .ne 141, 0, 0, 0), (26, .iinc 7 (-1), 0, 0, 0), (29, .aload_n 0, 0, 0, 0), (30, .getfield 38, 6, 15, 697)],
  [(33, .iload 7, 0, 0, 0), (35, .iaload, 0, 0, 0), (36, .istore 9, 0, 0, 0), (38, .aload_n 0, 0, 0, 0), (39, .iload_n 1, 0, 0, 0), (40, .iload 8, 0, 0, 0), (42, .invokevirtual 69, 82, 4, 824), (45, .istore 10, 0, 0, 0), (47, .iload 10, 0, 0, 0), (49, .bipush 10, 0, 0, 0), (51, .idiv, 0, 0, 0), (52, .istore 11, 0, 0, 0), (54, .iload 10, 0, 0, 0), (56, .invokestatic 80, 79, 2, 828), (59, .ifCond .ne 10, 0, 0, 0), (62, .iload 11, 0, 0, 0)],
  [(64, .iload 9, 0, 0, 0), (66, .if_icmp .ge 12, 0, 0, 0), (69, .aload_n 0, 0, 0, 0), (70, .iload 10, 0, 0, 0), (72, .invokevirtual 94, 90, 2, 877), (75, .goto 34, 0, 0, 0), (78, .iload 11, 0, 0, 0), (80, .iload 9, 0, 0, 0), (82, .if_icmp .ne 18, 0, 0, 0), (85, .aload_n 0, 0, 0, 0), (86, .iload 4, 0, 0, 0), (88, .iload 5, 0, 0, 0), (90, .iload 6, 0, 0, 0), (92, .iload 9, 0, 0, 0), (94, .invokevirtual 98, 92, 8, 885)],
  [(97, .goto 12, 0, 0, 0), (100, .aload_n 0, 0, 0, 0), (101, .iload 10, 0, 0, 0), (103, .bipush 10, 0, 0, 0), (105, .isub, 0, 0, 0), (106, .invokevirtual 94, 90, 2, 877), (109, .iload 10, 0, 0, 0), (111, .invokestatic 73, 80, 2, 839), (114, .ifCond .ne 6, 0, 0, 0), (117, .goto 41, 0, 0, 0), (120, .aload_n 0, 0, 0, 0), (121, .getfield 38, 6, 15, 697), (124, .iload 7, 0, 0, 0), (126, .iload 10, 0, 0, 0)],
  [(128, .invokestatic 84, 81, 2, 842), (131, .ifCond .eq 10, 0, 0, 0), (134, .iload 9, 0, 0, 0), (136, .iconst 1, 0, 0, 0), (137, .iadd, 0, 0, 0), (138, .goto 5, 0, 0, 0), (141, .iload 9, 0, 0, 0), (143, .iastore, 0, 0, 0), (144, .aload_n 0, 0, 0, 0), (145, .getfield 38, 6, 15, 697), (148, .iload 7, 0, 0, 0), (150, .iconst 1, 0, 0, 0), (151, .iadd, 0, 0, 0), (152, .iload 9, 0, 0, 0), (154, .iastore, 0, 0, 0), (155, .iinc 7 2, 0, 0, 0), (158, .iinc 8 1, 0, 0, 0)],
  [(161, .goto (-148), 0, 0, 0), (164, .return_, 0, 0, 0)]]
def am_c94 : List (List (Nat × am_I)) := [[(0, .aload_n 0, 0, 0, 0), (1, .getfield 90, 6, 14, 696), (4, .ifCond .ne 58, 0, 0, 0), (7, .iconst 0, 0, 0, 0), (8, .istore_n 2, 0, 0, 0), (9, .iload_n 2, 0, 0, 0), (10, .aload_n 0, 0, 0, 0), (11, .getfield 87, 6, 12, 694), (14, .if_icmp .ge 26, 0, 0, 0), (17, .aload_n 0, 0, 0, 0), (18, .getfield 29, 6, 10, 692), (21, .bipush 60, 0, 0, 0), (23, .iload_n 1, 0, 0, 0), (24, .imul, 0, 0, 0), (25, .iload_n 2, 0, 0, 0), (26, .iadd, 0, 0, 0), (27, .aload_n 0, 0, 0, 0), (28, .getfield 35, 6, 13, 695), (31, .iload_n 2, 0, 0, 0)],
  [(32, .iaload, 0, 0, 0), (33, .iastore, 0, 0, 0), (34, .iinc 2 1, 0, 0, 0), (37, .goto (-28), 0, 0, 0), (40, .aload_n 0, 0, 0, 0), (41, .getfield 32, 6, 11, 693), (44, .iload_n 1, 0, 0, 0), (45, .aload_n 0, 0, 0, 0), (46, .getfield 87, 6, 12, 694), (49, .iastore, 0, 0, 0), (50, .aload_n 0, 0, 0, 0), (51, .iload_n 1, 0, 0, 0), (52, .invokevirtual 102, 87, 2, 893), (55, .bipush 12, 0, 0, 0), (57, .if_icmp .gt 5, 0, 0, 0), (60, .iconst 1, 0, 0, 0), (61, .ireturn, 0, 0, 0), (62, .aload_n 0, 0, 0, 0), (63, .iconst 3, 0, 0, 0)],
  [(64, .putfield 105, 6, 19, 701), (67, .iconst 0, 0, 0, 0), (68, .ireturn, 0, 0, 0)]]
def am_c95 : List (List (Nat × am_I)) := [[(0, .aload_n 0, 0, 0, 0), (1, .getfield 105, 6, 19, 701), (4, .ifCond .ne 7, 0, 0, 0), (7, .iconst 1, 0, 0, 0), (8, .goto 4, 0, 0, 0), (11, .iconst 0, 0, 0, 0), (12, .istore_n 2, 0, 0, 0), (13, .iload_n 2, 0, 0, 0), (14, .ifCond .eq 254, 0, 0, 0), (17, .iconst 0, 0, 0, 0), (18, .istore_n 3, 0, 0, 0), (19, .aload_n 0, 0, 0, 0), (20, .iload_n 1, 0, 0, 0), (21, .iload_n 3, 0, 0, 0), (22, .invokevirtual 69, 82, 4, 824), (25, .invokestatic 80, 79, 2, 828), (28, .iconst 4, 0, 0, 0), (29, .if_icmp .ne 9, 0, 0, 0)],
  [(32, .iinc 3 1, 0, 0, 0), (35, .goto (-16), 0, 0, 0), (38, .aload_n 0, 0, 0, 0), (39, .iload_n 1, 0, 0, 0), (40, .iload_n 3, 0, 0, 0), (41, .invokevirtual 69, 82, 4, 824), (44, .istore 4, 0, 0, 0), (46, .iload 4, 0, 0, 0), (48, .invokestatic 80, 79, 2, 828), (51, .iconst 3, 0, 0, 0), (52, .if_icmp .ne 11, 0, 0, 0), (55, .iload_n 3, 0, 0, 0), (56, .ifCond .le 7, 0, 0, 0), (59, .iconst 1, 0, 0, 0), (60, .goto 4, 0, 0, 0), (63, .iconst 0, 0, 0, 0)],
  [(64, .istore 5, 0, 0, 0), (66, .iload 4, 0, 0, 0), (68, .invokestatic 80, 79, 2, 828), (71, .iconst 5, 0, 0, 0), (72, .if_icmp .ne 20, 0, 0, 0), (75, .aload_n 0, 0, 0, 0), (76, .getfield 25, 6, 8, 690), (79, .iload 4, 0, 0, 0), (81, .bipush 10, 0, 0, 0), (83, .idiv, 0, 0, 0), (84, .baload, 0, 0, 0), (85, .ifCond .eq 7, 0, 0, 0), (88, .iconst 1, 0, 0, 0), (89, .goto 4, 0, 0, 0), (92, .iconst 0, 0, 0, 0), (93, .istore 6, 0, 0, 0), (95, .iload 5, 0, 0, 0)],
  [(97, .ifCond .ne 9, 0, 0, 0), (100, .iload 6, 0, 0, 0), (102, .ifCond .ne 4, 0, 0, 0), (105, .return_, 0, 0, 0), (106, .aload_n 0, 0, 0, 0), (107, .getfield 108, 6, 18, 700), (110, .aload_n 0, 0, 0, 0), (111, .getfield 111, 6, 17, 699), (114, .if_icmp .ne 9, 0, 0, 0), (117, .aload_n 0, 0, 0, 0), (118, .iconst 3, 0, 0, 0), (119, .putfield 105, 6, 19, 701), (122, .return_, 0, 0, 0), (123, .aload_n 0, 0, 0, 0), (124, .invokevirtual 114, 89, 0, 869), (127, .iload 5, 0, 0, 0)],
  [(129, .ifCond .eq 70, 0, 0, 0), (132, .aload_n 0, 0, 0, 0), (133, .iload_n 1, 0, 0, 0), (134, .iload_n 3, 0, 0, 0), (135, .iconst 1, 0, 0, 0), (136, .iadd, 0, 0, 0), (137, .invokevirtual 77, 83, 4, 857), (140, .istore 7, 0, 0, 0), (142, .aload_n 0, 0, 0, 0), (143, .iload_n 1, 0, 0, 0), (144, .iload 7, 0, 0, 0), (146, .invokevirtual 77, 83, 4, 857), (149, .istore 8, 0, 0, 0), (151, .aload_n 0, 0, 0, 0), (152, .iload_n 1, 0, 0, 0), (153, .iload 8, 0, 0, 0), (155, .invokevirtual 77, 83, 4, 857), (158, .istore 9, 0, 0, 0)],
  [(160, .aload_n 0, 0, 0, 0), (161, .iload_n 1, 0, 0, 0), (162, .iconst 0, 0, 0, 0), (163, .iload_n 3, 0, 0, 0), (164, .iconst 1, 0, 0, 0), (165, .isub, 0, 0, 0), (166, .invokevirtual 117, 91, 6, 873), (169, .aload_n 0, 0, 0, 0), (170, .iload_n 1, 0, 0, 0), (171, .iload 7, 0, 0, 0), (173, .iload 8, 0, 0, 0), (175, .iload_n 1, 0, 0, 0), (176, .iload 8, 0, 0, 0), (178, .iload 9, 0, 0, 0), (180, .invokevirtual 121, 93, 12, 881), (183, .aload_n 0, 0, 0, 0), (184, .iload_n 1, 0, 0, 0), (185, .iload 9, 0, 0, 0), (187, .aload_n 0, 0, 0, 0), (188, .getfield 32, 6, 11, 693), (191, .iload_n 1, 0, 0, 0)],
  [(192, .iaload, 0, 0, 0), (193, .invokevirtual 117, 91, 6, 873), (196, .goto 50, 0, 0, 0), (199, .aload_n 0, 0, 0, 0), (200, .iload_n 1, 0, 0, 0), (201, .iconst 0, 0, 0, 0), (202, .iload_n 3, 0, 0, 0), (203, .invokevirtual 117, 91, 6, 873), (206, .aload_n 0, 0, 0, 0), (207, .bipush 80, 0, 0, 0), (209, .iload 4, 0, 0, 0), (211, .bipush 10, 0, 0, 0), (213, .idiv, 0, 0, 0), (214, .iadd, 0, 0, 0), (215, .iconst 0, 0, 0, 0), (216, .aload_n 0, 0, 0, 0), (217, .getfield 32, 6, 11, 693), (220, .bipush 80, 0, 0, 0), (222, .iload 4, 0, 0, 0)],
  [(224, .bipush 10, 0, 0, 0), (226, .idiv, 0, 0, 0), (227, .iadd, 0, 0, 0), (228, .iaload, 0, 0, 0), (229, .invokevirtual 117, 91, 6, 873), (232, .aload_n 0, 0, 0, 0), (233, .iload_n 1, 0, 0, 0), (234, .iload_n 3, 0, 0, 0), (235, .iconst 1, 0, 0, 0), (236, .iadd, 0, 0, 0), (237, .aload_n 0, 0, 0, 0), (238, .getfield 32, 6, 11, 693), (241, .iload_n 1, 0, 0, 0), (242, .iaload, 0, 0, 0), (243, .invokevirtual 117, 91, 6, 873), (246, .aload_n 0, 0, 0, 0), (247, .iload_n 1, 0, 0, 0), (248, .invokevirtual 125, 94, 2, 889), (251, .ifCond .ne 4, 0, 0, 0), (254, .return_, 0, 0, 0), (255, .aload_n 0, 0, 0, 0)],
  [(256, .dup, 0, 0, 0), (257, .getfield 108, 6, 18, 700), (260, .iconst 1, 0, 0, 0), (261, .iadd, 0, 0, 0), (262, .putfield 108, 6, 18, 700), (265, .goto (-252), 0, 0, 0), (268, .return_, 0, 0, 0)]]
def am_c96 : List (List (Nat × am_I)) := [[(0, .iload_n 2, 0, 0, 0), (1, .istore_n 3, 0, 0, 0), (2, .iload_n 3, 0, 0, 0), (3, .aload_n 0, 0, 0, 0), (4, .getfield 32, 6, 11, 693), (7, .iload_n 1, 0, 0, 0), (8, .iaload, 0, 0, 0), (9, .if_icmp .ge 34, 0, 0, 0), (12, .aload_n 0, 0, 0, 0), (13, .getfield 56, 6, 29, 711), (16, .aload_n 0, 0, 0, 0), (17, .getfield 128, 6, 28, 710), (20, .aload_n 0, 0, 0, 0), (21, .iload_n 1, 0, 0, 0), (22, .iload_n 3, 0, 0, 0), (23, .invokevirtual 69, 82, 4, 824), (26, .iastore, 0, 0, 0), (27, .aload_n 0, 0, 0, 0), (28, .dup, 0, 0, 0), (29, .getfield 128, 6, 28, 710)],
  [(32, .iconst 1, 0, 0, 0), (33, .iadd, 0, 0, 0), (34, .putfield 128, 6, 28, 710), (37, .iinc 3 1, 0, 0, 0), (40, .goto (-38), 0, 0, 0), (43, .return_, 0, 0, 0)]]
def am_c97 : List (List (Nat × am_I)) := [[(0, .aload_n 0, 0, 0, 0), (1, .dup, 0, 0, 0), (2, .getfield 128, 6, 28, 710), (5, .iload_n 2, 0, 0, 0), (6, .isub, 0, 0, 0), (7, .putfield 128, 6, 28, 710), (10, .iconst 0, 0, 0, 0), (11, .istore_n 3, 0, 0, 0), (12, .iload_n 3, 0, 0, 0), (13, .iload_n 2, 0, 0, 0), (14, .if_icmp .ge 31, 0, 0, 0), (17, .aload_n 0, 0, 0, 0), (18, .getfield 29, 6, 10, 692), (21, .bipush 60, 0, 0, 0), (23, .iload_n 1, 0, 0, 0), (24, .imul, 0, 0, 0), (25, .iload_n 3, 0, 0, 0), (26, .iadd, 0, 0, 0), (27, .aload_n 0, 0, 0, 0), (28, .getfield 56, 6, 29, 711), (31, .aload_n 0, 0, 0, 0)],
  [(32, .getfield 128, 6, 28, 710), (35, .iload_n 3, 0, 0, 0), (36, .iadd, 0, 0, 0), (37, .iaload, 0, 0, 0), (38, .iastore, 0, 0, 0), (39, .iinc 3 1, 0, 0, 0), (42, .goto (-30), 0, 0, 0), (45, .aload_n 0, 0, 0, 0), (46, .getfield 32, 6, 11, 693), (49, .iload_n 1, 0, 0, 0), (50, .iload_n 2, 0, 0, 0), (51, .iastore, 0, 0, 0), (52, .return_, 0, 0, 0)]]
def am_c98 : List (List (Nat × am_I)) := [[(0, .aload_n 0, 0, 0, 0), (1, .iconst 0, 0, 0, 0), (2, .putfield 131, 6, 27, 709), (5, .aload_n 0, 0, 0, 0), (6, .iconst 0, 0, 0, 0), (7, .putfield 128, 6, 28, 710), (10, .iconst 1, 0, 0, 0), (11, .istore_n 1, 0, 0, 0), (12, .iload_n 1, 0, 0, 0), (13, .ifCond .eq 243, 0, 0, 0), (16, .aload_n 0, 0, 0, 0), (17, .iconst 0, 0, 0, 0), (18, .invokevirtual 134, 95, 2, 865), (21, .aload_n 0, 0, 0, 0), (22, .getfield 105, 6, 19, 701), (25, .ifCond .ne 8, 0, 0, 0), (28, .aload_n 0, 0, 0, 0), (29, .iconst 1, 0, 0, 0), (30, .invokevirtual 134, 95, 2, 865)],
  [(33, .aload_n 0, 0, 0, 0), (34, .getfield 105, 6, 19, 701), (37, .ifCond .eq 5, 0, 0, 0), (40, .iconst 0, 0, 0, 0), (41, .ireturn, 0, 0, 0), (42, .aload_n 0, 0, 0, 0), (43, .iconst 0, 0, 0, 0), (44, .iconst 0, 0, 0, 0), (45, .invokevirtual 69, 82, 4, 824), (48, .istore_n 2, 0, 0, 0), (49, .iload_n 2, 0, 0, 0), (50, .invokestatic 80, 79, 2, 828), (53, .aload_n 0, 0, 0, 0), (54, .iconst 1, 0, 0, 0), (55, .iconst 0, 0, 0, 0), (56, .invokevirtual 69, 82, 4, 824), (59, .invokestatic 80, 79, 2, 828), (62, .if_icmp .eq 5, 0, 0, 0)],
  [(65, .iconst 0, 0, 0, 0), (66, .ireturn, 0, 0, 0), (67, .iload_n 2, 0, 0, 0), (68, .invokestatic 73, 80, 2, 839), (71, .ifCond .ne 15, 0, 0, 0), (74, .iload_n 2, 0, 0, 0), (75, .aload_n 0, 0, 0, 0), (76, .iconst 1, 0, 0, 0), (77, .iconst 0, 0, 0, 0), (78, .invokevirtual 69, 82, 4, 824), (81, .if_icmp .eq 5, 0, 0, 0), (84, .iconst 0, 0, 0, 0), (85, .ireturn, 0, 0, 0), (86, .iload_n 2, 0, 0, 0), (87, .invokestatic 73, 80, 2, 839), (90, .ifCond .eq 105, 0, 0, 0), (93, .aload_n 0, 0, 0, 0), (94, .iconst 0, 0, 0, 0), (95, .iconst 1, 0, 0, 0)],
  [(96, .invokevirtual 77, 83, 4, 857), (99, .istore_n 3, 0, 0, 0), (100, .aload_n 0, 0, 0, 0), (101, .iconst 1, 0, 0, 0), (102, .iconst 1, 0, 0, 0), (103, .invokevirtual 77, 83, 4, 857), (106, .istore 4, 0, 0, 0), (108, .aload_n 0, 0, 0, 0), (109, .getfield 59, 6, 30, 712), (112, .aload_n 0, 0, 0, 0), (113, .getfield 131, 6, 27, 709), (116, .aload_n 0, 0, 0, 0), (117, .getfield 32, 6, 11, 693), (120, .iconst 0, 0, 0, 0), (121, .iaload, 0, 0, 0), (122, .iload_n 3, 0, 0, 0), (123, .isub, 0, 0, 0), (124, .iastore, 0, 0, 0), (125, .aload_n 0, 0, 0, 0), (126, .getfield 62, 6, 31, 713)],
  [(129, .aload_n 0, 0, 0, 0), (130, .getfield 131, 6, 27, 709), (133, .aload_n 0, 0, 0, 0), (134, .getfield 32, 6, 11, 693), (137, .iconst 1, 0, 0, 0), (138, .iaload, 0, 0, 0), (139, .iload 4, 0, 0, 0), (141, .isub, 0, 0, 0), (142, .iastore, 0, 0, 0), (143, .aload_n 0, 0, 0, 0), (144, .iconst 0, 0, 0, 0), (145, .iload_n 3, 0, 0, 0), (146, .invokevirtual 137, 96, 4, 909), (149, .aload_n 0, 0, 0, 0), (150, .iconst 1, 0, 0, 0), (151, .iload 4, 0, 0, 0), (153, .invokevirtual 137, 96, 4, 909), (156, .aload_n 0, 0, 0, 0), (157, .dup, 0, 0, 0), (158, .getfield 131, 6, 27, 709)],
  [(161, .iconst 1, 0, 0, 0), (162, .iadd, 0, 0, 0), (163, .putfield 131, 6, 27, 709), (166, .aload_n 0, 0, 0, 0), (167, .iconst 3, 0, 0, 0), (168, .iconst 0, 0, 0, 0), (169, .iconst 1, 0, 0, 0), (170, .invokevirtual 141, 84, 6, 853), (173, .aload_n 0, 0, 0, 0), (174, .iconst 0, 0, 0, 0), (175, .iconst 3, 0, 0, 0), (176, .invokevirtual 144, 85, 4, 831), (179, .aload_n 0, 0, 0, 0), (180, .iconst 3, 0, 0, 0), (181, .iconst 1, 0, 0, 0), (182, .iconst 1, 0, 0, 0), (183, .invokevirtual 141, 84, 6, 853), (186, .aload_n 0, 0, 0, 0), (187, .iconst 1, 0, 0, 0), (188, .iconst 3, 0, 0, 0), (189, .invokevirtual 144, 85, 4, 831)],
  [(192, .goto (-180), 0, 0, 0), (195, .aload_n 0, 0, 0, 0), (196, .getfield 131, 6, 27, 709), (199, .ifCond .le 7, 0, 0, 0), (202, .iconst 1, 0, 0, 0), (203, .goto 4, 0, 0, 0), (206, .iconst 0, 0, 0, 0), (207, .istore_n 1, 0, 0, 0), (208, .iload_n 1, 0, 0, 0), (209, .ifCond .ne 6, 0, 0, 0), (212, .goto (-200), 0, 0, 0), (215, .aload_n 0, 0, 0, 0), (216, .dup, 0, 0, 0), (217, .getfield 131, 6, 27, 709), (220, .iconst 1, 0, 0, 0), (221, .isub, 0, 0, 0), (222, .putfield 131, 6, 27, 709)],
  [(225, .aload_n 0, 0, 0, 0), (226, .iconst 1, 0, 0, 0), (227, .aload_n 0, 0, 0, 0), (228, .getfield 62, 6, 31, 713), (231, .aload_n 0, 0, 0, 0), (232, .getfield 131, 6, 27, 709), (235, .iaload, 0, 0, 0), (236, .invokevirtual 147, 97, 4, 913), (239, .aload_n 0, 0, 0, 0), (240, .iconst 0, 0, 0, 0), (241, .aload_n 0, 0, 0, 0), (242, .getfield 59, 6, 30, 712), (245, .aload_n 0, 0, 0, 0), (246, .getfield 131, 6, 27, 709), (249, .iaload, 0, 0, 0), (250, .invokevirtual 147, 97, 4, 913), (253, .goto (-241), 0, 0, 0)],
  [(256, .iconst 1, 0, 0, 0), (257, .ireturn, 0, 0, 0)]]
def am_c99 : List (List (Nat × am_I)) := [[(0, .aload_n 0, 0, 0, 0), (1, .getfield 44, 6, 21, 703), (4, .aload_n 0, 0, 0, 0), (5, .getfield 150, 6, 20, 702), (8, .iload_n 1, 0, 0, 0), (9, .iastore, 0, 0, 0), (10, .aload_n 0, 0, 0, 0), (11, .getfield 47, 6, 22, 704), (14, .aload_n 0, 0, 0, 0), (15, .getfield 150, 6, 20, 702), (18, .iconst 0, 0, 0, 0), (19, .iastore, 0, 0, 0), (20, .aload_n 0, 0, 0, 0), (21, .dup, 0, 0, 0), (22, .getfield 150, 6, 20, 702), (25, .iconst 1, 0, 0, 0), (26, .iadd, 0, 0, 0), (27, .putfield 150, 6, 20, 702), (30, .return_, 0, 0, 0)]]
def am_c100 : List (List (Nat × am_I)) := [[(0, .aload_n 0, 0, 0, 0), (1, .iload_n 1, 0, 0, 0), (2, .invokevirtual 134, 95, 2, 865), (5, .aload_n 0, 0, 0, 0), (6, .getfield 105, 6, 19, 701), (9, .ifCond .eq 5, 0, 0, 0), (12, .iconst 0, 0, 0, 0), (13, .ireturn, 0, 0, 0), (14, .aload_n 0, 0, 0, 0), (15, .iload_n 1, 0, 0, 0), (16, .iconst 0, 0, 0, 0), (17, .invokevirtual 69, 82, 4, 824), (20, .istore_n 2, 0, 0, 0), (21, .iload_n 2, 0, 0, 0), (22, .invokestatic 80, 79, 2, 828), (25, .iconst 1, 0, 0, 0), (26, .if_icmp .eq 8, 0, 0, 0), (29, .aload_n 0, 0, 0, 0), (30, .iconst 2, 0, 0, 0), (31, .putfield 105, 6, 19, 701)],
  [(34, .iload_n 2, 0, 0, 0), (35, .bipush 10, 0, 0, 0), (37, .idiv, 0, 0, 0), (38, .ireturn, 0, 0, 0)]]
def am_c101 : List (List (Nat × am_I)) := [[(0, .aload_n 0, 0, 0, 0), (1, .aload_n 0, 0, 0, 0), (2, .getfield 153, 6, 24, 706), (5, .iload_n 1, 0, 0, 0), (6, .iload_n 2, 0, 0, 0), (7, .invokevirtual 141, 84, 6, 853), (10, .aload_n 0, 0, 0, 0), (11, .aload_n 0, 0, 0, 0), (12, .getfield 153, 6, 24, 706), (15, .invokevirtual 156, 99, 2, 816), (18, .aload_n 0, 0, 0, 0), (19, .dup, 0, 0, 0), (20, .getfield 153, 6, 24, 706), (23, .iconst 1, 0, 0, 0), (24, .iadd, 0, 0, 0), (25, .putfield 153, 6, 24, 706), (28, .return_, 0, 0, 0)]]
def am_c102 : List (List (Nat × am_I)) := [[(0, .aload_n 0, 0, 0, 0), (1, .getfield 44, 6, 21, 703), (4, .iload_n 1, 0, 0, 0), (5, .iaload, 0, 0, 0), (6, .istore_n 2, 0, 0, 0), (7, .aload_n 0, 0, 0, 0), (8, .iload_n 2, 0, 0, 0), (9, .iconst 0, 0, 0, 0), (10, .invokevirtual 69, 82, 4, 824), (13, .istore_n 3, 0, 0, 0), (14, .iload_n 3, 0, 0, 0), (15, .bipush 10, 0, 0, 0), (17, .idiv, 0, 0, 0), (18, .istore 4, 0, 0, 0), (20, .iload_n 3, 0, 0, 0), (21, .invokestatic 80, 79, 2, 828), (24, .lookupswitch 133 #[(0, 36), (1, 92), (5, 112)], 0, 36, 0)],
  [(60, .aload_n 0, 0, 0, 0), (61, .dup, 0, 0, 0), (62, .getfield 150, 6, 20, 702)],
  [(65, .iconst 1, 0, 0, 0), (66, .isub, 0, 0, 0), (67, .putfield 150, 6, 20, 702), (70, .iload 4, 0, 0, 0), (72, .aload_n 0, 0, 0, 0), (73, .getfield 159, 6, 25, 707), (76, .if_icmp .lt 11, 0, 0, 0), (79, .aload_n 0, 0, 0, 0), (80, .iconst 2, 0, 0, 0), (81, .putfield 105, 6, 19, 701), (84, .goto 31, 0, 0, 0), (87, .aload_n 0, 0, 0, 0), (88, .iload_n 2, 0, 0, 0), (89, .aload_n 0, 0, 0, 0), (90, .getfield 53, 6, 26, 708), (93, .aload_n 0, 0, 0, 0), (94, .getfield 159, 6, 25, 707)],
  [(97, .iconst 1, 0, 0, 0), (98, .isub, 0, 0, 0), (99, .iload 4, 0, 0, 0), (101, .isub, 0, 0, 0), (102, .iaload, 0, 0, 0), (103, .invokevirtual 144, 85, 4, 831), (106, .aload_n 0, 0, 0, 0), (107, .iload_n 2, 0, 0, 0), (108, .iload 4, 0, 0, 0), (110, .iconst 1, 0, 0, 0), (111, .iadd, 0, 0, 0), (112, .invokevirtual 162, 88, 4, 835), (115, .return_, 0, 0, 0), (116, .aload_n 0, 0, 0, 0), (117, .dup, 0, 0, 0), (118, .getfield 150, 6, 20, 702), (121, .iconst 1, 0, 0, 0), (122, .isub, 0, 0, 0), (123, .putfield 150, 6, 20, 702), (126, .aload_n 0, 0, 0, 0), (127, .iload_n 2, 0, 0, 0)],
  [(128, .iload_n 3, 0, 0, 0), (129, .bipush 10, 0, 0, 0), (131, .iadd, 0, 0, 0), (132, .invokevirtual 165, 86, 4, 845), (135, .return_, 0, 0, 0), (136, .aload_n 0, 0, 0, 0), (137, .dup, 0, 0, 0), (138, .getfield 150, 6, 20, 702), (141, .iconst 1, 0, 0, 0), (142, .isub, 0, 0, 0), (143, .putfield 150, 6, 20, 702), (146, .aload_n 0, 0, 0, 0), (147, .iload_n 2, 0, 0, 0), (148, .bipush 64, 0, 0, 0), (150, .iload 4, 0, 0, 0), (152, .iadd, 0, 0, 0), (153, .invokevirtual 144, 85, 4, 831), (156, .return_, 0, 0, 0), (157, .aload_n 0, 0, 0, 0), (158, .getfield 47, 6, 22, 704)],
  [(161, .iload_n 1, 0, 0, 0), (162, .iconst 1, 0, 0, 0), (163, .iastore, 0, 0, 0), (164, .aload_n 0, 0, 0, 0), (165, .iload_n 2, 0, 0, 0), (166, .iconst 1, 0, 0, 0), (167, .invokevirtual 168, 101, 4, 849), (170, .return_, 0, 0, 0)]]
def am_c103 : List (List (Nat × am_I)) := [[(0, .aload_n 0, 0, 0, 0), (1, .getfield 44, 6, 21, 703), (4, .iload_n 1, 0, 0, 0), (5, .iaload, 0, 0, 0), (6, .istore_n 2, 0, 0, 0), (7, .aload_n 0, 0, 0, 0), (8, .iload_n 2, 0, 0, 0), (9, .iconst 1, 0, 0, 0), (10, .invokevirtual 77, 83, 4, 857), (13, .istore_n 3, 0, 0, 0), (14, .aload_n 0, 0, 0, 0), (15, .iload_n 2, 0, 0, 0), (16, .iconst 0, 0, 0, 0), (17, .invokevirtual 69, 82, 4, 824), (20, .invokestatic 80, 79, 2, 828), (23, .iconst 4, 0, 0, 0), (24, .if_icmp .ne 45, 0, 0, 0), (27, .aload_n 0, 0, 0, 0), (28, .aload_n 0, 0, 0, 0), (29, .getfield 153, 6, 24, 706)],
  [(32, .iconst 1, 0, 0, 0), (33, .isub, 0, 0, 0), (34, .invokevirtual 134, 95, 2, 865), (37, .aload_n 0, 0, 0, 0), (38, .getfield 105, 6, 19, 701), (41, .ifCond .eq 4, 0, 0, 0), (44, .return_, 0, 0, 0), (45, .aload_n 0, 0, 0, 0), (46, .aload_n 0, 0, 0, 0), (47, .getfield 153, 6, 24, 706), (50, .iconst 1, 0, 0, 0), (51, .isub, 0, 0, 0), (52, .iconst 0, 0, 0, 0), (53, .invokevirtual 69, 82, 4, 824), (56, .invokestatic 80, 79, 2, 828), (59, .iconst 2, 0, 0, 0), (60, .if_icmp .eq 70, 0, 0, 0), (63, .aload_n 0, 0, 0, 0)],
  [(64, .iconst 2, 0, 0, 0), (65, .putfield 105, 6, 19, 701), (68, .return_, 0, 0, 0), (69, .aload_n 0, 0, 0, 0), (70, .getfield 50, 6, 23, 705), (73, .iload_n 1, 0, 0, 0), (74, .aload_n 0, 0, 0, 0), (75, .aload_n 0, 0, 0, 0), (76, .getfield 153, 6, 24, 706), (79, .iconst 1, 0, 0, 0), (80, .isub, 0, 0, 0), (81, .invokevirtual 171, 100, 2, 897), (84, .iastore, 0, 0, 0), (85, .aload_n 0, 0, 0, 0), (86, .getfield 105, 6, 19, 701), (89, .ifCond .eq 4, 0, 0, 0), (92, .return_, 0, 0, 0), (93, .aload_n 0, 0, 0, 0), (94, .aload_n 0, 0, 0, 0), (95, .getfield 153, 6, 24, 706)],
  [(98, .iconst 1, 0, 0, 0), (99, .isub, 0, 0, 0), (100, .iload_n 2, 0, 0, 0), (101, .iconst 1, 0, 0, 0), (102, .invokevirtual 141, 84, 6, 853), (105, .aload_n 0, 0, 0, 0), (106, .getfield 53, 6, 26, 708), (109, .aload_n 0, 0, 0, 0), (110, .getfield 159, 6, 25, 707), (113, .aload_n 0, 0, 0, 0), (114, .getfield 153, 6, 24, 706), (117, .iconst 1, 0, 0, 0), (118, .isub, 0, 0, 0), (119, .iastore, 0, 0, 0), (120, .aload_n 0, 0, 0, 0), (121, .dup, 0, 0, 0), (122, .getfield 159, 6, 25, 707), (125, .iconst 1, 0, 0, 0), (126, .iadd, 0, 0, 0), (127, .putfield 159, 6, 25, 707)],
  [(130, .aload_n 0, 0, 0, 0), (131, .getfield 47, 6, 22, 704), (134, .iload_n 1, 0, 0, 0), (135, .iconst 2, 0, 0, 0), (136, .iastore, 0, 0, 0), (137, .aload_n 0, 0, 0, 0), (138, .iload_n 2, 0, 0, 0), (139, .iload_n 3, 0, 0, 0), (140, .invokevirtual 168, 101, 4, 849), (143, .return_, 0, 0, 0)]]
def am_c104 : List (List (Nat × am_I)) := [[(0, .aload_n 0, 0, 0, 0), (1, .getfield 44, 6, 21, 703), (4, .iload_n 1, 0, 0, 0), (5, .iaload, 0, 0, 0), (6, .istore_n 2, 0, 0, 0), (7, .aload_n 0, 0, 0, 0), (8, .iload_n 2, 0, 0, 0), (9, .iconst 0, 0, 0, 0), (10, .invokevirtual 69, 82, 4, 824), (13, .invokestatic 80, 79, 2, 828), (16, .istore_n 3, 0, 0, 0), (17, .iload_n 3, 0, 0, 0), (18, .iconst 4, 0, 0, 0), (19, .if_icmp .ne 116, 0, 0, 0), (22, .aload_n 0, 0, 0, 0), (23, .iconst 0, 0, 0, 0), (24, .aload_n 0, 0, 0, 0), (25, .getfield 153, 6, 24, 706), (28, .iconst 1, 0, 0, 0), (29, .isub, 0, 0, 0), (30, .invokevirtual 144, 85, 4, 831)],
  [(33, .aload_n 0, 0, 0, 0), (34, .iconst 1, 0, 0, 0), (35, .aload_n 0, 0, 0, 0), (36, .getfield 153, 6, 24, 706), (39, .iconst 2, 0, 0, 0), (40, .isub, 0, 0, 0), (41, .iconst 1, 0, 0, 0), (42, .invokevirtual 141, 84, 6, 853), (45, .aload_n 0, 0, 0, 0), (46, .invokevirtual 174, 98, 0, 905), (49, .istore 4, 0, 0, 0), (51, .aload_n 0, 0, 0, 0), (52, .getfield 105, 6, 19, 701), (55, .ifCond .eq 4, 0, 0, 0), (58, .return_, 0, 0, 0), (59, .iload 4, 0, 0, 0), (61, .ifCond .ne 9, 0, 0, 0)],
  [(64, .aload_n 0, 0, 0, 0), (65, .iconst 2, 0, 0, 0), (66, .putfield 105, 6, 19, 701), (69, .return_, 0, 0, 0), (70, .aload_n 0, 0, 0, 0), (71, .aload_n 0, 0, 0, 0), (72, .getfield 153, 6, 24, 706), (75, .iconst 2, 0, 0, 0), (76, .isub, 0, 0, 0), (77, .iconst 1, 0, 0, 0), (78, .invokevirtual 77, 83, 4, 857), (81, .istore 5, 0, 0, 0), (83, .aload_n 0, 0, 0, 0), (84, .invokevirtual 114, 89, 0, 869), (87, .aload_n 0, 0, 0, 0), (88, .aload_n 0, 0, 0, 0), (89, .getfield 153, 6, 24, 706), (92, .iconst 2, 0, 0, 0), (93, .isub, 0, 0, 0), (94, .iload 5, 0, 0, 0)],
  [(96, .aload_n 0, 0, 0, 0), (97, .getfield 32, 6, 11, 693), (100, .aload_n 0, 0, 0, 0), (101, .getfield 153, 6, 24, 706), (104, .iconst 2, 0, 0, 0), (105, .isub, 0, 0, 0), (106, .iaload, 0, 0, 0), (107, .iload_n 2, 0, 0, 0), (108, .aload_n 0, 0, 0, 0), (109, .iload_n 2, 0, 0, 0), (110, .iconst 1, 0, 0, 0), (111, .invokevirtual 77, 83, 4, 857), (114, .aload_n 0, 0, 0, 0), (115, .getfield 32, 6, 11, 693), (118, .iload_n 2, 0, 0, 0), (119, .iaload, 0, 0, 0), (120, .invokevirtual 121, 93, 12, 881), (123, .aload_n 0, 0, 0, 0), (124, .iload_n 2, 0, 0, 0), (125, .invokevirtual 125, 94, 2, 889)],
  [(128, .ifCond .ne 4, 0, 0, 0), (131, .return_, 0, 0, 0), (132, .goto 135, 0, 0, 0), (135, .iload_n 3, 0, 0, 0), (136, .iconst 2, 0, 0, 0), (137, .if_icmp .ne 68, 0, 0, 0), (140, .aload_n 0, 0, 0, 0), (141, .aload_n 0, 0, 0, 0), (142, .getfield 153, 6, 24, 706), (145, .iconst 1, 0, 0, 0), (146, .isub, 0, 0, 0), (147, .invokevirtual 171, 100, 2, 897), (150, .istore 4, 0, 0, 0), (152, .aload_n 0, 0, 0, 0), (153, .getfield 105, 6, 19, 701), (156, .ifCond .eq 4, 0, 0, 0), (159, .return_, 0, 0, 0)],
  [(160, .aload_n 0, 0, 0, 0), (161, .dup, 0, 0, 0), (162, .getfield 159, 6, 25, 707), (165, .iconst 1, 0, 0, 0), (166, .isub, 0, 0, 0), (167, .putfield 159, 6, 25, 707), (170, .aload_n 0, 0, 0, 0), (171, .iload_n 2, 0, 0, 0), (172, .iconst 1, 0, 0, 0), (173, .bipush 10, 0, 0, 0), (175, .iload 4, 0, 0, 0), (177, .aload_n 0, 0, 0, 0), (178, .getfield 50, 6, 23, 705), (181, .iload_n 1, 0, 0, 0), (182, .iaload, 0, 0, 0), (183, .if_icmp .le 8, 0, 0, 0), (186, .iload 4, 0, 0, 0), (188, .goto 9, 0, 0, 0), (191, .aload_n 0, 0, 0, 0)],
  [(192, .getfield 50, 6, 23, 705), (195, .iload_n 1, 0, 0, 0), (196, .iaload, 0, 0, 0), (197, .imul, 0, 0, 0), (198, .iadd, 0, 0, 0), (199, .invokevirtual 165, 86, 4, 845), (202, .goto 65, 0, 0, 0), (205, .aload_n 0, 0, 0, 0), (206, .dup, 0, 0, 0), (207, .getfield 159, 6, 25, 707), (210, .iconst 1, 0, 0, 0), (211, .isub, 0, 0, 0), (212, .putfield 159, 6, 25, 707), (215, .aload_n 0, 0, 0, 0), (216, .invokevirtual 114, 89, 0, 869), (219, .aload_n 0, 0, 0, 0), (220, .iconst 2, 0, 0, 0), (221, .invokevirtual 94, 90, 2, 877)],
  [(224, .aload_n 0, 0, 0, 0), (225, .iload_n 2, 0, 0, 0), (226, .iconst 1, 0, 0, 0), (227, .aload_n 0, 0, 0, 0), (228, .iload_n 2, 0, 0, 0), (229, .iconst 1, 0, 0, 0), (230, .invokevirtual 77, 83, 4, 857), (233, .invokevirtual 117, 91, 6, 873), (236, .aload_n 0, 0, 0, 0), (237, .aload_n 0, 0, 0, 0), (238, .getfield 153, 6, 24, 706), (241, .iconst 1, 0, 0, 0), (242, .isub, 0, 0, 0), (243, .iconst 0, 0, 0, 0), (244, .aload_n 0, 0, 0, 0), (245, .getfield 32, 6, 11, 693), (248, .aload_n 0, 0, 0, 0), (249, .getfield 153, 6, 24, 706), (252, .iconst 1, 0, 0, 0), (253, .isub, 0, 0, 0), (254, .iaload, 0, 0, 0), (255, .invokevirtual 117, 91, 6, 873)],
  [(258, .aload_n 0, 0, 0, 0), (259, .iload_n 2, 0, 0, 0), (260, .invokevirtual 125, 94, 2, 889), (263, .ifCond .ne 4, 0, 0, 0), (266, .return_, 0, 0, 0), (267, .aload_n 0, 0, 0, 0), (268, .dup, 0, 0, 0), (269, .getfield 153, 6, 24, 706), (272, .iconst 2, 0, 0, 0), (273, .isub, 0, 0, 0), (274, .putfield 153, 6, 24, 706), (277, .aload_n 0, 0, 0, 0), (278, .dup, 0, 0, 0), (279, .getfield 150, 6, 20, 702), (282, .iconst 1, 0, 0, 0), (283, .isub, 0, 0, 0), (284, .putfield 150, 6, 20, 702), (287, .return_, 0, 0, 0)]]
def am_c105 : List (List (Nat × am_I)) := [[(0, .aload_n 0, 0, 0, 0), (1, .getfield 105, 6, 19, 701), (4, .ifCond .eq 4, 0, 0, 0), (7, .return_, 0, 0, 0), (8, .aload_n 0, 0, 0, 0), (9, .iconst 0, 0, 0, 0), (10, .putfield 150, 6, 20, 702), (13, .aload_n 0, 0, 0, 0), (14, .iconst 0, 0, 0, 0), (15, .putfield 159, 6, 25, 707), (18, .aload_n 0, 0, 0, 0), (19, .iconst 4, 0, 0, 0), (20, .putfield 153, 6, 24, 706), (23, .aload_n 0, 0, 0, 0), (24, .iload_n 1, 0, 0, 0), (25, .invokevirtual 156, 99, 2, 816), (28, .aload_n 0, 0, 0, 0), (29, .getfield 150, 6, 20, 702)],
  [(32, .ifCond .le 60, 0, 0, 0), (35, .aload_n 0, 0, 0, 0), (36, .getfield 105, 6, 19, 701), (39, .ifCond .ne 53, 0, 0, 0), (42, .aload_n 0, 0, 0, 0), (43, .getfield 150, 6, 20, 702), (46, .iconst 1, 0, 0, 0), (47, .isub, 0, 0, 0), (48, .istore_n 2, 0, 0, 0), (49, .aload_n 0, 0, 0, 0), (50, .getfield 47, 6, 22, 704), (53, .iload_n 2, 0, 0, 0), (54, .iaload, 0, 0, 0), (55, .ifCond .ne 11, 0, 0, 0), (58, .aload_n 0, 0, 0, 0), (59, .iload_n 2, 0, 0, 0), (60, .invokevirtual 178, 102, 2, 820), (63, .goto 26, 0, 0, 0)],
  [(66, .aload_n 0, 0, 0, 0), (67, .getfield 47, 6, 22, 704), (70, .iload_n 2, 0, 0, 0), (71, .iaload, 0, 0, 0), (72, .iconst 1, 0, 0, 0), (73, .if_icmp .ne 11, 0, 0, 0), (76, .aload_n 0, 0, 0, 0), (77, .iload_n 2, 0, 0, 0), (78, .invokevirtual 181, 103, 2, 861), (81, .goto 8, 0, 0, 0), (84, .aload_n 0, 0, 0, 0), (85, .iload_n 2, 0, 0, 0), (86, .invokevirtual 184, 104, 2, 901), (89, .goto (-61), 0, 0, 0), (92, .return_, 0, 0, 0)]]
def am_c106 : List (List (Nat × am_I)) := [[(0, .aload_n 0, 0, 0, 0), (1, .iconst 0, 0, 0, 0), (2, .putfield 65, 6, 0, 682), (5, .iload_n 1, 0, 0, 0), (6, .ifCond .lt 17, 0, 0, 0), (9, .iload_n 1, 0, 0, 0), (10, .iconst 5, 0, 0, 0), (11, .if_icmp .gt 12, 0, 0, 0), (14, .aload_n 0, 0, 0, 0), (15, .getfield 187, 6, 1, 683), (18, .bipush 120, 0, 0, 0), (20, .if_icmp .ne 5, 0, 0, 0), (23, .iconst (-1), 0, 0, 0), (24, .ireturn, 0, 0, 0), (25, .iconst 1, 0, 0, 0), (26, .istore 4, 0, 0, 0), (28, .iconst 1, 0, 0, 0), (29, .istore 5, 0, 0, 0), (31, .iload_n 1, 0, 0, 0)],
  [(32, .iconst 2, 0, 0, 0), (33, .if_icmp .ge 15, 0, 0, 0), (36, .iload_n 2, 0, 0, 0), (37, .ifCond .lt 9, 0, 0, 0), (40, .iload_n 2, 0, 0, 0), (41, .bipush 9, 0, 0, 0), (43, .if_icmp .le 101, 0, 0, 0), (46, .iconst (-1), 0, 0, 0), (47, .ireturn, 0, 0, 0), (48, .iload_n 1, 0, 0, 0), (49, .iconst 5, 0, 0, 0), (50, .if_icmp .ne 17, 0, 0, 0), (53, .iload_n 2, 0, 0, 0), (54, .ifCond .lt 11, 0, 0, 0), (57, .iload_n 2, 0, 0, 0), (58, .aload_n 0, 0, 0, 0), (59, .getfield 190, 6, 7, 689), (62, .if_icmp .lt 82, 0, 0, 0)],
  [(65, .iconst (-1), 0, 0, 0), (66, .ireturn, 0, 0, 0), (67, .iload_n 2, 0, 0, 0), (68, .ifCond .lt 23, 0, 0, 0), (71, .iload_n 2, 0, 0, 0), (72, .aload_n 0, 0, 0, 0), (73, .getfield 187, 6, 1, 683), (76, .if_icmp .ge 15, 0, 0, 0), (79, .iload_n 3, 0, 0, 0), (80, .ifCond .lt 11, 0, 0, 0), (83, .iload_n 3, 0, 0, 0), (84, .aload_n 0, 0, 0, 0), (85, .getfield 187, 6, 1, 683), (88, .if_icmp .lt 5, 0, 0, 0), (91, .iconst (-1), 0, 0, 0), (92, .ireturn, 0, 0, 0), (93, .iconst 1, 0, 0, 0), (94, .aload_n 0, 0, 0, 0), (95, .getfield 19, 6, 5, 687)],
  [(98, .iload_n 2, 0, 0, 0), (99, .iaload, 0, 0, 0), (100, .iadd, 0, 0, 0), (101, .aload_n 0, 0, 0, 0), (102, .getfield 19, 6, 5, 687), (105, .iload_n 3, 0, 0, 0), (106, .iaload, 0, 0, 0), (107, .iadd, 0, 0, 0), (108, .istore 4, 0, 0, 0), (110, .iconst 1, 0, 0, 0), (111, .aload_n 0, 0, 0, 0), (112, .getfield 22, 6, 6, 688), (115, .iload_n 2, 0, 0, 0), (116, .iaload, 0, 0, 0), (117, .aload_n 0, 0, 0, 0), (118, .getfield 22, 6, 6, 688), (121, .iload_n 3, 0, 0, 0), (122, .iaload, 0, 0, 0), (123, .if_icmp .le 12, 0, 0, 0), (126, .aload_n 0, 0, 0, 0), (127, .getfield 22, 6, 6, 688)],
  [(130, .iload_n 2, 0, 0, 0), (131, .iaload, 0, 0, 0), (132, .goto 9, 0, 0, 0), (135, .aload_n 0, 0, 0, 0), (136, .getfield 22, 6, 6, 688), (139, .iload_n 3, 0, 0, 0), (140, .iaload, 0, 0, 0), (141, .iadd, 0, 0, 0), (142, .istore 5, 0, 0, 0), (144, .iload 4, 0, 0, 0), (146, .bipush 60, 0, 0, 0), (148, .if_icmp .gt 10, 0, 0, 0), (151, .iload 5, 0, 0, 0), (153, .bipush 12, 0, 0, 0), (155, .if_icmp .le 5, 0, 0, 0), (158, .iconst (-1), 0, 0, 0), (159, .ireturn, 0, 0, 0)],
  [(160, .aload_n 0, 0, 0, 0), (161, .getfield 7, 6, 2, 684), (164, .aload_n 0, 0, 0, 0), (165, .getfield 187, 6, 1, 683), (168, .iload_n 1, 0, 0, 0), (169, .iastore, 0, 0, 0), (170, .aload_n 0, 0, 0, 0), (171, .getfield 13, 6, 3, 685), (174, .aload_n 0, 0, 0, 0), (175, .getfield 187, 6, 1, 683), (178, .iload_n 2, 0, 0, 0), (179, .iastore, 0, 0, 0), (180, .aload_n 0, 0, 0, 0), (181, .getfield 16, 6, 4, 686), (184, .aload_n 0, 0, 0, 0), (185, .getfield 187, 6, 1, 683), (188, .iload_n 1, 0, 0, 0), (189, .iconst 2, 0, 0, 0), (190, .if_icmp .lt 12, 0, 0, 0)],
  [(193, .iload_n 1, 0, 0, 0), (194, .iconst 4, 0, 0, 0), (195, .if_icmp .gt 7, 0, 0, 0), (198, .iload_n 3, 0, 0, 0), (199, .goto 4, 0, 0, 0), (202, .iconst (-1), 0, 0, 0), (203, .iastore, 0, 0, 0), (204, .aload_n 0, 0, 0, 0), (205, .getfield 19, 6, 5, 687), (208, .aload_n 0, 0, 0, 0), (209, .getfield 187, 6, 1, 683), (212, .iload 4, 0, 0, 0), (214, .iastore, 0, 0, 0), (215, .aload_n 0, 0, 0, 0), (216, .getfield 22, 6, 6, 688), (219, .aload_n 0, 0, 0, 0), (220, .getfield 187, 6, 1, 683), (223, .iload 5, 0, 0, 0)],
  [(225, .iastore, 0, 0, 0), (226, .aload_n 0, 0, 0, 0), (227, .dup, 0, 0, 0), (228, .getfield 187, 6, 1, 683), (231, .iconst 1, 0, 0, 0), (232, .iadd, 0, 0, 0), (233, .putfield 187, 6, 1, 683), (236, .aload_n 0, 0, 0, 0), (237, .getfield 187, 6, 1, 683), (240, .iconst 1, 0, 0, 0), (241, .isub, 0, 0, 0), (242, .ireturn, 0, 0, 0)]]
def am_c107 : List (List (Nat × am_I)) := [[(0, .aload_n 0, 0, 0, 0), (1, .iconst 0, 0, 0, 0), (2, .putfield 65, 6, 0, 682), (5, .aload_n 0, 0, 0, 0), (6, .getfield 187, 6, 1, 683), (9, .ireturn, 0, 0, 0)]]
def am_c108 : List (List (Nat × am_I)) := [[(0, .iload_n 1, 0, 0, 0), (1, .ifCond .lt 15, 0, 0, 0), (4, .iload_n 1, 0, 0, 0), (5, .aload_n 0, 0, 0, 0), (6, .getfield 187, 6, 1, 683), (9, .if_icmp .ge 7, 0, 0, 0), (12, .iconst 1, 0, 0, 0), (13, .goto 4, 0, 0, 0), (16, .iconst 0, 0, 0, 0), (17, .ireturn, 0, 0, 0)]]
def am_c109 : List (List (Nat × am_I)) := [[(0, .aload_n 0, 0, 0, 0), (1, .iconst 0, 0, 0, 0), (2, .putfield 65, 6, 0, 682), (5, .aload_n 0, 0, 0, 0), (6, .iload_n 1, 0, 0, 0), (7, .invokevirtual 193, 108, 2, 796), (10, .ifCond .ne 5, 0, 0, 0), (13, .iconst (-1), 0, 0, 0), (14, .ireturn, 0, 0, 0), (15, .iload_n 2, 0, 0, 0), (16, .tableswitch 71 0 4 #[36, 43, 50, 57, 64], 0, 36, 0)],
  [(52, .aload_n 0, 0, 0, 0), (53, .getfield 7, 6, 2, 684), (56, .iload_n 1, 0, 0, 0), (57, .iaload, 0, 0, 0), (58, .ireturn, 0, 0, 0), (59, .aload_n 0, 0, 0, 0), (60, .getfield 13, 6, 3, 685), (63, .iload_n 1, 0, 0, 0)],
  [(64, .iaload, 0, 0, 0), (65, .ireturn, 0, 0, 0), (66, .aload_n 0, 0, 0, 0), (67, .getfield 16, 6, 4, 686), (70, .iload_n 1, 0, 0, 0), (71, .iaload, 0, 0, 0), (72, .ireturn, 0, 0, 0), (73, .aload_n 0, 0, 0, 0), (74, .getfield 19, 6, 5, 687), (77, .iload_n 1, 0, 0, 0), (78, .iaload, 0, 0, 0), (79, .ireturn, 0, 0, 0), (80, .aload_n 0, 0, 0, 0), (81, .getfield 22, 6, 6, 688), (84, .iload_n 1, 0, 0, 0), (85, .iaload, 0, 0, 0), (86, .ireturn, 0, 0, 0), (87, .iconst (-1), 0, 0, 0), (88, .ireturn, 0, 0, 0)]]
def am_c110 : List (List (Nat × am_I)) := [[(0, .iconst 1, 0, 0, 0), (1, .istore_n 3, 0, 0, 0), (2, .aload_n 0, 0, 0, 0), (3, .getfield 38, 6, 15, 697), (6, .iconst 0, 0, 0, 0), (7, .iload_n 2, 0, 0, 0), (8, .iastore, 0, 0, 0), (9, .iconst 0, 0, 0, 0), (10, .istore 4, 0, 0, 0), (12, .iload_n 3, 0, 0, 0), (13, .ifCond .le 133, 0, 0, 0), (16, .iinc 3 (-1), 0, 0, 0), (19, .aload_n 0, 0, 0, 0), (20, .getfield 38, 6, 15, 697), (23, .iload_n 3, 0, 0, 0), (24, .iaload, 0, 0, 0), (25, .istore 5, 0, 0, 0), (27, .aload_n 0, 0, 0, 0), (28, .getfield 7, 6, 2, 684), (31, .iload 5, 0, 0, 0)],
  [(33, .iaload, 0, 0, 0), (34, .iconst 2, 0, 0, 0), (35, .if_icmp .lt 18, 0, 0, 0), (38, .aload_n 0, 0, 0, 0), (39, .getfield 7, 6, 2, 684), (42, .iload 5, 0, 0, 0), (44, .iaload, 0, 0, 0), (45, .iconst 4, 0, 0, 0), (46, .if_icmp .gt 7, 0, 0, 0), (49, .iconst 1, 0, 0, 0), (50, .goto 4, 0, 0, 0), (53, .iconst 0, 0, 0, 0), (54, .istore 6, 0, 0, 0), (56, .aload_n 0, 0, 0, 0), (57, .getfield 29, 6, 10, 692), (60, .bipush 60, 0, 0, 0), (62, .iload_n 1, 0, 0, 0), (63, .imul, 0, 0, 0)],
  [(64, .iload 4, 0, 0, 0), (66, .iadd, 0, 0, 0), (67, .iload 6, 0, 0, 0), (69, .ifCond .eq 13, 0, 0, 0), (72, .aload_n 0, 0, 0, 0), (73, .getfield 7, 6, 2, 684), (76, .iload 5, 0, 0, 0), (78, .iaload, 0, 0, 0), (79, .goto 21, 0, 0, 0), (82, .aload_n 0, 0, 0, 0), (83, .getfield 7, 6, 2, 684), (86, .iload 5, 0, 0, 0), (88, .iaload, 0, 0, 0), (89, .bipush 10, 0, 0, 0), (91, .aload_n 0, 0, 0, 0), (92, .getfield 13, 6, 3, 685), (95, .iload 5, 0, 0, 0)],
  [(97, .iaload, 0, 0, 0), (98, .imul, 0, 0, 0), (99, .iadd, 0, 0, 0), (100, .iastore, 0, 0, 0), (101, .iinc 4 1, 0, 0, 0), (104, .iload 6, 0, 0, 0), (106, .ifCond .ne 6, 0, 0, 0), (109, .goto (-97), 0, 0, 0), (112, .aload_n 0, 0, 0, 0), (113, .getfield 38, 6, 15, 697), (116, .iload_n 3, 0, 0, 0), (117, .aload_n 0, 0, 0, 0), (118, .getfield 16, 6, 4, 686), (121, .iload 5, 0, 0, 0), (123, .iaload, 0, 0, 0), (124, .iastore, 0, 0, 0), (125, .aload_n 0, 0, 0, 0), (126, .getfield 38, 6, 15, 697)],
  [(129, .iload_n 3, 0, 0, 0), (130, .iconst 1, 0, 0, 0), (131, .iadd, 0, 0, 0), (132, .aload_n 0, 0, 0, 0), (133, .getfield 13, 6, 3, 685), (136, .iload 5, 0, 0, 0), (138, .iaload, 0, 0, 0), (139, .iastore, 0, 0, 0), (140, .iinc 3 2, 0, 0, 0), (143, .goto (-131), 0, 0, 0), (146, .aload_n 0, 0, 0, 0), (147, .getfield 32, 6, 11, 693), (150, .iload_n 1, 0, 0, 0), (151, .iload 4, 0, 0, 0), (153, .iastore, 0, 0, 0), (154, .return_, 0, 0, 0)]]
def am_c111 : List (List (Nat × am_I)) := [[(0, .aload_n 0, 0, 0, 0), (1, .iconst 0, 0, 0, 0), (2, .putfield 65, 6, 0, 682), (5, .aload_n 0, 0, 0, 0), (6, .iload_n 1, 0, 0, 0), (7, .invokevirtual 193, 108, 2, 796), (10, .ifCond .eq 21, 0, 0, 0), (13, .aload_n 0, 0, 0, 0), (14, .iload_n 2, 0, 0, 0), (15, .invokevirtual 193, 108, 2, 796), (18, .ifCond .eq 13, 0, 0, 0), (21, .iload_n 3, 0, 0, 0), (22, .ifCond .lt 9, 0, 0, 0), (25, .iload_n 3, 0, 0, 0), (26, .bipush 30, 0, 0, 0), (28, .if_icmp .le 10, 0, 0, 0), (31, .aload_n 0, 0, 0, 0)],
  [(32, .iconst 1, 0, 0, 0), (33, .putfield 65, 6, 0, 682), (36, .iconst 0, 0, 0, 0), (37, .ireturn, 0, 0, 0), (38, .aload_n 0, 0, 0, 0), (39, .iload_n 3, 0, 0, 0), (40, .putfield 111, 6, 17, 699), (43, .aload_n 0, 0, 0, 0), (44, .iconst 0, 0, 0, 0), (45, .putfield 108, 6, 18, 700), (48, .aload_n 0, 0, 0, 0), (49, .iconst 0, 0, 0, 0), (50, .putfield 105, 6, 19, 701), (53, .iconst 1, 0, 0, 0), (54, .ireturn, 0, 0, 0)]]
def am_c112 : List (List (Nat × am_I)) := [[(0, .aload_n 0, 0, 0, 0), (1, .iconst 2, 0, 0, 0), (2, .iload_n 1, 0, 0, 0), (3, .invokevirtual 144, 85, 4, 831), (6, .aload_n 0, 0, 0, 0), (7, .iconst 1, 0, 0, 0), (8, .putfield 196, 6, 9, 691), (11, .aload_n 0, 0, 0, 0), (12, .getfield 32, 6, 11, 693), (15, .iload_n 1, 0, 0, 0), (16, .iaload, 0, 0, 0), (17, .ireturn, 0, 0, 0)]]
def am_c113 : List (List (Nat × am_I)) := [[(0, .aload_n 0, 0, 0, 0), (1, .iload_n 1, 0, 0, 0), (2, .iload_n 1, 0, 0, 0), (3, .iload_n 2, 0, 0, 0), (4, .invokevirtual 199, 111, 6, 804), (7, .ifCond .ne 5, 0, 0, 0), (10, .iconst 0, 0, 0, 0), (11, .ireturn, 0, 0, 0), (12, .aload_n 0, 0, 0, 0), (13, .bipush 63, 0, 0, 0), (15, .iload_n 1, 0, 0, 0), (16, .invokevirtual 203, 110, 4, 808), (19, .aload_n 0, 0, 0, 0), (20, .bipush 63, 0, 0, 0), (22, .invokevirtual 206, 105, 2, 812), (25, .aload_n 0, 0, 0, 0), (26, .getfield 105, 6, 19, 701), (29, .ifCond .ne 12, 0, 0, 0)],
  [(32, .aload_n 0, 0, 0, 0), (33, .bipush 63, 0, 0, 0), (35, .invokevirtual 209, 112, 2, 917), (38, .goto 11, 0, 0, 0), (41, .aload_n 0, 0, 0, 0), (42, .aload_n 0, 0, 0, 0), (43, .getfield 105, 6, 19, 701), (46, .invokevirtual 212, 78, 2, 921), (49, .ireturn, 0, 0, 0)]]
def am_c114 : List (List (Nat × am_I)) := [[(0, .aload_n 0, 0, 0, 0), (1, .iload_n 1, 0, 0, 0), (2, .iload_n 1, 0, 0, 0), (3, .iload_n 2, 0, 0, 0), (4, .invokevirtual 199, 111, 6, 804), (7, .ifCond .ne 5, 0, 0, 0), (10, .iconst 0, 0, 0, 0), (11, .ireturn, 0, 0, 0), (12, .aload_n 0, 0, 0, 0), (13, .bipush 63, 0, 0, 0), (15, .iload_n 1, 0, 0, 0), (16, .invokevirtual 203, 110, 4, 808), (19, .aload_n 0, 0, 0, 0), (20, .bipush 63, 0, 0, 0), (22, .invokevirtual 134, 95, 2, 865), (25, .aload_n 0, 0, 0, 0), (26, .getfield 105, 6, 19, 701), (29, .ifCond .ne 12, 0, 0, 0)],
  [(32, .aload_n 0, 0, 0, 0), (33, .bipush 63, 0, 0, 0), (35, .invokevirtual 209, 112, 2, 917), (38, .goto 8, 0, 0, 0), (41, .aload_n 0, 0, 0, 0), (42, .iconst 2, 0, 0, 0), (43, .invokevirtual 212, 78, 2, 921), (46, .ireturn, 0, 0, 0)]]
def am_c115 : List (List (Nat × am_I)) := [[(0, .aload_n 0, 0, 0, 0), (1, .iload_n 1, 0, 0, 0), (2, .iload_n 2, 0, 0, 0), (3, .iload_n 3, 0, 0, 0), (4, .invokevirtual 199, 111, 6, 804), (7, .ifCond .ne 5, 0, 0, 0), (10, .iconst 0, 0, 0, 0), (11, .ireturn, 0, 0, 0), (12, .aload_n 0, 0, 0, 0), (13, .iconst 0, 0, 0, 0), (14, .iload_n 1, 0, 0, 0), (15, .invokevirtual 203, 110, 4, 808), (18, .aload_n 0, 0, 0, 0), (19, .iconst 1, 0, 0, 0), (20, .iload_n 2, 0, 0, 0), (21, .invokevirtual 203, 110, 4, 808), (24, .aload_n 0, 0, 0, 0), (25, .invokevirtual 174, 98, 0, 905), (28, .istore 4, 0, 0, 0), (30, .aload_n 0, 0, 0, 0), (31, .getfield 105, 6, 19, 701)],
  [(34, .ifCond .eq 8, 0, 0, 0), (37, .aload_n 0, 0, 0, 0), (38, .iconst 2, 0, 0, 0), (39, .putfield 65, 6, 0, 682), (42, .iload 4, 0, 0, 0), (44, .ifCond .eq 14, 0, 0, 0), (47, .aload_n 0, 0, 0, 0), (48, .getfield 105, 6, 19, 701), (51, .ifCond .ne 7, 0, 0, 0), (54, .iconst 1, 0, 0, 0), (55, .goto 4, 0, 0, 0), (58, .iconst 0, 0, 0, 0), (59, .ireturn, 0, 0, 0)]]
def am_c116 : List (List (Nat × am_I)) := [[(0, .aload_n 0, 0, 0, 0), (1, .iload_n 1, 0, 0, 0), (2, .iload_n 2, 0, 0, 0), (3, .iload_n 3, 0, 0, 0), (4, .invokevirtual 199, 111, 6, 804), (7, .ifCond .ne 5, 0, 0, 0), (10, .iconst 0, 0, 0, 0), (11, .ireturn, 0, 0, 0), (12, .aload_n 0, 0, 0, 0), (13, .bipush 63, 0, 0, 0), (15, .iload_n 2, 0, 0, 0), (16, .invokevirtual 203, 110, 4, 808), (19, .aload_n 0, 0, 0, 0), (20, .bipush 63, 0, 0, 0), (22, .invokevirtual 206, 105, 2, 812), (25, .aload_n 0, 0, 0, 0), (26, .getfield 105, 6, 19, 701), (29, .ifCond .ne 10, 0, 0, 0)],
  [(32, .aload_n 0, 0, 0, 0), (33, .bipush 63, 0, 0, 0), (35, .invokevirtual 171, 100, 2, 897), (38, .pop, 0, 0, 0), (39, .aload_n 0, 0, 0, 0), (40, .getfield 105, 6, 19, 701), (43, .ifCond .ne 16, 0, 0, 0), (46, .aload_n 0, 0, 0, 0), (47, .bipush 63, 0, 0, 0), (49, .iload_n 1, 0, 0, 0), (50, .invokevirtual 203, 110, 4, 808), (53, .aload_n 0, 0, 0, 0), (54, .bipush 63, 0, 0, 0), (56, .invokevirtual 206, 105, 2, 812), (59, .iconst 0, 0, 0, 0), (60, .istore 4, 0, 0, 0), (62, .aload_n 0, 0, 0, 0), (63, .getfield 105, 6, 19, 701)],
  [(66, .ifCond .ne 22, 0, 0, 0), (69, .aload_n 0, 0, 0, 0), (70, .iconst 0, 0, 0, 0), (71, .bipush 63, 0, 0, 0), (73, .invokevirtual 144, 85, 4, 831), (76, .aload_n 0, 0, 0, 0), (77, .iconst 1, 0, 0, 0), (78, .iload_n 2, 0, 0, 0), (79, .invokevirtual 203, 110, 4, 808), (82, .aload_n 0, 0, 0, 0), (83, .invokevirtual 174, 98, 0, 905), (86, .istore 4, 0, 0, 0), (88, .aload_n 0, 0, 0, 0), (89, .aload_n 0, 0, 0, 0), (90, .getfield 105, 6, 19, 701), (93, .putfield 65, 6, 0, 682)],
  [(96, .iload 4, 0, 0, 0), (98, .ifCond .eq 14, 0, 0, 0), (101, .aload_n 0, 0, 0, 0), (102, .getfield 105, 6, 19, 701), (105, .ifCond .ne 7, 0, 0, 0), (108, .iconst 1, 0, 0, 0), (109, .goto 4, 0, 0, 0), (112, .iconst 0, 0, 0, 0), (113, .ireturn, 0, 0, 0)]]
def am_c117 : List (List (Nat × am_I)) := [[(0, .aload_n 0, 0, 0, 0), (1, .iconst 0, 0, 0, 0), (2, .putfield 65, 6, 0, 682), (5, .aload_n 0, 0, 0, 0), (6, .getfield 190, 6, 7, 689), (9, .bipush 16, 0, 0, 0), (11, .if_icmp .ne 5, 0, 0, 0), (14, .iconst (-1), 0, 0, 0), (15, .ireturn, 0, 0, 0), (16, .aload_n 0, 0, 0, 0), (17, .iload_n 1, 0, 0, 0), (18, .iload_n 1, 0, 0, 0), (19, .iload_n 2, 0, 0, 0), (20, .invokevirtual 199, 111, 6, 804), (23, .ifCond .ne 5, 0, 0, 0), (26, .iconst 0, 0, 0, 0), (27, .ireturn, 0, 0, 0), (28, .aload_n 0, 0, 0, 0), (29, .bipush 63, 0, 0, 0), (31, .iload_n 1, 0, 0, 0)],
  [(32, .invokevirtual 203, 110, 4, 808), (35, .aload_n 0, 0, 0, 0), (36, .bipush 63, 0, 0, 0), (38, .invokevirtual 206, 105, 2, 812), (41, .aload_n 0, 0, 0, 0), (42, .getfield 105, 6, 19, 701), (45, .ifCond .ne 10, 0, 0, 0), (48, .aload_n 0, 0, 0, 0), (49, .bipush 63, 0, 0, 0), (51, .invokevirtual 171, 100, 2, 897), (54, .pop, 0, 0, 0), (55, .aload_n 0, 0, 0, 0), (56, .getfield 105, 6, 19, 701), (59, .ifCond .eq 12, 0, 0, 0), (62, .aload_n 0, 0, 0, 0), (63, .aload_n 0, 0, 0, 0)],
  [(64, .getfield 105, 6, 19, 701), (67, .invokevirtual 212, 78, 2, 921), (70, .ireturn, 0, 0, 0), (71, .aload_n 0, 0, 0, 0), (72, .bipush 64, 0, 0, 0), (74, .aload_n 0, 0, 0, 0), (75, .getfield 190, 6, 7, 689), (78, .iadd, 0, 0, 0), (79, .iload_n 1, 0, 0, 0), (80, .invokevirtual 203, 110, 4, 808), (83, .aload_n 0, 0, 0, 0), (84, .getfield 25, 6, 8, 690), (87, .aload_n 0, 0, 0, 0), (88, .getfield 190, 6, 7, 689), (91, .iconst 0, 0, 0, 0), (92, .bastore, 0, 0, 0), (93, .aload_n 0, 0, 0, 0), (94, .dup, 0, 0, 0), (95, .getfield 190, 6, 7, 689)],
  [(98, .iconst 1, 0, 0, 0), (99, .iadd, 0, 0, 0), (100, .putfield 190, 6, 7, 689), (103, .aload_n 0, 0, 0, 0), (104, .getfield 190, 6, 7, 689), (107, .iconst 1, 0, 0, 0), (108, .isub, 0, 0, 0), (109, .ireturn, 0, 0, 0)]]
def am_c118 : List (List (Nat × am_I)) := [[(0, .aload_n 0, 0, 0, 0), (1, .iconst 0, 0, 0, 0), (2, .putfield 65, 6, 0, 682), (5, .aload_n 0, 0, 0, 0), (6, .getfield 190, 6, 7, 689), (9, .bipush 16, 0, 0, 0), (11, .if_icmp .ne 5, 0, 0, 0), (14, .iconst (-1), 0, 0, 0), (15, .ireturn, 0, 0, 0), (16, .aload_n 0, 0, 0, 0), (17, .iload_n 1, 0, 0, 0), (18, .iload_n 1, 0, 0, 0), (19, .iload_n 2, 0, 0, 0), (20, .invokevirtual 199, 111, 6, 804), (23, .ifCond .ne 5, 0, 0, 0), (26, .iconst 0, 0, 0, 0), (27, .ireturn, 0, 0, 0), (28, .aload_n 0, 0, 0, 0), (29, .bipush 63, 0, 0, 0), (31, .iload_n 1, 0, 0, 0)],
  [(32, .invokevirtual 203, 110, 4, 808), (35, .aload_n 0, 0, 0, 0), (36, .bipush 63, 0, 0, 0), (38, .invokevirtual 206, 105, 2, 812), (41, .aload_n 0, 0, 0, 0), (42, .getfield 105, 6, 19, 701), (45, .ifCond .eq 12, 0, 0, 0), (48, .aload_n 0, 0, 0, 0), (49, .aload_n 0, 0, 0, 0), (50, .getfield 105, 6, 19, 701), (53, .invokevirtual 212, 78, 2, 921), (56, .ireturn, 0, 0, 0), (57, .iconst 0, 0, 0, 0), (58, .istore_n 3, 0, 0, 0), (59, .iload_n 3, 0, 0, 0), (60, .aload_n 0, 0, 0, 0), (61, .getfield 32, 6, 11, 693)],
  [(64, .bipush 63, 0, 0, 0), (66, .iaload, 0, 0, 0), (67, .if_icmp .ge 37, 0, 0, 0), (70, .aload_n 0, 0, 0, 0), (71, .bipush 63, 0, 0, 0), (73, .iload_n 3, 0, 0, 0), (74, .invokevirtual 69, 82, 4, 824), (77, .invokestatic 80, 79, 2, 828), (80, .iconst 1, 0, 0, 0), (81, .if_icmp .ne 17, 0, 0, 0), (84, .aload_n 0, 0, 0, 0), (85, .bipush 63, 0, 0, 0), (87, .iload_n 3, 0, 0, 0), (88, .invokevirtual 69, 82, 4, 824), (91, .bipush 100, 0, 0, 0), (93, .if_icmp .le 5, 0, 0, 0)],
  [(96, .iconst (-1), 0, 0, 0), (97, .ireturn, 0, 0, 0), (98, .iinc 3 1, 0, 0, 0), (101, .goto (-42), 0, 0, 0), (104, .aload_n 0, 0, 0, 0), (105, .bipush 64, 0, 0, 0), (107, .aload_n 0, 0, 0, 0), (108, .getfield 190, 6, 7, 689), (111, .iadd, 0, 0, 0), (112, .bipush 63, 0, 0, 0), (114, .invokevirtual 144, 85, 4, 831), (117, .aload_n 0, 0, 0, 0), (118, .bipush 80, 0, 0, 0), (120, .aload_n 0, 0, 0, 0), (121, .getfield 190, 6, 7, 689), (124, .iadd, 0, 0, 0), (125, .iload_n 1, 0, 0, 0), (126, .invokevirtual 203, 110, 4, 808)],
  [(129, .aload_n 0, 0, 0, 0), (130, .getfield 25, 6, 8, 690), (133, .aload_n 0, 0, 0, 0), (134, .getfield 190, 6, 7, 689), (137, .iconst 1, 0, 0, 0), (138, .bastore, 0, 0, 0), (139, .aload_n 0, 0, 0, 0), (140, .dup, 0, 0, 0), (141, .getfield 190, 6, 7, 689), (144, .iconst 1, 0, 0, 0), (145, .iadd, 0, 0, 0), (146, .putfield 190, 6, 7, 689), (149, .aload_n 0, 0, 0, 0), (150, .getfield 190, 6, 7, 689), (153, .iconst 1, 0, 0, 0), (154, .isub, 0, 0, 0), (155, .ireturn, 0, 0, 0)]]
def am_c119 : List (List (Nat × am_I)) := [[(0, .aload_n 0, 0, 0, 0), (1, .iconst 0, 0, 0, 0), (2, .putfield 65, 6, 0, 682), (5, .aload_n 0, 0, 0, 0), (6, .getfield 190, 6, 7, 689), (9, .ireturn, 0, 0, 0)]]
def am_c120 : List (List (Nat × am_I)) := [[(0, .aload_n 0, 0, 0, 0), (1, .iconst 0, 0, 0, 0), (2, .putfield 65, 6, 0, 682), (5, .iload_n 1, 0, 0, 0), (6, .ifCond .lt 24, 0, 0, 0), (9, .iload_n 1, 0, 0, 0), (10, .aload_n 0, 0, 0, 0), (11, .getfield 190, 6, 7, 689), (14, .if_icmp .ge 16, 0, 0, 0), (17, .aload_n 0, 0, 0, 0), (18, .getfield 25, 6, 8, 690), (21, .iload_n 1, 0, 0, 0), (22, .baload, 0, 0, 0), (23, .ifCond .eq 7, 0, 0, 0), (26, .iconst 1, 0, 0, 0), (27, .goto 4, 0, 0, 0), (30, .iconst 0, 0, 0, 0), (31, .ireturn, 0, 0, 0)]]
def am_c121 : List (List (Nat × am_I)) := [[(0, .aload_n 0, 0, 0, 0), (1, .iconst 0, 0, 0, 0), (2, .putfield 65, 6, 0, 682), (5, .iload_n 1, 0, 0, 0), (6, .ifCond .lt 11, 0, 0, 0), (9, .iload_n 1, 0, 0, 0), (10, .aload_n 0, 0, 0, 0), (11, .getfield 190, 6, 7, 689), (14, .if_icmp .lt 7, 0, 0, 0), (17, .iconst (-1), 0, 0, 0), (18, .goto 11, 0, 0, 0), (21, .aload_n 0, 0, 0, 0), (22, .bipush 64, 0, 0, 0), (24, .iload_n 1, 0, 0, 0), (25, .iadd, 0, 0, 0), (26, .invokevirtual 209, 112, 2, 917), (29, .ireturn, 0, 0, 0)]]
def am_c122 : List (List (Nat × am_I)) := [[(0, .aload_n 0, 0, 0, 0), (1, .iconst 0, 0, 0, 0), (2, .putfield 65, 6, 0, 682), (5, .aload_n 0, 0, 0, 0), (6, .getfield 196, 6, 9, 691), (9, .ifCond .eq 17, 0, 0, 0), (12, .iload_n 1, 0, 0, 0), (13, .ifCond .lt 13, 0, 0, 0), (16, .iload_n 1, 0, 0, 0), (17, .aload_n 0, 0, 0, 0), (18, .getfield 32, 6, 11, 693), (21, .iconst 2, 0, 0, 0), (22, .iaload, 0, 0, 0), (23, .if_icmp .lt 7, 0, 0, 0), (26, .iconst (-1), 0, 0, 0), (27, .goto 9, 0, 0, 0), (30, .aload_n 0, 0, 0, 0), (31, .iconst 2, 0, 0, 0)],
  [(32, .iload_n 1, 0, 0, 0), (33, .invokevirtual 69, 82, 4, 824), (36, .ireturn, 0, 0, 0)]]
def am_c123 : List (List (Nat × am_I)) := [[(0, .iconst 0, 0, 0, 0), (1, .istore 4, 0, 0, 0), (3, .iload 4, 0, 0, 0), (5, .aload_n 0, 0, 0, 0), (6, .getfield 187, 6, 1, 683), (9, .if_icmp .ge 45, 0, 0, 0), (12, .aload_n 0, 0, 0, 0), (13, .getfield 7, 6, 2, 684), (16, .iload 4, 0, 0, 0), (18, .iaload, 0, 0, 0), (19, .iload_n 1, 0, 0, 0), (20, .if_icmp .ne 28, 0, 0, 0), (23, .aload_n 0, 0, 0, 0), (24, .getfield 13, 6, 3, 685), (27, .iload 4, 0, 0, 0), (29, .iaload, 0, 0, 0), (30, .iload_n 2, 0, 0, 0), (31, .if_icmp .ne 17, 0, 0, 0)],
  [(34, .aload_n 0, 0, 0, 0), (35, .getfield 16, 6, 4, 686), (38, .iload 4, 0, 0, 0), (40, .iaload, 0, 0, 0), (41, .iload_n 3, 0, 0, 0), (42, .if_icmp .ne 6, 0, 0, 0), (45, .iload 4, 0, 0, 0), (47, .ireturn, 0, 0, 0), (48, .iinc 4 1, 0, 0, 0), (51, .goto (-48), 0, 0, 0), (54, .aload_n 0, 0, 0, 0), (55, .iload_n 1, 0, 0, 0), (56, .iload_n 2, 0, 0, 0), (57, .iload_n 3, 0, 0, 0), (58, .invokevirtual 215, 106, 6, 969), (61, .ireturn, 0, 0, 0)]]
def am_c124 : List (List (Nat × am_I)) := [[(0, .aload_n 0, 0, 0, 0), (1, .iconst 0, 0, 0, 0), (2, .putfield 65, 6, 0, 682), (5, .aload_n 0, 0, 0, 0), (6, .getfield 196, 6, 9, 691), (9, .ifCond .ne 5, 0, 0, 0), (12, .iconst (-1), 0, 0, 0), (13, .ireturn, 0, 0, 0), (14, .aload_n 0, 0, 0, 0), (15, .getfield 187, 6, 1, 683), (18, .istore_n 1, 0, 0, 0), (19, .iconst 0, 0, 0, 0), (20, .istore_n 2, 0, 0, 0), (21, .iconst (-1), 0, 0, 0), (22, .istore_n 3, 0, 0, 0), (23, .iconst 0, 0, 0, 0), (24, .istore 4, 0, 0, 0), (26, .iload 4, 0, 0, 0), (28, .aload_n 0, 0, 0, 0), (29, .getfield 32, 6, 11, 693)],
  [(32, .iconst 2, 0, 0, 0), (33, .iaload, 0, 0, 0), (34, .if_icmp .ge 130, 0, 0, 0), (37, .aload_n 0, 0, 0, 0), (38, .iconst 2, 0, 0, 0), (39, .iload 4, 0, 0, 0), (41, .invokevirtual 69, 82, 4, 824), (44, .istore 5, 0, 0, 0), (46, .iload 5, 0, 0, 0), (48, .invokestatic 73, 80, 2, 839), (51, .ifCond .eq 24, 0, 0, 0), (54, .aload_n 0, 0, 0, 0), (55, .getfield 38, 6, 15, 697), (58, .iload_n 2, 0, 0, 0), (59, .iload 5, 0, 0, 0), (61, .iastore, 0, 0, 0), (62, .aload_n 0, 0, 0, 0), (63, .getfield 41, 6, 16, 698)],
  [(66, .iload_n 2, 0, 0, 0), (67, .iconst (-1), 0, 0, 0), (68, .iastore, 0, 0, 0), (69, .iinc 2 1, 0, 0, 0), (72, .goto 86, 0, 0, 0), (75, .aload_n 0, 0, 0, 0), (76, .iload 5, 0, 0, 0), (78, .invokestatic 80, 79, 2, 828), (81, .iload 5, 0, 0, 0), (83, .bipush 10, 0, 0, 0), (85, .idiv, 0, 0, 0), (86, .iconst (-1), 0, 0, 0), (87, .invokevirtual 219, 123, 6, 965), (90, .istore_n 3, 0, 0, 0), (91, .iload_n 3, 0, 0, 0), (92, .ifCond .lt 42, 0, 0, 0), (95, .iload_n 2, 0, 0, 0)],
  [(96, .ifCond .le 38, 0, 0, 0), (99, .aload_n 0, 0, 0, 0), (100, .getfield 41, 6, 16, 698), (103, .iload_n 2, 0, 0, 0), (104, .iconst 1, 0, 0, 0), (105, .isub, 0, 0, 0), (106, .iaload, 0, 0, 0), (107, .ifCond .lt 27, 0, 0, 0), (110, .iinc 2 (-1), 0, 0, 0), (113, .aload_n 0, 0, 0, 0), (114, .aload_n 0, 0, 0, 0), (115, .getfield 38, 6, 15, 697), (118, .iload_n 2, 0, 0, 0), (119, .iaload, 0, 0, 0), (120, .aload_n 0, 0, 0, 0), (121, .getfield 41, 6, 16, 698), (124, .iload_n 2, 0, 0, 0), (125, .iaload, 0, 0, 0), (126, .iload_n 3, 0, 0, 0), (127, .invokevirtual 219, 123, 6, 965)],
  [(130, .istore_n 3, 0, 0, 0), (131, .goto (-40), 0, 0, 0), (134, .iload_n 3, 0, 0, 0), (135, .ifCond .ge 10, 0, 0, 0), (138, .aload_n 0, 0, 0, 0), (139, .iload_n 1, 0, 0, 0), (140, .putfield 187, 6, 1, 683), (143, .iconst (-1), 0, 0, 0), (144, .ireturn, 0, 0, 0), (145, .iload_n 2, 0, 0, 0), (146, .ifCond .le 12, 0, 0, 0), (149, .aload_n 0, 0, 0, 0), (150, .getfield 41, 6, 16, 698), (153, .iload_n 2, 0, 0, 0), (154, .iconst 1, 0, 0, 0), (155, .isub, 0, 0, 0), (156, .iload_n 3, 0, 0, 0), (157, .iastore, 0, 0, 0), (158, .iinc 4 1, 0, 0, 0)],
  [(161, .goto (-135), 0, 0, 0), (164, .iload_n 3, 0, 0, 0), (165, .ireturn, 0, 0, 0)]]
def am_c125 : List (List (Nat × am_I)) := [[(0, .aload_n 0, 0, 0, 0), (1, .iconst 0, 0, 0, 0), (2, .putfield 65, 6, 0, 682), (5, .aload_n 0, 0, 0, 0), (6, .getfield 108, 6, 18, 700), (9, .ireturn, 0, 0, 0)]]
def am_c126 : List (List (Nat × am_I)) := [[(0, .aload_n 3, 0, 0, 0), (1, .iconst 0, 0, 0, 0), (2, .aload_n 0, 0, 0, 0), (3, .iload_n 1, 0, 0, 0), (4, .iload_n 2, 0, 0, 0), (5, .invokevirtual 7, 59, 4, 461), (8, .i2l, 0, 0, 0), (9, .lastore, 0, 0, 0), (10, .goto 15, 0, 0, 0), (13, .astore 4, 0, 0, 0), (15, .iconst 1, 0, 0, 0), (16, .ireturn, 0, 0, 0), (17, .astore 4, 0, 0, 0), (19, .iconst 2, 0, 0, 0), (20, .ireturn, 0, 0, 0), (21, .astore 4, 0, 0, 0), (23, .iconst 3, 0, 0, 0), (24, .ireturn, 0, 0, 0), (25, .iconst 0, 0, 0, 0), (26, .ireturn, 0, 0, 0)]]
def am_c127 : List (List (Nat × am_I)) := [[(0, .aload_n 3, 0, 0, 0), (1, .iconst 0, 0, 0, 0), (2, .aload_n 0, 0, 0, 0), (3, .iload_n 1, 0, 0, 0), (4, .iload_n 2, 0, 0, 0), (5, .invokevirtual 19, 60, 4, 621), (8, .i2l, 0, 0, 0), (9, .lastore, 0, 0, 0), (10, .goto 11, 0, 0, 0), (13, .astore 4, 0, 0, 0), (15, .iconst 1, 0, 0, 0), (16, .ireturn, 0, 0, 0), (17, .astore 4, 0, 0, 0), (19, .iconst 2, 0, 0, 0), (20, .ireturn, 0, 0, 0), (21, .iconst 0, 0, 0, 0), (22, .ireturn, 0, 0, 0)]]
def am_c128 : List (List (Nat × am_I)) := [[(0, .aload 4, 0, 0, 0), (2, .iconst 0, 0, 0, 0), (3, .aload_n 0, 0, 0, 0), (4, .iload_n 1, 0, 0, 0), (5, .iload_n 2, 0, 0, 0), (6, .iload_n 3, 0, 0, 0), (7, .invokevirtual 22, 61, 6, 629), (10, .ifCond .eq 7, 0, 0, 0), (13, .lconst 1, 0, 0, 0), (14, .goto 4, 0, 0, 0), (17, .lconst 0, 0, 0, 0), (18, .lastore, 0, 0, 0), (19, .goto 11, 0, 0, 0), (22, .astore 5, 0, 0, 0), (24, .iconst 1, 0, 0, 0), (25, .ireturn, 0, 0, 0), (26, .astore 5, 0, 0, 0), (28, .iconst 2, 0, 0, 0), (29, .ireturn, 0, 0, 0), (30, .iconst 0, 0, 0, 0), (31, .ireturn, 0, 0, 0)]]
def am_c129 : List (List (Nat × am_I)) := [[(0, .aload 4, 0, 0, 0), (2, .iconst 0, 0, 0, 0), (3, .aload_n 0, 0, 0, 0), (4, .iload_n 1, 0, 0, 0), (5, .iload_n 2, 0, 0, 0), (6, .iload_n 3, 0, 0, 0), (7, .invokevirtual 26, 62, 6, 637), (10, .ifCond .eq 7, 0, 0, 0), (13, .lconst 1, 0, 0, 0), (14, .goto 4, 0, 0, 0), (17, .lconst 0, 0, 0, 0), (18, .lastore, 0, 0, 0), (19, .goto 15, 0, 0, 0), (22, .astore 5, 0, 0, 0), (24, .iconst 1, 0, 0, 0), (25, .ireturn, 0, 0, 0), (26, .astore 5, 0, 0, 0), (28, .iconst 2, 0, 0, 0), (29, .ireturn, 0, 0, 0), (30, .astore 5, 0, 0, 0)],
  [(32, .iconst 3, 0, 0, 0), (33, .ireturn, 0, 0, 0), (34, .iconst 0, 0, 0, 0), (35, .ireturn, 0, 0, 0)]]
def am_c130 : List (List (Nat × am_I)) := [[(0, .aload_n 3, 0, 0, 0), (1, .iconst 0, 0, 0, 0), (2, .aload_n 0, 0, 0, 0), (3, .iload_n 1, 0, 0, 0), (4, .iload_n 2, 0, 0, 0), (5, .invokevirtual 29, 63, 4, 645), (8, .i2l, 0, 0, 0), (9, .lastore, 0, 0, 0), (10, .goto 15, 0, 0, 0), (13, .astore 4, 0, 0, 0), (15, .iconst 1, 0, 0, 0), (16, .ireturn, 0, 0, 0), (17, .astore 4, 0, 0, 0), (19, .iconst 2, 0, 0, 0), (20, .ireturn, 0, 0, 0), (21, .astore 4, 0, 0, 0), (23, .iconst 3, 0, 0, 0), (24, .ireturn, 0, 0, 0), (25, .iconst 0, 0, 0, 0), (26, .ireturn, 0, 0, 0)]]
def am_c131 : List (List (Nat × am_I)) := [[(0, .aload_n 3, 0, 0, 0), (1, .iconst 0, 0, 0, 0), (2, .aload_n 0, 0, 0, 0), (3, .iload_n 1, 0, 0, 0), (4, .iload_n 2, 0, 0, 0), (5, .invokevirtual 32, 64, 4, 664), (8, .i2l, 0, 0, 0), (9, .lastore, 0, 0, 0), (10, .goto 15, 0, 0, 0), (13, .astore 4, 0, 0, 0), (15, .iconst 1, 0, 0, 0), (16, .ireturn, 0, 0, 0), (17, .astore 4, 0, 0, 0), (19, .iconst 2, 0, 0, 0), (20, .ireturn, 0, 0, 0), (21, .astore 4, 0, 0, 0), (23, .iconst 3, 0, 0, 0), (24, .ireturn, 0, 0, 0), (25, .iconst 0, 0, 0, 0), (26, .ireturn, 0, 0, 0)]]
def am_c132 : List (List (Nat × am_I)) := [[(0, .new 8, 5, 0, 67), (3, .dup, 0, 0, 0), (4, .invokespecial 35, 55, 0, 69), (7, .astore_n 1, 0, 0, 0), (8, .new 36, 6, 0, 676), (11, .dup, 0, 0, 0), (12, .invokespecial 38, 76, 0, 678), (15, .astore_n 2, 0, 0, 0), (16, .iconst 1, 0, 0, 0), (17, .newarray .long, 2, 0, 0), (19, .astore_n 3, 0, 0, 0), (20, .iconst 0, 0, 0, 0), (21, .istore 4, 0, 0, 0), (23, .iload 4, 0, 0, 0), (25, .aload_n 0, 0, 0, 0), (26, .arraylength, 0, 0, 0), (27, .iconst 4, 0, 0, 0), (28, .isub, 0, 0, 0), (29, .if_icmp .gt 748, 0, 0, 0)],
  [(32, .aload_n 0, 0, 0, 0), (33, .iload 4, 0, 0, 0), (35, .iaload, 0, 0, 0), (36, .bipush 15, 0, 0, 0), (38, .iand, 0, 0, 0), (39, .tableswitch 732 0 14 #[73, 122, 135, 172, 240, 308, 395, 482, 550, 618, 631, 656, 681, 706, 719], 0, 73, 0)],
  [],
  [(112, .aload_n 1, 0, 0, 0), (113, .aload_n 0, 0, 0, 0), (114, .iload 4, 0, 0, 0), (116, .iconst 1, 0, 0, 0), (117, .iadd, 0, 0, 0), (118, .iaload, 0, 0, 0), (119, .aload_n 0, 0, 0, 0), (120, .iload 4, 0, 0, 0), (122, .iconst 2, 0, 0, 0), (123, .iadd, 0, 0, 0), (124, .iaload, 0, 0, 0), (125, .aload_n 0, 0, 0, 0), (126, .iload 4, 0, 0, 0)],
  [(128, .iconst 3, 0, 0, 0), (129, .iadd, 0, 0, 0), (130, .iaload, 0, 0, 0), (131, .invokevirtual 39, 56, 6, 208), (134, .aload_n 2, 0, 0, 0), (135, .aload_n 0, 0, 0, 0), (136, .iload 4, 0, 0, 0), (138, .iconst 1, 0, 0, 0), (139, .iadd, 0, 0, 0), (140, .iaload, 0, 0, 0), (141, .aload_n 0, 0, 0, 0), (142, .iload 4, 0, 0, 0), (144, .iconst 2, 0, 0, 0), (145, .iadd, 0, 0, 0), (146, .iaload, 0, 0, 0), (147, .aload_n 0, 0, 0, 0), (148, .iload 4, 0, 0, 0), (150, .iconst 3, 0, 0, 0), (151, .iadd, 0, 0, 0), (152, .iaload, 0, 0, 0), (153, .invokevirtual 43, 106, 6, 784), (156, .if_icmp .eq 615, 0, 0, 0), (159, .iconst 0, 0, 0, 0)],
  [(160, .ireturn, 0, 0, 0), (161, .aload_n 1, 0, 0, 0), (162, .invokevirtual 44, 57, 0, 250), (165, .aload_n 2, 0, 0, 0), (166, .invokevirtual 48, 107, 0, 788), (169, .if_icmp .eq 602, 0, 0, 0), (172, .iconst 0, 0, 0, 0), (173, .ireturn, 0, 0, 0), (174, .aload_n 1, 0, 0, 0), (175, .aload_n 0, 0, 0, 0), (176, .iload 4, 0, 0, 0), (178, .iconst 1, 0, 0, 0), (179, .iadd, 0, 0, 0), (180, .iaload, 0, 0, 0), (181, .aload_n 0, 0, 0, 0), (182, .iload 4, 0, 0, 0), (184, .iconst 2, 0, 0, 0), (185, .iadd, 0, 0, 0), (186, .iaload, 0, 0, 0), (187, .invokevirtual 49, 58, 4, 258), (190, .aload_n 2, 0, 0, 0), (191, .aload_n 0, 0, 0, 0)],
  [(192, .iload 4, 0, 0, 0), (194, .iconst 1, 0, 0, 0), (195, .iadd, 0, 0, 0), (196, .iaload, 0, 0, 0), (197, .aload_n 0, 0, 0, 0), (198, .iload 4, 0, 0, 0), (200, .iconst 2, 0, 0, 0), (201, .iadd, 0, 0, 0), (202, .iaload, 0, 0, 0), (203, .invokevirtual 52, 109, 4, 792), (206, .if_icmp .eq 565, 0, 0, 0), (209, .iconst 0, 0, 0, 0), (210, .ireturn, 0, 0, 0), (211, .aload_n 1, 0, 0, 0), (212, .aload_n 0, 0, 0, 0), (213, .iload 4, 0, 0, 0), (215, .iconst 1, 0, 0, 0), (216, .iadd, 0, 0, 0), (217, .iaload, 0, 0, 0), (218, .aload_n 0, 0, 0, 0), (219, .iload 4, 0, 0, 0), (221, .iconst 2, 0, 0, 0), (222, .iadd, 0, 0, 0), (223, .iaload, 0, 0, 0)],
  [(224, .aload_n 3, 0, 0, 0), (225, .invokestatic 53, 126, 8, 455), (228, .istore 5, 0, 0, 0), (230, .aload_n 2, 0, 0, 0), (231, .aload_n 0, 0, 0, 0), (232, .iload 4, 0, 0, 0), (234, .iconst 1, 0, 0, 0), (235, .iadd, 0, 0, 0), (236, .iaload, 0, 0, 0), (237, .aload_n 0, 0, 0, 0), (238, .iload 4, 0, 0, 0), (240, .iconst 2, 0, 0, 0), (241, .iadd, 0, 0, 0), (242, .iaload, 0, 0, 0), (243, .invokevirtual 58, 113, 4, 800), (246, .istore 6, 0, 0, 0), (248, .aload_n 2, 0, 0, 0), (249, .invokevirtual 59, 77, 0, 780), (252, .iload 5, 0, 0, 0), (254, .if_icmp .eq 5, 0, 0, 0)],
  [(257, .iconst 0, 0, 0, 0), (258, .ireturn, 0, 0, 0), (259, .iload 5, 0, 0, 0), (261, .ifCond .ne 15, 0, 0, 0), (264, .aload_n 3, 0, 0, 0), (265, .iconst 0, 0, 0, 0), (266, .laload, 0, 0, 0), (267, .iload 6, 0, 0, 0), (269, .i2l, 0, 0, 0), (270, .lcmp, 0, 0, 0), (271, .ifCond .eq 5, 0, 0, 0), (274, .iconst 0, 0, 0, 0), (275, .ireturn, 0, 0, 0), (276, .goto 495, 0, 0, 0), (279, .aload_n 1, 0, 0, 0), (280, .aload_n 0, 0, 0, 0), (281, .iload 4, 0, 0, 0), (283, .iconst 1, 0, 0, 0), (284, .iadd, 0, 0, 0), (285, .iaload, 0, 0, 0), (286, .aload_n 0, 0, 0, 0), (287, .iload 4, 0, 0, 0)],
  [(289, .iconst 2, 0, 0, 0), (290, .iadd, 0, 0, 0), (291, .iaload, 0, 0, 0), (292, .aload_n 3, 0, 0, 0), (293, .invokestatic 62, 127, 8, 618), (296, .istore 5, 0, 0, 0), (298, .aload_n 2, 0, 0, 0), (299, .aload_n 0, 0, 0, 0), (300, .iload 4, 0, 0, 0), (302, .iconst 1, 0, 0, 0), (303, .iadd, 0, 0, 0), (304, .iaload, 0, 0, 0), (305, .aload_n 0, 0, 0, 0), (306, .iload 4, 0, 0, 0), (308, .iconst 2, 0, 0, 0), (309, .iadd, 0, 0, 0), (310, .iaload, 0, 0, 0), (311, .invokevirtual 64, 114, 4, 925), (314, .istore 6, 0, 0, 0), (316, .aload_n 2, 0, 0, 0), (317, .invokevirtual 59, 77, 0, 780)],
  [(320, .iload 5, 0, 0, 0), (322, .if_icmp .eq 5, 0, 0, 0), (325, .iconst 0, 0, 0, 0), (326, .ireturn, 0, 0, 0), (327, .iload 5, 0, 0, 0), (329, .ifCond .ne 15, 0, 0, 0), (332, .aload_n 3, 0, 0, 0), (333, .iconst 0, 0, 0, 0), (334, .laload, 0, 0, 0), (335, .iload 6, 0, 0, 0), (337, .i2l, 0, 0, 0), (338, .lcmp, 0, 0, 0), (339, .ifCond .eq 5, 0, 0, 0), (342, .iconst 0, 0, 0, 0), (343, .ireturn, 0, 0, 0), (344, .goto 427, 0, 0, 0), (347, .aload_n 1, 0, 0, 0), (348, .aload_n 0, 0, 0, 0), (349, .iload 4, 0, 0, 0), (351, .iconst 1, 0, 0, 0)],
  [(352, .iadd, 0, 0, 0), (353, .iaload, 0, 0, 0), (354, .aload_n 0, 0, 0, 0), (355, .iload 4, 0, 0, 0), (357, .iconst 2, 0, 0, 0), (358, .iadd, 0, 0, 0), (359, .iaload, 0, 0, 0), (360, .aload_n 0, 0, 0, 0), (361, .iload 4, 0, 0, 0), (363, .iconst 3, 0, 0, 0), (364, .iadd, 0, 0, 0), (365, .iaload, 0, 0, 0), (366, .aload_n 3, 0, 0, 0), (367, .invokestatic 65, 128, 10, 626), (370, .istore 5, 0, 0, 0), (372, .aload_n 2, 0, 0, 0), (373, .aload_n 0, 0, 0, 0), (374, .iload 4, 0, 0, 0), (376, .iconst 1, 0, 0, 0), (377, .iadd, 0, 0, 0), (378, .iaload, 0, 0, 0), (379, .aload_n 0, 0, 0, 0), (380, .iload 4, 0, 0, 0), (382, .iconst 2, 0, 0, 0), (383, .iadd, 0, 0, 0)],
  [(384, .iaload, 0, 0, 0), (385, .aload_n 0, 0, 0, 0), (386, .iload 4, 0, 0, 0), (388, .iconst 3, 0, 0, 0), (389, .iadd, 0, 0, 0), (390, .iaload, 0, 0, 0), (391, .invokevirtual 68, 115, 6, 929), (394, .istore 6, 0, 0, 0), (396, .aload_n 2, 0, 0, 0), (397, .invokevirtual 59, 77, 0, 780), (400, .iload 5, 0, 0, 0), (402, .if_icmp .eq 5, 0, 0, 0), (405, .iconst 0, 0, 0, 0), (406, .ireturn, 0, 0, 0), (407, .iload 5, 0, 0, 0), (409, .ifCond .ne 22, 0, 0, 0), (412, .aload_n 3, 0, 0, 0), (413, .iconst 0, 0, 0, 0), (414, .laload, 0, 0, 0), (415, .iload 6, 0, 0, 0)],
  [(417, .ifCond .eq 7, 0, 0, 0), (420, .lconst 1, 0, 0, 0), (421, .goto 4, 0, 0, 0), (424, .lconst 0, 0, 0, 0), (425, .lcmp, 0, 0, 0), (426, .ifCond .eq 5, 0, 0, 0), (429, .iconst 0, 0, 0, 0), (430, .ireturn, 0, 0, 0), (431, .goto 340, 0, 0, 0), (434, .aload_n 1, 0, 0, 0), (435, .aload_n 0, 0, 0, 0), (436, .iload 4, 0, 0, 0), (438, .iconst 1, 0, 0, 0), (439, .iadd, 0, 0, 0), (440, .iaload, 0, 0, 0), (441, .aload_n 0, 0, 0, 0), (442, .iload 4, 0, 0, 0), (444, .iconst 2, 0, 0, 0), (445, .iadd, 0, 0, 0), (446, .iaload, 0, 0, 0), (447, .aload_n 0, 0, 0, 0)],
  [(448, .iload 4, 0, 0, 0), (450, .iconst 3, 0, 0, 0), (451, .iadd, 0, 0, 0), (452, .iaload, 0, 0, 0), (453, .aload_n 3, 0, 0, 0), (454, .invokestatic 69, 129, 10, 634), (457, .istore 5, 0, 0, 0), (459, .aload_n 2, 0, 0, 0), (460, .aload_n 0, 0, 0, 0), (461, .iload 4, 0, 0, 0), (463, .iconst 1, 0, 0, 0), (464, .iadd, 0, 0, 0), (465, .iaload, 0, 0, 0), (466, .aload_n 0, 0, 0, 0), (467, .iload 4, 0, 0, 0), (469, .iconst 2, 0, 0, 0), (470, .iadd, 0, 0, 0), (471, .iaload, 0, 0, 0), (472, .aload_n 0, 0, 0, 0), (473, .iload 4, 0, 0, 0), (475, .iconst 3, 0, 0, 0), (476, .iadd, 0, 0, 0), (477, .iaload, 0, 0, 0), (478, .invokevirtual 71, 116, 6, 933)],
  [(481, .istore 6, 0, 0, 0), (483, .aload_n 2, 0, 0, 0), (484, .invokevirtual 59, 77, 0, 780), (487, .iload 5, 0, 0, 0), (489, .if_icmp .eq 5, 0, 0, 0), (492, .iconst 0, 0, 0, 0), (493, .ireturn, 0, 0, 0), (494, .iload 5, 0, 0, 0), (496, .ifCond .ne 22, 0, 0, 0), (499, .aload_n 3, 0, 0, 0), (500, .iconst 0, 0, 0, 0), (501, .laload, 0, 0, 0), (502, .iload 6, 0, 0, 0), (504, .ifCond .eq 7, 0, 0, 0), (507, .lconst 1, 0, 0, 0), (508, .goto 4, 0, 0, 0), (511, .lconst 0, 0, 0, 0)],
  [(512, .lcmp, 0, 0, 0), (513, .ifCond .eq 5, 0, 0, 0), (516, .iconst 0, 0, 0, 0), (517, .ireturn, 0, 0, 0), (518, .goto 253, 0, 0, 0), (521, .aload_n 1, 0, 0, 0), (522, .aload_n 0, 0, 0, 0), (523, .iload 4, 0, 0, 0), (525, .iconst 1, 0, 0, 0), (526, .iadd, 0, 0, 0), (527, .iaload, 0, 0, 0), (528, .aload_n 0, 0, 0, 0), (529, .iload 4, 0, 0, 0), (531, .iconst 2, 0, 0, 0), (532, .iadd, 0, 0, 0), (533, .iaload, 0, 0, 0), (534, .aload_n 3, 0, 0, 0), (535, .invokestatic 72, 130, 8, 642), (538, .istore 5, 0, 0, 0), (540, .aload_n 2, 0, 0, 0), (541, .aload_n 0, 0, 0, 0), (542, .iload 4, 0, 0, 0)],
  [(544, .iconst 1, 0, 0, 0), (545, .iadd, 0, 0, 0), (546, .iaload, 0, 0, 0), (547, .aload_n 0, 0, 0, 0), (548, .iload 4, 0, 0, 0), (550, .iconst 2, 0, 0, 0), (551, .iadd, 0, 0, 0), (552, .iaload, 0, 0, 0), (553, .invokevirtual 74, 117, 4, 937), (556, .istore 6, 0, 0, 0), (558, .aload_n 2, 0, 0, 0), (559, .invokevirtual 59, 77, 0, 780), (562, .iload 5, 0, 0, 0), (564, .if_icmp .eq 5, 0, 0, 0), (567, .iconst 0, 0, 0, 0), (568, .ireturn, 0, 0, 0), (569, .iload 5, 0, 0, 0), (571, .ifCond .ne 15, 0, 0, 0), (574, .aload_n 3, 0, 0, 0), (575, .iconst 0, 0, 0, 0)],
  [(576, .laload, 0, 0, 0), (577, .iload 6, 0, 0, 0), (579, .i2l, 0, 0, 0), (580, .lcmp, 0, 0, 0), (581, .ifCond .eq 5, 0, 0, 0), (584, .iconst 0, 0, 0, 0), (585, .ireturn, 0, 0, 0), (586, .goto 185, 0, 0, 0), (589, .aload_n 1, 0, 0, 0), (590, .aload_n 0, 0, 0, 0), (591, .iload 4, 0, 0, 0), (593, .iconst 1, 0, 0, 0), (594, .iadd, 0, 0, 0), (595, .iaload, 0, 0, 0), (596, .aload_n 0, 0, 0, 0), (597, .iload 4, 0, 0, 0), (599, .iconst 2, 0, 0, 0), (600, .iadd, 0, 0, 0), (601, .iaload, 0, 0, 0), (602, .aload_n 3, 0, 0, 0), (603, .invokestatic 75, 131, 8, 661), (606, .istore 5, 0, 0, 0)],
  [(608, .aload_n 2, 0, 0, 0), (609, .aload_n 0, 0, 0, 0), (610, .iload 4, 0, 0, 0), (612, .iconst 1, 0, 0, 0), (613, .iadd, 0, 0, 0), (614, .iaload, 0, 0, 0), (615, .aload_n 0, 0, 0, 0), (616, .iload 4, 0, 0, 0), (618, .iconst 2, 0, 0, 0), (619, .iadd, 0, 0, 0), (620, .iaload, 0, 0, 0), (621, .invokevirtual 77, 118, 4, 941), (624, .istore 6, 0, 0, 0), (626, .aload_n 2, 0, 0, 0), (627, .invokevirtual 59, 77, 0, 780), (630, .iload 5, 0, 0, 0), (632, .if_icmp .eq 5, 0, 0, 0), (635, .iconst 0, 0, 0, 0), (636, .ireturn, 0, 0, 0), (637, .iload 5, 0, 0, 0), (639, .ifCond .ne 15, 0, 0, 0)],
  [(642, .aload_n 3, 0, 0, 0), (643, .iconst 0, 0, 0, 0), (644, .laload, 0, 0, 0), (645, .iload 6, 0, 0, 0), (647, .i2l, 0, 0, 0), (648, .lcmp, 0, 0, 0), (649, .ifCond .eq 5, 0, 0, 0), (652, .iconst 0, 0, 0, 0), (653, .ireturn, 0, 0, 0), (654, .goto 117, 0, 0, 0), (657, .aload_n 1, 0, 0, 0), (658, .invokevirtual 78, 65, 0, 276), (661, .aload_n 2, 0, 0, 0), (662, .invokevirtual 81, 119, 0, 945), (665, .if_icmp .eq 106, 0, 0, 0), (668, .iconst 0, 0, 0, 0), (669, .ireturn, 0, 0, 0), (670, .aload_n 1, 0, 0, 0), (671, .aload_n 0, 0, 0, 0)],
  [(672, .iload 4, 0, 0, 0), (674, .iconst 1, 0, 0, 0), (675, .iadd, 0, 0, 0), (676, .iaload, 0, 0, 0), (677, .invokevirtual 82, 66, 2, 284), (680, .aload_n 2, 0, 0, 0), (681, .aload_n 0, 0, 0, 0), (682, .iload 4, 0, 0, 0), (684, .iconst 1, 0, 0, 0), (685, .iadd, 0, 0, 0), (686, .iaload, 0, 0, 0), (687, .invokevirtual 86, 120, 2, 949), (690, .if_icmp .eq 81, 0, 0, 0), (693, .iconst 0, 0, 0, 0), (694, .ireturn, 0, 0, 0), (695, .aload_n 1, 0, 0, 0), (696, .aload_n 0, 0, 0, 0), (697, .iload 4, 0, 0, 0), (699, .iconst 1, 0, 0, 0), (700, .iadd, 0, 0, 0), (701, .iaload, 0, 0, 0), (702, .invokevirtual 87, 67, 2, 293)],
  [(705, .aload_n 2, 0, 0, 0), (706, .aload_n 0, 0, 0, 0), (707, .iload 4, 0, 0, 0), (709, .iconst 1, 0, 0, 0), (710, .iadd, 0, 0, 0), (711, .iaload, 0, 0, 0), (712, .invokevirtual 91, 121, 2, 953), (715, .if_icmp .eq 56, 0, 0, 0), (718, .iconst 0, 0, 0, 0), (719, .ireturn, 0, 0, 0), (720, .aload_n 1, 0, 0, 0), (721, .aload_n 0, 0, 0, 0), (722, .iload 4, 0, 0, 0), (724, .iconst 1, 0, 0, 0), (725, .iadd, 0, 0, 0), (726, .iaload, 0, 0, 0), (727, .invokevirtual 92, 68, 2, 313), (730, .aload_n 2, 0, 0, 0), (731, .aload_n 0, 0, 0, 0), (732, .iload 4, 0, 0, 0), (734, .iconst 1, 0, 0, 0), (735, .iadd, 0, 0, 0)],
  [(736, .iaload, 0, 0, 0), (737, .invokevirtual 95, 122, 2, 957), (740, .if_icmp .eq 31, 0, 0, 0), (743, .iconst 0, 0, 0, 0), (744, .ireturn, 0, 0, 0), (745, .aload_n 1, 0, 0, 0), (746, .invokevirtual 96, 69, 0, 321), (749, .aload_n 2, 0, 0, 0), (750, .invokevirtual 99, 124, 0, 961), (753, .if_icmp .eq 18, 0, 0, 0), (756, .iconst 0, 0, 0, 0), (757, .ireturn, 0, 0, 0), (758, .aload_n 1, 0, 0, 0), (759, .invokevirtual 100, 70, 0, 447), (762, .aload_n 2, 0, 0, 0), (763, .invokevirtual 103, 125, 0, 970), (766, .if_icmp .eq 5, 0, 0, 0)],
  [(769, .iconst 0, 0, 0, 0), (770, .ireturn, 0, 0, 0), (771, .iinc 4 4, 0, 0, 0), (774, .goto (-751), 0, 0, 0), (777, .iconst 1, 0, 0, 0), (778, .ireturn, 0, 0, 0)]]
def am_code : Nat → List (List (Nat × am_I)) := fun k => match k with
  | 0 => am_c0
  | 1 => am_c1
  | 2 => am_c2
  | 3 => am_c3
  | 4 => am_c4
  | 5 => am_c5
  | 6 => am_c6
  | 7 => am_c7
  | 8 => am_c8
  | 9 => am_c9
  | 10 => am_c10
  | 11 => am_c11
  | 12 => am_c12
  | 13 => am_c13
  | 14 => am_c14
  | 15 => am_c15
  | 16 => am_c16
  | 17 => am_c17
  | 18 => am_c18
  | 19 => am_c19
  | 20 => am_c20
  | 21 => am_c21
  | 22 => am_c22
  | 23 => am_c23
  | 24 => am_c24
  | 25 => am_c25
  | 26 => am_c26
  | 27 => am_c27
  | 28 => am_c28
  | 29 => am_c29
  | 30 => am_c30
  | 31 => am_c31
  | 32 => am_c32
  | 33 => am_c33
  | 34 => am_c34
  | 35 => am_c35
  | 36 => am_c36
  | 37 => am_c37
  | 38 => am_c38
  | 39 => am_c39
  | 40 => am_c40
  | 41 => am_c41
  | 42 => am_c42
  | 43 => am_c43
  | 44 => am_c44
  | 45 => am_c45
  | 46 => am_c46
  | 47 => am_c47
  | 48 => am_c48
  | 49 => am_c49
  | 50 => am_c50
  | 51 => am_c51
  | 52 => am_c52
  | 53 => am_c53
  | 54 => am_c54
  | 55 => am_c55
  | 56 => am_c56
  | 57 => am_c57
  | 58 => am_c58
  | 59 => am_c59
  | 60 => am_c60
  | 61 => am_c61
  | 62 => am_c62
  | 63 => am_c63
  | 64 => am_c64
  | 65 => am_c65
  | 66 => am_c66
  | 67 => am_c67
  | 68 => am_c68
  | 69 => am_c69
  | 70 => am_c70
  | 71 => am_c71
  | 72 => am_c72
  | 73 => am_c73
  | 74 => am_c74
  | 75 => am_c75
  | 76 => am_c76
  | 77 => am_c77
  | 78 => am_c78
  | 79 => am_c79
  | 80 => am_c80
  | 81 => am_c81
  | 82 => am_c82
  | 83 => am_c83
  | 84 => am_c84
  | 85 => am_c85
  | 86 => am_c86
  | 87 => am_c87
  | 88 => am_c88
  | 89 => am_c89
  | 90 => am_c90
  | 91 => am_c91
  | 92 => am_c92
  | 93 => am_c93
  | 94 => am_c94
  | 95 => am_c95
  | 96 => am_c96
  | 97 => am_c97
  | 98 => am_c98
  | 99 => am_c99
  | 100 => am_c100
  | 101 => am_c101
  | 102 => am_c102
  | 103 => am_c103
  | 104 => am_c104
  | 105 => am_c105
  | 106 => am_c106
  | 107 => am_c107
  | 108 => am_c108
  | 109 => am_c109
  | 110 => am_c110
  | 111 => am_c111
  | 112 => am_c112
  | 113 => am_c113
  | 114 => am_c114
  | 115 => am_c115
  | 116 => am_c116
  | 117 => am_c117
  | 118 => am_c118
  | 119 => am_c119
  | 120 => am_c120
  | 121 => am_c121
  | 122 => am_c122
  | 123 => am_c123
  | 124 => am_c124
  | 125 => am_c125
  | 126 => am_c126
  | 127 => am_c127
  | 128 => am_c128
  | 129 => am_c129
  | 130 => am_c130
  | 131 => am_c131
  | 132 => am_c132
  | _ => []
def am_nm : Nat := 133
/-- the throws: method, pc, class link, string, constructor, class, text -/
def am_thr : List (Nat × Nat × Nat × Nat × Nat × Nat × String × Nat) := [(10, 21, 70, 72, 74, 1, "what should be a type is none", 508),
  (11, 27, 70, 77, 74, 1, "no type of this variable is known", 508),
  (14, 25, 70, 101, 74, 1, "what is applied is no function", 508),
  (14, 58, 70, 107, 74, 1, "a function is applied to another type than its own", 508),
  (15, 16, 109, 111, 113, 2, "too many variables are bound", 574),
  (16, 11, 109, 118, 113, 2, "a type is too large", 574),
  (40, 14, 71, 73, 75, 2, "too many nodes in one call", 359),
  (48, 36, 40, 42, 44, 2, "one reduction more than fuel", 553),
  (48, 147, 40, 75, 44, 2, "a reduction's term is too large", 553),
  (48, 173, 40, 77, 44, 2, "too many reductions", 553),
  (54, 17, 40, 101, 44, 2, "too many pairs in one comparison", 553),
  (73, 32, 157, 159, 161, 0, "no such term, or no such fuel", 469)]
def am_G : Nat := 40
def am_M : Nat := 132
end
section
/-! ===== THE MACHINE OVER CELLS BY NUMBER: a run of a method as a relation on lists; what it says is proved of the machine below ===== -/
abbrev am_E : Type := (Nat × vp_A) ⊕ (Nat × List Value)
abbrev am_F : Type := Nat × List (Nat × Value) × List Value × List am_E × Nat × Nat
abbrev am_R : Type := (Option Value ⊕ Nat) × List am_E × Nat × Nat
def am_fetch (mid pc : Nat) : Option am_I := ((am_code mid).getD (pc / 32) []).lookup pc
def am_len : Instr → Nat
  | .bipush _ => 2 | .iload _ => 2 | .aload _ => 2 | .istore _ => 2 | .astore _ => 2 | .newarray _ => 2 | .ldc _ => 2
  | .sipush _ => 3 | .iinc _ _ => 3 | .ifCond _ _ => 3 | .if_icmp _ _ => 3 | .goto _ => 3 | .getfield _ => 3 | .putfield _ => 3
  | .invokevirtual _ => 3 | .invokespecial _ => 3 | .invokestatic _ => 3 | .new _ => 3
  | _ => 1
def am_soft (k : Nat) : Bool := Nat.ble 2 k && Nat.ble k 6
def am_cv (ad : Nat → Nat) : Value → Value
  | .ref k => .ref (ad k)
  | v => v
/-- a value of the frame: retAddr stands for what isn't a cell of ours: 0 the script, 1 what was caught -/
def am_sv (sp ad : Nat → Nat) : Value → Value
  | .ref k => .ref (ad k)
  | .retAddr k => .ref (sp k)
  | v => v
def am_fitv (n : Nat) : Value → Bool
  | .ref k => Nat.blt k n
  | _ => true
def am_fite (n : Nat) : am_E → Bool
  | .inr (_, fs) => fs.all (am_fitv n)
  | .inl _ => true
def am_fit (h : List am_E) (L : List (Nat × Value)) (S : List Value) : Bool := h.all (am_fite h.length) && (L.all (fun q => am_fitv h.length q.2) && S.all (am_fitv h.length))
def am_hardv (n : Nat) : Value → Bool
  | .ref k => Nat.blt k n && !am_soft k
  | _ => true
def am_hard (n : Nat) (L : List (Nat × Value)) (S : List Value) : Bool := L.all (fun q => am_hardv n q.2) && S.all (am_hardv n)
def am_up (L : List (Nat × Value)) (i : Nat) (v : Value) : List (Nat × Value) := (i, v) :: L.filter (fun q => !(q.1 == i) && !(q.1 + 1 == i && q.2.category == 2))
def am_ar : Nat → Nat → am_E
  | 0, l => .inl (0, l, .inl fun _ => 0)
  | 1, l => .inl (1, l, .inl fun _ => 0)
  | _, l => .inl (2, l, .inr (.inl fun _ => 0))
/-- may this value go into a field of this type as it is -/
def am_pf : FieldType → Value → Bool
  | .int, .int _ => true
  | .boolean, .int v => v == 0 || v == 1
  | .object _, .ref _ => true
  | .array _, .ref _ => true
  | _, _ => false
def am_tg (cs : List (Int × Nat)) (d : Nat) (a : Int32) : Nat := match cs with
  | [] => d
  | (v, t) :: r => if a = Int32.ofInt v then t else am_tg r d a
def am_tab (pc : Nat) : Int → List Int → List (Int × Nat)
  | _, [] => []
  | lo, o :: r => (lo, ((pc : Int) + o).toNat) :: am_tab pc (lo + 1) r
def am_br (c : Prop) [Decidable c] (t pc : Nat) (L : List (Nat × Value)) (S : List Value) (h : List am_E) (k n : Nat) : am_F := if c then (t, L, S, h, k, n) else (pc + 3, L, S, h, k, n)
def am_csum (S : List Value) : Nat := (S.map fun v => v.category).sum
section AmSt
variable (mid : Nat) (sl : Nat) (sx : Nat → Int32) (x y pc : Nat) (L : List (Nat × Value)) (S : List Value) (h : List am_E) (k n : Nat)
def am_ldi (i len : Nat) : Option (Prop × am_F) := match L.lookup i with
  | some (.int v) => some (True, (pc + len, L, .int v :: S, h, k, n))
  | _ => none
def am_lda (i len : Nat) : Option (Prop × am_F) := match L.lookup i with
  | some (.ref v) => some (True, (pc + len, L, .ref v :: S, h, k, n))
  | some (.retAddr v) => some (True, (pc + len, L, .retAddr v :: S, h, k, n))
  | _ => none
def am_sti (i len : Nat) : Option (Prop × am_F) := match S with
  | .int v :: S' => bif Nat.blt i (am_ml mid) then some (True, (pc + len, am_up L i (.int v), S', h, k, n)) else none
  | _ => none
def am_sta (i len : Nat) : Option (Prop × am_F) := match S with
  | .ref v :: S' => bif Nat.blt i (am_ml mid) then some (True, (pc + len, am_up L i (.ref v), S', h, k, n)) else none
  | .retAddr v :: S' => bif Nat.blt i (am_ml mid) then some (True, (pc + len, am_up L i (.retAddr v), S', h, k, n)) else none
  | _ => none
def am_inc (i : Nat) (c : Int) : Option (Prop × am_F) := match L.lookup i with
  | some (.int v) => bif Nat.blt i (am_ml mid) then some (True, (pc + 3, am_up L i (.int (v + Int32.ofInt c)), S, h, k, n)) else none
  | _ => none
def am_bin (op : Int32 → Int32 → Int32) (g : Int32 → Int32 → Prop) : Option (Prop × am_F) := match S with
  | .int b :: .int a :: S' => some (g a b, (pc + 1, L, .int (op a b) :: S', h, k, n))
  | _ => none
def am_dup : Option (Prop × am_F) := match S with
  | .int v :: S' => some (True, (pc + 1, L, .int v :: .int v :: S', h, k, n))
  | .ref v :: S' => some (True, (pc + 1, L, .ref v :: .ref v :: S', h, k, n))
  | _ => none
def am_pop : Option (Prop × am_F) := match S with
  | .int _ :: S' => some (True, (pc + 1, L, S', h, k, n))
  | .ref _ :: S' => some (True, (pc + 1, L, S', h, k, n))
  | .retAddr _ :: S' => some (True, (pc + 1, L, S', h, k, n))
  | _ => none
def am_if (c : ClassFile.Cond) (off : Int) : Option (Prop × am_F) := match S, (pc : Int) + off with
  | .int a :: S', .ofNat t => match c with
    | .eq => some (True, am_br (a = 0) t pc L S' h k n)
    | .ne => some (True, am_br (a ≠ 0) t pc L S' h k n)
    | .lt => some (True, am_br (a < 0) t pc L S' h k n)
    | .ge => some (True, am_br (0 ≤ a) t pc L S' h k n)
    | .gt => some (True, am_br (0 < a) t pc L S' h k n)
    | .le => some (True, am_br (a ≤ 0) t pc L S' h k n)
  | _, _ => none
def am_icmp (c : ClassFile.Cond) (off : Int) : Option (Prop × am_F) := match S, (pc : Int) + off with
  | .int b :: .int a :: S', .ofNat t => match c with
    | .eq => some (True, am_br (a = b) t pc L S' h k n)
    | .ne => some (True, am_br (a ≠ b) t pc L S' h k n)
    | .lt => some (True, am_br (a < b) t pc L S' h k n)
    | .ge => some (True, am_br (b ≤ a) t pc L S' h k n)
    | .gt => some (True, am_br (b < a) t pc L S' h k n)
    | .le => some (True, am_br (a ≤ b) t pc L S' h k n)
  | _, _ => none
def am_goto (off : Int) : Option (Prop × am_F) := match (pc : Int) + off with
  | .ofNat t => some (True, (t, L, S, h, k, n))
  | _ => none
def am_getf : Option (Prop × am_F) := match S with
  | .ref a :: S' => match h[a]? with
    | some (.inr (ci, fs)) => bif Nat.beq ci x then match fs[y]? with
      | some (.int v) => some (True, (pc + 3, L, .int v :: S', h, k, n))
      | some (.ref v) => some (True, (pc + 3, L, .ref v :: S', h, k, n))
      | _ => none
      else none
    | _ => none
  | _ => none
def am_putf : Option (Prop × am_F) := match S with
  | v :: .ref a :: S' => match h[a]? with
    | some (.inr (ci, fs)) => bif Nat.beq ci x && (Nat.blt y fs.length && am_pf (am_ty x y) v) then some (True, (pc + 3, L, S', h.set a (.inr (ci, fs.set y v)), k, n)) else none
    | _ => none
  | _ => none
def am_iald : Option (Prop × am_F) := match S with
  | .int j :: .ref a :: S' => match h[a]? with
    | some (.inl (0, len, .inl f)) => some (vp_in j len, (pc + 1, L, .int (f j.toNatClampNeg) :: S', h, k, n))
    | _ => none
  | .int j :: .retAddr 0 :: S' => some (0 < sl ∧ vp_in j (sl - 1), (pc + 1, L, .int (sx j.toNatClampNeg) :: S', h, k, n))
  | _ => none
def am_bald : Option (Prop × am_F) := match S with
  | .int j :: .ref a :: S' => match h[a]? with
    | some (.inl (1, len, .inl f)) => some (vp_in j len, (pc + 1, L, .int (f j.toNatClampNeg) :: S', h, k, n))
    | _ => none
  | _ => none
def am_iast : Option (Prop × am_F) := match S with
  | .int v :: .int j :: .ref a :: S' => match h[a]? with
    | some (.inl (0, len, .inl f)) => some (vp_in j len, (pc + 1, L, S', h.set a (.inl (0, len, .inl (upd f j.toNatClampNeg v))), k, n))
    | _ => none
  | _ => none
def am_bast : Option (Prop × am_F) := match S with
  | .int v :: .int j :: .ref a :: S' => match h[a]? with
    | some (.inl (1, len, .inl f)) => some (vp_in j len ∧ vp_nar .boolean v = v, (pc + 1, L, S', h.set a (.inl (1, len, .inl (upd f j.toNatClampNeg v))), k, n))
    | _ => none
  | _ => none
def am_last : Option (Prop × am_F) := match S with
  | .long v :: .int j :: .ref a :: S' => match h[a]? with
    | some (.inl (2, len, .inr (.inl f))) => some (vp_in j len, (pc + 1, L, S', h.set a (.inl (2, len, .inr (.inl (vp_updL f j.toNatClampNeg v)))), k, n))
    | _ => none
  | _ => none
def am_alen : Option (Prop × am_F) := match S with
  | .ref a :: S' => match h[a]? with
    | some (.inl (t, a')) => bif Nat.blt t 3 then some (True, (pc + 1, L, .int (Int32.ofNat a'.1) :: S', h, k, n)) else none
    | _ => none
  | .retAddr 0 :: S' => some (0 < sl, (pc + 1, L, .int (Int32.ofNat (sl - 1)) :: S', h, k, n))
  | _ => none
def am_newa : Option (Prop × am_F) := match S with
  | .int c :: S' => bif am_fit h L S' && Nat.blt x 3 then some (¬ c < 0 ∧ c.toNatClampNeg * 8 ≤ 536870912, (pc + 2, L, .ref h.length :: S', h ++ [am_ar x c.toNatClampNeg], k + 1, n + c.toNatClampNeg)) else none
  | _ => none
def am_new : Option (Prop × am_F) := bif am_fit h L S && Nat.blt x 7 then some (True, (pc + 3, L, .ref h.length :: S, h ++ [.inr (x, am_df x)], k + 1, n + am_N x)) else none
def am_sw (cs : List (Int × Nat)) (d : Int) : Option (Prop × am_F) := match S with
  | .int a :: S' => some (True, (am_tg cs ((pc : Int) + d).toNat a, L, S', h, k, n))
  | _ => none
def am_obj : Option (Prop × am_F) := match S with
  | .ref _ :: S' => bif Nat.beq x 1001 && Nat.ble (am_csum S') 8 then some (True, (pc + 3, L, S', h, k, n)) else none
  | _ => none
def am_max : Option (Prop × am_F) := match S with
  | .int b :: .int a :: S' => bif Nat.beq x 1002 && Nat.ble (am_csum S') 8 then some (True, (pc + 3, L, .int (if a < b then b else a) :: S', h, k, n)) else none
  | _ => none
/-- one instruction that is no call and no end: what it asks, and the frame behind it -/
def am_st (i : Instr) : Option (Prop × am_F) := match i with
  | .iconst c => some (True, (pc + 1, L, .int (Int32.ofInt c) :: S, h, k, n))
  | .bipush c => some (True, (pc + 2, L, .int (Int32.ofInt c) :: S, h, k, n))
  | .sipush c => some (True, (pc + 3, L, .int (Int32.ofInt c) :: S, h, k, n))
  | .lconst c => some (True, (pc + 1, L, .long (Int64.ofNat (c : Nat)) :: S, h, k, n))
  | .ldc _ => some (True, (pc + 2, L, .int (Int32.ofNat x) :: S, h, k, n))
  | .iload_n i => am_ldi pc L S h k n i 1
  | .iload i => am_ldi pc L S h k n i 2
  | .aload_n i => am_lda pc L S h k n i 1
  | .aload i => am_lda pc L S h k n i 2
  | .istore_n i => am_sti mid pc L S h k n i 1
  | .istore i => am_sti mid pc L S h k n i 2
  | .astore_n i => am_sta mid pc L S h k n i 1
  | .astore i => am_sta mid pc L S h k n i 2
  | .iinc i c => am_inc mid pc L S h k n i c
  | .iadd => am_bin pc L S h k n (fun a b => a + b) (fun _ _ => True)
  | .isub => am_bin pc L S h k n (fun a b => a - b) (fun _ _ => True)
  | .imul => am_bin pc L S h k n (fun a b => a * b) (fun _ _ => True)
  | .iand => am_bin pc L S h k n (fun a b => a &&& b) (fun _ _ => True)
  | .idiv => am_bin pc L S h k n (fun a b => a / b) (fun _ b => ¬ b = 0)
  | .irem => am_bin pc L S h k n (fun a b => a - a / b * b) (fun _ b => ¬ b = 0)
  | .i2l => match S with
    | .int a :: S' => some (True, (pc + 1, L, .long a.toInt64 :: S', h, k, n))
    | _ => none
  | .dup => am_dup pc L S h k n
  | .pop => am_pop pc L S h k n
  | .ifCond c off => am_if pc L S h k n c off
  | .if_icmp c off => am_icmp pc L S h k n c off
  | .goto off => am_goto pc L S h k n off
  | .getfield _ => am_getf x y pc L S h k n
  | .putfield _ => am_putf x y pc L S h k n
  | .iaload => am_iald sl sx pc L S h k n
  | .baload => am_bald pc L S h k n
  | .iastore => am_iast pc L S h k n
  | .bastore => am_bast pc L S h k n
  | .lastore => am_last pc L S h k n
  | .arraylength => am_alen sl pc L S h k n
  | .newarray _ => am_newa x pc L S h k n
  | .new _ => am_new x pc L S h k n
  | .tableswitch d lo _ offs => am_sw pc L S h k n (am_tab pc lo offs.toList) d
  | .lookupswitch d ps => am_sw pc L S h k n (ps.toList.map fun q => (q.1, ((pc : Int) + q.2).toNat)) d
  | .invokespecial _ => am_obj x pc L S h k n
  | .invokestatic _ => am_max x pc L S h k n
  | _ => none
end AmSt
def am_isv : Instr → Bool
  | .invokevirtual _ => true | .invokespecial _ => true | _ => false
def am_iss : Instr → Bool
  | .invokestatic _ => true | _ => false
/-- the handler of a method for a throw at pc -/
def am_hnd (mid pc : Nat) (e : Nat) : Option Nat := ((am_hh mid).find? (fun q => Nat.ble q.1 pc && Nat.blt pc q.2.1 && Nat.beq (am_cat q.2.2.2) e)).map (fun q => q.2.2.1)
end
section
def am_ki : Nat → Nat := fun k => match k with
  | 71 => 0
  | 79 => 0
  | 80 => 0
  | 81 => 0
  | 126 => 0
  | 127 => 0
  | 128 => 0
  | 129 => 0
  | 130 => 0
  | 131 => 0
  | _ => 1
/-! ===== the tables hold what the class files hold ===== -/
def am_decok (mid : Nat) (e : Nat × am_I) : Bool := match e.2.1 with
  | .tableswitch d lo hi os => decide (decode (am_b mid) e.1 = .ok (.tableswitch d lo hi os, e.2.2.2.1))
  | .lookupswitch d ps => decide (decode (am_b mid) e.1 = .ok (.lookupswitch d ps, e.2.2.2.1))
  | i => decide (decode (am_b mid) e.1 = .ok (i, am_len i))
def am_pl (z : Nat) (w : Cond) : Bool := decide (lw_tbl[z]? = some w) && goodWord w
def am_at : Nat → FieldType
  | 0 => .int
  | 1 => .boolean
  | _ => .long
def am_inv (mid : Nat) (idx x y z : Nat) : Bool := Nat.blt x am_nm && (if y % 2 = 1 then decide (lw_tbl[z]? = some (.methodLinkNest (am_own mid) idx (am_y x) "TermJudge")) else am_pl z (.methodLink (am_own mid) idx (am_y x)))
def am_offs (pc : Nat) (os : List Int) : Bool := os.all fun o => decide (0 ≤ (pc : Int) + o)
def am_wok (mid : Nat) (e : Nat × am_I) : Bool := match e.2.1, e.2.2.1, e.2.2.2.1, e.2.2.2.2 with
  | .bipush c, _, _, _ => decide ((Int8.ofInt c).toInt32 = Int32.ofInt c)
  | .sipush c, _, _, _ => decide ((Int16.ofInt c).toInt32 = Int32.ofInt c)
  | .getfield idx, x, y, z => am_pl z (.fieldLink (am_own mid) idx (am_T x y).1 (am_T x y).2.1 (am_T x y).2.2.1) && (Nat.blt x 7 && Nat.blt y (am_N x))
  | .putfield idx, x, y, z => am_pl z (.fieldLink (am_own mid) idx (am_T x y).1 (am_T x y).2.1 (am_T x y).2.2.1) && (Nat.blt x 7 && Nat.blt y (am_N x)) && (!(am_T x y).2.2.2 || (decide ((am_y mid).name = "<init>") && decide ((am_T x y).1 = am_own mid)))
  | .new idx, x, _, z => !Nat.blt x 7 || am_pl z (.classLink (am_own mid) idx (am_C x))
  | .ldc idx, x, _, z => am_pl z (.constant (am_own mid) idx (Int32.ofNat x))
  | .newarray at', x, _, _ => decide (newarray.typeOf at' = am_at x) && Nat.blt x 3
  | .invokevirtual idx, x, y, z => am_inv mid idx x y z && (decide ((am_y x).name ≠ "<init>") && am_ki x == 1)
  | .invokespecial idx, x, y, z => if x = 1001 then am_pl z (.methodLink (am_own mid) idx Lib.objectInit) else am_inv mid idx x y z && (decide ((am_y x).name = "<init>") && am_ki x == 1)
  | .invokestatic idx, x, y, z => if x = 1002 then am_pl z (.methodLink (am_own mid) idx Lib.Math.max.name) else x = 1003 || (am_inv mid idx x y z && am_ki x == 0)
  | .tableswitch d lo hi os, _, _, _ => decide (0 ≤ (e.1 : Int) + d) && (am_offs e.1 os.toList && (decide (hi - lo + 1 = os.size) && (decide (-2147483648 ≤ lo) && decide (hi < 2147483648))))
  | .lookupswitch d ps, _, _, _ => decide (0 ≤ (e.1 : Int) + d) && (am_offs e.1 (ps.toList.map Prod.snd) && ((ps.toList.zip (ps.toList.drop 1)).all (fun (a, next) => a.1 < next.1) && ps.toList.all (fun q => decide (-2147483648 ≤ q.1) && decide (q.1 < 2147483648))))
  | _, _, _, _ => true
def am_cok (mid : Nat) : Bool := (am_code mid).all fun l => l.all fun e => am_decok mid e && am_wok mid e
/-- a method's own words -/
def am_mok (mid : Nat) : Bool := (if am_ki mid = 0 then am_pl (am_mz mid).2.1 (.static (am_y mid)) else am_pl (am_mz mid).2.1 (.instanceMethod (am_y mid)) && (decide ((am_y mid).name = "<init>") || am_pl (am_mz mid).2.2.1 (.selects (am_y mid).cls (am_y mid) (am_y mid)))) &&
  (am_pl (am_mz mid).2.2.2 (.initialized (am_y mid).cls) && (decide ((am_y mid).cls = am_own mid) && (decide ((am_y mid).cls ≠ "java/lang/invoke/MethodHandle") && (decide ((am_y mid).cls ≠ "java/lang/invoke/VarHandle") && (plainName (am_y mid).cls && (decide ((parseMethodDescriptor (am_y mid).desc).map (fun d => d.parameters.length) = some (am_na mid)) && Nat.ble (am_ml mid) 30))))))
theorem am_ck0 : am_cok 0 = true := by decide +kernel
theorem am_ck1 : am_cok 1 = true := by decide +kernel
theorem am_ck2 : am_cok 2 = true := by decide +kernel
theorem am_ck3 : am_cok 3 = true := by decide +kernel
theorem am_ck4 : am_cok 4 = true := by decide +kernel
theorem am_ck5 : am_cok 5 = true := by decide +kernel
theorem am_ck6 : am_cok 6 = true := by decide +kernel
theorem am_ck7 : am_cok 7 = true := by decide +kernel
theorem am_ck8 : am_cok 8 = true := by decide +kernel
theorem am_ck9 : am_cok 9 = true := by decide +kernel
theorem am_ck10 : am_cok 10 = true := by decide +kernel
theorem am_ck11 : am_cok 11 = true := by decide +kernel
theorem am_ck12 : am_cok 12 = true := by decide +kernel
theorem am_ck13 : am_cok 13 = true := by decide +kernel
theorem am_ck14 : am_cok 14 = true := by decide +kernel
theorem am_ck15 : am_cok 15 = true := by decide +kernel
theorem am_ck16 : am_cok 16 = true := by decide +kernel
theorem am_ck17 : am_cok 17 = true := by decide +kernel
theorem am_ck18 : am_cok 18 = true := by decide +kernel
theorem am_ck19 : am_cok 19 = true := by decide +kernel
theorem am_ck20 : am_cok 20 = true := by decide +kernel
theorem am_ck21 : am_cok 21 = true := by decide +kernel
theorem am_ck22 : am_cok 22 = true := by decide +kernel
theorem am_ck23 : am_cok 23 = true := by decide +kernel
theorem am_ck24 : am_cok 24 = true := by decide +kernel
theorem am_ck25 : am_cok 25 = true := by decide +kernel
theorem am_ck26 : am_cok 26 = true := by decide +kernel
theorem am_ck27 : am_cok 27 = true := by decide +kernel
theorem am_ck28 : am_cok 28 = true := by decide +kernel
theorem am_ck29 : am_cok 29 = true := by decide +kernel
theorem am_ck30 : am_cok 30 = true := by decide +kernel
theorem am_ck31 : am_cok 31 = true := by decide +kernel
theorem am_ck32 : am_cok 32 = true := by decide +kernel
theorem am_ck33 : am_cok 33 = true := by decide +kernel
theorem am_ck34 : am_cok 34 = true := by decide +kernel
theorem am_ck35 : am_cok 35 = true := by decide +kernel
theorem am_ck36 : am_cok 36 = true := by decide +kernel
theorem am_ck37 : am_cok 37 = true := by decide +kernel
theorem am_ck38 : am_cok 38 = true := by decide +kernel
theorem am_ck39 : am_cok 39 = true := by decide +kernel
theorem am_ck40 : am_cok 40 = true := by decide +kernel
theorem am_ck41 : am_cok 41 = true := by decide +kernel
theorem am_ck42 : am_cok 42 = true := by decide +kernel
theorem am_ck43 : am_cok 43 = true := by decide +kernel
theorem am_ck44 : am_cok 44 = true := by decide +kernel
theorem am_ck45 : am_cok 45 = true := by decide +kernel
theorem am_ck46 : am_cok 46 = true := by decide +kernel
theorem am_ck47 : am_cok 47 = true := by decide +kernel
theorem am_ck48 : am_cok 48 = true := by decide +kernel
theorem am_ck49 : am_cok 49 = true := by decide +kernel
theorem am_ck50 : am_cok 50 = true := by decide +kernel
theorem am_ck51 : am_cok 51 = true := by decide +kernel
theorem am_ck52 : am_cok 52 = true := by decide +kernel
theorem am_ck53 : am_cok 53 = true := by decide +kernel
theorem am_ck54 : am_cok 54 = true := by decide +kernel
theorem am_ck55 : am_cok 55 = true := by decide +kernel
theorem am_ck56 : am_cok 56 = true := by decide +kernel
theorem am_ck57 : am_cok 57 = true := by decide +kernel
theorem am_ck58 : am_cok 58 = true := by decide +kernel
theorem am_ck59 : am_cok 59 = true := by decide +kernel
theorem am_ck60 : am_cok 60 = true := by decide +kernel
theorem am_ck61 : am_cok 61 = true := by decide +kernel
theorem am_ck62 : am_cok 62 = true := by decide +kernel
theorem am_ck63 : am_cok 63 = true := by decide +kernel
theorem am_ck64 : am_cok 64 = true := by decide +kernel
theorem am_ck65 : am_cok 65 = true := by decide +kernel
theorem am_ck66 : am_cok 66 = true := by decide +kernel
theorem am_ck67 : am_cok 67 = true := by decide +kernel
theorem am_ck68 : am_cok 68 = true := by decide +kernel
theorem am_ck69 : am_cok 69 = true := by decide +kernel
theorem am_ck70 : am_cok 70 = true := by decide +kernel
theorem am_ck71 : am_cok 71 = true := by decide +kernel
theorem am_ck72 : am_cok 72 = true := by decide +kernel
theorem am_ck73 : am_cok 73 = true := by decide +kernel
theorem am_ck74 : am_cok 74 = true := by decide +kernel
theorem am_ck75 : am_cok 75 = true := by decide +kernel
theorem am_ck76 : am_cok 76 = true := by decide +kernel
theorem am_ck77 : am_cok 77 = true := by decide +kernel
theorem am_ck78 : am_cok 78 = true := by decide +kernel
theorem am_ck79 : am_cok 79 = true := by decide +kernel
theorem am_ck80 : am_cok 80 = true := by decide +kernel
theorem am_ck81 : am_cok 81 = true := by decide +kernel
theorem am_ck82 : am_cok 82 = true := by decide +kernel
theorem am_ck83 : am_cok 83 = true := by decide +kernel
theorem am_ck84 : am_cok 84 = true := by decide +kernel
theorem am_ck85 : am_cok 85 = true := by decide +kernel
theorem am_ck86 : am_cok 86 = true := by decide +kernel
theorem am_ck87 : am_cok 87 = true := by decide +kernel
theorem am_ck88 : am_cok 88 = true := by decide +kernel
theorem am_ck89 : am_cok 89 = true := by decide +kernel
theorem am_ck90 : am_cok 90 = true := by decide +kernel
theorem am_ck91 : am_cok 91 = true := by decide +kernel
theorem am_ck92 : am_cok 92 = true := by decide +kernel
theorem am_ck93 : am_cok 93 = true := by decide +kernel
theorem am_ck94 : am_cok 94 = true := by decide +kernel
theorem am_ck95 : am_cok 95 = true := by decide +kernel
theorem am_ck96 : am_cok 96 = true := by decide +kernel
theorem am_ck97 : am_cok 97 = true := by decide +kernel
theorem am_ck98 : am_cok 98 = true := by decide +kernel
theorem am_ck99 : am_cok 99 = true := by decide +kernel
theorem am_ck100 : am_cok 100 = true := by decide +kernel
theorem am_ck101 : am_cok 101 = true := by decide +kernel
theorem am_ck102 : am_cok 102 = true := by decide +kernel
theorem am_ck103 : am_cok 103 = true := by decide +kernel
theorem am_ck104 : am_cok 104 = true := by decide +kernel
theorem am_ck105 : am_cok 105 = true := by decide +kernel
theorem am_ck106 : am_cok 106 = true := by decide +kernel
theorem am_ck107 : am_cok 107 = true := by decide +kernel
theorem am_ck108 : am_cok 108 = true := by decide +kernel
theorem am_ck109 : am_cok 109 = true := by decide +kernel
theorem am_ck110 : am_cok 110 = true := by decide +kernel
theorem am_ck111 : am_cok 111 = true := by decide +kernel
theorem am_ck112 : am_cok 112 = true := by decide +kernel
theorem am_ck113 : am_cok 113 = true := by decide +kernel
theorem am_ck114 : am_cok 114 = true := by decide +kernel
theorem am_ck115 : am_cok 115 = true := by decide +kernel
theorem am_ck116 : am_cok 116 = true := by decide +kernel
theorem am_ck117 : am_cok 117 = true := by decide +kernel
theorem am_ck118 : am_cok 118 = true := by decide +kernel
theorem am_ck119 : am_cok 119 = true := by decide +kernel
theorem am_ck120 : am_cok 120 = true := by decide +kernel
theorem am_ck121 : am_cok 121 = true := by decide +kernel
theorem am_ck122 : am_cok 122 = true := by decide +kernel
theorem am_ck123 : am_cok 123 = true := by decide +kernel
theorem am_ck124 : am_cok 124 = true := by decide +kernel
theorem am_ck125 : am_cok 125 = true := by decide +kernel
theorem am_ck126 : am_cok 126 = true := by decide +kernel
theorem am_ck127 : am_cok 127 = true := by decide +kernel
theorem am_ck128 : am_cok 128 = true := by decide +kernel
theorem am_ck129 : am_cok 129 = true := by decide +kernel
theorem am_ck130 : am_cok 130 = true := by decide +kernel
theorem am_ck131 : am_cok 131 = true := by decide +kernel
theorem am_ck132 : am_cok 132 = true := by decide +kernel
theorem am_mk0 : am_mok 0 = true := by decide +kernel
theorem am_mk1 : am_mok 1 = true := by decide +kernel
theorem am_mk2 : am_mok 2 = true := by decide +kernel
theorem am_mk3 : am_mok 3 = true := by decide +kernel
theorem am_mk4 : am_mok 4 = true := by decide +kernel
theorem am_mk5 : am_mok 5 = true := by decide +kernel
theorem am_mk6 : am_mok 6 = true := by decide +kernel
theorem am_mk7 : am_mok 7 = true := by decide +kernel
theorem am_mk8 : am_mok 8 = true := by decide +kernel
theorem am_mk9 : am_mok 9 = true := by decide +kernel
theorem am_mk10 : am_mok 10 = true := by decide +kernel
theorem am_mk11 : am_mok 11 = true := by decide +kernel
theorem am_mk12 : am_mok 12 = true := by decide +kernel
theorem am_mk13 : am_mok 13 = true := by decide +kernel
theorem am_mk14 : am_mok 14 = true := by decide +kernel
theorem am_mk15 : am_mok 15 = true := by decide +kernel
theorem am_mk16 : am_mok 16 = true := by decide +kernel
theorem am_mk17 : am_mok 17 = true := by decide +kernel
theorem am_mk18 : am_mok 18 = true := by decide +kernel
theorem am_mk19 : am_mok 19 = true := by decide +kernel
theorem am_mk20 : am_mok 20 = true := by decide +kernel
theorem am_mk21 : am_mok 21 = true := by decide +kernel
theorem am_mk22 : am_mok 22 = true := by decide +kernel
theorem am_mk23 : am_mok 23 = true := by decide +kernel
theorem am_mk24 : am_mok 24 = true := by decide +kernel
theorem am_mk25 : am_mok 25 = true := by decide +kernel
theorem am_mk26 : am_mok 26 = true := by decide +kernel
theorem am_mk27 : am_mok 27 = true := by decide +kernel
theorem am_mk28 : am_mok 28 = true := by decide +kernel
theorem am_mk29 : am_mok 29 = true := by decide +kernel
theorem am_mk30 : am_mok 30 = true := by decide +kernel
theorem am_mk31 : am_mok 31 = true := by decide +kernel
theorem am_mk32 : am_mok 32 = true := by decide +kernel
theorem am_mk33 : am_mok 33 = true := by decide +kernel
theorem am_mk34 : am_mok 34 = true := by decide +kernel
theorem am_mk35 : am_mok 35 = true := by decide +kernel
theorem am_mk36 : am_mok 36 = true := by decide +kernel
theorem am_mk37 : am_mok 37 = true := by decide +kernel
theorem am_mk38 : am_mok 38 = true := by decide +kernel
theorem am_mk39 : am_mok 39 = true := by decide +kernel
theorem am_mk40 : am_mok 40 = true := by decide +kernel
theorem am_mk41 : am_mok 41 = true := by decide +kernel
theorem am_mk42 : am_mok 42 = true := by decide +kernel
theorem am_mk43 : am_mok 43 = true := by decide +kernel
theorem am_mk44 : am_mok 44 = true := by decide +kernel
theorem am_mk45 : am_mok 45 = true := by decide +kernel
theorem am_mk46 : am_mok 46 = true := by decide +kernel
theorem am_mk47 : am_mok 47 = true := by decide +kernel
theorem am_mk48 : am_mok 48 = true := by decide +kernel
theorem am_mk49 : am_mok 49 = true := by decide +kernel
theorem am_mk50 : am_mok 50 = true := by decide +kernel
theorem am_mk51 : am_mok 51 = true := by decide +kernel
theorem am_mk52 : am_mok 52 = true := by decide +kernel
theorem am_mk53 : am_mok 53 = true := by decide +kernel
theorem am_mk54 : am_mok 54 = true := by decide +kernel
theorem am_mk55 : am_mok 55 = true := by decide +kernel
theorem am_mk56 : am_mok 56 = true := by decide +kernel
theorem am_mk57 : am_mok 57 = true := by decide +kernel
theorem am_mk58 : am_mok 58 = true := by decide +kernel
theorem am_mk59 : am_mok 59 = true := by decide +kernel
theorem am_mk60 : am_mok 60 = true := by decide +kernel
theorem am_mk61 : am_mok 61 = true := by decide +kernel
theorem am_mk62 : am_mok 62 = true := by decide +kernel
theorem am_mk63 : am_mok 63 = true := by decide +kernel
theorem am_mk64 : am_mok 64 = true := by decide +kernel
theorem am_mk65 : am_mok 65 = true := by decide +kernel
theorem am_mk66 : am_mok 66 = true := by decide +kernel
theorem am_mk67 : am_mok 67 = true := by decide +kernel
theorem am_mk68 : am_mok 68 = true := by decide +kernel
theorem am_mk69 : am_mok 69 = true := by decide +kernel
theorem am_mk70 : am_mok 70 = true := by decide +kernel
theorem am_mk71 : am_mok 71 = true := by decide +kernel
theorem am_mk72 : am_mok 72 = true := by decide +kernel
theorem am_mk73 : am_mok 73 = true := by decide +kernel
theorem am_mk74 : am_mok 74 = true := by decide +kernel
theorem am_mk75 : am_mok 75 = true := by decide +kernel
theorem am_mk76 : am_mok 76 = true := by decide +kernel
theorem am_mk77 : am_mok 77 = true := by decide +kernel
theorem am_mk78 : am_mok 78 = true := by decide +kernel
theorem am_mk79 : am_mok 79 = true := by decide +kernel
theorem am_mk80 : am_mok 80 = true := by decide +kernel
theorem am_mk81 : am_mok 81 = true := by decide +kernel
theorem am_mk82 : am_mok 82 = true := by decide +kernel
theorem am_mk83 : am_mok 83 = true := by decide +kernel
theorem am_mk84 : am_mok 84 = true := by decide +kernel
theorem am_mk85 : am_mok 85 = true := by decide +kernel
theorem am_mk86 : am_mok 86 = true := by decide +kernel
theorem am_mk87 : am_mok 87 = true := by decide +kernel
theorem am_mk88 : am_mok 88 = true := by decide +kernel
theorem am_mk89 : am_mok 89 = true := by decide +kernel
theorem am_mk90 : am_mok 90 = true := by decide +kernel
theorem am_mk91 : am_mok 91 = true := by decide +kernel
theorem am_mk92 : am_mok 92 = true := by decide +kernel
theorem am_mk93 : am_mok 93 = true := by decide +kernel
theorem am_mk94 : am_mok 94 = true := by decide +kernel
theorem am_mk95 : am_mok 95 = true := by decide +kernel
theorem am_mk96 : am_mok 96 = true := by decide +kernel
theorem am_mk97 : am_mok 97 = true := by decide +kernel
theorem am_mk98 : am_mok 98 = true := by decide +kernel
theorem am_mk99 : am_mok 99 = true := by decide +kernel
theorem am_mk100 : am_mok 100 = true := by decide +kernel
theorem am_mk101 : am_mok 101 = true := by decide +kernel
theorem am_mk102 : am_mok 102 = true := by decide +kernel
theorem am_mk103 : am_mok 103 = true := by decide +kernel
theorem am_mk104 : am_mok 104 = true := by decide +kernel
theorem am_mk105 : am_mok 105 = true := by decide +kernel
theorem am_mk106 : am_mok 106 = true := by decide +kernel
theorem am_mk107 : am_mok 107 = true := by decide +kernel
theorem am_mk108 : am_mok 108 = true := by decide +kernel
theorem am_mk109 : am_mok 109 = true := by decide +kernel
theorem am_mk110 : am_mok 110 = true := by decide +kernel
theorem am_mk111 : am_mok 111 = true := by decide +kernel
theorem am_mk112 : am_mok 112 = true := by decide +kernel
theorem am_mk113 : am_mok 113 = true := by decide +kernel
theorem am_mk114 : am_mok 114 = true := by decide +kernel
theorem am_mk115 : am_mok 115 = true := by decide +kernel
theorem am_mk116 : am_mok 116 = true := by decide +kernel
theorem am_mk117 : am_mok 117 = true := by decide +kernel
theorem am_mk118 : am_mok 118 = true := by decide +kernel
theorem am_mk119 : am_mok 119 = true := by decide +kernel
theorem am_mk120 : am_mok 120 = true := by decide +kernel
theorem am_mk121 : am_mok 121 = true := by decide +kernel
theorem am_mk122 : am_mok 122 = true := by decide +kernel
theorem am_mk123 : am_mok 123 = true := by decide +kernel
theorem am_mk124 : am_mok 124 = true := by decide +kernel
theorem am_mk125 : am_mok 125 = true := by decide +kernel
theorem am_mk126 : am_mok 126 = true := by decide +kernel
theorem am_mk127 : am_mok 127 = true := by decide +kernel
theorem am_mk128 : am_mok 128 = true := by decide +kernel
theorem am_mk129 : am_mok 129 = true := by decide +kernel
theorem am_mk130 : am_mok 130 = true := by decide +kernel
theorem am_mk131 : am_mok 131 = true := by decide +kernel
set_option maxRecDepth 100000 in
theorem am_zk0 : lw_tbl[111]? = some (.code (am_y 0) (am_b 0) (am_ml 0) (am_rt 0)) := rfl
set_option maxRecDepth 100000 in
theorem am_zk1 : lw_tbl[283]? = some (.code (am_y 1) (am_b 1) (am_ml 1) (am_rt 1)) := rfl
set_option maxRecDepth 100000 in
theorem am_zk2 : lw_tbl[652]? = some (.code (am_y 2) (am_b 2) (am_ml 2) (am_rt 2)) := rfl
set_option maxRecDepth 100000 in
theorem am_zk3 : lw_tbl[219]? = some (.code (am_y 3) (am_b 3) (am_ml 3) (am_rt 3)) := rfl
set_option maxRecDepth 100000 in
theorem am_zk4 : lw_tbl[300]? = some (.code (am_y 4) (am_b 4) (am_ml 4) (am_rt 4)) := rfl
set_option maxRecDepth 100000 in
theorem am_zk5 : lw_tbl[291]? = some (.code (am_y 5) (am_b 5) (am_ml 5) (am_rt 5)) := rfl
set_option maxRecDepth 100000 in
theorem am_zk6 : lw_tbl[660]? = some (.code (am_y 6) (am_b 6) (am_ml 6) (am_rt 6)) := rfl
set_option maxRecDepth 100000 in
theorem am_zk7 : lw_tbl[155]? = some (.code (am_y 7) (am_b 7) (am_ml 7) (am_rt 7)) := rfl
set_option maxRecDepth 100000 in
theorem am_zk8 : lw_tbl[496]? = some (.code (am_y 8) (am_b 8) (am_ml 8) (am_rt 8)) := rfl
set_option maxRecDepth 100000 in
theorem am_zk9 : lw_tbl[500]? = some (.code (am_y 9) (am_b 9) (am_ml 9) (am_rt 9)) := rfl
set_option maxRecDepth 100000 in
theorem am_zk10 : lw_tbl[541]? = some (.code (am_y 10) (am_b 10) (am_ml 10) (am_rt 10)) := rfl
set_option maxRecDepth 100000 in
theorem am_zk11 : lw_tbl[507]? = some (.code (am_y 11) (am_b 11) (am_ml 11) (am_rt 11)) := rfl
set_option maxRecDepth 100000 in
theorem am_zk12 : lw_tbl[536]? = some (.code (am_y 12) (am_b 12) (am_ml 12) (am_rt 12)) := rfl
set_option maxRecDepth 100000 in
theorem am_zk13 : lw_tbl[581]? = some (.code (am_y 13) (am_b 13) (am_ml 13) (am_rt 13)) := rfl
set_option maxRecDepth 100000 in
theorem am_zk14 : lw_tbl[591]? = some (.code (am_y 14) (am_b 14) (am_ml 14) (am_rt 14)) := rfl
set_option maxRecDepth 100000 in
theorem am_zk15 : lw_tbl[573]? = some (.code (am_y 15) (am_b 15) (am_ml 15) (am_rt 15)) := rfl
set_option maxRecDepth 100000 in
theorem am_zk16 : lw_tbl[585]? = some (.code (am_y 16) (am_b 16) (am_ml 16) (am_rt 16)) := rfl
set_option maxRecDepth 100000 in
theorem am_zk17 : lw_tbl[177]? = some (.code (am_y 17) (am_b 17) (am_ml 17) (am_rt 17)) := rfl
set_option maxRecDepth 100000 in
theorem am_zk18 : lw_tbl[328]? = some (.code (am_y 18) (am_b 18) (am_ml 18) (am_rt 18)) := rfl
set_option maxRecDepth 100000 in
theorem am_zk19 : lw_tbl[320]? = some (.code (am_y 19) (am_b 19) (am_ml 19) (am_rt 19)) := rfl
set_option maxRecDepth 100000 in
theorem am_zk20 : lw_tbl[332]? = some (.code (am_y 20) (am_b 20) (am_ml 20) (am_rt 20)) := rfl
set_option maxRecDepth 100000 in
theorem am_zk21 : lw_tbl[304]? = some (.code (am_y 21) (am_b 21) (am_ml 21) (am_rt 21)) := rfl
set_option maxRecDepth 100000 in
theorem am_zk22 : lw_tbl[308]? = some (.code (am_y 22) (am_b 22) (am_ml 22) (am_rt 22)) := rfl
set_option maxRecDepth 100000 in
theorem am_zk23 : lw_tbl[337]? = some (.code (am_y 23) (am_b 23) (am_ml 23) (am_rt 23)) := rfl
set_option maxRecDepth 100000 in
theorem am_zk24 : lw_tbl[341]? = some (.code (am_y 24) (am_b 24) (am_ml 24) (am_rt 24)) := rfl
set_option maxRecDepth 100000 in
theorem am_zk25 : lw_tbl[79]? = some (.code (am_y 25) (am_b 25) (am_ml 25) (am_rt 25)) := rfl
set_option maxRecDepth 100000 in
theorem am_zk26 : lw_tbl[257]? = some (.code (am_y 26) (am_b 26) (am_ml 26) (am_rt 26)) := rfl
set_option maxRecDepth 100000 in
theorem am_zk27 : lw_tbl[226]? = some (.code (am_y 27) (am_b 27) (am_ml 27) (am_rt 27)) := rfl
set_option maxRecDepth 100000 in
theorem am_zk28 : lw_tbl[265]? = some (.code (am_y 28) (am_b 28) (am_ml 28) (am_rt 28)) := rfl
set_option maxRecDepth 100000 in
theorem am_zk29 : lw_tbl[269]? = some (.code (am_y 29) (am_b 29) (am_ml 29) (am_rt 29)) := rfl
set_option maxRecDepth 100000 in
theorem am_zk30 : lw_tbl[273]? = some (.code (am_y 30) (am_b 30) (am_ml 30) (am_rt 30)) := rfl
set_option maxRecDepth 100000 in
theorem am_zk31 : lw_tbl[234]? = some (.code (am_y 31) (am_b 31) (am_ml 31) (am_rt 31)) := rfl
set_option maxRecDepth 100000 in
theorem am_zk32 : lw_tbl[238]? = some (.code (am_y 32) (am_b 32) (am_ml 32) (am_rt 32)) := rfl
set_option maxRecDepth 100000 in
theorem am_zk33 : lw_tbl[230]? = some (.code (am_y 33) (am_b 33) (am_ml 33) (am_rt 33)) := rfl
set_option maxRecDepth 100000 in
theorem am_zk34 : lw_tbl[566]? = some (.code (am_y 34) (am_b 34) (am_ml 34) (am_rt 34)) := rfl
set_option maxRecDepth 100000 in
theorem am_zk35 : lw_tbl[245]? = some (.code (am_y 35) (am_b 35) (am_ml 35) (am_rt 35)) := rfl
set_option maxRecDepth 100000 in
theorem am_zk36 : lw_tbl[345]? = some (.code (am_y 36) (am_b 36) (am_ml 36) (am_rt 36)) := rfl
set_option maxRecDepth 100000 in
theorem am_zk37 : lw_tbl[446]? = some (.code (am_y 37) (am_b 37) (am_ml 37) (am_rt 37)) := rfl
set_option maxRecDepth 100000 in
theorem am_zk38 : lw_tbl[353]? = some (.code (am_y 38) (am_b 38) (am_ml 38) (am_rt 38)) := rfl
set_option maxRecDepth 100000 in
theorem am_zk39 : lw_tbl[249]? = some (.code (am_y 39) (am_b 39) (am_ml 39) (am_rt 39)) := rfl
set_option maxRecDepth 100000 in
theorem am_zk40 : lw_tbl[357]? = some (.code (am_y 40) (am_b 40) (am_ml 40) (am_rt 40)) := rfl
set_option maxRecDepth 100000 in
theorem am_zk41 : lw_tbl[488]? = some (.code (am_y 41) (am_b 41) (am_ml 41) (am_rt 41)) := rfl
set_option maxRecDepth 100000 in
theorem am_zk42 : lw_tbl[675]? = some (.code (am_y 42) (am_b 42) (am_ml 42) (am_rt 42)) := rfl
set_option maxRecDepth 100000 in
theorem am_zk43 : lw_tbl[527]? = some (.code (am_y 43) (am_b 43) (am_ml 43) (am_rt 43)) := rfl
set_option maxRecDepth 100000 in
theorem am_zk44 : lw_tbl[561]? = some (.code (am_y 44) (am_b 44) (am_ml 44) (am_rt 44)) := rfl
set_option maxRecDepth 100000 in
theorem am_zk45 : lw_tbl[127]? = some (.code (am_y 45) (am_b 45) (am_ml 45) (am_rt 45)) := rfl
set_option maxRecDepth 100000 in
theorem am_zk46 : lw_tbl[492]? = some (.code (am_y 46) (am_b 46) (am_ml 46) (am_rt 46)) := rfl
set_option maxRecDepth 100000 in
theorem am_zk47 : lw_tbl[454]? = some (.code (am_y 47) (am_b 47) (am_ml 47) (am_rt 47)) := rfl
set_option maxRecDepth 100000 in
theorem am_zk48 : lw_tbl[545]? = some (.code (am_y 48) (am_b 48) (am_ml 48) (am_rt 48)) := rfl
set_option maxRecDepth 100000 in
theorem am_zk49 : lw_tbl[549]? = some (.code (am_y 49) (am_b 49) (am_ml 49) (am_rt 49)) := rfl
set_option maxRecDepth 100000 in
theorem am_zk50 : lw_tbl[596]? = some (.code (am_y 50) (am_b 50) (am_ml 50) (am_rt 50)) := rfl
set_option maxRecDepth 100000 in
theorem am_zk51 : lw_tbl[606]? = some (.code (am_y 51) (am_b 51) (am_ml 51) (am_rt 51)) := rfl
set_option maxRecDepth 100000 in
theorem am_zk52 : lw_tbl[611]? = some (.code (am_y 52) (am_b 52) (am_ml 52) (am_rt 52)) := rfl
set_option maxRecDepth 100000 in
theorem am_zk53 : lw_tbl[616]? = some (.code (am_y 53) (am_b 53) (am_ml 53) (am_rt 53)) := rfl
set_option maxRecDepth 100000 in
theorem am_zk54 : lw_tbl[600]? = some (.code (am_y 54) (am_b 54) (am_ml 54) (am_rt 54)) := rfl
set_option maxRecDepth 100000 in
theorem am_zk55 : lw_tbl[71]? = some (.code (am_y 55) (am_b 55) (am_ml 55) (am_rt 55)) := rfl
set_option maxRecDepth 100000 in
theorem am_zk56 : lw_tbl[211]? = some (.code (am_y 56) (am_b 56) (am_ml 56) (am_rt 56)) := rfl
set_option maxRecDepth 100000 in
theorem am_zk57 : lw_tbl[253]? = some (.code (am_y 57) (am_b 57) (am_ml 57) (am_rt 57)) := rfl
set_option maxRecDepth 100000 in
theorem am_zk58 : lw_tbl[261]? = some (.code (am_y 58) (am_b 58) (am_ml 58) (am_rt 58)) := rfl
set_option maxRecDepth 100000 in
theorem am_zk59 : lw_tbl[464]? = some (.code (am_y 59) (am_b 59) (am_ml 59) (am_rt 59)) := rfl
set_option maxRecDepth 100000 in
theorem am_zk60 : lw_tbl[624]? = some (.code (am_y 60) (am_b 60) (am_ml 60) (am_rt 60)) := rfl
set_option maxRecDepth 100000 in
theorem am_zk61 : lw_tbl[632]? = some (.code (am_y 61) (am_b 61) (am_ml 61) (am_rt 61)) := rfl
set_option maxRecDepth 100000 in
theorem am_zk62 : lw_tbl[640]? = some (.code (am_y 62) (am_b 62) (am_ml 62) (am_rt 62)) := rfl
set_option maxRecDepth 100000 in
theorem am_zk63 : lw_tbl[648]? = some (.code (am_y 63) (am_b 63) (am_ml 63) (am_rt 63)) := rfl
set_option maxRecDepth 100000 in
theorem am_zk64 : lw_tbl[667]? = some (.code (am_y 64) (am_b 64) (am_ml 64) (am_rt 64)) := rfl
set_option maxRecDepth 100000 in
theorem am_zk65 : lw_tbl[279]? = some (.code (am_y 65) (am_b 65) (am_ml 65) (am_rt 65)) := rfl
set_option maxRecDepth 100000 in
theorem am_zk66 : lw_tbl[287]? = some (.code (am_y 66) (am_b 66) (am_ml 66) (am_rt 66)) := rfl
set_option maxRecDepth 100000 in
theorem am_zk67 : lw_tbl[296]? = some (.code (am_y 67) (am_b 67) (am_ml 67) (am_rt 67)) := rfl
set_option maxRecDepth 100000 in
theorem am_zk68 : lw_tbl[316]? = some (.code (am_y 68) (am_b 68) (am_ml 68) (am_rt 68)) := rfl
set_option maxRecDepth 100000 in
theorem am_zk69 : lw_tbl[324]? = some (.code (am_y 69) (am_b 69) (am_ml 69) (am_rt 69)) := rfl
set_option maxRecDepth 100000 in
theorem am_zk70 : lw_tbl[450]? = some (.code (am_y 70) (am_b 70) (am_ml 70) (am_rt 70)) := rfl
set_option maxRecDepth 100000 in
theorem am_zk71 : lw_tbl[222]? = some (.code (am_y 71) (am_b 71) (am_ml 71) (am_rt 71)) := rfl
set_option maxRecDepth 100000 in
theorem am_zk72 : lw_tbl[215]? = some (.code (am_y 72) (am_b 72) (am_ml 72) (am_rt 72)) := rfl
set_option maxRecDepth 100000 in
theorem am_zk73 : lw_tbl[468]? = some (.code (am_y 73) (am_b 73) (am_ml 73) (am_rt 73)) := rfl
set_option maxRecDepth 100000 in
theorem am_zk74 : lw_tbl[656]? = some (.code (am_y 74) (am_b 74) (am_ml 74) (am_rt 74)) := rfl
set_option maxRecDepth 100000 in
theorem am_zk75 : lw_tbl[671]? = some (.code (am_y 75) (am_b 75) (am_ml 75) (am_rt 75)) := rfl
set_option maxRecDepth 100000 in
theorem am_zk76 : lw_tbl[680]? = some (.code (am_y 76) (am_b 76) (am_ml 76) (am_rt 76)) := rfl
set_option maxRecDepth 100000 in
theorem am_zk77 : lw_tbl[783]? = some (.code (am_y 77) (am_b 77) (am_ml 77) (am_rt 77)) := rfl
set_option maxRecDepth 100000 in
theorem am_zk78 : lw_tbl[924]? = some (.code (am_y 78) (am_b 78) (am_ml 78) (am_rt 78)) := rfl
set_option maxRecDepth 100000 in
theorem am_zk79 : lw_tbl[830]? = some (.code (am_y 79) (am_b 79) (am_ml 79) (am_rt 79)) := rfl
set_option maxRecDepth 100000 in
theorem am_zk80 : lw_tbl[841]? = some (.code (am_y 80) (am_b 80) (am_ml 80) (am_rt 80)) := rfl
set_option maxRecDepth 100000 in
theorem am_zk81 : lw_tbl[844]? = some (.code (am_y 81) (am_b 81) (am_ml 81) (am_rt 81)) := rfl
set_option maxRecDepth 100000 in
theorem am_zk82 : lw_tbl[827]? = some (.code (am_y 82) (am_b 82) (am_ml 82) (am_rt 82)) := rfl
set_option maxRecDepth 100000 in
theorem am_zk83 : lw_tbl[860]? = some (.code (am_y 83) (am_b 83) (am_ml 83) (am_rt 83)) := rfl
set_option maxRecDepth 100000 in
theorem am_zk84 : lw_tbl[856]? = some (.code (am_y 84) (am_b 84) (am_ml 84) (am_rt 84)) := rfl
set_option maxRecDepth 100000 in
theorem am_zk85 : lw_tbl[834]? = some (.code (am_y 85) (am_b 85) (am_ml 85) (am_rt 85)) := rfl
set_option maxRecDepth 100000 in
theorem am_zk86 : lw_tbl[848]? = some (.code (am_y 86) (am_b 86) (am_ml 86) (am_rt 86)) := rfl
set_option maxRecDepth 100000 in
theorem am_zk87 : lw_tbl[896]? = some (.code (am_y 87) (am_b 87) (am_ml 87) (am_rt 87)) := rfl
set_option maxRecDepth 100000 in
theorem am_zk88 : lw_tbl[838]? = some (.code (am_y 88) (am_b 88) (am_ml 88) (am_rt 88)) := rfl
set_option maxRecDepth 100000 in
theorem am_zk89 : lw_tbl[872]? = some (.code (am_y 89) (am_b 89) (am_ml 89) (am_rt 89)) := rfl
set_option maxRecDepth 100000 in
theorem am_zk90 : lw_tbl[880]? = some (.code (am_y 90) (am_b 90) (am_ml 90) (am_rt 90)) := rfl
set_option maxRecDepth 100000 in
theorem am_zk91 : lw_tbl[876]? = some (.code (am_y 91) (am_b 91) (am_ml 91) (am_rt 91)) := rfl
set_option maxRecDepth 100000 in
theorem am_zk92 : lw_tbl[888]? = some (.code (am_y 92) (am_b 92) (am_ml 92) (am_rt 92)) := rfl
set_option maxRecDepth 100000 in
theorem am_zk93 : lw_tbl[884]? = some (.code (am_y 93) (am_b 93) (am_ml 93) (am_rt 93)) := rfl
set_option maxRecDepth 100000 in
theorem am_zk94 : lw_tbl[892]? = some (.code (am_y 94) (am_b 94) (am_ml 94) (am_rt 94)) := rfl
set_option maxRecDepth 100000 in
theorem am_zk95 : lw_tbl[868]? = some (.code (am_y 95) (am_b 95) (am_ml 95) (am_rt 95)) := rfl
set_option maxRecDepth 100000 in
theorem am_zk96 : lw_tbl[912]? = some (.code (am_y 96) (am_b 96) (am_ml 96) (am_rt 96)) := rfl
set_option maxRecDepth 100000 in
theorem am_zk97 : lw_tbl[916]? = some (.code (am_y 97) (am_b 97) (am_ml 97) (am_rt 97)) := rfl
set_option maxRecDepth 100000 in
theorem am_zk98 : lw_tbl[908]? = some (.code (am_y 98) (am_b 98) (am_ml 98) (am_rt 98)) := rfl
set_option maxRecDepth 100000 in
theorem am_zk99 : lw_tbl[819]? = some (.code (am_y 99) (am_b 99) (am_ml 99) (am_rt 99)) := rfl
set_option maxRecDepth 100000 in
theorem am_zk100 : lw_tbl[900]? = some (.code (am_y 100) (am_b 100) (am_ml 100) (am_rt 100)) := rfl
set_option maxRecDepth 100000 in
theorem am_zk101 : lw_tbl[852]? = some (.code (am_y 101) (am_b 101) (am_ml 101) (am_rt 101)) := rfl
set_option maxRecDepth 100000 in
theorem am_zk102 : lw_tbl[823]? = some (.code (am_y 102) (am_b 102) (am_ml 102) (am_rt 102)) := rfl
set_option maxRecDepth 100000 in
theorem am_zk103 : lw_tbl[864]? = some (.code (am_y 103) (am_b 103) (am_ml 103) (am_rt 103)) := rfl
set_option maxRecDepth 100000 in
theorem am_zk104 : lw_tbl[904]? = some (.code (am_y 104) (am_b 104) (am_ml 104) (am_rt 104)) := rfl
set_option maxRecDepth 100000 in
theorem am_zk105 : lw_tbl[815]? = some (.code (am_y 105) (am_b 105) (am_ml 105) (am_rt 105)) := rfl
set_option maxRecDepth 100000 in
theorem am_zk106 : lw_tbl[787]? = some (.code (am_y 106) (am_b 106) (am_ml 106) (am_rt 106)) := rfl
set_option maxRecDepth 100000 in
theorem am_zk107 : lw_tbl[791]? = some (.code (am_y 107) (am_b 107) (am_ml 107) (am_rt 107)) := rfl
set_option maxRecDepth 100000 in
theorem am_zk108 : lw_tbl[799]? = some (.code (am_y 108) (am_b 108) (am_ml 108) (am_rt 108)) := rfl
set_option maxRecDepth 100000 in
theorem am_zk109 : lw_tbl[795]? = some (.code (am_y 109) (am_b 109) (am_ml 109) (am_rt 109)) := rfl
set_option maxRecDepth 100000 in
theorem am_zk110 : lw_tbl[811]? = some (.code (am_y 110) (am_b 110) (am_ml 110) (am_rt 110)) := rfl
set_option maxRecDepth 100000 in
theorem am_zk111 : lw_tbl[807]? = some (.code (am_y 111) (am_b 111) (am_ml 111) (am_rt 111)) := rfl
set_option maxRecDepth 100000 in
theorem am_zk112 : lw_tbl[920]? = some (.code (am_y 112) (am_b 112) (am_ml 112) (am_rt 112)) := rfl
set_option maxRecDepth 100000 in
theorem am_zk113 : lw_tbl[803]? = some (.code (am_y 113) (am_b 113) (am_ml 113) (am_rt 113)) := rfl
set_option maxRecDepth 100000 in
theorem am_zk114 : lw_tbl[928]? = some (.code (am_y 114) (am_b 114) (am_ml 114) (am_rt 114)) := rfl
set_option maxRecDepth 100000 in
theorem am_zk115 : lw_tbl[932]? = some (.code (am_y 115) (am_b 115) (am_ml 115) (am_rt 115)) := rfl
set_option maxRecDepth 100000 in
theorem am_zk116 : lw_tbl[936]? = some (.code (am_y 116) (am_b 116) (am_ml 116) (am_rt 116)) := rfl
set_option maxRecDepth 100000 in
theorem am_zk117 : lw_tbl[940]? = some (.code (am_y 117) (am_b 117) (am_ml 117) (am_rt 117)) := rfl
set_option maxRecDepth 100000 in
theorem am_zk118 : lw_tbl[944]? = some (.code (am_y 118) (am_b 118) (am_ml 118) (am_rt 118)) := rfl
set_option maxRecDepth 100000 in
theorem am_zk119 : lw_tbl[948]? = some (.code (am_y 119) (am_b 119) (am_ml 119) (am_rt 119)) := rfl
set_option maxRecDepth 100000 in
theorem am_zk120 : lw_tbl[952]? = some (.code (am_y 120) (am_b 120) (am_ml 120) (am_rt 120)) := rfl
set_option maxRecDepth 100000 in
theorem am_zk121 : lw_tbl[956]? = some (.code (am_y 121) (am_b 121) (am_ml 121) (am_rt 121)) := rfl
set_option maxRecDepth 100000 in
theorem am_zk122 : lw_tbl[960]? = some (.code (am_y 122) (am_b 122) (am_ml 122) (am_rt 122)) := rfl
set_option maxRecDepth 100000 in
theorem am_zk123 : lw_tbl[968]? = some (.code (am_y 123) (am_b 123) (am_ml 123) (am_rt 123)) := rfl
set_option maxRecDepth 100000 in
theorem am_zk124 : lw_tbl[964]? = some (.code (am_y 124) (am_b 124) (am_ml 124) (am_rt 124)) := rfl
set_option maxRecDepth 100000 in
theorem am_zk125 : lw_tbl[973]? = some (.code (am_y 125) (am_b 125) (am_ml 125) (am_rt 125)) := rfl
set_option maxRecDepth 100000 in
theorem am_zk126 : lw_tbl[457]? = some (.codeWith (am_y 126) (am_b 126) (am_ml 126) (am_rt 126) (am_hh 126)) := rfl
set_option maxRecDepth 100000 in
theorem am_zk127 : lw_tbl[620]? = some (.codeWith (am_y 127) (am_b 127) (am_ml 127) (am_rt 127) (am_hh 127)) := rfl
set_option maxRecDepth 100000 in
theorem am_zk128 : lw_tbl[628]? = some (.codeWith (am_y 128) (am_b 128) (am_ml 128) (am_rt 128) (am_hh 128)) := rfl
set_option maxRecDepth 100000 in
theorem am_zk129 : lw_tbl[636]? = some (.codeWith (am_y 129) (am_b 129) (am_ml 129) (am_rt 129) (am_hh 129)) := rfl
set_option maxRecDepth 100000 in
theorem am_zk130 : lw_tbl[644]? = some (.codeWith (am_y 130) (am_b 130) (am_ml 130) (am_rt 130) (am_hh 130)) := rfl
set_option maxRecDepth 100000 in
theorem am_zk131 : lw_tbl[663]? = some (.codeWith (am_y 131) (am_b 131) (am_ml 131) (am_rt 131) (am_hh 131)) := rfl
theorem am_ck (k : Nat) : am_cok k = true := match k with
  | 0 => am_ck0
  | 1 => am_ck1
  | 2 => am_ck2
  | 3 => am_ck3
  | 4 => am_ck4
  | 5 => am_ck5
  | 6 => am_ck6
  | 7 => am_ck7
  | 8 => am_ck8
  | 9 => am_ck9
  | 10 => am_ck10
  | 11 => am_ck11
  | 12 => am_ck12
  | 13 => am_ck13
  | 14 => am_ck14
  | 15 => am_ck15
  | 16 => am_ck16
  | 17 => am_ck17
  | 18 => am_ck18
  | 19 => am_ck19
  | 20 => am_ck20
  | 21 => am_ck21
  | 22 => am_ck22
  | 23 => am_ck23
  | 24 => am_ck24
  | 25 => am_ck25
  | 26 => am_ck26
  | 27 => am_ck27
  | 28 => am_ck28
  | 29 => am_ck29
  | 30 => am_ck30
  | 31 => am_ck31
  | 32 => am_ck32
  | 33 => am_ck33
  | 34 => am_ck34
  | 35 => am_ck35
  | 36 => am_ck36
  | 37 => am_ck37
  | 38 => am_ck38
  | 39 => am_ck39
  | 40 => am_ck40
  | 41 => am_ck41
  | 42 => am_ck42
  | 43 => am_ck43
  | 44 => am_ck44
  | 45 => am_ck45
  | 46 => am_ck46
  | 47 => am_ck47
  | 48 => am_ck48
  | 49 => am_ck49
  | 50 => am_ck50
  | 51 => am_ck51
  | 52 => am_ck52
  | 53 => am_ck53
  | 54 => am_ck54
  | 55 => am_ck55
  | 56 => am_ck56
  | 57 => am_ck57
  | 58 => am_ck58
  | 59 => am_ck59
  | 60 => am_ck60
  | 61 => am_ck61
  | 62 => am_ck62
  | 63 => am_ck63
  | 64 => am_ck64
  | 65 => am_ck65
  | 66 => am_ck66
  | 67 => am_ck67
  | 68 => am_ck68
  | 69 => am_ck69
  | 70 => am_ck70
  | 71 => am_ck71
  | 72 => am_ck72
  | 73 => am_ck73
  | 74 => am_ck74
  | 75 => am_ck75
  | 76 => am_ck76
  | 77 => am_ck77
  | 78 => am_ck78
  | 79 => am_ck79
  | 80 => am_ck80
  | 81 => am_ck81
  | 82 => am_ck82
  | 83 => am_ck83
  | 84 => am_ck84
  | 85 => am_ck85
  | 86 => am_ck86
  | 87 => am_ck87
  | 88 => am_ck88
  | 89 => am_ck89
  | 90 => am_ck90
  | 91 => am_ck91
  | 92 => am_ck92
  | 93 => am_ck93
  | 94 => am_ck94
  | 95 => am_ck95
  | 96 => am_ck96
  | 97 => am_ck97
  | 98 => am_ck98
  | 99 => am_ck99
  | 100 => am_ck100
  | 101 => am_ck101
  | 102 => am_ck102
  | 103 => am_ck103
  | 104 => am_ck104
  | 105 => am_ck105
  | 106 => am_ck106
  | 107 => am_ck107
  | 108 => am_ck108
  | 109 => am_ck109
  | 110 => am_ck110
  | 111 => am_ck111
  | 112 => am_ck112
  | 113 => am_ck113
  | 114 => am_ck114
  | 115 => am_ck115
  | 116 => am_ck116
  | 117 => am_ck117
  | 118 => am_ck118
  | 119 => am_ck119
  | 120 => am_ck120
  | 121 => am_ck121
  | 122 => am_ck122
  | 123 => am_ck123
  | 124 => am_ck124
  | 125 => am_ck125
  | 126 => am_ck126
  | 127 => am_ck127
  | 128 => am_ck128
  | 129 => am_ck129
  | 130 => am_ck130
  | 131 => am_ck131
  | 132 => am_ck132
  | _ + 133 => rfl
theorem am_mk (k : Nat) (hk : k < am_nm) (hl : k ≠ am_M) : am_mok k = true := match k, hk, hl with
  | 0, _, _ => am_mk0
  | 1, _, _ => am_mk1
  | 2, _, _ => am_mk2
  | 3, _, _ => am_mk3
  | 4, _, _ => am_mk4
  | 5, _, _ => am_mk5
  | 6, _, _ => am_mk6
  | 7, _, _ => am_mk7
  | 8, _, _ => am_mk8
  | 9, _, _ => am_mk9
  | 10, _, _ => am_mk10
  | 11, _, _ => am_mk11
  | 12, _, _ => am_mk12
  | 13, _, _ => am_mk13
  | 14, _, _ => am_mk14
  | 15, _, _ => am_mk15
  | 16, _, _ => am_mk16
  | 17, _, _ => am_mk17
  | 18, _, _ => am_mk18
  | 19, _, _ => am_mk19
  | 20, _, _ => am_mk20
  | 21, _, _ => am_mk21
  | 22, _, _ => am_mk22
  | 23, _, _ => am_mk23
  | 24, _, _ => am_mk24
  | 25, _, _ => am_mk25
  | 26, _, _ => am_mk26
  | 27, _, _ => am_mk27
  | 28, _, _ => am_mk28
  | 29, _, _ => am_mk29
  | 30, _, _ => am_mk30
  | 31, _, _ => am_mk31
  | 32, _, _ => am_mk32
  | 33, _, _ => am_mk33
  | 34, _, _ => am_mk34
  | 35, _, _ => am_mk35
  | 36, _, _ => am_mk36
  | 37, _, _ => am_mk37
  | 38, _, _ => am_mk38
  | 39, _, _ => am_mk39
  | 40, _, _ => am_mk40
  | 41, _, _ => am_mk41
  | 42, _, _ => am_mk42
  | 43, _, _ => am_mk43
  | 44, _, _ => am_mk44
  | 45, _, _ => am_mk45
  | 46, _, _ => am_mk46
  | 47, _, _ => am_mk47
  | 48, _, _ => am_mk48
  | 49, _, _ => am_mk49
  | 50, _, _ => am_mk50
  | 51, _, _ => am_mk51
  | 52, _, _ => am_mk52
  | 53, _, _ => am_mk53
  | 54, _, _ => am_mk54
  | 55, _, _ => am_mk55
  | 56, _, _ => am_mk56
  | 57, _, _ => am_mk57
  | 58, _, _ => am_mk58
  | 59, _, _ => am_mk59
  | 60, _, _ => am_mk60
  | 61, _, _ => am_mk61
  | 62, _, _ => am_mk62
  | 63, _, _ => am_mk63
  | 64, _, _ => am_mk64
  | 65, _, _ => am_mk65
  | 66, _, _ => am_mk66
  | 67, _, _ => am_mk67
  | 68, _, _ => am_mk68
  | 69, _, _ => am_mk69
  | 70, _, _ => am_mk70
  | 71, _, _ => am_mk71
  | 72, _, _ => am_mk72
  | 73, _, _ => am_mk73
  | 74, _, _ => am_mk74
  | 75, _, _ => am_mk75
  | 76, _, _ => am_mk76
  | 77, _, _ => am_mk77
  | 78, _, _ => am_mk78
  | 79, _, _ => am_mk79
  | 80, _, _ => am_mk80
  | 81, _, _ => am_mk81
  | 82, _, _ => am_mk82
  | 83, _, _ => am_mk83
  | 84, _, _ => am_mk84
  | 85, _, _ => am_mk85
  | 86, _, _ => am_mk86
  | 87, _, _ => am_mk87
  | 88, _, _ => am_mk88
  | 89, _, _ => am_mk89
  | 90, _, _ => am_mk90
  | 91, _, _ => am_mk91
  | 92, _, _ => am_mk92
  | 93, _, _ => am_mk93
  | 94, _, _ => am_mk94
  | 95, _, _ => am_mk95
  | 96, _, _ => am_mk96
  | 97, _, _ => am_mk97
  | 98, _, _ => am_mk98
  | 99, _, _ => am_mk99
  | 100, _, _ => am_mk100
  | 101, _, _ => am_mk101
  | 102, _, _ => am_mk102
  | 103, _, _ => am_mk103
  | 104, _, _ => am_mk104
  | 105, _, _ => am_mk105
  | 106, _, _ => am_mk106
  | 107, _, _ => am_mk107
  | 108, _, _ => am_mk108
  | 109, _, _ => am_mk109
  | 110, _, _ => am_mk110
  | 111, _, _ => am_mk111
  | 112, _, _ => am_mk112
  | 113, _, _ => am_mk113
  | 114, _, _ => am_mk114
  | 115, _, _ => am_mk115
  | 116, _, _ => am_mk116
  | 117, _, _ => am_mk117
  | 118, _, _ => am_mk118
  | 119, _, _ => am_mk119
  | 120, _, _ => am_mk120
  | 121, _, _ => am_mk121
  | 122, _, _ => am_mk122
  | 123, _, _ => am_mk123
  | 124, _, _ => am_mk124
  | 125, _, _ => am_mk125
  | 126, _, _ => am_mk126
  | 127, _, _ => am_mk127
  | 128, _, _ => am_mk128
  | 129, _, _ => am_mk129
  | 130, _, _ => am_mk130
  | 131, _, _ => am_mk131
  | 132, _, hl => absurd rfl hl
  | k + 133, hk, _ => absurd hk (Nat.not_lt.mpr (Nat.le_add_left 133 k))
def am_cw (k : Nat) : Cond := match am_hh k with
  | [] => .code (am_y k) (am_b k) (am_ml k) (am_rt k)
  | q :: r => .codeWith (am_y k) (am_b k) (am_ml k) (am_rt k) (q :: r)
set_option maxRecDepth 100000 in
theorem am_zk (k : Nat) (hk : k < am_nm) (hl : k ≠ am_M) : lw_tbl[(am_mz k).1]? = some (am_cw k) := match k, hk, hl with
  | 0, _, _ => am_zk0
  | 1, _, _ => am_zk1
  | 2, _, _ => am_zk2
  | 3, _, _ => am_zk3
  | 4, _, _ => am_zk4
  | 5, _, _ => am_zk5
  | 6, _, _ => am_zk6
  | 7, _, _ => am_zk7
  | 8, _, _ => am_zk8
  | 9, _, _ => am_zk9
  | 10, _, _ => am_zk10
  | 11, _, _ => am_zk11
  | 12, _, _ => am_zk12
  | 13, _, _ => am_zk13
  | 14, _, _ => am_zk14
  | 15, _, _ => am_zk15
  | 16, _, _ => am_zk16
  | 17, _, _ => am_zk17
  | 18, _, _ => am_zk18
  | 19, _, _ => am_zk19
  | 20, _, _ => am_zk20
  | 21, _, _ => am_zk21
  | 22, _, _ => am_zk22
  | 23, _, _ => am_zk23
  | 24, _, _ => am_zk24
  | 25, _, _ => am_zk25
  | 26, _, _ => am_zk26
  | 27, _, _ => am_zk27
  | 28, _, _ => am_zk28
  | 29, _, _ => am_zk29
  | 30, _, _ => am_zk30
  | 31, _, _ => am_zk31
  | 32, _, _ => am_zk32
  | 33, _, _ => am_zk33
  | 34, _, _ => am_zk34
  | 35, _, _ => am_zk35
  | 36, _, _ => am_zk36
  | 37, _, _ => am_zk37
  | 38, _, _ => am_zk38
  | 39, _, _ => am_zk39
  | 40, _, _ => am_zk40
  | 41, _, _ => am_zk41
  | 42, _, _ => am_zk42
  | 43, _, _ => am_zk43
  | 44, _, _ => am_zk44
  | 45, _, _ => am_zk45
  | 46, _, _ => am_zk46
  | 47, _, _ => am_zk47
  | 48, _, _ => am_zk48
  | 49, _, _ => am_zk49
  | 50, _, _ => am_zk50
  | 51, _, _ => am_zk51
  | 52, _, _ => am_zk52
  | 53, _, _ => am_zk53
  | 54, _, _ => am_zk54
  | 55, _, _ => am_zk55
  | 56, _, _ => am_zk56
  | 57, _, _ => am_zk57
  | 58, _, _ => am_zk58
  | 59, _, _ => am_zk59
  | 60, _, _ => am_zk60
  | 61, _, _ => am_zk61
  | 62, _, _ => am_zk62
  | 63, _, _ => am_zk63
  | 64, _, _ => am_zk64
  | 65, _, _ => am_zk65
  | 66, _, _ => am_zk66
  | 67, _, _ => am_zk67
  | 68, _, _ => am_zk68
  | 69, _, _ => am_zk69
  | 70, _, _ => am_zk70
  | 71, _, _ => am_zk71
  | 72, _, _ => am_zk72
  | 73, _, _ => am_zk73
  | 74, _, _ => am_zk74
  | 75, _, _ => am_zk75
  | 76, _, _ => am_zk76
  | 77, _, _ => am_zk77
  | 78, _, _ => am_zk78
  | 79, _, _ => am_zk79
  | 80, _, _ => am_zk80
  | 81, _, _ => am_zk81
  | 82, _, _ => am_zk82
  | 83, _, _ => am_zk83
  | 84, _, _ => am_zk84
  | 85, _, _ => am_zk85
  | 86, _, _ => am_zk86
  | 87, _, _ => am_zk87
  | 88, _, _ => am_zk88
  | 89, _, _ => am_zk89
  | 90, _, _ => am_zk90
  | 91, _, _ => am_zk91
  | 92, _, _ => am_zk92
  | 93, _, _ => am_zk93
  | 94, _, _ => am_zk94
  | 95, _, _ => am_zk95
  | 96, _, _ => am_zk96
  | 97, _, _ => am_zk97
  | 98, _, _ => am_zk98
  | 99, _, _ => am_zk99
  | 100, _, _ => am_zk100
  | 101, _, _ => am_zk101
  | 102, _, _ => am_zk102
  | 103, _, _ => am_zk103
  | 104, _, _ => am_zk104
  | 105, _, _ => am_zk105
  | 106, _, _ => am_zk106
  | 107, _, _ => am_zk107
  | 108, _, _ => am_zk108
  | 109, _, _ => am_zk109
  | 110, _, _ => am_zk110
  | 111, _, _ => am_zk111
  | 112, _, _ => am_zk112
  | 113, _, _ => am_zk113
  | 114, _, _ => am_zk114
  | 115, _, _ => am_zk115
  | 116, _, _ => am_zk116
  | 117, _, _ => am_zk117
  | 118, _, _ => am_zk118
  | 119, _, _ => am_zk119
  | 120, _, _ => am_zk120
  | 121, _, _ => am_zk121
  | 122, _, _ => am_zk122
  | 123, _, _ => am_zk123
  | 124, _, _ => am_zk124
  | 125, _, _ => am_zk125
  | 126, _, _ => am_zk126
  | 127, _, _ => am_zk127
  | 128, _, _ => am_zk128
  | 129, _, _ => am_zk129
  | 130, _, _ => am_zk130
  | 131, _, _ => am_zk131
  | 132, _, hl => absurd rfl hl
  | k + 133, hk, _ => absurd hk (Nat.not_lt.mpr (Nat.le_add_left 133 k))
theorem am_lk0 : u_ws (am_C 0) (am_T 0) (am_N 0) = (am_lz 0).filterMap (fun i => lw_tbl[i]?) ∧ (u_ws (am_C 0) (am_T 0) (am_N 0)).all goodWord = true := ⟨by decide +kernel, by decide +kernel⟩
theorem am_ok0 : (am_pl (am_cz 0).1 (.instantiable (am_C 0) (am_N 0)) && am_pl (am_cz 0).2 (.initialized (am_C 0))) = true ∧ (am_df 0).length = am_N 0 ∧ (∀ j, j < am_N 0 → defaultValue (am_ty 0 j) = vp_V (am_df 0) j) := ⟨by decide +kernel, rfl, by decide +kernel⟩
theorem am_lk1 : u_ws (am_C 1) (am_T 1) (am_N 1) = (am_lz 1).filterMap (fun i => lw_tbl[i]?) ∧ (u_ws (am_C 1) (am_T 1) (am_N 1)).all goodWord = true := ⟨by decide +kernel, by decide +kernel⟩
theorem am_ok1 : (am_pl (am_cz 1).1 (.instantiable (am_C 1) (am_N 1)) && am_pl (am_cz 1).2 (.initialized (am_C 1))) = true ∧ (am_df 1).length = am_N 1 ∧ (∀ j, j < am_N 1 → defaultValue (am_ty 1 j) = vp_V (am_df 1) j) := ⟨by decide +kernel, rfl, by decide +kernel⟩
theorem am_lk2 : u_ws (am_C 2) (am_T 2) (am_N 2) = (am_lz 2).filterMap (fun i => lw_tbl[i]?) ∧ (u_ws (am_C 2) (am_T 2) (am_N 2)).all goodWord = true := ⟨by decide +kernel, by decide +kernel⟩
theorem am_ok2 : (am_pl (am_cz 2).1 (.instantiable (am_C 2) (am_N 2)) && am_pl (am_cz 2).2 (.initialized (am_C 2))) = true ∧ (am_df 2).length = am_N 2 ∧ (∀ j, j < am_N 2 → defaultValue (am_ty 2 j) = vp_V (am_df 2) j) := ⟨by decide +kernel, rfl, by decide +kernel⟩
theorem am_lk3 : u_ws (am_C 3) (am_T 3) (am_N 3) = (am_lz 3).filterMap (fun i => lw_tbl[i]?) ∧ (u_ws (am_C 3) (am_T 3) (am_N 3)).all goodWord = true := ⟨by decide +kernel, by decide +kernel⟩
theorem am_ok3 : (am_pl (am_cz 3).1 (.instantiable (am_C 3) (am_N 3)) && am_pl (am_cz 3).2 (.initialized (am_C 3))) = true ∧ (am_df 3).length = am_N 3 ∧ (∀ j, j < am_N 3 → defaultValue (am_ty 3 j) = vp_V (am_df 3) j) := ⟨by decide +kernel, rfl, by decide +kernel⟩
theorem am_lk4 : u_ws (am_C 4) (am_T 4) (am_N 4) = (am_lz 4).filterMap (fun i => lw_tbl[i]?) ∧ (u_ws (am_C 4) (am_T 4) (am_N 4)).all goodWord = true := ⟨by decide +kernel, by decide +kernel⟩
theorem am_ok4 : (am_pl (am_cz 4).1 (.instantiable (am_C 4) (am_N 4)) && am_pl (am_cz 4).2 (.initialized (am_C 4))) = true ∧ (am_df 4).length = am_N 4 ∧ (∀ j, j < am_N 4 → defaultValue (am_ty 4 j) = vp_V (am_df 4) j) := ⟨by decide +kernel, rfl, by decide +kernel⟩
theorem am_lk5 : u_ws (am_C 5) (am_T 5) (am_N 5) = (am_lz 5).filterMap (fun i => lw_tbl[i]?) ∧ (u_ws (am_C 5) (am_T 5) (am_N 5)).all goodWord = true := ⟨by decide +kernel, by decide +kernel⟩
theorem am_ok5 : (am_pl (am_cz 5).1 (.instantiable (am_C 5) (am_N 5)) && am_pl (am_cz 5).2 (.initialized (am_C 5))) = true ∧ (am_df 5).length = am_N 5 ∧ (∀ j, j < am_N 5 → defaultValue (am_ty 5 j) = vp_V (am_df 5) j) := ⟨by decide +kernel, rfl, by decide +kernel⟩
theorem am_lk6 : u_ws (am_C 6) (am_T 6) (am_N 6) = (am_lz 6).filterMap (fun i => lw_tbl[i]?) ∧ (u_ws (am_C 6) (am_T 6) (am_N 6)).all goodWord = true := ⟨by decide +kernel, by decide +kernel⟩
theorem am_ok6 : (am_pl (am_cz 6).1 (.instantiable (am_C 6) (am_N 6)) && am_pl (am_cz 6).2 (.initialized (am_C 6))) = true ∧ (am_df 6).length = am_N 6 ∧ (∀ j, j < am_N 6 → defaultValue (am_ty 6 j) = vp_V (am_df 6) j) := ⟨by decide +kernel, rfl, by decide +kernel⟩
theorem am_lk (k : Nat) (hk : k < 7) : u_ws (am_C k) (am_T k) (am_N k) = (am_lz k).filterMap (fun i => lw_tbl[i]?) ∧ (u_ws (am_C k) (am_T k) (am_N k)).all goodWord = true := match k, hk with
  | 0, _ => am_lk0
  | 1, _ => am_lk1
  | 2, _ => am_lk2
  | 3, _ => am_lk3
  | 4, _ => am_lk4
  | 5, _ => am_lk5
  | 6, _ => am_lk6
  | k + 7, hk => absurd hk (Nat.not_lt.mpr (Nat.le_add_left 7 k))
theorem am_ok (k : Nat) (hk : k < 7) : (am_pl (am_cz k).1 (.instantiable (am_C k) (am_N k)) && am_pl (am_cz k).2 (.initialized (am_C k))) = true ∧ (am_df k).length = am_N k ∧ (∀ j, j < am_N k → defaultValue (am_ty k j) = vp_V (am_df k) j) := match k, hk with
  | 0, _ => am_ok0
  | 1, _ => am_ok1
  | 2, _ => am_ok2
  | 3, _ => am_ok3
  | 4, _ => am_ok4
  | 5, _ => am_ok5
  | 6, _ => am_ok6
  | k + 7, hk => absurd hk (Nat.not_lt.mpr (Nat.le_add_left 7 k))
theorem am_vw (k : Nat) (hk : k < 7) : vwCl[k]? = some (am_C k, am_T k, am_N k) := match k, hk with
  | 0, _ => rfl
  | 1, _ => rfl
  | 2, _ => rfl
  | 3, _ => rfl
  | 4, _ => rfl
  | 5, _ => rfl
  | 6, _ => rfl
  | k + 7, hk => absurd hk (Nat.not_lt.mpr (Nat.le_add_left 7 k))
theorem am_tyok (k : Nat) (hk : k < 7) : ∀ j, j < am_N k → parseFieldDescriptor (am_T k j).2.2.1 = some (am_ty k j) := match k, hk with
  | 0, _ => tyX0_ok
  | 1, _ => tyX1_ok
  | 2, _ => tyX2_ok
  | 3, _ => tyX3_ok
  | 4, _ => tyX4_ok
  | 5, _ => tyX5_ok
  | 6, _ => tyX6_ok
  | k + 7, hk => absurd hk (Nat.not_lt.mpr (Nat.le_add_left 7 k))
theorem am_nmok (k : Nat) (hk : k < 7) : ∀ a, a < am_N k → ∀ b, b < am_N k → a ≠ b → (am_T k a).2.1 ≠ (am_T k b).2.1 := match k, hk with
  | 0, _ => nmX0
  | 1, _ => nmX1
  | 2, _ => nmX2
  | 3, _ => nmX3
  | 4, _ => nmX4
  | 5, _ => nmX5
  | 6, _ => nmX6
  | k + 7, hk => absurd hk (Nat.not_lt.mpr (Nat.le_add_left 7 k))
theorem am_azok : (am_pl (am_az 0) (.arrayClass .int) && (am_pl (am_az 1) (.arrayClass .boolean) && am_pl (am_az 2) (.arrayClass .long))) = true := by decide +kernel
theorem am_ozok : am_pl am_oz.1 (.instanceMethod Lib.objectInit) = true := by decide +kernel
set_option maxRecDepth 100000 in
theorem am_ozk : lw_tbl[am_oz.2]? = some (.code Lib.objectInit ⟨#[0xb1]⟩ 1 none) := rfl
theorem am_xzok : (am_pl am_xz.1 (.static Lib.Math.max.name) && am_pl am_xz.2.1 (.initialized "java/lang/Math")) = true := by decide +kernel
set_option maxRecDepth 100000 in
theorem am_xzk : lw_tbl[am_xz.2.2]? = some (.code Lib.Math.max.name Lib.Math.max.code 2 (some .int)) := rfl
end
section
theorem am_hh_ki (x : Nat) (h : am_ki x = 1) : am_hh x = [] := by
  unfold am_hh
  split <;> first | rfl | (exact absurd h (by decide))
def am_hok (mid : Nat) : Bool := (am_hh mid).all fun q => am_pl (am_catz q.2.2.2) (.classLink (am_own mid) q.2.2.2 (am_en (am_cat q.2.2.2))) && (Nat.blt (am_cat q.2.2.2) 3 && Nat.blt 0 q.2.2.2)
theorem am_hk (k : Nat) : am_hok k = true := match k with
  | 126 => by decide +kernel
  | 127 => by decide +kernel
  | 128 => by decide +kernel
  | 129 => by decide +kernel
  | 130 => by decide +kernel
  | 131 => by decide +kernel
  | k => by
    unfold am_hok am_hh
    split <;> first | rfl | decide +kernel
theorem am_occ (k : Nat) (hk : k < am_nm) (hm : k ≠ am_M) (hl : am_ki k = 1) : am_C (am_oc k) = (am_y k).cls ∧ am_oc k < 7 := match k, hk, hm, hl with
  | 0, _, _, _ => ⟨rfl, by decide⟩
  | 1, _, _, _ => ⟨rfl, by decide⟩
  | 2, _, _, _ => ⟨rfl, by decide⟩
  | 3, _, _, _ => ⟨rfl, by decide⟩
  | 4, _, _, _ => ⟨rfl, by decide⟩
  | 5, _, _, _ => ⟨rfl, by decide⟩
  | 6, _, _, _ => ⟨rfl, by decide⟩
  | 7, _, _, _ => ⟨rfl, by decide⟩
  | 8, _, _, _ => ⟨rfl, by decide⟩
  | 9, _, _, _ => ⟨rfl, by decide⟩
  | 10, _, _, _ => ⟨rfl, by decide⟩
  | 11, _, _, _ => ⟨rfl, by decide⟩
  | 12, _, _, _ => ⟨rfl, by decide⟩
  | 13, _, _, _ => ⟨rfl, by decide⟩
  | 14, _, _, _ => ⟨rfl, by decide⟩
  | 15, _, _, _ => ⟨rfl, by decide⟩
  | 16, _, _, _ => ⟨rfl, by decide⟩
  | 17, _, _, _ => ⟨rfl, by decide⟩
  | 18, _, _, _ => ⟨rfl, by decide⟩
  | 19, _, _, _ => ⟨rfl, by decide⟩
  | 20, _, _, _ => ⟨rfl, by decide⟩
  | 21, _, _, _ => ⟨rfl, by decide⟩
  | 22, _, _, _ => ⟨rfl, by decide⟩
  | 23, _, _, _ => ⟨rfl, by decide⟩
  | 24, _, _, _ => ⟨rfl, by decide⟩
  | 25, _, _, _ => ⟨rfl, by decide⟩
  | 26, _, _, _ => ⟨rfl, by decide⟩
  | 27, _, _, _ => ⟨rfl, by decide⟩
  | 28, _, _, _ => ⟨rfl, by decide⟩
  | 29, _, _, _ => ⟨rfl, by decide⟩
  | 30, _, _, _ => ⟨rfl, by decide⟩
  | 31, _, _, _ => ⟨rfl, by decide⟩
  | 32, _, _, _ => ⟨rfl, by decide⟩
  | 33, _, _, _ => ⟨rfl, by decide⟩
  | 34, _, _, _ => ⟨rfl, by decide⟩
  | 35, _, _, _ => ⟨rfl, by decide⟩
  | 36, _, _, _ => ⟨rfl, by decide⟩
  | 37, _, _, _ => ⟨rfl, by decide⟩
  | 38, _, _, _ => ⟨rfl, by decide⟩
  | 39, _, _, _ => ⟨rfl, by decide⟩
  | 40, _, _, _ => ⟨rfl, by decide⟩
  | 41, _, _, _ => ⟨rfl, by decide⟩
  | 42, _, _, _ => ⟨rfl, by decide⟩
  | 43, _, _, _ => ⟨rfl, by decide⟩
  | 44, _, _, _ => ⟨rfl, by decide⟩
  | 45, _, _, _ => ⟨rfl, by decide⟩
  | 46, _, _, _ => ⟨rfl, by decide⟩
  | 47, _, _, _ => ⟨rfl, by decide⟩
  | 48, _, _, _ => ⟨rfl, by decide⟩
  | 49, _, _, _ => ⟨rfl, by decide⟩
  | 50, _, _, _ => ⟨rfl, by decide⟩
  | 51, _, _, _ => ⟨rfl, by decide⟩
  | 52, _, _, _ => ⟨rfl, by decide⟩
  | 53, _, _, _ => ⟨rfl, by decide⟩
  | 54, _, _, _ => ⟨rfl, by decide⟩
  | 55, _, _, _ => ⟨rfl, by decide⟩
  | 56, _, _, _ => ⟨rfl, by decide⟩
  | 57, _, _, _ => ⟨rfl, by decide⟩
  | 58, _, _, _ => ⟨rfl, by decide⟩
  | 59, _, _, _ => ⟨rfl, by decide⟩
  | 60, _, _, _ => ⟨rfl, by decide⟩
  | 61, _, _, _ => ⟨rfl, by decide⟩
  | 62, _, _, _ => ⟨rfl, by decide⟩
  | 63, _, _, _ => ⟨rfl, by decide⟩
  | 64, _, _, _ => ⟨rfl, by decide⟩
  | 65, _, _, _ => ⟨rfl, by decide⟩
  | 66, _, _, _ => ⟨rfl, by decide⟩
  | 67, _, _, _ => ⟨rfl, by decide⟩
  | 68, _, _, _ => ⟨rfl, by decide⟩
  | 69, _, _, _ => ⟨rfl, by decide⟩
  | 70, _, _, _ => ⟨rfl, by decide⟩
  | 72, _, _, _ => ⟨rfl, by decide⟩
  | 73, _, _, _ => ⟨rfl, by decide⟩
  | 74, _, _, _ => ⟨rfl, by decide⟩
  | 75, _, _, _ => ⟨rfl, by decide⟩
  | 76, _, _, _ => ⟨rfl, by decide⟩
  | 77, _, _, _ => ⟨rfl, by decide⟩
  | 78, _, _, _ => ⟨rfl, by decide⟩
  | 82, _, _, _ => ⟨rfl, by decide⟩
  | 83, _, _, _ => ⟨rfl, by decide⟩
  | 84, _, _, _ => ⟨rfl, by decide⟩
  | 85, _, _, _ => ⟨rfl, by decide⟩
  | 86, _, _, _ => ⟨rfl, by decide⟩
  | 87, _, _, _ => ⟨rfl, by decide⟩
  | 88, _, _, _ => ⟨rfl, by decide⟩
  | 89, _, _, _ => ⟨rfl, by decide⟩
  | 90, _, _, _ => ⟨rfl, by decide⟩
  | 91, _, _, _ => ⟨rfl, by decide⟩
  | 92, _, _, _ => ⟨rfl, by decide⟩
  | 93, _, _, _ => ⟨rfl, by decide⟩
  | 94, _, _, _ => ⟨rfl, by decide⟩
  | 95, _, _, _ => ⟨rfl, by decide⟩
  | 96, _, _, _ => ⟨rfl, by decide⟩
  | 97, _, _, _ => ⟨rfl, by decide⟩
  | 98, _, _, _ => ⟨rfl, by decide⟩
  | 99, _, _, _ => ⟨rfl, by decide⟩
  | 100, _, _, _ => ⟨rfl, by decide⟩
  | 101, _, _, _ => ⟨rfl, by decide⟩
  | 102, _, _, _ => ⟨rfl, by decide⟩
  | 103, _, _, _ => ⟨rfl, by decide⟩
  | 104, _, _, _ => ⟨rfl, by decide⟩
  | 105, _, _, _ => ⟨rfl, by decide⟩
  | 106, _, _, _ => ⟨rfl, by decide⟩
  | 107, _, _, _ => ⟨rfl, by decide⟩
  | 108, _, _, _ => ⟨rfl, by decide⟩
  | 109, _, _, _ => ⟨rfl, by decide⟩
  | 110, _, _, _ => ⟨rfl, by decide⟩
  | 111, _, _, _ => ⟨rfl, by decide⟩
  | 112, _, _, _ => ⟨rfl, by decide⟩
  | 113, _, _, _ => ⟨rfl, by decide⟩
  | 114, _, _, _ => ⟨rfl, by decide⟩
  | 115, _, _, _ => ⟨rfl, by decide⟩
  | 116, _, _, _ => ⟨rfl, by decide⟩
  | 117, _, _, _ => ⟨rfl, by decide⟩
  | 118, _, _, _ => ⟨rfl, by decide⟩
  | 119, _, _, _ => ⟨rfl, by decide⟩
  | 120, _, _, _ => ⟨rfl, by decide⟩
  | 121, _, _, _ => ⟨rfl, by decide⟩
  | 122, _, _, _ => ⟨rfl, by decide⟩
  | 123, _, _, _ => ⟨rfl, by decide⟩
  | 124, _, _, _ => ⟨rfl, by decide⟩
  | 125, _, _, _ => ⟨rfl, by decide⟩
  | 71, _, _, hl => absurd hl (by decide)
  | 79, _, _, hl => absurd hl (by decide)
  | 80, _, _, hl => absurd hl (by decide)
  | 81, _, _, hl => absurd hl (by decide)
  | 126, _, _, hl => absurd hl (by decide)
  | 127, _, _, hl => absurd hl (by decide)
  | 128, _, _, hl => absurd hl (by decide)
  | 129, _, _, hl => absurd hl (by decide)
  | 130, _, _, hl => absurd hl (by decide)
  | 131, _, _, hl => absurd hl (by decide)
  | 132, _, hm, _ => absurd rfl hm
  | k + 133, hk, _, _ => absurd hk (Nat.not_lt.mpr (Nat.le_add_left 133 k))
theorem am_rti (k : Nat) (hk : k < am_nm) : (am_y k).name = "<init>" → am_rt k = none := match k, hk with
  | 0, _ => fun _ => rfl
  | 1, _ => fun h => absurd h (by decide)
  | 2, _ => fun h => absurd h (by decide)
  | 3, _ => fun h => absurd h (by decide)
  | 4, _ => fun h => absurd h (by decide)
  | 5, _ => fun h => absurd h (by decide)
  | 6, _ => fun h => absurd h (by decide)
  | 7, _ => fun _ => rfl
  | 8, _ => fun h => absurd h (by decide)
  | 9, _ => fun h => absurd h (by decide)
  | 10, _ => fun h => absurd h (by decide)
  | 11, _ => fun h => absurd h (by decide)
  | 12, _ => fun h => absurd h (by decide)
  | 13, _ => fun h => absurd h (by decide)
  | 14, _ => fun h => absurd h (by decide)
  | 15, _ => fun h => absurd h (by decide)
  | 16, _ => fun h => absurd h (by decide)
  | 17, _ => fun _ => rfl
  | 18, _ => fun h => absurd h (by decide)
  | 19, _ => fun h => absurd h (by decide)
  | 20, _ => fun h => absurd h (by decide)
  | 21, _ => fun h => absurd h (by decide)
  | 22, _ => fun h => absurd h (by decide)
  | 23, _ => fun h => absurd h (by decide)
  | 24, _ => fun h => absurd h (by decide)
  | 25, _ => fun _ => rfl
  | 26, _ => fun h => absurd h (by decide)
  | 27, _ => fun h => absurd h (by decide)
  | 28, _ => fun h => absurd h (by decide)
  | 29, _ => fun h => absurd h (by decide)
  | 30, _ => fun h => absurd h (by decide)
  | 31, _ => fun h => absurd h (by decide)
  | 32, _ => fun h => absurd h (by decide)
  | 33, _ => fun h => absurd h (by decide)
  | 34, _ => fun h => absurd h (by decide)
  | 35, _ => fun h => absurd h (by decide)
  | 36, _ => fun h => absurd h (by decide)
  | 37, _ => fun h => absurd h (by decide)
  | 38, _ => fun h => absurd h (by decide)
  | 39, _ => fun h => absurd h (by decide)
  | 40, _ => fun h => absurd h (by decide)
  | 41, _ => fun h => absurd h (by decide)
  | 42, _ => fun h => absurd h (by decide)
  | 43, _ => fun h => absurd h (by decide)
  | 44, _ => fun h => absurd h (by decide)
  | 45, _ => fun _ => rfl
  | 46, _ => fun h => absurd h (by decide)
  | 47, _ => fun h => absurd h (by decide)
  | 48, _ => fun h => absurd h (by decide)
  | 49, _ => fun h => absurd h (by decide)
  | 50, _ => fun h => absurd h (by decide)
  | 51, _ => fun h => absurd h (by decide)
  | 52, _ => fun h => absurd h (by decide)
  | 53, _ => fun h => absurd h (by decide)
  | 54, _ => fun h => absurd h (by decide)
  | 55, _ => fun _ => rfl
  | 56, _ => fun h => absurd h (by decide)
  | 57, _ => fun h => absurd h (by decide)
  | 58, _ => fun h => absurd h (by decide)
  | 59, _ => fun h => absurd h (by decide)
  | 60, _ => fun h => absurd h (by decide)
  | 61, _ => fun h => absurd h (by decide)
  | 62, _ => fun h => absurd h (by decide)
  | 63, _ => fun h => absurd h (by decide)
  | 64, _ => fun h => absurd h (by decide)
  | 65, _ => fun h => absurd h (by decide)
  | 66, _ => fun h => absurd h (by decide)
  | 67, _ => fun h => absurd h (by decide)
  | 68, _ => fun h => absurd h (by decide)
  | 69, _ => fun h => absurd h (by decide)
  | 70, _ => fun h => absurd h (by decide)
  | 71, _ => fun h => absurd h (by decide)
  | 72, _ => fun h => absurd h (by decide)
  | 73, _ => fun h => absurd h (by decide)
  | 74, _ => fun h => absurd h (by decide)
  | 75, _ => fun h => absurd h (by decide)
  | 76, _ => fun _ => rfl
  | 77, _ => fun h => absurd h (by decide)
  | 78, _ => fun h => absurd h (by decide)
  | 79, _ => fun h => absurd h (by decide)
  | 80, _ => fun h => absurd h (by decide)
  | 81, _ => fun h => absurd h (by decide)
  | 82, _ => fun h => absurd h (by decide)
  | 83, _ => fun h => absurd h (by decide)
  | 84, _ => fun h => absurd h (by decide)
  | 85, _ => fun h => absurd h (by decide)
  | 86, _ => fun h => absurd h (by decide)
  | 87, _ => fun h => absurd h (by decide)
  | 88, _ => fun h => absurd h (by decide)
  | 89, _ => fun h => absurd h (by decide)
  | 90, _ => fun h => absurd h (by decide)
  | 91, _ => fun h => absurd h (by decide)
  | 92, _ => fun h => absurd h (by decide)
  | 93, _ => fun h => absurd h (by decide)
  | 94, _ => fun h => absurd h (by decide)
  | 95, _ => fun h => absurd h (by decide)
  | 96, _ => fun h => absurd h (by decide)
  | 97, _ => fun h => absurd h (by decide)
  | 98, _ => fun h => absurd h (by decide)
  | 99, _ => fun h => absurd h (by decide)
  | 100, _ => fun h => absurd h (by decide)
  | 101, _ => fun h => absurd h (by decide)
  | 102, _ => fun h => absurd h (by decide)
  | 103, _ => fun h => absurd h (by decide)
  | 104, _ => fun h => absurd h (by decide)
  | 105, _ => fun h => absurd h (by decide)
  | 106, _ => fun h => absurd h (by decide)
  | 107, _ => fun h => absurd h (by decide)
  | 108, _ => fun h => absurd h (by decide)
  | 109, _ => fun h => absurd h (by decide)
  | 110, _ => fun h => absurd h (by decide)
  | 111, _ => fun h => absurd h (by decide)
  | 112, _ => fun h => absurd h (by decide)
  | 113, _ => fun h => absurd h (by decide)
  | 114, _ => fun h => absurd h (by decide)
  | 115, _ => fun h => absurd h (by decide)
  | 116, _ => fun h => absurd h (by decide)
  | 117, _ => fun h => absurd h (by decide)
  | 118, _ => fun h => absurd h (by decide)
  | 119, _ => fun h => absurd h (by decide)
  | 120, _ => fun h => absurd h (by decide)
  | 121, _ => fun h => absurd h (by decide)
  | 122, _ => fun h => absurd h (by decide)
  | 123, _ => fun h => absurd h (by decide)
  | 124, _ => fun h => absurd h (by decide)
  | 125, _ => fun h => absurd h (by decide)
  | 126, _ => fun h => absurd h (by decide)
  | 127, _ => fun h => absurd h (by decide)
  | 128, _ => fun h => absurd h (by decide)
  | 129, _ => fun h => absurd h (by decide)
  | 130, _ => fun h => absurd h (by decide)
  | 131, _ => fun h => absurd h (by decide)
  | 132, _ => fun h => absurd h (by decide)
  | k + 133, hk => absurd hk (Nat.not_lt.mpr (Nat.le_add_left 133 k))
def am_nko (k : Nat) : Bool := (am_code k).all fun l => l.all fun e => Nat.beq (e.2.2.2.1 % 2) 0 || (am_hh e.2.2.1).isEmpty
theorem am_nk (k : Nat) : am_nko k = true := match k with
  | 0 => by decide +kernel
  | 1 => by decide +kernel
  | 2 => by decide +kernel
  | 3 => by decide +kernel
  | 4 => by decide +kernel
  | 5 => by decide +kernel
  | 6 => by decide +kernel
  | 7 => by decide +kernel
  | 8 => by decide +kernel
  | 9 => by decide +kernel
  | 10 => by decide +kernel
  | 11 => by decide +kernel
  | 12 => by decide +kernel
  | 13 => by decide +kernel
  | 14 => by decide +kernel
  | 15 => by decide +kernel
  | 16 => by decide +kernel
  | 17 => by decide +kernel
  | 18 => by decide +kernel
  | 19 => by decide +kernel
  | 20 => by decide +kernel
  | 21 => by decide +kernel
  | 22 => by decide +kernel
  | 23 => by decide +kernel
  | 24 => by decide +kernel
  | 25 => by decide +kernel
  | 26 => by decide +kernel
  | 27 => by decide +kernel
  | 28 => by decide +kernel
  | 29 => by decide +kernel
  | 30 => by decide +kernel
  | 31 => by decide +kernel
  | 32 => by decide +kernel
  | 33 => by decide +kernel
  | 34 => by decide +kernel
  | 35 => by decide +kernel
  | 36 => by decide +kernel
  | 37 => by decide +kernel
  | 38 => by decide +kernel
  | 39 => by decide +kernel
  | 40 => by decide +kernel
  | 41 => by decide +kernel
  | 42 => by decide +kernel
  | 43 => by decide +kernel
  | 44 => by decide +kernel
  | 45 => by decide +kernel
  | 46 => by decide +kernel
  | 47 => by decide +kernel
  | 48 => by decide +kernel
  | 49 => by decide +kernel
  | 50 => by decide +kernel
  | 51 => by decide +kernel
  | 52 => by decide +kernel
  | 53 => by decide +kernel
  | 54 => by decide +kernel
  | 55 => by decide +kernel
  | 56 => by decide +kernel
  | 57 => by decide +kernel
  | 58 => by decide +kernel
  | 59 => by decide +kernel
  | 60 => by decide +kernel
  | 61 => by decide +kernel
  | 62 => by decide +kernel
  | 63 => by decide +kernel
  | 64 => by decide +kernel
  | 65 => by decide +kernel
  | 66 => by decide +kernel
  | 67 => by decide +kernel
  | 68 => by decide +kernel
  | 69 => by decide +kernel
  | 70 => by decide +kernel
  | 71 => by decide +kernel
  | 72 => by decide +kernel
  | 73 => by decide +kernel
  | 74 => by decide +kernel
  | 75 => by decide +kernel
  | 76 => by decide +kernel
  | 77 => by decide +kernel
  | 78 => by decide +kernel
  | 79 => by decide +kernel
  | 80 => by decide +kernel
  | 81 => by decide +kernel
  | 82 => by decide +kernel
  | 83 => by decide +kernel
  | 84 => by decide +kernel
  | 85 => by decide +kernel
  | 86 => by decide +kernel
  | 87 => by decide +kernel
  | 88 => by decide +kernel
  | 89 => by decide +kernel
  | 90 => by decide +kernel
  | 91 => by decide +kernel
  | 92 => by decide +kernel
  | 93 => by decide +kernel
  | 94 => by decide +kernel
  | 95 => by decide +kernel
  | 96 => by decide +kernel
  | 97 => by decide +kernel
  | 98 => by decide +kernel
  | 99 => by decide +kernel
  | 100 => by decide +kernel
  | 101 => by decide +kernel
  | 102 => by decide +kernel
  | 103 => by decide +kernel
  | 104 => by decide +kernel
  | 105 => by decide +kernel
  | 106 => by decide +kernel
  | 107 => by decide +kernel
  | 108 => by decide +kernel
  | 109 => by decide +kernel
  | 110 => by decide +kernel
  | 111 => by decide +kernel
  | 112 => by decide +kernel
  | 113 => by decide +kernel
  | 114 => by decide +kernel
  | 115 => by decide +kernel
  | 116 => by decide +kernel
  | 117 => by decide +kernel
  | 118 => by decide +kernel
  | 119 => by decide +kernel
  | 120 => by decide +kernel
  | 121 => by decide +kernel
  | 122 => by decide +kernel
  | 123 => by decide +kernel
  | 124 => by decide +kernel
  | 125 => by decide +kernel
  | 126 => by decide +kernel
  | 127 => by decide +kernel
  | 128 => by decide +kernel
  | 129 => by decide +kernel
  | 130 => by decide +kernel
  | 131 => by decide +kernel
  | 132 => by decide +kernel
  | _ + 133 => rfl
def am_ns : List String := ["java/lang/RuntimeException", "java/lang/Exception"]
def am_tw (w : Cond) : Bool := (goodWord w && decide (w ∈ lw_tbl)) || (match w with
  | .methodLinkNest .. => decide (w ∈ lw_tbl)
  | .castable .. => decide (w ∈ lw_tbl)
  | .declares .. => decide (w ∈ lw_tbl)
  | _ => false)
theorem am_tk0 : (vx_atS RX1 74 (am_en 1) am_ns).all am_tw = true := by decide +kernel
theorem am_tk1 : (vx_atS RX1 113 (am_en 2) am_ns).all am_tw = true := by decide +kernel
theorem am_tk2 : (vx_atS RX3 75 (am_en 2) am_ns).all am_tw = true := by decide +kernel
theorem am_tk3 : (vx_atS RX4 44 (am_en 2) am_ns).all am_tw = true := by decide +kernel
theorem am_tk4 : (vx_atS RX5 161 (am_en 0) am_ns).all am_tw = true := by decide +kernel
theorem am_th0 : (vx_atS (am_own 10) 74 (am_en 1) am_ns).all am_tw = true := am_tk0
theorem am_th1 : (vx_atS (am_own 11) 74 (am_en 1) am_ns).all am_tw = true := am_tk0
theorem am_th2 : (vx_atS (am_own 14) 74 (am_en 1) am_ns).all am_tw = true := am_tk0
theorem am_th3 : (vx_atS (am_own 14) 74 (am_en 1) am_ns).all am_tw = true := am_tk0
theorem am_th4 : (vx_atS (am_own 15) 113 (am_en 2) am_ns).all am_tw = true := am_tk1
theorem am_th5 : (vx_atS (am_own 16) 113 (am_en 2) am_ns).all am_tw = true := am_tk1
theorem am_th6 : (vx_atS (am_own 40) 75 (am_en 2) am_ns).all am_tw = true := am_tk2
theorem am_th7 : (vx_atS (am_own 48) 44 (am_en 2) am_ns).all am_tw = true := am_tk3
theorem am_th8 : (vx_atS (am_own 48) 44 (am_en 2) am_ns).all am_tw = true := am_tk3
theorem am_th9 : (vx_atS (am_own 48) 44 (am_en 2) am_ns).all am_tw = true := am_tk3
theorem am_th10 : (vx_atS (am_own 54) 44 (am_en 2) am_ns).all am_tw = true := am_tk3
theorem am_th11 : (vx_atS (am_own 73) 161 (am_en 0) am_ns).all am_tw = true := am_tk4
theorem am_thw (j : Nat) (q : Nat × Nat × Nat × Nat × Nat × Nat × String × Nat) (h : am_thr[j]? = some q) : (vx_atS (am_own q.1) q.2.2.2.2.1 (am_en q.2.2.2.2.2.1) am_ns).all am_tw = true := match j, h with
  | 0, h => by cases h; exact am_th0
  | 1, h => by cases h; exact am_th1
  | 2, h => by cases h; exact am_th2
  | 3, h => by cases h; exact am_th3
  | 4, h => by cases h; exact am_th4
  | 5, h => by cases h; exact am_th5
  | 6, h => by cases h; exact am_th6
  | 7, h => by cases h; exact am_th7
  | 8, h => by cases h; exact am_th8
  | 9, h => by cases h; exact am_th9
  | 10, h => by cases h; exact am_th10
  | 11, h => by cases h; exact am_th11
  | j + 12, h => nomatch h
def am_thchk (q : Nat × Nat × Nat × Nat × Nat × Nat × String × Nat) : Bool := decide (decode (am_b q.1) q.2.1 = .ok (.new q.2.2.1, 3)) && (decide (decode (am_b q.1) (q.2.1 + 3) = .ok (.dup, 1)) && (decide (decode (am_b q.1) (q.2.1 + 4) = .ok (.ldc q.2.2.2.1, 2)) && (decide (decode (am_b q.1) (q.2.1 + 6) = .ok (.invokespecial q.2.2.2.2.1, 3)) && (decide (decode (am_b q.1) (q.2.1 + 9) = .ok (.athrow, 1)) && am_pl q.2.2.2.2.2.2.2 (.classLink (am_own q.1) q.2.2.1 (am_en q.2.2.2.2.2.1))))))
theorem am_thc : am_thr.all am_thchk = true := by decide +kernel
def am_ez : Nat → Nat := fun k => match k with
  | 0 => 62
  | 1 => 63
  | 2 => 64
  | _ => 0
theorem am_ezk : (am_pl (am_ez 0) (.initialized (am_en 0)) && (am_pl (am_ez 1) (.initialized (am_en 1)) && am_pl (am_ez 2) (.initialized (am_en 2)))) = true := by decide +kernel
theorem am_fitE : (∀ k, k < 3 → Bundle.fit (am_en k) = true) ∧ ∀ n ∈ am_ns, Bundle.fit n = true := ⟨fun k hk => match k, hk with
  | 0, _ => by decide +kernel
  | 1, _ => by decide +kernel
  | 2, _ => by decide +kernel
  | k + 3, hk => absurd hk (Nat.not_lt.mpr (Nat.le_add_left 3 k)), by decide +kernel⟩
abbrev am_yJ : MethodName := yJ7_copyOf_59c91
abbrev am_bJ : ByteArray := cJ7_copyOf_59c91
abbrev am_RJ : String := RJ7
def am_mJ : Nat := 3
set_option maxRecDepth 100000 in
theorem am_jz : lw_tbl[429]? = some (.code am_yJ am_bJ am_mJ (some (.array .int))) := rfl
theorem am_jw : (am_pl 427 (.methodLink RX3 78 am_yJ) && (am_pl 428 (.static am_yJ) && (am_pl 65 (.initialized am_RJ) && (am_pl 437 (.methodLink am_RJ 304 Lib.Math.min.name) && (am_pl 438 (.static Lib.Math.min.name) && (am_pl 440 (.methodLink am_RJ 150 arraycopyName) && (am_pl 442 (.native arraycopyName) && (am_pl 441 (.static arraycopyName) && am_pl 66 (.initialized "java/lang/System"))))))))) = true := by decide +kernel
set_option maxRecDepth 100000 in
theorem am_jm : lw_tbl[439]? = some (.code Lib.Math.min.name Lib.Math.min.code 2 (some .int)) := rfl
theorem am_dJ_0 : decode am_bJ 0 = .ok (.iload_n 1, 1) := by decide +kernel
theorem am_dJ_1 : decode am_bJ 1 = .ok (.aload_n 0, 1) := by decide +kernel
theorem am_dJ_2 : decode am_bJ 2 = .ok (.arraylength, 1) := by decide +kernel
theorem am_dJ_3 : decode am_bJ 3 = .ok (.if_icmp .ne 11, 3) := by decide +kernel
theorem am_dJ_6 : decode am_bJ 6 = .ok (.aload_n 0, 1) := by decide +kernel
theorem am_dJ_7 : decode am_bJ 7 = .ok (.invokevirtual 316, 3) := by decide +kernel
theorem am_dJ_10 : decode am_bJ 10 = .ok (.checkcast 317, 3) := by decide +kernel
theorem am_dJ_13 : decode am_bJ 13 = .ok (.areturn, 1) := by decide +kernel
theorem am_dJ_14 : decode am_bJ 14 = .ok (.iload_n 1, 1) := by decide +kernel
theorem am_dJ_15 : decode am_bJ 15 = .ok (.newarray .int, 2) := by decide +kernel
theorem am_dJ_17 : decode am_bJ 17 = .ok (.astore_n 2, 1) := by decide +kernel
theorem am_dJ_18 : decode am_bJ 18 = .ok (.aload_n 0, 1) := by decide +kernel
theorem am_dJ_19 : decode am_bJ 19 = .ok (.iconst 0, 1) := by decide +kernel
theorem am_dJ_20 : decode am_bJ 20 = .ok (.aload_n 2, 1) := by decide +kernel
theorem am_dJ_21 : decode am_bJ 21 = .ok (.iconst 0, 1) := by decide +kernel
theorem am_dJ_22 : decode am_bJ 22 = .ok (.aload_n 0, 1) := by decide +kernel
theorem am_dJ_23 : decode am_bJ 23 = .ok (.arraylength, 1) := by decide +kernel
theorem am_dJ_24 : decode am_bJ 24 = .ok (.iload_n 1, 1) := by decide +kernel
theorem am_dJ_25 : decode am_bJ 25 = .ok (.invokestatic 304, 3) := by decide +kernel
theorem am_dJ_28 : decode am_bJ 28 = .ok (.invokestatic 150, 3) := by decide +kernel
theorem am_dJ_31 : decode am_bJ 31 = .ok (.aload_n 2, 1) := by decide +kernel
theorem am_dJ_32 : decode am_bJ 32 = .ok (.areturn, 1) := by decide +kernel
theorem am_dG_0 : decode (am_b am_G) 0 = .ok (.aload_n 0, 1) := by decide +kernel
theorem am_dG_1 : decode (am_b am_G) 1 = .ok (.getfield 9, 3) := by decide +kernel
theorem am_dG_4 : decode (am_b am_G) 4 = .ok (.arraylength, 1) := by decide +kernel
theorem am_dG_5 : decode (am_b am_G) 5 = .ok (.iconst 2, 1) := by decide +kernel
theorem am_dG_6 : decode (am_b am_G) 6 = .ok (.imul, 1) := by decide +kernel
theorem am_dG_7 : decode (am_b am_G) 7 = .ok (.istore_n 1, 1) := by decide +kernel
theorem am_dG_8 : decode (am_b am_G) 8 = .ok (.iload_n 1, 1) := by decide +kernel
theorem am_dG_9 : decode (am_b am_G) 9 = .ok (.ldc 70, 2) := by decide +kernel
theorem am_dG_11 : decode (am_b am_G) 11 = .ok (.if_icmp .le 13, 3) := by decide +kernel
theorem am_dG_14 : decode (am_b am_G) 14 = .ok (.new 71, 3) := by decide +kernel
theorem am_dG_17 : decode (am_b am_G) 17 = .ok (.dup, 1) := by decide +kernel
theorem am_dG_18 : decode (am_b am_G) 18 = .ok (.ldc 73, 2) := by decide +kernel
theorem am_dG_20 : decode (am_b am_G) 20 = .ok (.invokespecial 75, 3) := by decide +kernel
theorem am_dG_23 : decode (am_b am_G) 23 = .ok (.athrow, 1) := by decide +kernel
theorem am_dG_24 : decode (am_b am_G) 24 = .ok (.aload_n 0, 1) := by decide +kernel
theorem am_dG_25 : decode (am_b am_G) 25 = .ok (.aload_n 0, 1) := by decide +kernel
theorem am_dG_26 : decode (am_b am_G) 26 = .ok (.getfield 9, 3) := by decide +kernel
theorem am_dG_29 : decode (am_b am_G) 29 = .ok (.iload_n 1, 1) := by decide +kernel
theorem am_dG_30 : decode (am_b am_G) 30 = .ok (.invokestatic 78, 3) := by decide +kernel
theorem am_dG_33 : decode (am_b am_G) 33 = .ok (.putfield 9, 3) := by decide +kernel
theorem am_dG_36 : decode (am_b am_G) 36 = .ok (.aload_n 0, 1) := by decide +kernel
theorem am_dG_37 : decode (am_b am_G) 37 = .ok (.aload_n 0, 1) := by decide +kernel
theorem am_dG_38 : decode (am_b am_G) 38 = .ok (.getfield 15, 3) := by decide +kernel
theorem am_dG_41 : decode (am_b am_G) 41 = .ok (.iload_n 1, 1) := by decide +kernel
theorem am_dG_42 : decode (am_b am_G) 42 = .ok (.invokestatic 78, 3) := by decide +kernel
theorem am_dG_45 : decode (am_b am_G) 45 = .ok (.putfield 15, 3) := by decide +kernel
theorem am_dG_48 : decode (am_b am_G) 48 = .ok (.aload_n 0, 1) := by decide +kernel
theorem am_dG_49 : decode (am_b am_G) 49 = .ok (.aload_n 0, 1) := by decide +kernel
theorem am_dG_50 : decode (am_b am_G) 50 = .ok (.getfield 18, 3) := by decide +kernel
theorem am_dG_53 : decode (am_b am_G) 53 = .ok (.iload_n 1, 1) := by decide +kernel
theorem am_dG_54 : decode (am_b am_G) 54 = .ok (.invokestatic 78, 3) := by decide +kernel
theorem am_dG_57 : decode (am_b am_G) 57 = .ok (.putfield 18, 3) := by decide +kernel
theorem am_dG_60 : decode (am_b am_G) 60 = .ok (.aload_n 0, 1) := by decide +kernel
theorem am_dG_61 : decode (am_b am_G) 61 = .ok (.aload_n 0, 1) := by decide +kernel
theorem am_dG_62 : decode (am_b am_G) 62 = .ok (.getfield 21, 3) := by decide +kernel
theorem am_dG_65 : decode (am_b am_G) 65 = .ok (.iload_n 1, 1) := by decide +kernel
theorem am_dG_66 : decode (am_b am_G) 66 = .ok (.invokestatic 78, 3) := by decide +kernel
theorem am_dG_69 : decode (am_b am_G) 69 = .ok (.putfield 21, 3) := by decide +kernel
theorem am_dG_72 : decode (am_b am_G) 72 = .ok (.aload_n 0, 1) := by decide +kernel
theorem am_dG_73 : decode (am_b am_G) 73 = .ok (.aload_n 0, 1) := by decide +kernel
theorem am_dG_74 : decode (am_b am_G) 74 = .ok (.getfield 24, 3) := by decide +kernel
theorem am_dG_77 : decode (am_b am_G) 77 = .ok (.iload_n 1, 1) := by decide +kernel
theorem am_dG_78 : decode (am_b am_G) 78 = .ok (.invokestatic 78, 3) := by decide +kernel
theorem am_dG_81 : decode (am_b am_G) 81 = .ok (.putfield 24, 3) := by decide +kernel
theorem am_dG_84 : decode (am_b am_G) 84 = .ok (.return_, 1) := by decide +kernel
theorem am_wG0 : am_pl 81 (.fieldLink (am_own am_G) 9 (am_T 3 0).1 (am_T 3 0).2.1 (am_T 3 0).2.2.1) = true := by decide +kernel
theorem am_wG1 : am_pl 82 (.fieldLink (am_own am_G) 15 (am_T 3 1).1 (am_T 3 1).2.1 (am_T 3 1).2.2.1) = true := by decide +kernel
theorem am_wG2 : am_pl 83 (.fieldLink (am_own am_G) 18 (am_T 3 2).1 (am_T 3 2).2.1 (am_T 3 2).2.2.1) = true := by decide +kernel
theorem am_wG3 : am_pl 84 (.fieldLink (am_own am_G) 21 (am_T 3 3).1 (am_T 3 3).2.1 (am_T 3 3).2.2.1) = true := by decide +kernel
theorem am_wG4 : am_pl 85 (.fieldLink (am_own am_G) 24 (am_T 3 4).1 (am_T 3 4).2.1 (am_T 3 4).2.2.1) = true := by decide +kernel
theorem am_wGc : am_pl 358 (.constant (am_own am_G) 70 65536) = true := by decide +kernel
end
section
/-! ===== a run of a method, and what it means ===== -/
def am_noret : Value → Bool
  | .retAddr _ => false
  | _ => true
def am_isc (i : Instr) (x : Nat) : Bool := match i with
  | .invokevirtual _ => Nat.blt x am_nm
  | .invokespecial _ => Nat.blt x am_nm
  | .invokestatic _ => Nat.blt x am_nm
  | _ => false
def am_stat : Instr → Bool
  | .invokestatic _ => true
  | _ => false
/-- the arguments of a call fit: their number, the receiver's class; what stays in the frame are cells that keep their places -/
def am_recv (x : Nat) (h : List am_E) : List Value → Bool
  | .ref b :: _ => match h[b]? with
    | some (.inr (ci, _)) => Nat.beq ci (am_oc x)
    | _ => false
  | _ => false
def am_cfit (i : Instr) (x : Nat) (h : List am_E) (L : List (Nat × Value)) (As rest : List Value) : Bool :=
  (match am_stat i with
    | true => Nat.beq As.length (am_na x)
    | false => Nat.beq As.length (am_na x + 1) && am_recv x h As) && (Nat.ble (am_csum rest) 8 && (am_hard h.length L rest && As.all am_noret))
def am_Ex (call : Nat → List Value → List am_E → Nat → Nat → am_R → Prop) (mid sl : Nat) (sx : Nat → Int32) : Nat → am_F → am_R → Prop
  | 0, _, _ => False
  | N + 1, f, r => ∃ (i : Instr) (x y z : Nat), am_fetch mid f.1 = some (i, x, y, z) ∧
    ((∃ (g : Prop) (f' : am_F), am_st mid sl sx x y f.1 f.2.1 f.2.2.1 f.2.2.2.1 f.2.2.2.2.1 f.2.2.2.2.2 i = some (g, f') ∧ g ∧ am_Ex call mid sl sx N f' r) ∨
     (am_isc i x = true ∧ ∃ (As rest : List Value) (r1 : am_R), f.2.2.1 = As.reverse ++ rest ∧ am_cfit i x f.2.2.2.1 f.2.1 As rest = true ∧ call x As f.2.2.2.1 f.2.2.2.2.1 f.2.2.2.2.2 r1 ∧
        ((∃ v : Option Value, r1.1 = .inl v ∧ am_Ex call mid sl sx N (f.1 + 3, f.2.1, v.toList ++ rest, r1.2) r) ∨
         (∃ e : Nat, r1.1 = .inr e ∧ ((∃ hp : Nat, am_hnd mid f.1 e = some hp ∧ f.2.1.all (fun q => am_noret q.2) = true ∧ am_Ex call mid sl sx N (hp, f.2.1, [.retAddr 1], r1.2) r) ∨ (am_hh mid = [] ∧ r = (.inr e, r1.2)))))) ∨
     (∃ ks : List Nat, am_Ex call mid sl sx N (f.1, lv_pick f.2.1 ks, f.2.2) r) ∨
     (∃ v : Int32, i = .ireturn ∧ f.2.2.1 = [.int v] ∧ (∃ ty, am_rt mid = some ty ∧ narrow ty (.int v) = .int v) ∧ r = (.inl (some (.int v)), f.2.2.2)) ∨
     (i = .return_ ∧ f.2.2.1 = [] ∧ am_rt mid = none ∧ r = (.inl none, f.2.2.2)) ∨
     (∃ j : Nat, x = 1000 + j ∧ (∃ q, am_thr[j]? = some q ∧ q.1 = mid ∧ q.2.1 = f.1 ∧ q.2.2.2.2.2.1 = y) ∧ Nat.ble (am_csum f.2.2.1) 8 = true ∧ am_hh mid = [] ∧ r = (.inr y, f.2.2.2.1, f.2.2.2.2.1 + 1, f.2.2.2.2.2 + 6)))
/-- the row that is lengthened: the five arrays of the nodes, each twice as long -/
def am_ext (f : Nat → Int32) (n : Nat) : Nat → Int32 := fun j => if j < n then f j else 0
def am_nosv : Value → Bool
  | .ref k => !am_soft k
  | _ => true
def am_nosoft : am_E → Bool
  | .inr (_, fs) => fs.all am_nosv
  | .inl _ => true
def am_Grow (As : List Value) (h : List am_E) (k n : Nat) (r : am_R) : Prop := ∃ (c : Nat) (f2 f3 f4 f5 f6 : Nat → Int32) (v5 v6 v7 : Int32) (h0 : am_E) (t : List am_E), As = [.ref 1] ∧ 0 < c ∧ c * 2 ≤ 65536 ∧ am_nosoft h0 = true ∧ t.all am_nosoft = true ∧
  h = h0 :: .inr (3, [.ref 2, .ref 3, .ref 4, .ref 5, .ref 6, .int v5, .int v6, .int v7]) :: .inl (0, c, .inl f2) :: .inl (0, c, .inl f3) :: .inl (0, c, .inl f4) :: .inl (0, c, .inl f5) :: .inl (0, c, .inl f6) :: t ∧
  r = (.inl none, h0 :: .inr (3, [.ref 2, .ref 3, .ref 4, .ref 5, .ref 6, .int v5, .int v6, .int v7]) :: .inl (0, c * 2, .inl (am_ext f2 c)) :: .inl (0, c * 2, .inl (am_ext f3 c)) :: .inl (0, c * 2, .inl (am_ext f4 c)) :: .inl (0, c * 2, .inl (am_ext f5 c)) :: .inl (0, c * 2, .inl (am_ext f6 c)) :: t, k + 5, n + 5 * (c * 2))
def am_Call : Nat → Nat → List Value → List am_E → Nat → Nat → am_R → Prop
  | 0, _, _, _, _, _, _ => False
  | d + 1, mid, As, h, k, n, r => mid ≠ am_M ∧ mid < am_nm ∧ As.all am_noret = true ∧ (lg_sl As).length ≤ am_ml mid ∧ ((mid = am_G ∧ am_Grow As h k n r) ∨ (mid ≠ am_G ∧ ∃ N, am_Ex (am_Call d) mid 0 (fun _ => 0) N (0, lv_args 0 As, [], h, k, n) r))
-- ----- the counts only grow -----
theorem am_st_mono {mid sl : Nat} {sx : Nat → Int32} {x y pc : Nat} {L : List (Nat × Value)} {S : List Value} {h : List am_E} {k n : Nat} {i : Instr} {g : Prop} {f' : am_F} (hs : am_st mid sl sx x y pc L S h k n i = some (g, f')) : k ≤ f'.2.2.2.2.1 ∧ n ≤ f'.2.2.2.2.2 ∧ h.length ≤ f'.2.2.2.1.length := by
  cases i <;> simp only [am_st, am_ldi, am_lda, am_sti, am_sta, am_inc, am_bin, am_dup, am_pop, am_if, am_icmp, am_goto, am_getf, am_putf, am_iald, am_bald, am_iast, am_bast, am_last, am_alen, am_newa, am_new, am_sw, am_obj, am_max, am_br, reduceCtorEq] at hs <;>
    (repeat' split at hs) <;> (try simp only [Option.some.injEq, Prod.mk.injEq, reduceCtorEq, cond_eq_ite] at hs) <;> (repeat' split at hs) <;> (try simp only [Option.some.injEq, Prod.mk.injEq, reduceCtorEq] at hs) <;> (try (obtain ⟨-, rfl⟩ := hs)) <;>
    first
    | exact ⟨Nat.le_refl _, Nat.le_refl _, Nat.le_refl _⟩
    | (refine ⟨?_, ?_, ?_⟩ <;> (repeat' split) <;> simp)
end
section
/-! ===== WHAT THE RUN SAYS, PROVED OF THE MACHINE: one instruction ===== -/
def am_gw : List Cond := lw_tbl.filter goodWord
def am_w (mid : Nat) : List Cond := am_cw mid :: am_gw
theorem am_gin {z : Nat} {w : Cond} (h : am_pl z w = true) : w ∈ am_gw := by
  simp only [am_pl, Bool.and_eq_true, decide_eq_true_eq] at h
  exact List.mem_filter.mpr ⟨List.mem_of_getElem? h.1, h.2⟩
theorem am_good : ∀ w ∈ am_gw, goodWord w = true := fun w h => (List.mem_filter.mp h).2
theorem am_GI {L : List Cond} (h : ∀ w ∈ L, w ∈ am_gw) : GoodIn am_gw L := fun w hw => ⟨h w hw, good_of_word (am_good w (h w hw))⟩
theorem am_cw_good (k : Nat) : goodWord (am_cw k) = true := by
  unfold am_cw
  split <;> rfl
theorem am_cw_in (k : Nat) (hk : k < am_nm) (hl : k ≠ am_M) : am_cw k ∈ am_gw := List.mem_filter.mpr ⟨List.mem_of_getElem? (am_zk k hk hl), am_cw_good k⟩
theorem am_w_in (k : Nat) (hk : k < am_nm) (hl : k ≠ am_M) : ∀ w ∈ am_w k, w ∈ am_gw := fun w hw => (List.mem_cons.mp hw).elim (fun e => e ▸ am_cw_in k hk hl) id
theorem am_uin (k : Nat) (hk : k < 7) : ∀ w ∈ u_ws (am_C k) (am_T k) (am_N k), w ∈ am_gw := by
  intro w hw
  obtain ⟨h1, h2⟩ := am_lk k hk
  refine List.mem_filter.mpr ⟨?_, List.all_eq_true.mp h2 w hw⟩
  rw [h1] at hw
  obtain ⟨i, -, hi⟩ := List.mem_filterMap.mp hw
  exact List.mem_of_getElem? hi
theorem am_lk_mem {α : Type} {L : List (Nat × α)} {i : Nat} {v : α} (h : L.lookup i = some v) : (i, v) ∈ L := by
  induction L with
  | nil => simp at h
  | cons q L ih =>
    obtain ⟨j, w⟩ := q
    rw [List.lookup_cons] at h
    split at h
    · rename_i e
      cases h
      rw [eq_of_beq e]
      exact List.mem_cons_self
    · exact List.mem_cons_of_mem _ (ih h)
theorem am_fetch_ok {mid pc : Nat} {e : am_I} (h : am_fetch mid pc = some e) : am_decok mid (pc, e) = true ∧ am_wok mid (pc, e) = true := by
  have h1 := am_lk_mem h
  have h2 := am_ck mid
  unfold am_cok at h2
  rw [List.getD_eq_getElem?_getD] at h1
  cases h3 : (am_code mid)[pc / 32]? with
  | none => rw [h3] at h1; simp at h1
  | some l =>
    rw [h3] at h1
    have h4 := List.all_eq_true.mp h2 l (List.mem_of_getElem? h3)
    have h5 := List.all_eq_true.mp h4 _ h1
    simpa using h5
-- ----- cells by number and the world -----
def am_ce (ty : Nat → ClassId) (ad : Nat → Nat) : am_E → va_E
  | .inl (t, a) => .inl (ty t, a)
  | .inr (c, fs) => .inr (c, fs.map (am_cv ad))
def am_ws (ty : Nat → ClassId) (ad : Nat → Nat) (h : List am_E) : va_W := h.mapIdx fun k e => (ad k, am_ce ty ad e)
theorem am_ws_at {ty : Nat → ClassId} {ad : Nat → Nat} {h : List am_E} {a : Nat} {e : am_E} (he : h[a]? = some e) : (am_ws ty ad h)[a]? = some (ad a, am_ce ty ad e) := by
  unfold am_ws
  rw [List.getElem?_mapIdx, he]
  rfl
theorem am_ws_set {ty : Nat → ClassId} {ad : Nat → Nat} {h : List am_E} {a : Nat} {e : am_E} : (am_ws ty ad h).set a (ad a, am_ce ty ad e) = am_ws ty ad (h.set a e) := by
  apply List.ext_getElem?
  intro j
  unfold am_ws
  rw [List.getElem?_set, List.getElem?_mapIdx, List.getElem?_mapIdx, List.getElem?_set, List.length_mapIdx]
  by_cases hj : a = j
  · subst hj
    by_cases hl : a < h.length <;> simp [hl]
  · simp [hj]
def am_ad (ad : Nat → Nat) (m q : Nat) : Nat → Nat := fun j => if j = m then q else ad j
theorem am_cv_fit {ad : Nat → Nat} {m q : Nat} {v : Value} (h : am_fitv m v = true) : am_cv (am_ad ad m q) v = am_cv ad v := by
  cases v with
  | ref k =>
    have hk : k < m := Nat.lt_of_succ_le (by simpa [am_fitv, Nat.blt] using h)
    simp [am_cv, am_ad, Nat.ne_of_lt hk]
  | _ => rfl
theorem am_sv_fit {sp ad : Nat → Nat} {m q : Nat} {v : Value} (h : am_fitv m v = true) : am_sv sp (am_ad ad m q) v = am_sv sp ad v := by
  cases v with
  | ref k =>
    have hk : k < m := Nat.lt_of_succ_le (by simpa [am_fitv, Nat.blt] using h)
    simp [am_sv, am_ad, Nat.ne_of_lt hk]
  | _ => rfl
theorem am_ce_fit {ty : Nat → ClassId} {ad : Nat → Nat} {m q : Nat} {e : am_E} (h : am_fite m e = true) : am_ce ty (am_ad ad m q) e = am_ce ty ad e := by
  obtain ⟨t, a⟩ | ⟨c, fs⟩ := e
  · rfl
  · have h1 : ∀ v ∈ fs, am_fitv m v = true := by simpa [am_fite] using h
    show Sum.inr (c, fs.map (am_cv (am_ad ad m q))) = Sum.inr (c, fs.map (am_cv ad))
    rw [List.map_congr_left fun v hv => am_cv_fit (h1 v hv)]
theorem am_ws_push {ty : Nat → ClassId} {ad : Nat → Nat} {h : List am_E} {q : Nat} {e : am_E} (hf : h.all (am_fite h.length) = true) (he : am_fite h.length e = true) : am_ws ty (am_ad ad h.length q) (h ++ [e]) = am_ws ty ad h ++ [(q, am_ce ty ad e)] := by
  apply List.ext_getElem?
  intro j
  unfold am_ws
  rw [List.getElem?_mapIdx]
  by_cases hj : j < h.length
  · rw [List.getElem?_append_left hj, List.getElem?_append_left (by simpa using hj), List.getElem?_mapIdx]
    have h1 : am_fite h.length h[j] = true := List.all_eq_true.mp hf _ (List.getElem_mem hj)
    rw [List.getElem?_eq_getElem hj]
    simp [am_ce_fit h1, am_ad, Nat.ne_of_lt hj]
  · rw [List.getElem?_append_right (by omega), List.getElem?_append_right (by simpa using hj), List.length_mapIdx]
    by_cases hz : j = h.length
    · subst hz
      simp [am_ce_fit he, am_ad]
    · rw [List.getElem?_eq_none (by simp only [List.length_singleton]; omega), List.getElem?_eq_none (by simp only [List.length_singleton]; omega)]
      rfl
theorem am_L_fit {sp ad : Nat → Nat} {m q : Nat} {L : List (Nat × Value)} (h : L.all (fun q => am_fitv m q.2) = true) : L.map (fun z => (z.1, am_sv sp (am_ad ad m q) z.2)) = L.map fun z => (z.1, am_sv sp ad z.2) :=
  List.map_congr_left fun z hz => by rw [am_sv_fit (List.all_eq_true.mp h z hz)]
theorem am_S_fit {sp ad : Nat → Nat} {m q : Nat} {S : List Value} (h : S.all (am_fitv m) = true) : S.map (am_sv sp (am_ad ad m q)) = S.map (am_sv sp ad) :=
  List.map_congr_left fun z hz => am_sv_fit (List.all_eq_true.mp h z hz)
theorem am_cat_sv (sp ad : Nat → Nat) (v : Value) : (am_sv sp ad v).category = v.category := by cases v <;> rfl
theorem am_csum_sv (sp ad : Nat → Nat) (S : List Value) : ((S.map (am_sv sp ad)).map fun v => v.category).sum = am_csum S := by
  unfold am_csum
  rw [List.map_map]
  congr 1
  exact List.map_congr_left fun v _ => am_cat_sv sp ad v
theorem am_up_map {sp ad : Nat → Nat} {L : List (Nat × Value)} {i : Nat} {v : Value} : (i, am_sv sp ad v) :: (L.map fun q => (q.1, am_sv sp ad q.2)).filter (fun q => !(q.1 == i) && !(q.1 + 1 == i && q.2.category == 2)) = (am_up L i v).map fun q => (q.1, am_sv sp ad q.2) := by
  unfold am_up
  rw [List.map_cons, List.filter_map]
  congr 3
  funext q
  simp [Function.comp, am_cat_sv]
theorem am_L_at {sp ad : Nat → Nat} {ls : Array Slot} {nL : Nat} {L : List (Nat × Value)} {i : Nat} {v : Value} (hl : lv_has ls nL (L.map fun q => (q.1, am_sv sp ad q.2))) (h : L.lookup i = some v) : ls[i]? = some (.val (am_sv sp ad v)) :=
  hl.2.2 (i, am_sv sp ad v) (List.mem_map.mpr ⟨(i, v), am_lk_mem h, rfl⟩)
def am_tys (ty : Nat → ClassId) : List (ClassId × FieldType) := [(ty 0, .int), (ty 1, .boolean), (ty 2, .long)]
def am_nw : List Cond := lw_tbl.filter fun w => match w with
  | .methodLinkNest .. => true
  | .castable .. => true
  | .declares .. => true
  | _ => false
def am_ncs : List (String × String) := [("java/lang/IllegalStateException", "java/lang/IllegalArgumentException"), ("java/lang/UnsupportedOperationException", "java/lang/IllegalArgumentException"), ("java/lang/UnsupportedOperationException", "java/lang/IllegalStateException"), ("java/lang/IllegalStateException", "java/lang/UnsupportedOperationException"), ("java/lang/IllegalArgumentException", "java/lang/IllegalStateException"), ("java/lang/IllegalArgumentException", "java/lang/UnsupportedOperationException")]
/-- what a state says besides its cells: two statics of Throwable, words that aren't 'good', the texts, the classes apart -/
def am_X (A : Nat → Prop) (U : State) (H : Heap) : Prop := vx_Zq Bundle.tN "UNASSIGNED_STACK" Bundle.steD A U H ∧ vx_Zq Bundle.tN "SUPPRESSED_SENTINEL" Bundle.listD A U H ∧ (∀ w ∈ am_nw, va_Nw w U) ∧ (∀ t ∈ am_thr, ∃ sa, vk_R (am_own t.1) t.2.2.2.1 t.2.2.2.2.2.2.1 sa U) ∧ (∀ q ∈ am_ncs, va_Nc q.1 q.2 U)
def am_Cx (mid sl : Nat) (sx : Nat → Int32) (b : Nat) (A : Nat → Prop) (l : Launch) (dC : Nat → ClassId) (dI : Nat → Nat → Nat) (ty : Nat → ClassId) (p : Program) (e : Env) (R : Room) (s : State) (m : MethodId) (args : Array Value) (below : List Frame) (meth : Method) (c : Code) : Prop :=
  p.tables.exec = Jvm.exec ∧ c.code = am_b mid ∧ c.maxLocals = am_ml mid ∧ s.vm.findClass (am_own mid) = some m.cls ∧ (∀ w ∈ am_gw, w.before args s = true) ∧ meth.locks = false ∧ (∀ q, s.heap.size ≤ q → A q) ∧ va_K (dC, dI) vwCl (am_tys ty) s ∧ am_X A s s.heap ∧ c.exceptionTable.toList = tableOf (am_hh mid) ∧ l.stackTraces = false ∧ (0 < sl → va_X b (sl - 1) sx s s.heap ∧ b < s.heap.size ∧ ¬ A b) ∧ (am_hh mid = [] → ∀ x ∈ c.exceptionTable.toList, False)
def am_Sta (mid : Nat) (A : Nat → Prop) (dC : Nat → ClassId) (dI : Nat → Nat → Nat) (ty : Nat → ClassId) (n0 : Nat) (ad0 : Nat → Nat) (b : Nat) (s : State) (L : List (Nat × Value)) (h : List am_E) (ad sp : Nat → Nat) (ls : Array Slot) (H : Heap) (locs : List Loc) : Prop :=
  lv_has ls (am_ml mid) (L.map fun q => (q.1, am_sv sp ad q.2)) ∧ va_P (dC, dI) vwCl (am_ws ty ad h) H ∧ va_D A (am_ws ty ad h) ∧ va_S A s.heap H locs ∧ (∀ j, j < n0 → am_soft j = false → ad j = ad0 j) ∧ n0 ≤ h.length ∧ sp 0 = b
end
section
theorem am_dec_of {mid pc : Nat} {i : Instr} {x y z : Nat} (h : am_decok mid (pc, i, x, y, z) = true) (h1 : ∀ d lo hi os, i ≠ .tableswitch d lo hi os) (h2 : ∀ d ps, i ≠ .lookupswitch d ps) : decode (am_b mid) pc = .ok (i, am_len i) := by
  unfold am_decok at h
  split at h
  · rename_i d lo hi os e
    exact absurd e (h1 d lo hi os)
  · rename_i d ps e
    exact absurd e (h2 d ps)
  · exact of_decide_eq_true h
theorem am_tg_tab {pc : Nat} {a : Int32} {d : Nat} : ∀ (os : List Int) (lo : Int), -2147483648 ≤ lo → lo + os.length ≤ 2147483648 → am_tg (am_tab pc lo os) d a = if lo ≤ a.toInt ∧ a.toInt < lo + os.length then ((pc : Int) + os[(a.toInt - lo).toNat]?.getD 0).toNat else d
  | [], lo, _, _ => by
    rw [if_neg (by simp <;> omega)]
    rfl
  | o :: r, lo, h1, h2 => by
    have ih := am_tg_tab (pc := pc) (a := a) (d := d) r (lo + 1) (by omega) (by simp at h2 ⊢; omega)
    have h3 : (Int32.ofInt lo).toInt = lo := Int32.toInt_ofInt_of_le (by simpa using h1) (by simp at h2 ⊢; omega)
    show (if a = Int32.ofInt lo then ((pc : Int) + o).toNat else am_tg (am_tab pc (lo + 1) r) d a) = _
    by_cases e : a = Int32.ofInt lo
    · have e2 : a.toInt = lo := by rw [e]; exact h3
      rw [if_pos e, if_pos (by simp; omega)]
      simp [e2]
    · have e2 : ¬ a.toInt = lo := fun q => e (Int32.toInt_inj.mp (by rw [h3]; exact q))
      rw [if_neg e, ih]
      by_cases hc : lo + 1 ≤ a.toInt ∧ a.toInt < lo + 1 + r.length
      · rw [if_pos hc, if_pos (by simp; omega)]
        have : (a.toInt - lo).toNat = (a.toInt - (lo + 1)).toNat + 1 := by omega
        rw [this]
        rfl
      · rw [if_neg hc, if_neg (by simp; omega)]
theorem am_tg_look {pc : Nat} {a : Int32} {d : Int} : ∀ (ps : List (Int × Int)), (∀ q ∈ ps, -2147483648 ≤ q.1 ∧ q.1 < 2147483648) → am_tg (ps.map fun q => (q.1, ((pc : Int) + q.2).toNat)) ((pc : Int) + d).toNat a = ((pc : Int) + Op.lookupswitch.offset ps d a.toInt).toNat
  | [], _ => rfl
  | (v, o) :: r, h => by
    have ih := am_tg_look (pc := pc) (a := a) (d := d) r fun q hq => h q (List.mem_cons_of_mem _ hq)
    have h1 := h (v, o) List.mem_cons_self
    have h3 : (Int32.ofInt v).toInt = v := Int32.toInt_ofInt_of_le (by simpa using h1.1) (by have := h1.2; simp at this ⊢; omega)
    show (if a = Int32.ofInt v then ((pc : Int) + o).toNat else am_tg (r.map fun q => (q.1, ((pc : Int) + q.2).toNat)) ((pc : Int) + d).toNat a) = _
    rw [Op.lookupswitch.offset_cons, ih]
    by_cases e : a = Int32.ofInt v
    · rw [if_pos e, if_pos (by rw [e, h3])]
    · rw [if_neg e, if_neg (fun q => e (Int32.toInt_inj.mp (by rw [h3]; exact q.symm)))]
section Step
variable {p : Program} {l : Launch} {e : Env} {R : Room} {s : State} {m : MethodId} {args : Array Value} {below : List Frame} {meth : Method} {c : Code} {Q : State → Prop}
variable {mid sl b : Nat} {sx : Nat → Int32} {A : Nat → Prop} {dC : Nat → ClassId} {dI : Nat → Nat → Nat} {ty : Nat → ClassId} {n0 k0 s0 : Nat} {ad0 : Nat → Nat}
variable {x y z pc : Nat} {L : List (Nat × Value)} {S : List Value} {h : List am_E} {k n : Nat} {ad sp : Nat → Nat} {ls : Array Slot} {H : Heap} {locs : List Loc}
theorem am_Sta.store {ls' : Array Slot} {i : Nat} {v : Value} (hSt : am_Sta mid A dC dI ty n0 ad0 b s L h ad sp ls H locs) (hl : lv_has ls' (am_ml mid) ((i, am_sv sp ad v) :: (L.map fun q => (q.1, am_sv sp ad q.2)).filter (fun q => !(q.1 == i) && !(q.1 + 1 == i && q.2.category == 2)))) : am_Sta mid A dC dI ty n0 ad0 b s (am_up L i v) h ad sp ls' H locs := by
  rw [am_up_map] at hl
  exact ⟨hl, hSt.2⟩
theorem am_Sta.heap {H1 : Heap} {locs1 : List Loc} {a : Nat} {e1 : am_E} (hSt : am_Sta mid A dC dI ty n0 ad0 b s L h ad sp ls H locs) (hP : va_P (dC, dI) vwCl ((am_ws ty ad h).set a (ad a, am_ce ty ad e1)) H1) (hD : va_D A ((am_ws ty ad h).set a (ad a, am_ce ty ad e1))) (hS : va_S A s.heap H1 locs1) : am_Sta mid A dC dI ty n0 ad0 b s L (h.set a e1) ad sp ls H1 locs1 := by
  rw [am_ws_set] at hP hD
  exact ⟨hSt.1, hP, hD, hS, hSt.2.2.2.2.1, by rw [List.length_set]; exact hSt.2.2.2.2.2.1, hSt.2.2.2.2.2.2⟩
theorem am_Sta.push {H1 : Heap} {q : Nat} {e1 : am_E} (hSt : am_Sta mid A dC dI ty n0 ad0 b s L h ad sp ls H locs) (hf : h.all (am_fite h.length) = true) (hfL : L.all (fun q => am_fitv h.length q.2) = true) (he : am_fite h.length e1 = true) (hP : va_P (dC, dI) vwCl (am_ws ty ad h ++ [(q, am_ce ty ad e1)]) H1) (hD : va_D A (am_ws ty ad h ++ [(q, am_ce ty ad e1)])) (hS : va_S A s.heap H1 locs) : am_Sta mid A dC dI ty n0 ad0 b s L (h ++ [e1]) (am_ad ad h.length q) sp ls H1 locs := by
  rw [← am_ws_push hf he] at hP hD
  obtain ⟨h1, -, -, -, h5, h6, h7⟩ := hSt
  refine ⟨by rw [am_L_fit hfL]; exact h1, hP, hD, hS, fun j hj hs => ?_, by rw [List.length_append]; omega, h7⟩
  have : ¬ j = h.length := by omega
  simp only [am_ad, if_neg this]
  exact h5 j hj hs
/-- what the goal behind an instruction is -/
def am_KK (p : Program) (l : Launch) (e : Env) (R : Room) (s : State) (m : MethodId) (args : Array Value) (below : List Frame) (meth : Method) (c : Code) (Q : State → Prop) (mid b : Nat) (A : Nat → Prop) (dC : Nat → ClassId) (dI : Nat → Nat → Nat) (ty : Nat → ClassId) (n0 k0 s0 : Nat) (ad0 sp : Nat → Nat) (f : am_F) : Prop :=
  ∀ (ad : Nat → Nat) (ls : Array Slot) (H : Heap) (locs : List Loc), am_Sta mid A dC dI ty n0 ad0 b s f.2.1 f.2.2.2.1 ad sp ls H locs → W p l e R s m args below meth c H locs (f.2.2.2.2.1 - k0) (f.2.2.2.2.2 - s0) Q (F0 m f.1 ls (f.2.2.1.map (am_sv sp ad)))
theorem am_s_bin {op : Int32 → Int32 → Int32} {gd : Int32 → Int32 → Prop} {g : Prop} {f' : am_F} (hs : am_bin pc L S h k n op gd = some (g, f')) (hg : g) (hSt : am_Sta mid A dC dI ty n0 ad0 b s L h ad sp ls H locs) (KK : am_KK p l e R s m args below meth c Q mid b A dC dI ty n0 k0 s0 ad0 sp f')
    (row : ∀ (u v : Int32) (rest : List Value), gd u v → W p l e R s m args below meth c H locs (k - k0) (n - s0) Q (F0 m (pc + 1) ls (.int (op u v) :: rest)) → W p l e R s m args below meth c H locs (k - k0) (n - s0) Q (F0 m pc ls (.int v :: .int u :: rest))) : W p l e R s m args below meth c H locs (k - k0) (n - s0) Q (F0 m pc ls (S.map (am_sv sp ad))) := by
  unfold am_bin at hs
  split at hs
  · cases hs
    exact row _ _ _ hg (KK ad ls H locs hSt)
  · cases hs
theorem am_s_if {cd : ClassFile.Cond} {off : Int} {g : Prop} {f' : am_F} (hx : p.tables.exec = Jvm.exec) (hb : c.code = am_b mid) (hd : decode (am_b mid) pc = .ok (.ifCond cd off, 3)) (hs : am_if pc L S h k n cd off = some (g, f')) (hSt : am_Sta mid A dC dI ty n0 ad0 b s L h ad sp ls H locs) (KK : am_KK p l e R s m args below meth c Q mid b A dC dI ty n0 k0 s0 ad0 sp f') : W p l e R s m args below meth c H locs (k - k0) (n - s0) Q (F0 m pc ls (S.map (am_sv sp ad))) := by
  unfold am_if at hs
  split at hs
  · rename_i a S' t ht
    have ht' : (pc : Int) + off = (t : Int) := ht
    split at hs <;> cases hs
    · exact lv_if_eq hx hb hd ht' (fun q => by have := KK ad ls H locs; rw [am_br, if_pos q] at this; exact this hSt) (fun q => by have := KK ad ls H locs; rw [am_br, if_neg q] at this; exact this hSt)
    · exact lv_if_ne hx hb hd ht' (fun q => by have := KK ad ls H locs; rw [am_br, if_pos q] at this; exact this hSt) (fun q => by have := KK ad ls H locs; rw [am_br, if_neg (fun z => z q)] at this; exact this hSt)
    · exact lv_if_lt hx hb hd ht' (fun q => by have := KK ad ls H locs; rw [am_br, if_pos q] at this; exact this hSt) (fun q => by have := KK ad ls H locs; rw [am_br, if_neg q] at this; exact this hSt)
    · exact lv_if_ge hx hb hd ht' (fun q => by have := KK ad ls H locs; rw [am_br, if_pos q] at this; exact this hSt) (fun q => by have := KK ad ls H locs; rw [am_br, if_neg q] at this; exact this hSt)
    · exact lv_if_gt hx hb hd ht' (fun q => by have := KK ad ls H locs; rw [am_br, if_pos q] at this; exact this hSt) (fun q => by have := KK ad ls H locs; rw [am_br, if_neg q] at this; exact this hSt)
    · exact lv_if_le hx hb hd ht' (fun q => by have := KK ad ls H locs; rw [am_br, if_pos q] at this; exact this hSt) (fun q => by have := KK ad ls H locs; rw [am_br, if_neg q] at this; exact this hSt)
  · cases hs
theorem am_s_icmp {cd : ClassFile.Cond} {off : Int} {g : Prop} {f' : am_F} (hx : p.tables.exec = Jvm.exec) (hb : c.code = am_b mid) (hd : decode (am_b mid) pc = .ok (.if_icmp cd off, 3)) (hs : am_icmp pc L S h k n cd off = some (g, f')) (hSt : am_Sta mid A dC dI ty n0 ad0 b s L h ad sp ls H locs) (KK : am_KK p l e R s m args below meth c Q mid b A dC dI ty n0 k0 s0 ad0 sp f') : W p l e R s m args below meth c H locs (k - k0) (n - s0) Q (F0 m pc ls (S.map (am_sv sp ad))) := by
  unfold am_icmp at hs
  split at hs
  · rename_i bb a S' t ht
    have ht' : (pc : Int) + off = (t : Int) := ht
    split at hs <;> cases hs
    · exact lv_icmp_eq hx hb hd ht' (fun q => by have := KK ad ls H locs; rw [am_br, if_pos q] at this; exact this hSt) (fun q => by have := KK ad ls H locs; rw [am_br, if_neg q] at this; exact this hSt)
    · exact lv_icmp_ne hx hb hd ht' (fun q => by have := KK ad ls H locs; rw [am_br, if_pos q] at this; exact this hSt) (fun q => by have := KK ad ls H locs; rw [am_br, if_neg (fun z => z q)] at this; exact this hSt)
    · exact lv_icmp_lt hx hb hd ht' (fun q => by have := KK ad ls H locs; rw [am_br, if_pos q] at this; exact this hSt) (fun q => by have := KK ad ls H locs; rw [am_br, if_neg q] at this; exact this hSt)
    · exact lv_icmp_ge hx hb hd ht' (fun q => by have := KK ad ls H locs; rw [am_br, if_pos q] at this; exact this hSt) (fun q => by have := KK ad ls H locs; rw [am_br, if_neg q] at this; exact this hSt)
    · exact lv_icmp_gt hx hb hd ht' (fun q => by have := KK ad ls H locs; rw [am_br, if_pos q] at this; exact this hSt) (fun q => by have := KK ad ls H locs; rw [am_br, if_neg q] at this; exact this hSt)
    · exact lv_icmp_le hx hb hd ht' (fun q => by have := KK ad ls H locs; rw [am_br, if_pos q] at this; exact this hSt) (fun q => by have := KK ad ls H locs; rw [am_br, if_neg q] at this; exact this hSt)
  · cases hs
theorem am_s_ldi {i len : Nat} {g : Prop} {f' : am_F} (hs : am_ldi pc L S h k n i len = some (g, f')) (hSt : am_Sta mid A dC dI ty n0 ad0 b s L h ad sp ls H locs) (KK : am_KK p l e R s m args below meth c Q mid b A dC dI ty n0 k0 s0 ad0 sp f')
    (row : ∀ (v : Int32) (rest : List Value), ls[i]? = some (.val (.int v)) → W p l e R s m args below meth c H locs (k - k0) (n - s0) Q (F0 m (pc + len) ls (.int v :: rest)) → W p l e R s m args below meth c H locs (k - k0) (n - s0) Q (F0 m pc ls rest)) : W p l e R s m args below meth c H locs (k - k0) (n - s0) Q (F0 m pc ls (S.map (am_sv sp ad))) := by
  unfold am_ldi at hs
  split at hs
  · rename_i v hv
    cases hs
    exact row v _ (am_L_at hSt.1 hv) (KK ad ls H locs hSt)
  · cases hs
theorem am_s_lda {i len : Nat} {g : Prop} {f' : am_F} (hs : am_lda pc L S h k n i len = some (g, f')) (hSt : am_Sta mid A dC dI ty n0 ad0 b s L h ad sp ls H locs) (KK : am_KK p l e R s m args below meth c Q mid b A dC dI ty n0 k0 s0 ad0 sp f')
    (row : ∀ (v : Nat) (rest : List Value), ls[i]? = some (.val (.ref v)) → W p l e R s m args below meth c H locs (k - k0) (n - s0) Q (F0 m (pc + len) ls (.ref v :: rest)) → W p l e R s m args below meth c H locs (k - k0) (n - s0) Q (F0 m pc ls rest)) : W p l e R s m args below meth c H locs (k - k0) (n - s0) Q (F0 m pc ls (S.map (am_sv sp ad))) := by
  unfold am_lda at hs
  split at hs
  · rename_i v hv
    cases hs
    exact row _ _ (am_L_at hSt.1 hv) (KK ad ls H locs hSt)
  · rename_i v hv
    cases hs
    exact row _ _ (am_L_at hSt.1 hv) (KK ad ls H locs hSt)
  · cases hs
theorem am_blt {a b : Nat} (h : Nat.blt a b = true) : a < b := Nat.lt_of_succ_le (Nat.le_of_ble_eq_true h)
theorem am_s_sti {i len : Nat} {g : Prop} {f' : am_F} (hs : am_sti mid pc L S h k n i len = some (g, f')) (hSt : am_Sta mid A dC dI ty n0 ad0 b s L h ad sp ls H locs) (KK : am_KK p l e R s m args below meth c Q mid b A dC dI ty n0 k0 s0 ad0 sp f')
    (row : ∀ (v : Int32) (rest : List Value), i < am_ml mid → (∀ ls' : Array Slot, lv_has ls' (am_ml mid) ((i, Value.int v) :: (L.map fun q => (q.1, am_sv sp ad q.2)).filter (fun q => !(q.1 == i) && !(q.1 + 1 == i && q.2.category == 2))) → W p l e R s m args below meth c H locs (k - k0) (n - s0) Q (F0 m (pc + len) ls' rest)) → W p l e R s m args below meth c H locs (k - k0) (n - s0) Q (F0 m pc ls (.int v :: rest))) : W p l e R s m args below meth c H locs (k - k0) (n - s0) Q (F0 m pc ls (S.map (am_sv sp ad))) := by
  unfold am_sti at hs
  split at hs
  · rw [cond_eq_ite] at hs
    split at hs
    · rename_i hc
      cases hs
      exact row _ _ (am_blt hc) fun ls' hl => KK ad ls' H locs (hSt.store (v := .int _) hl)
    · cases hs
  · cases hs
theorem am_s_sta {i len : Nat} {g : Prop} {f' : am_F} (hs : am_sta mid pc L S h k n i len = some (g, f')) (hSt : am_Sta mid A dC dI ty n0 ad0 b s L h ad sp ls H locs) (KK : am_KK p l e R s m args below meth c Q mid b A dC dI ty n0 k0 s0 ad0 sp f')
    (row : ∀ (v : Nat) (rest : List Value), i < am_ml mid → (∀ ls' : Array Slot, lv_has ls' (am_ml mid) ((i, Value.ref v) :: (L.map fun q => (q.1, am_sv sp ad q.2)).filter (fun q => !(q.1 == i) && !(q.1 + 1 == i && q.2.category == 2))) → W p l e R s m args below meth c H locs (k - k0) (n - s0) Q (F0 m (pc + len) ls' rest)) → W p l e R s m args below meth c H locs (k - k0) (n - s0) Q (F0 m pc ls (.ref v :: rest))) : W p l e R s m args below meth c H locs (k - k0) (n - s0) Q (F0 m pc ls (S.map (am_sv sp ad))) := by
  unfold am_sta at hs
  split at hs
  · rw [cond_eq_ite] at hs
    split at hs
    · rename_i hc
      cases hs
      exact row _ _ (am_blt hc) fun ls' hl => KK ad ls' H locs (hSt.store (v := .ref _) hl)
    · cases hs
  · rw [cond_eq_ite] at hs
    split at hs
    · rename_i hc
      cases hs
      exact row _ _ (am_blt hc) fun ls' hl => KK ad ls' H locs (hSt.store (v := .retAddr _) hl)
    · cases hs
  · cases hs
theorem am_s_inc {i : Nat} {cc : Int} {g : Prop} {f' : am_F} (hx : p.tables.exec = Jvm.exec) (hb : c.code = am_b mid) (hd : decode (am_b mid) pc = .ok (.iinc i cc, 3)) (hs : am_inc mid pc L S h k n i cc = some (g, f')) (hSt : am_Sta mid A dC dI ty n0 ad0 b s L h ad sp ls H locs) (KK : am_KK p l e R s m args below meth c Q mid b A dC dI ty n0 k0 s0 ad0 sp f') : W p l e R s m args below meth c H locs (k - k0) (n - s0) Q (F0 m pc ls (S.map (am_sv sp ad))) := by
  unfold am_inc at hs
  split at hs
  · rename_i v hv
    rw [cond_eq_ite] at hs
    split at hs
    · rename_i hc
      cases hs
      obtain ⟨j, hj⟩ := List.getElem?_of_mem (List.mem_map.mpr ⟨(i, Value.int v), am_lk_mem hv, rfl⟩ : (i, am_sv sp ad (.int v)) ∈ L.map fun q => (q.1, am_sv sp ad q.2))
      exact lv_iinc hx hb hd hSt.1 hj rfl (am_blt hc) rfl fun ls' hl => KK ad ls' H locs (hSt.store (v := .int _) hl)
    · cases hs
  · cases hs
end Step
end
section
section Step
variable {p : Program} {l : Launch} {e : Env} {R : Room} {s : State} {m : MethodId} {args : Array Value} {below : List Frame} {meth : Method} {c : Code} {Q : State → Prop}
variable {mid sl b : Nat} {sx : Nat → Int32} {A : Nat → Prop} {dC : Nat → ClassId} {dI : Nat → Nat → Nat} {ty : Nat → ClassId} {n0 k0 s0 : Nat} {ad0 : Nat → Nat}
variable {x y z pc : Nat} {L : List (Nat × Value)} {S : List Value} {h : List am_E} {k n : Nat} {ad sp : Nat → Nat} {ls : Array Slot} {H : Heap} {locs : List Loc}
theorem am_wd_get {z idx : Nat} (hts : ∀ w ∈ am_gw, w.before args s = true) (hw : am_pl z (.fieldLink (am_own mid) idx (am_T x y).1 (am_T x y).2.1 (am_T x y).2.2.1) = true) : (Cond.fieldLink (am_own mid) idx (am_T x y).1 (am_T x y).2.1 (am_T x y).2.2.1).before args s = true := hts _ (am_gin hw)
theorem am_s_getf {idx : Nat} {g : Prop} {f' : am_F} (hx : p.tables.exec = Jvm.exec) (hb : c.code = am_b mid) (hown : s.vm.findClass (am_own mid) = some m.cls) (hts : ∀ w ∈ am_gw, w.before args s = true) (hK : va_K (dC, dI) vwCl (am_tys ty) s) (hd : decode (am_b mid) pc = .ok (.getfield idx, 3)) (hw : am_wok mid (pc, .getfield idx, x, y, z) = true) (hs : am_getf x y pc L S h k n = some (g, f')) (hSt : am_Sta mid A dC dI ty n0 ad0 b s L h ad sp ls H locs) (KK : am_KK p l e R s m args below meth c Q mid b A dC dI ty n0 k0 s0 ad0 sp f') : W p l e R s m args below meth c H locs (k - k0) (n - s0) Q (F0 m pc ls (S.map (am_sv sp ad))) := by
  simp only [am_wok, Bool.and_eq_true] at hw
  obtain ⟨hw1, hw2, hw3⟩ := hw
  have hx7 := am_blt hw2
  unfold am_getf at hs
  split at hs
  · split at hs
    · rename_i a S' o ci fs ho
      rw [cond_eq_ite] at hs
      split at hs
      · rename_i hci
        have hci := Nat.eq_of_beq_eq_true hci
        subst hci
        split at hs
        · rename_i v hv
          cases hs
          refine va_get (D := (dC, dI)) (ci := ci) (v := .int v) (C := am_C ci) (T := am_T ci) (N := am_N ci) hx hb hts (am_uin ci hx7) hown hK hSt.2.1 a (am_ws_at ho) (am_vw ci hx7) y (am_blt hw3) (am_wd_get hts hw1) (fun _ h9 => h9) ?_ hd (KK ad ls H locs hSt)
          rw [List.getElem?_map, hv]
          rfl
        · rename_i v hv
          cases hs
          refine va_get (D := (dC, dI)) (ci := ci) (v := .ref (ad v)) (C := am_C ci) (T := am_T ci) (N := am_N ci) hx hb hts (am_uin ci hx7) hown hK hSt.2.1 a (am_ws_at ho) (am_vw ci hx7) y (am_blt hw3) (am_wd_get hts hw1) (fun _ h9 => h9) ?_ hd (KK ad ls H locs hSt)
          rw [List.getElem?_map, hv]
          rfl
        · cases hs
      · cases hs
    · cases hs
  · cases hs
theorem am_b01 : narrow .boolean (.int 0) = .int 0 ∧ fits .boolean (.int 0) = true ∧ narrow .boolean (.int 1) = .int 1 ∧ fits .boolean (.int 1) = true := by decide +kernel
theorem am_pf_ok {t : FieldType} {v : Value} (h : am_pf t v = true) (sp ad : Nat → Nat) : narrow t (am_cv ad v) = am_cv ad v ∧ fits t (am_cv ad v) = true ∧ am_sv sp ad v = am_cv ad v := by
  cases t <;> cases v <;> simp only [am_pf, Bool.or_eq_true, beq_iff_eq, reduceCtorEq, Bool.false_eq_true] at h <;> first | exact ⟨rfl, rfl, rfl⟩ | (rcases h with rfl | rfl <;> first | exact ⟨am_b01.1, am_b01.2.1, rfl⟩ | exact ⟨am_b01.2.2.1, am_b01.2.2.2, rfl⟩)
theorem am_s_putf {idx : Nat} {g : Prop} {f' : am_F} (hx : p.tables.exec = Jvm.exec) (hb : c.code = am_b mid) (hown : s.vm.findClass (am_own mid) = some m.cls) (hin : (am_y mid).name = "<init>" → meth.name = "<init>") (hts : ∀ w ∈ am_gw, w.before args s = true) (hK : va_K (dC, dI) vwCl (am_tys ty) s) (hd : decode (am_b mid) pc = .ok (.putfield idx, 3)) (hw : am_wok mid (pc, .putfield idx, x, y, z) = true) (hs : am_putf x y pc L S h k n = some (g, f')) (hSt : am_Sta mid A dC dI ty n0 ad0 b s L h ad sp ls H locs) (KK : am_KK p l e R s m args below meth c Q mid b A dC dI ty n0 k0 s0 ad0 sp f') : W p l e R s m args below meth c H locs (k - k0) (n - s0) Q (F0 m pc ls (S.map (am_sv sp ad))) := by
  simp only [am_wok, Bool.and_eq_true] at hw
  obtain ⟨⟨hw1, hw2, hw3⟩, hw4⟩ := hw
  have hx7 := am_blt hw2
  have hy := am_blt hw3
  unfold am_putf at hs
  split at hs
  · split at hs
    · rename_i v a S' o ci fs ho
      rw [cond_eq_ite] at hs
      split at hs
      · rename_i hci
        simp only [Bool.and_eq_true] at hci
        obtain ⟨hci, hyl, hpf⟩ := hci
        have hci := Nat.eq_of_beq_eq_true hci
        subst hci
        cases hs
        obtain ⟨f1, f2, f3⟩ := am_pf_ok hpf sp ad
        have hyl' := am_blt hyl
        have hset : ∀ H1 locs1, va_P (dC, dI) vwCl ((am_ws ty ad h).set a (ad a, .inr (ci, (fs.map (am_cv ad)).set y (am_cv ad v)))) H1 → va_D A ((am_ws ty ad h).set a (ad a, .inr (ci, (fs.map (am_cv ad)).set y (am_cv ad v)))) → va_S A s.heap H1 locs1 → W p l e R s m args below meth c H1 locs1 (k - k0) (n - s0) Q (F0 m (pc + 3) ls (S'.map (am_sv sp ad))) := by
          intro H1 locs1 hP hD hS
          rw [← List.map_set] at hP hD
          exact KK ad ls H1 locs1 (hSt.heap (e1 := .inr (ci, fs.set y v)) hP hD hS)
        simp only [List.map_cons]
        rw [f3]
        by_cases hfin : (am_T ci y).2.2.2 = true
        · have h5 : (am_y mid).name = "<init>" ∧ (am_T ci y).1 = am_own mid := by simpa [hfin] using hw4
          exact va_putF (D := (dC, dI)) (ci := ci) (v := am_cv ad v) (ty := am_ty ci y) (C := am_C ci) (T := am_T ci) (N := am_N ci) hx hb hts (am_uin ci hx7) (am_ty ci) (am_tyok ci hx7) (am_nmok ci hx7) hown hK hSt.2.1 hSt.2.2.1 hSt.2.2.2.1 a (am_ws_at ho) (am_vw ci hx7) y hy (am_wd_get hts hw1) (fun _ h9 => h9) hfin (hin h5.1) h5.2 (am_tyok ci hx7 y hy) f1 f2 (by rw [List.length_map]; exact hyl') hd hset
        · exact va_put (D := (dC, dI)) (ci := ci) (v := am_cv ad v) (ty := am_ty ci y) (C := am_C ci) (T := am_T ci) (N := am_N ci) hx hb hts (am_uin ci hx7) (am_ty ci) (am_tyok ci hx7) (am_nmok ci hx7) hown hK hSt.2.1 hSt.2.2.1 hSt.2.2.2.1 a (am_ws_at ho) (am_vw ci hx7) y hy (am_wd_get hts hw1) (fun _ h9 => h9) (by simpa using hfin) (am_tyok ci hx7 y hy) f1 f2 (by rw [List.length_map]; exact hyl') hd hset
      · cases hs
    · cases hs
  · cases hs
theorem am_s_iald {g : Prop} {f' : am_F} (hx : p.tables.exec = Jvm.exec) (hb : c.code = am_b mid) (hK : va_K (dC, dI) vwCl (am_tys ty) s) (hscr : 0 < sl → va_X b (sl - 1) sx s s.heap ∧ b < s.heap.size ∧ ¬ A b) (hd : decode (am_b mid) pc = .ok (.iaload, 1)) (hs : am_iald sl sx pc L S h k n = some (g, f')) (hg : g) (hSt : am_Sta mid A dC dI ty n0 ad0 b s L h ad sp ls H locs) (KK : am_KK p l e R s m args below meth c Q mid b A dC dI ty n0 k0 s0 ad0 sp f') : W p l e R s m args below meth c H locs (k - k0) (n - s0) Q (F0 m pc ls (S.map (am_sv sp ad))) := by
  unfold am_iald at hs
  split at hs
  · split at hs
    · rename_i j a S' o len f ho
      cases hs
      exact va_iald hx hb hK hSt.2.1 a 0 (am_ws_at ho) rfl hg hd (KK ad ls H locs hSt)
    · cases hs
  · cases hs
    obtain ⟨h1, h2, h3⟩ := hscr hg.1
    have h4 := hSt.2.2.2.2.2.2
    simp only [List.map_cons, am_sv]
    rw [h4]
    exact va_sld hx hb h1 h2 h3 hSt.2.2.2.1 hg.2 hd (KK ad ls H locs hSt)
  · cases hs
theorem am_s_alen {g : Prop} {f' : am_F} (hx : p.tables.exec = Jvm.exec) (hb : c.code = am_b mid) (hK : va_K (dC, dI) vwCl (am_tys ty) s) (hscr : 0 < sl → va_X b (sl - 1) sx s s.heap ∧ b < s.heap.size ∧ ¬ A b) (hd : decode (am_b mid) pc = .ok (.arraylength, 1)) (hs : am_alen sl pc L S h k n = some (g, f')) (hg : g) (hSt : am_Sta mid A dC dI ty n0 ad0 b s L h ad sp ls H locs) (KK : am_KK p l e R s m args below meth c Q mid b A dC dI ty n0 k0 s0 ad0 sp f') : W p l e R s m args below meth c H locs (k - k0) (n - s0) Q (F0 m pc ls (S.map (am_sv sp ad))) := by
  unfold am_alen at hs
  split at hs
  · split at hs
    · rename_i a S' o t a' ho
      rw [cond_eq_ite] at hs
      split at hs
      · rename_i hlt
        cases hs
        have h3 := am_blt hlt
        have hk := KK ad ls H locs hSt
        match t, h3, ho with
        | 0, _, ho => exact va_alen hx hb hK hSt.2.1 a 0 (am_ws_at ho) rfl rfl hd hk
        | 1, _, ho => exact va_alen hx hb hK hSt.2.1 a 1 (am_ws_at ho) rfl rfl hd hk
        | 2, _, ho => exact va_alen hx hb hK hSt.2.1 a 2 (am_ws_at ho) rfl rfl hd hk
        | t + 3, h3, _ => exact absurd h3 (by omega)
      · cases hs
    · cases hs
  · cases hs
    obtain ⟨h1, h2, h3⟩ := hscr hg
    have h4 := hSt.2.2.2.2.2.2
    simp only [List.map_cons, am_sv]
    rw [h4]
    exact va_slen hx hb h1 h2 h3 hSt.2.2.2.1 hd (KK ad ls H locs hSt)
  · cases hs
theorem am_s_bald {g : Prop} {f' : am_F} (hx : p.tables.exec = Jvm.exec) (hb : c.code = am_b mid) (hK : va_K (dC, dI) vwCl (am_tys ty) s) (hd : decode (am_b mid) pc = .ok (.baload, 1)) (hs : am_bald pc L S h k n = some (g, f')) (hg : g) (hSt : am_Sta mid A dC dI ty n0 ad0 b s L h ad sp ls H locs) (KK : am_KK p l e R s m args below meth c Q mid b A dC dI ty n0 k0 s0 ad0 sp f') : W p l e R s m args below meth c H locs (k - k0) (n - s0) Q (F0 m pc ls (S.map (am_sv sp ad))) := by
  unfold am_bald at hs
  split at hs
  · split at hs
    · rename_i j a S' o len f ho
      cases hs
      exact va_zald hx hb hK hSt.2.1 a 1 (am_ws_at ho) rfl hg hd (KK ad ls H locs hSt)
    · cases hs
  · cases hs
theorem am_s_iast {g : Prop} {f' : am_F} (hx : p.tables.exec = Jvm.exec) (hb : c.code = am_b mid) (hK : va_K (dC, dI) vwCl (am_tys ty) s) (hd : decode (am_b mid) pc = .ok (.iastore, 1)) (hs : am_iast pc L S h k n = some (g, f')) (hg : g) (hSt : am_Sta mid A dC dI ty n0 ad0 b s L h ad sp ls H locs) (KK : am_KK p l e R s m args below meth c Q mid b A dC dI ty n0 k0 s0 ad0 sp f') : W p l e R s m args below meth c H locs (k - k0) (n - s0) Q (F0 m pc ls (S.map (am_sv sp ad))) := by
  unfold am_iast at hs
  split at hs
  · split at hs
    · rename_i v j a S' o len f ho
      cases hs
      exact va_iast hx hb hK hSt.2.1 hSt.2.2.1 hSt.2.2.2.1 a 0 (am_ws_at ho) rfl hg hd fun H1 locs1 hP hD hS => KK ad ls H1 locs1 (hSt.heap (e1 := .inl (0, len, .inl (upd f j.toNatClampNeg v))) hP hD hS)
    · cases hs
  · cases hs
theorem am_s_bast {g : Prop} {f' : am_F} (hx : p.tables.exec = Jvm.exec) (hb : c.code = am_b mid) (hK : va_K (dC, dI) vwCl (am_tys ty) s) (hd : decode (am_b mid) pc = .ok (.bastore, 1)) (hs : am_bast pc L S h k n = some (g, f')) (hg : g) (hSt : am_Sta mid A dC dI ty n0 ad0 b s L h ad sp ls H locs) (KK : am_KK p l e R s m args below meth c Q mid b A dC dI ty n0 k0 s0 ad0 sp f') : W p l e R s m args below meth c H locs (k - k0) (n - s0) Q (F0 m pc ls (S.map (am_sv sp ad))) := by
  unfold am_bast at hs
  split at hs
  · split at hs
    · rename_i v j a S' o len f ho
      cases hs
      refine va_zast hx hb hK hSt.2.1 hSt.2.2.1 hSt.2.2.2.1 a 1 (am_ws_at ho) rfl hg.1 hd fun H1 locs1 hP hD hS => ?_
      rw [hg.2] at hP hD
      exact KK ad ls H1 locs1 (hSt.heap (e1 := .inl (1, len, .inl (upd f j.toNatClampNeg v))) hP hD hS)
    · cases hs
  · cases hs
theorem am_s_last {g : Prop} {f' : am_F} (hx : p.tables.exec = Jvm.exec) (hb : c.code = am_b mid) (hK : va_K (dC, dI) vwCl (am_tys ty) s) (hd : decode (am_b mid) pc = .ok (.lastore, 1)) (hs : am_last pc L S h k n = some (g, f')) (hg : g) (hSt : am_Sta mid A dC dI ty n0 ad0 b s L h ad sp ls H locs) (KK : am_KK p l e R s m args below meth c Q mid b A dC dI ty n0 k0 s0 ad0 sp f') : W p l e R s m args below meth c H locs (k - k0) (n - s0) Q (F0 m pc ls (S.map (am_sv sp ad))) := by
  unfold am_last at hs
  split at hs
  · split at hs
    · rename_i v j a S' o len f ho
      cases hs
      exact va_last hx hb hK hSt.2.1 hSt.2.2.1 hSt.2.2.2.1 a 2 (am_ws_at ho) rfl hg hd fun H1 locs1 hP hD hS => KK ad ls H1 locs1 (hSt.heap (e1 := .inl (2, len, .inr (.inl (vp_updL f j.toNatClampNeg v)))) hP hD hS)
    · cases hs
  · cases hs
end Step
end
section
section Step
variable {p : Program} {l : Launch} {e : Env} {R : Room} {s : State} {m : MethodId} {args : Array Value} {below : List Frame} {meth : Method} {c : Code} {Q : State → Prop}
variable {mid sl b : Nat} {sx : Nat → Int32} {A : Nat → Prop} {dC : Nat → ClassId} {dI : Nat → Nat → Nat} {ty : Nat → ClassId} {n0 k0 s0 : Nat} {ad0 : Nat → Nat}
variable {x y z pc : Nat} {L : List (Nat × Value)} {S : List Value} {h : List am_E} {k n : Nat} {ad sp : Nat → Nat} {ls : Array Slot} {H : Heap} {locs : List Loc}
theorem am_s_new {idx : Nat} {g : Prop} {f' : am_F} (hx : p.tables.exec = Jvm.exec) (hb : c.code = am_b mid) (hown : s.vm.findClass (am_own mid) = some m.cls) (hts : ∀ w ∈ am_gw, w.before args s = true) (hA : ∀ q, s.heap.size ≤ q → A q) (hK : va_K (dC, dI) vwCl (am_tys ty) s) (hd : decode (am_b mid) pc = .ok (.new idx, 3)) (hw : am_wok mid (pc, .new idx, x, y, z) = true) (hs : am_new x pc L S h k n = some (g, f')) (hk0 : k0 ≤ k) (hs0 : s0 ≤ n) (hR : f'.2.2.2.2.1 - k0 ≤ R.cells ∧ f'.2.2.2.2.2 - s0 ≤ R.slots) (hSt : am_Sta mid A dC dI ty n0 ad0 b s L h ad sp ls H locs) (KK : am_KK p l e R s m args below meth c Q mid b A dC dI ty n0 k0 s0 ad0 sp f') : W p l e R s m args below meth c H locs (k - k0) (n - s0) Q (F0 m pc ls (S.map (am_sv sp ad))) := by
  unfold am_new at hs
  rw [cond_eq_ite] at hs
  split at hs
  · rename_i hc
    simp only [Bool.and_eq_true] at hc
    obtain ⟨hf, hx7⟩ := hc
    have hx7 := am_blt hx7
    simp only [am_fit, Bool.and_eq_true] at hf
    obtain ⟨hf1, hf2, hf3⟩ := hf
    cases hs
    obtain ⟨o1, o2, o3⟩ := am_ok x hx7
    simp only [Bool.and_eq_true] at o1
    have hw1 : am_pl z (.classLink (am_own mid) idx (am_C x)) = true := by
      have : Nat.blt x 7 = true := Nat.ble_eq_true_of_le hx7
      simpa [am_wok, this] using hw
    have e1 : k - k0 + 1 = k + 1 - k0 := by omega
    have e2 : n - s0 + am_N x = n + am_N x - s0 := by omega
    have hdf : am_fite h.length (.inr (x, am_df x)) = true := by
      have : ∀ j, j < 7 → ∀ N, am_fite N (.inr (j, am_df j)) = true := fun j hj N => match j, hj with
        | 0, _ => rfl
        | 1, _ => rfl
        | 2, _ => rfl
        | 3, _ => rfl
        | 4, _ => rfl
        | 5, _ => rfl
        | 6, _ => rfl
        | j + 7, hj => absurd hj (by omega)
      exact this x hx7 _
    have hmap : (am_df x).map (am_cv ad) = am_df x := by
      have : ∀ j, j < 7 → (am_df j).map (am_cv ad) = am_df j := fun j hj => match j, hj with
        | 0, _ => rfl
        | 1, _ => rfl
        | 2, _ => rfl
        | 3, _ => rfl
        | 4, _ => rfl
        | 5, _ => rfl
        | 6, _ => rfl
        | j + 7, hj => absurd hj (by omega)
      exact this x hx7
    refine va_new (ci := x) (fs := am_df x) (C := am_C x) (T := am_T x) (N := am_N x) hx hb hts (am_uin x hx7) (am_ty x) (am_tyok x hx7) hown (hts _ (am_gin hw1)) (hts _ (am_gin o1.1)) (hts _ (am_gin o1.2)) hK hSt.2.1 hSt.2.2.1 hSt.2.2.2.1 hA (am_vw x hx7) o3 (by rw [e1]; exact hR.1) (by rw [e2]; exact hR.2) hd fun q H1 hP hD hS => ?_
    rw [e1, e2]
    have hk := KK (am_ad ad h.length q) ls H1 locs (hSt.push hf1 hf2 hdf (by show va_P _ _ (am_ws ty ad h ++ [(q, .inr (x, (am_df x).map (am_cv ad)))]) _; rw [hmap]; exact hP) (by show va_D _ (am_ws ty ad h ++ [(q, .inr (x, (am_df x).map (am_cv ad)))]); rw [hmap]; exact hD) hS)
    simp only [List.map_cons] at hk
    rw [am_S_fit hf3] at hk
    simpa [am_sv, am_ad] using hk
  · cases hs
theorem am_s_newa {at' : ArrayType} {g : Prop} {f' : am_F} (hx : p.tables.exec = Jvm.exec) (hb : c.code = am_b mid) (hts : ∀ w ∈ am_gw, w.before args s = true) (hA : ∀ q, s.heap.size ≤ q → A q) (hK : va_K (dC, dI) vwCl (am_tys ty) s) (hd : decode (am_b mid) pc = .ok (.newarray at', 2)) (hw : am_wok mid (pc, .newarray at', x, y, z) = true) (hs : am_newa x pc L S h k n = some (g, f')) (hg : g) (hk0 : k0 ≤ k) (hs0 : s0 ≤ n) (hR : f'.2.2.2.2.1 - k0 ≤ R.cells ∧ f'.2.2.2.2.2 - s0 ≤ R.slots) (hSt : am_Sta mid A dC dI ty n0 ad0 b s L h ad sp ls H locs) (KK : am_KK p l e R s m args below meth c Q mid b A dC dI ty n0 k0 s0 ad0 sp f') : W p l e R s m args below meth c H locs (k - k0) (n - s0) Q (F0 m pc ls (S.map (am_sv sp ad))) := by
  unfold am_newa at hs
  split at hs
  · rename_i v S'
    rw [cond_eq_ite] at hs
    split at hs
    · rename_i hc
      simp only [Bool.and_eq_true] at hc
      obtain ⟨hf, hx3⟩ := hc
      have hx3 := am_blt hx3
      simp only [am_fit, Bool.and_eq_true] at hf
      obtain ⟨hf1, hf2, hf3⟩ := hf
      cases hs
      simp only [am_wok, Bool.and_eq_true, decide_eq_true_eq] at hw
      have hty := hw.1
      have e1 : k - k0 + 1 = k + 1 - k0 := by omega
      have e2 : n - s0 + v.toNatClampNeg = n + v.toNatClampNeg - s0 := by omega
      have haz := am_azok
      simp only [Bool.and_eq_true] at haz
      have key : ∀ (ft : FieldType) (a0 : vp_A), newarray.typeOf at' = ft → (Cond.arrayClass ft).before args s = true → am_ar x v.toNatClampNeg = .inl (x, a0) → (am_tys ty)[x]? = some (ty x, ft) → (∀ (cA cB : ClassId), va_RA s cA ft → va_RA s cB ft → cA = cB) → (∀ cA : ClassId, vp_cell cA a0 = arrV cA v.toNatClampNeg (fun _ => defaultValue ft)) → componentBytes ft ≤ 8 → W p l e R s m args below meth c H locs (k - k0) (n - s0) Q (F0 m pc ls ((.int v :: S').map (am_sv sp ad))) := by
        intro ft a0 ht harr har htys hra hcell hbytes
        refine va_newa hx hb (by rw [ht]; exact harr) ht hK hSt.2.1 hSt.2.2.1 hSt.2.2.2.1 hA hcell hg.1 rfl (Nat.le_trans (Nat.mul_le_mul_left _ hbytes) hg.2) (by rw [e1]; exact hR.1) (by rw [e2]; exact hR.2) hd fun q cA H1 hK1 hP hD hS => ?_
        have hcA : cA = ty x := hra _ _ (hK1.2 3 (cA, ft) rfl).2 (hK.2 x _ htys).2
        subst hcA
        rw [e1, e2]
        have hk := KK (am_ad ad h.length q) ls H1 locs (hSt.push (e1 := am_ar x v.toNatClampNeg) hf1 hf2 (by rw [har]; rfl) (by rw [har]; exact hP) (by rw [har]; exact hD) hS)
        simp only [List.map_cons] at hk
        rw [am_S_fit hf3] at hk
        simpa [am_sv, am_ad] using hk
      match x, hx3, hty, key with
      | 0, _, hty, key => exact key .int _ hty (hts _ (am_gin haz.1)) rfl rfl (fun cA cB h1 h2 => Option.some.inj (Eq.trans (Eq.symm h1) h2)) (fun _ => rfl) (by decide)
      | 1, _, hty, key => exact key .boolean _ hty (hts _ (am_gin haz.2.1)) rfl rfl (fun cA cB h1 h2 => Option.some.inj (Eq.trans (Eq.symm h1) h2)) (fun _ => rfl) (by decide)
      | 2, _, hty, key => exact key .long _ hty (hts _ (am_gin haz.2.2)) rfl rfl (fun cA cB h1 h2 => Option.some.inj (Eq.trans (Eq.symm h1) h2)) (fun _ => rfl) (by decide)
      | x + 3, hx3, _, _ => exact absurd hx3 (by omega)
    · cases hs
  · cases hs
theorem am_offs_at {pc : Nat} {os : List Int} (h : am_offs pc os = true) {j : Nat} {o : Int} (ho : os[j]? = some o) : 0 ≤ (pc : Int) + o := of_decide_eq_true (List.all_eq_true.mp h o (List.mem_of_getElem? ho))
theorem am_s_tsw {d lo hi : Int} {os : Array Int} {len : Nat} {g : Prop} {f' : am_F} (hx : p.tables.exec = Jvm.exec) (hb : c.code = am_b mid) (hd : decode (am_b mid) pc = .ok (.tableswitch d lo hi os, len)) (hw : am_wok mid (pc, .tableswitch d lo hi os, x, y, z) = true) (hs : am_sw pc L S h k n (am_tab pc lo os.toList) d = some (g, f')) (hSt : am_Sta mid A dC dI ty n0 ad0 b s L h ad sp ls H locs) (KK : am_KK p l e R s m args below meth c Q mid b A dC dI ty n0 k0 s0 ad0 sp f') : W p l e R s m args below meth c H locs (k - k0) (n - s0) Q (F0 m pc ls (S.map (am_sv sp ad))) := by
  unfold am_sw at hs
  split at hs
  · rename_i v S'
    cases hs
    simp only [am_wok, Bool.and_eq_true, decide_eq_true_eq] at hw
    obtain ⟨hd0, hos, hsz, hlo, hhi⟩ := hw
    have hk := KK ad ls H locs hSt
    have hlen : (os.toList.length : Int) = os.size := by simp
    rw [am_tg_tab os.toList lo hlo (by omega)] at hk
    by_cases hc : lo ≤ v.toInt ∧ v.toInt < lo + os.toList.length
    · rw [if_pos hc] at hk
      have hj : (v.toInt - lo).toNat < os.toList.length := by omega
      have ho : os.toList[(v.toInt - lo).toNat]? = some (os.toList[(v.toInt - lo).toNat]) := List.getElem?_eq_getElem hj
      have hn := am_offs_at hos ho
      rw [ho] at hk
      refine lv_tableIn hx hb hd (by omega) (by omega) (by rw [← Array.getElem?_toList]; exact ho) ?_ hk
      simp only [Option.getD_some]
      omega
    · rw [if_neg hc] at hk
      exact lv_tableOut hx hb hd (by omega) (by omega) hk
  · cases hs
theorem am_s_lsw {d : Int} {ps : Array (Int × Int)} {len : Nat} {g : Prop} {f' : am_F} (hx : p.tables.exec = Jvm.exec) (hb : c.code = am_b mid) (hd : decode (am_b mid) pc = .ok (.lookupswitch d ps, len)) (hw : am_wok mid (pc, .lookupswitch d ps, x, y, z) = true) (hs : am_sw pc L S h k n (ps.toList.map fun q => (q.1, ((pc : Int) + q.2).toNat)) d = some (g, f')) (hSt : am_Sta mid A dC dI ty n0 ad0 b s L h ad sp ls H locs) (KK : am_KK p l e R s m args below meth c Q mid b A dC dI ty n0 k0 s0 ad0 sp f') : W p l e R s m args below meth c H locs (k - k0) (n - s0) Q (F0 m pc ls (S.map (am_sv sp ad))) := by
  unfold am_sw at hs
  split at hs
  · rename_i v S'
    cases hs
    simp only [am_wok, Bool.and_eq_true, decide_eq_true_eq] at hw
    obtain ⟨hd0, hos, hord, hrg⟩ := hw
    have hk := KK ad ls H locs hSt
    have hrg2 : ∀ q ∈ ps.toList, -2147483648 ≤ q.1 ∧ q.1 < 2147483648 := fun q hq => by
      have := List.all_eq_true.mp hrg q hq
      simpa using this
    rw [am_tg_look ps.toList hrg2] at hk
    have hnn : 0 ≤ (pc : Int) + Op.lookupswitch.offset ps.toList d v.toInt := by
      have gen : ∀ (r : List (Int × Int)), am_offs pc (r.map Prod.snd) = true → 0 ≤ (pc : Int) + Op.lookupswitch.offset r d v.toInt := by
        intro r
        induction r with
        | nil => exact fun _ => hd0
        | cons q r ih =>
          obtain ⟨a, o⟩ := q
          intro hr
          simp only [am_offs, List.map_cons, List.all_cons, Bool.and_eq_true, decide_eq_true_eq] at hr
          rw [Op.lookupswitch.offset_cons]
          split
          · exact hr.1
          · exact ih hr.2
      exact gen _ hos
    exact lv_lookup hx hb hd hord rfl (by omega) hk
  · cases hs
theorem am_s_obj {idx : Nat} {g : Prop} {f' : am_F} (hx : p.tables.exec = Jvm.exec) (hb : c.code = am_b mid) (hml : c.maxLocals = am_ml mid) (hown : s.vm.findClass (am_own mid) = some m.cls) (hts : ∀ w ∈ am_gw, w.before args s = true) (hd : decode (am_b mid) pc = .ok (.invokespecial idx, 3)) (hw : am_wok mid (pc, .invokespecial idx, x, y, z) = true) (hs : am_obj x pc L S h k n = some (g, f')) (hRf : 1 ≤ R.frames) (hRl : 30 ≤ R.locals) (hSt : am_Sta mid A dC dI ty n0 ad0 b s L h ad sp ls H locs) (KK : am_KK p l e R s m args below meth c Q mid b A dC dI ty n0 k0 s0 ad0 sp f') : W p l e R s m args below meth c H locs (k - k0) (n - s0) Q (F0 m pc ls (S.map (am_sv sp ad))) := by
  unfold am_obj at hs
  split at hs
  · rename_i a S'
    rw [cond_eq_ite] at hs
    split at hs
    · rename_i hc
      simp only [Bool.and_eq_true] at hc
      have hx1 := Nat.eq_of_beq_eq_true hc.1
      have hsum := Nat.le_of_ble_eq_true hc.2
      cases hs
      have hw1 : am_pl z (.methodLink (am_own mid) idx Lib.objectInit) = true := by simpa [am_wok, hx1] using hw
      have hoz : Cond.code Lib.objectInit ⟨#[0xb1]⟩ 1 none ∈ am_gw := List.mem_filter.mpr ⟨List.mem_of_getElem? am_ozk, rfl⟩
      refine W.objInit hx hb hown (hts _ (am_gin hw1)) (hts _ (am_gin am_ozok)) (hts _ hoz) rfl (by rw [hml]; exact hSt.1.1) rfl hd hRf ?_ (W.eq (g2 := F0 m (pc + 3) ls (S'.map (am_sv sp ad))) rfl (KK ad ls H locs hSt))
      show 2 * 0 + ((S'.map (am_sv sp ad)).map fun v => v.category).sum + 12 ≤ R.locals
      rw [am_csum_sv]
      omega
    · cases hs
  · cases hs
theorem am_s_max {idx : Nat} {g : Prop} {f' : am_F} (hx : p.tables.exec = Jvm.exec) (hb : c.code = am_b mid) (hml : c.maxLocals = am_ml mid) (hown : s.vm.findClass (am_own mid) = some m.cls) (hts : ∀ w ∈ am_gw, w.before args s = true) (hd : decode (am_b mid) pc = .ok (.invokestatic idx, 3)) (hw : am_wok mid (pc, .invokestatic idx, x, y, z) = true) (hs : am_max x pc L S h k n = some (g, f')) (hRf : 1 ≤ R.frames) (hRl : 30 ≤ R.locals) (hRc : k - k0 ≤ R.cells ∧ n - s0 ≤ R.slots) (hSt : am_Sta mid A dC dI ty n0 ad0 b s L h ad sp ls H locs) (KK : am_KK p l e R s m args below meth c Q mid b A dC dI ty n0 k0 s0 ad0 sp f') : W p l e R s m args below meth c H locs (k - k0) (n - s0) Q (F0 m pc ls (S.map (am_sv sp ad))) := by
  unfold am_max at hs
  split at hs
  · rename_i u v S'
    rw [cond_eq_ite] at hs
    split at hs
    · rename_i hc
      simp only [Bool.and_eq_true] at hc
      have hx1 := Nat.eq_of_beq_eq_true hc.1
      have hsum := Nat.le_of_ble_eq_true hc.2
      cases hs
      have hw1 : am_pl z (.methodLink (am_own mid) idx Lib.Math.max.name) = true := by simpa [am_wok, hx1] using hw
      have hxz := am_xzok
      simp only [Bool.and_eq_true] at hxz
      have hoz : Cond.code Lib.Math.max.name Lib.Math.max.code 2 (some .int) ∈ am_gw := List.mem_filter.mpr ⟨List.mem_of_getElem? am_xzk, rfl⟩
      refine va_mmax hx hb (by rw [hml]; exact hSt.1.1.symm) hown (hts _ (am_gin hw1)) (hts _ (am_gin hxz.1)) (hts _ (am_gin hxz.2)) (hts _ hoz) hRf ?_ hRc.1 hRc.2 hd (KK ad ls H locs hSt)
      show ((S'.map (am_sv sp ad)).map fun v => v.category).sum + 13 ≤ R.locals
      rw [am_csum_sv]
      omega
    · cases hs
  · cases hs
end Step
end
section
section Step
variable {p : Program} {l : Launch} {e : Env} {R : Room} {s : State} {m : MethodId} {args : Array Value} {below : List Frame} {meth : Method} {c : Code} {Q : State → Prop}
variable {mid sl b : Nat} {sx : Nat → Int32} {A : Nat → Prop} {dC : Nat → ClassId} {dI : Nat → Nat → Nat} {ty : Nat → ClassId} {n0 k0 s0 : Nat} {ad0 : Nat → Nat}
variable {x y z pc : Nat} {L : List (Nat × Value)} {S : List Value} {h : List am_E} {k n : Nat} {ad sp : Nat → Nat} {ls : Array Slot} {H : Heap} {locs : List Loc}
theorem am_step {i : Instr} {g : Prop} {f' : am_F} (C : am_Cx mid sl sx b A l dC dI ty p e R s m args below meth c) (hin : (am_y mid).name = "<init>" → meth.name = "<init>") (hfet : am_fetch mid pc = some (i, x, y, z)) (hs : am_st mid sl sx x y pc L S h k n i = some (g, f')) (hg : g) (hk0 : k0 ≤ k) (hs0 : s0 ≤ n) (hR : f'.2.2.2.2.1 - k0 ≤ R.cells ∧ f'.2.2.2.2.2 - s0 ≤ R.slots) (hRf : 1 ≤ R.frames) (hRl : 30 ≤ R.locals) (hSt : am_Sta mid A dC dI ty n0 ad0 b s L h ad sp ls H locs) (KK : am_KK p l e R s m args below meth c Q mid b A dC dI ty n0 k0 s0 ad0 sp f') : W p l e R s m args below meth c H locs (k - k0) (n - s0) Q (F0 m pc ls (S.map (am_sv sp ad))) := by
  obtain ⟨hx, hb, hml, hown, hts, -, hA, hK, -, -, -, hscr, -⟩ := C
  obtain ⟨hdk, hwk⟩ := am_fetch_ok hfet
  cases i with
  | iconst cc => cases hs; exact lv_iconst hx hb (am_dec_of hdk (fun _ _ _ _ q => nomatch q) (fun _ _ q => nomatch q)) rfl (KK ad ls H locs hSt)
  | bipush cc => cases hs; exact lv_bipush hx hb (am_dec_of hdk (fun _ _ _ _ q => nomatch q) (fun _ _ q => nomatch q)) (of_decide_eq_true hwk) (KK ad ls H locs hSt)
  | sipush cc => cases hs; exact lv_sipush hx hb (am_dec_of hdk (fun _ _ _ _ q => nomatch q) (fun _ _ q => nomatch q)) (of_decide_eq_true hwk) (KK ad ls H locs hSt)
  | lconst cc => cases hs; exact lv_lconst hx hb (am_dec_of hdk (fun _ _ _ _ q => nomatch q) (fun _ _ q => nomatch q)) rfl (KK ad ls H locs hSt)
  | ldc cc => cases hs; exact lv_ldc hx hb hown (hts _ (am_gin (w := .constant (am_own mid) cc (Int32.ofNat x)) hwk)) (am_dec_of hdk (fun _ _ _ _ q => nomatch q) (fun _ _ q => nomatch q)) (KK ad ls H locs hSt)
  | iload_n j => exact am_s_ldi hs hSt KK fun v rest q K => lv_iload_n hx hb (am_dec_of hdk (fun _ _ _ _ q => nomatch q) (fun _ _ q => nomatch q)) rfl q K
  | iload j => exact am_s_ldi hs hSt KK fun v rest q K => lv_iload hx hb (am_dec_of hdk (fun _ _ _ _ q => nomatch q) (fun _ _ q => nomatch q)) q K
  | aload_n j => exact am_s_lda hs hSt KK fun v rest q K => lv_aload_n hx hb (am_dec_of hdk (fun _ _ _ _ q => nomatch q) (fun _ _ q => nomatch q)) rfl q K
  | aload j => exact am_s_lda hs hSt KK fun v rest q K => lv_aload hx hb (am_dec_of hdk (fun _ _ _ _ q => nomatch q) (fun _ _ q => nomatch q)) q K
  | istore_n j => exact am_s_sti hs hSt KK fun v rest q K => lv_istore_n hx hb (am_dec_of hdk (fun _ _ _ _ q => nomatch q) (fun _ _ q => nomatch q)) rfl hSt.1 q rfl K
  | istore j => exact am_s_sti hs hSt KK fun v rest q K => lv_istore hx hb (am_dec_of hdk (fun _ _ _ _ q => nomatch q) (fun _ _ q => nomatch q)) hSt.1 q rfl K
  | astore_n j => exact am_s_sta hs hSt KK fun v rest q K => lv_astore_n hx hb (am_dec_of hdk (fun _ _ _ _ q => nomatch q) (fun _ _ q => nomatch q)) rfl hSt.1 q rfl K
  | astore j => exact am_s_sta hs hSt KK fun v rest q K => lv_astore hx hb (am_dec_of hdk (fun _ _ _ _ q => nomatch q) (fun _ _ q => nomatch q)) hSt.1 q rfl K
  | iinc j cc => exact am_s_inc hx hb (am_dec_of hdk (fun _ _ _ _ q => nomatch q) (fun _ _ q => nomatch q)) hs hSt KK
  | iadd => exact am_s_bin hs hg hSt KK fun u v rest _ K => lv_iadd hx hb (am_dec_of hdk (fun _ _ _ _ q => nomatch q) (fun _ _ q => nomatch q)) K
  | isub => exact am_s_bin hs hg hSt KK fun u v rest _ K => lv_isub hx hb (am_dec_of hdk (fun _ _ _ _ q => nomatch q) (fun _ _ q => nomatch q)) K
  | imul => exact am_s_bin hs hg hSt KK fun u v rest _ K => lv_imul hx hb (am_dec_of hdk (fun _ _ _ _ q => nomatch q) (fun _ _ q => nomatch q)) K
  | iand => exact am_s_bin hs hg hSt KK fun u v rest _ K => lv_iand hx hb (am_dec_of hdk (fun _ _ _ _ q => nomatch q) (fun _ _ q => nomatch q)) K
  | idiv => exact am_s_bin hs hg hSt KK fun u v rest q K => lv_idiv hx hb (am_dec_of hdk (fun _ _ _ _ q => nomatch q) (fun _ _ q => nomatch q)) q K
  | irem => exact am_s_bin hs hg hSt KK fun u v rest q K => lv_irem hx hb (am_dec_of hdk (fun _ _ _ _ q => nomatch q) (fun _ _ q => nomatch q)) q K
  | i2l => 
    simp only [am_st] at hs
    split at hs
    · cases hs
      exact lv_i2l hx hb (am_dec_of hdk (fun _ _ _ _ q => nomatch q) (fun _ _ q => nomatch q)) rfl (KK ad ls H locs hSt)
    · cases hs
  | dup => 
    simp only [am_st, am_dup] at hs
    split at hs
    · cases hs
      exact lv_dup hx hb (am_dec_of hdk (fun _ _ _ _ q => nomatch q) (fun _ _ q => nomatch q)) rfl (KK ad ls H locs hSt)
    · cases hs
      exact lv_dup hx hb (am_dec_of hdk (fun _ _ _ _ q => nomatch q) (fun _ _ q => nomatch q)) rfl (KK ad ls H locs hSt)
    · cases hs
  | pop => 
    simp only [am_st, am_pop] at hs
    split at hs
    · cases hs
      exact lv_pop hx hb (am_dec_of hdk (fun _ _ _ _ q => nomatch q) (fun _ _ q => nomatch q)) rfl (KK ad ls H locs hSt)
    · cases hs
      exact lv_pop hx hb (am_dec_of hdk (fun _ _ _ _ q => nomatch q) (fun _ _ q => nomatch q)) rfl (KK ad ls H locs hSt)
    · cases hs
      exact lv_pop hx hb (am_dec_of hdk (fun _ _ _ _ q => nomatch q) (fun _ _ q => nomatch q)) rfl (KK ad ls H locs hSt)
    · cases hs
  | ifCond cd off => exact am_s_if hx hb (am_dec_of hdk (fun _ _ _ _ q => nomatch q) (fun _ _ q => nomatch q)) hs hSt KK
  | if_icmp cd off => exact am_s_icmp hx hb (am_dec_of hdk (fun _ _ _ _ q => nomatch q) (fun _ _ q => nomatch q)) hs hSt KK
  | goto off => 
    simp only [am_st, am_goto] at hs
    split at hs
    · rename_i t ht
      cases hs
      exact lv_goto hx hb (am_dec_of hdk (fun _ _ _ _ q => nomatch q) (fun _ _ q => nomatch q)) (show (pc : Int) + off = (t : Int) from ht) (KK ad ls H locs hSt)
    · cases hs
  | getfield idx => exact am_s_getf hx hb hown hts hK (am_dec_of hdk (fun _ _ _ _ q => nomatch q) (fun _ _ q => nomatch q)) hwk hs hSt KK
  | putfield idx => exact am_s_putf hx hb hown hin hts hK (am_dec_of hdk (fun _ _ _ _ q => nomatch q) (fun _ _ q => nomatch q)) hwk hs hSt KK
  | iaload => exact am_s_iald hx hb hK hscr (am_dec_of hdk (fun _ _ _ _ q => nomatch q) (fun _ _ q => nomatch q)) hs hg hSt KK
  | baload => exact am_s_bald hx hb hK (am_dec_of hdk (fun _ _ _ _ q => nomatch q) (fun _ _ q => nomatch q)) hs hg hSt KK
  | iastore => exact am_s_iast hx hb hK (am_dec_of hdk (fun _ _ _ _ q => nomatch q) (fun _ _ q => nomatch q)) hs hg hSt KK
  | bastore => exact am_s_bast hx hb hK (am_dec_of hdk (fun _ _ _ _ q => nomatch q) (fun _ _ q => nomatch q)) hs hg hSt KK
  | lastore => exact am_s_last hx hb hK (am_dec_of hdk (fun _ _ _ _ q => nomatch q) (fun _ _ q => nomatch q)) hs hg hSt KK
  | arraylength => exact am_s_alen hx hb hK hscr (am_dec_of hdk (fun _ _ _ _ q => nomatch q) (fun _ _ q => nomatch q)) hs hg hSt KK
  | newarray at' => exact am_s_newa hx hb hts hA hK (am_dec_of hdk (fun _ _ _ _ q => nomatch q) (fun _ _ q => nomatch q)) hwk hs hg hk0 hs0 hR hSt KK
  | new idx => exact am_s_new hx hb hown hts hA hK (am_dec_of hdk (fun _ _ _ _ q => nomatch q) (fun _ _ q => nomatch q)) hwk hs hk0 hs0 hR hSt KK
  | tableswitch d lo hi os => exact am_s_tsw hx hb (of_decide_eq_true hdk) hwk hs hSt KK
  | lookupswitch d ps => exact am_s_lsw hx hb (of_decide_eq_true hdk) hwk hs hSt KK
  | invokespecial idx => exact am_s_obj hx hb hml hown hts (am_dec_of hdk (fun _ _ _ _ q => nomatch q) (fun _ _ q => nomatch q)) hwk hs hRf hRl hSt KK
  | invokestatic idx => exact am_s_max hx hb hml hown hts (am_dec_of hdk (fun _ _ _ _ q => nomatch q) (fun _ _ q => nomatch q)) hwk hs hRf hRl ⟨Nat.le_trans (Nat.sub_le_sub_right (am_st_mono hs).1 k0) hR.1, Nat.le_trans (Nat.sub_le_sub_right (am_st_mono hs).2.1 s0) hR.2⟩ hSt KK
  | _ => cases hs
end Step
end
section
/-! ===== calls ===== -/
def am_ag (n : Nat) (ad ad' : Nat → Nat) : Prop := ∀ j, j < n → am_soft j = false → ad' j = ad j
def am_Pre (dC : Nat → ClassId) (dI : Nat → Nat → Nat) (ty : Nat → ClassId) (ad : Nat → Nat) (h : List am_E) (sz : Nat) (U : State) : Prop := U.heap.size = sz ∧ va_P (dC, dI) vwCl (am_ws ty ad h) U.heap ∧ va_K (dC, dI) vwCl (am_tys ty) U ∧ va_D (fun _ => True) (am_ws ty ad h) ∧ am_X (va_A (am_ws ty ad h) sz) U U.heap
def am_Post (dC : Nat → ClassId) (dI : Nat → Nat → Nat) (ty : Nat → ClassId) (ad : Nat → Nat) (h : List am_E) (sz : Nat) (h' : List am_E) (ad' : Nat → Nat) (H' : Heap) : Prop := am_ag h.length ad ad' ∧ h.length ≤ h'.length ∧ va_P (dC, dI) vwCl (am_ws ty ad' h') H' ∧ va_D (va_A (am_ws ty ad h) sz) (am_ws ty ad' h')
def am_Qc (dC : Nat → ClassId) (dI : Nat → Nat → Nat) (ty : Nat → ClassId) (ad : Nat → Nat) (h : List am_E) (sz : Nat) (r : am_R) : Array Value → State → Outcome → State → Prop := fun _ st oc t => (∃ (v : Option Value) (ad' : Nat → Nat), r.1 = .inl v ∧ oc = .returned (v.map (am_cv ad')) ∧ am_Post dC dI ty ad h sz r.2.1 ad' t.heap) ∧ va_F (va_A (am_ws ty ad h) sz) st t
def am_XC (dC : Nat → ClassId) (dI : Nat → Nat → Nat) (ty : Nat → ClassId) (ad : Nat → Nat) (h : List am_E) (sz : Nat) (r : am_R) : String → State → State → Prop := fun E st t => (∃ (j : Nat) (ad' : Nat → Nat), r.1 = .inr j ∧ E = am_en j ∧ am_Post dC dI ty ad h sz r.2.1 ad' t.heap) ∧ va_F (va_A (am_ws ty ad h) sz) st t
def am_rm (d kc ks : Nat) : Room := { frames := d + 8, cells := kc, slots := ks, locals := 60 * d + 200 }
def am_OK (l : Launch) (d : Nat) (call : Nat → List Value → List am_E → Nat → Nat → am_R → Prop) : Prop := ∀ (mid : Nat) (As : List Value) (h : List am_E) (k n : Nat) (r : am_R), call mid As h k n r → mid ≠ am_M ∧ k ≤ r.2.2.1 ∧ n ≤ r.2.2.2 ∧ h.length ≤ r.2.1.length ∧ (∀ v, r.1 = .inl (some v) → ∃ w, v = .int w) ∧ (∀ e, r.1 = .inr e → e < 3) ∧
  ∀ (ad : Nat → Nat) (dC : Nat → ClassId) (dI : Nat → Nat → Nat) (ty : Nat → ClassId) (sz : Nat), vx_Met l (am_y mid) (am_w mid) (am_rm d (r.2.2.1 - k) (r.2.2.2 - n)) (va_Pc (As.map (am_cv ad)) (am_Pre dC dI ty ad h sz)) (am_Qc dC dI ty ad h sz r) (am_XC dC dI ty ad h sz r) (r.2.2.1 - k) (r.2.2.2 - n) (va_A (am_ws ty ad h) sz)
theorem am_X.warm {A : Nat → Prop} {s U : State} {H : Heap} (hW : s.WarmedH U.vm) (hX : am_X A s H) : am_X A U H := by
  obtain ⟨h1, h2, h3, h4, h5⟩ := hX
  refine ⟨h1.moved hW.alike, h2.moved hW.alike, fun w hw => ?_, fun t ht => ?_, fun q hq => (h5 q hq).moved hW.alike⟩
  · have h6 := h3 w hw
    have h7 := (List.mem_filter.mp hw).2
    split at h7
    · exact va_Nw.warmM hW h6
    · exact va_Nw.warmC hW h6
    · exact va_Nw.warmD hW h6
    · cases h7
  · obtain ⟨sa, h6⟩ := h4 t ht
    exact ⟨sa, h6.warm hW⟩
theorem am_nw_tab {w : Cond} (hw : w ∈ am_nw) : w.onTables = true := by
  have h7 := (List.mem_filter.mp hw).2
  split at h7
  · rfl
  · rfl
  · rfl
  · cases h7
theorem am_X.same {A : Nat → Prop} {s U : State} {H : Heap} (hv : s.vm = U.vm) (hX : am_X A s H) : am_X A U H := by
  obtain ⟨h1, h2, h3, h4, h5⟩ := hX
  have ha : s.vm.Alike U.vm := by rw [hv]; exact Vm.Alike.refl U.vm
  exact ⟨h1.moved ha, h2.moved ha, fun w hw => (h3 w hw).same (am_nw_tab hw) hv, fun t ht => (h4 t ht).elim fun sa h6 => ⟨sa, h6.same hv.symm⟩, fun q hq => (h5 q hq).moved ha⟩
theorem am_X.later {A B : Nat → Prop} {s : State} {H : Heap} {locs : List Loc} (hS : va_S A s.heap H locs) (hAB : ∀ q, B q → A q) (hX : am_X A s s.heap) : am_X B s H :=
  ⟨(hX.1.kept fun a h1 h2 => hS.2.1 a h1 h2).narrow hAB, (hX.2.1.kept fun a h1 h2 => hS.2.1 a h1 h2).narrow hAB, hX.2.2⟩
theorem am_blind {dC : Nat → ClassId} {dI : Nat → Nat → Nat} {ty : Nat → ClassId} {ad : Nat → Nat} {h : List am_E} {sz : Nat} {av : List Value} : FrameBlind (va_Pc av (am_Pre dC dI ty ad h sz)) := by
  intro a U g mk q
  obtain ⟨q0, q1, qP, qK, qD, qX⟩ := q
  exact ⟨q0, q1, qP, va_K.moved (u := U) (U := U.calling g mk a) (Vm.Alike.refl U.vm) qK, qD, am_X.same (s := U) (U := U.calling g mk a) rfl qX⟩
theorem am_sv_hard {n : Nat} {ad ad' sp : Nat → Nat} (hag : am_ag n ad ad') {v : Value} (h : am_hardv n v = true) : am_sv sp ad' v = am_sv sp ad v := by
  cases v with
  | ref k =>
    simp only [am_hardv, Bool.and_eq_true, Bool.not_eq_true'] at h
    simp only [am_sv]
    rw [hag k (am_blt h.1) h.2]
  | _ => rfl
theorem am_noret_sv {sp ad : Nat → Nat} {v : Value} (h : am_noret v = true) : am_sv sp ad v = am_cv ad v := by
  cases v <;> first | rfl | cases h
section Step
variable {p : Program} {l : Launch} {e : Env} {R : Room} {s : State} {m : MethodId} {args : Array Value} {below : List Frame} {meth : Method} {c : Code} {Q : State → Prop}
variable {mid sl b : Nat} {sx : Nat → Int32} {A : Nat → Prop} {dC : Nat → ClassId} {dI : Nat → Nat → Nat} {ty : Nat → ClassId} {n0 k0 s0 : Nat} {ad0 : Nat → Nat}
variable {x y z pc : Nat} {L : List (Nat × Value)} {S : List Value} {h : List am_E} {k n : Nat} {ad sp : Nat → Nat} {ls : Array Slot} {H : Heap} {locs : List Loc}
theorem am_docall {wc : va_W} {h' : List am_E} {r1 : am_R} {st0 rest : List Value} {a : Array Value} {mc ms : Nat} {cells slots : Nat} (hr : vx_Run p l e R s m args below meth c H locs cells slots mc ms (F0 m pc ls st0) rest (am_Qc dC dI ty ad h H.size r1 a) (am_XC dC dI ty ad h H.size r1) (va_A (am_ws ty ad h) H.size)) (hS : va_S A s.heap H locs) (hf : ∀ q, va_A (am_ws ty ad h) H.size q → A q)
    (kx : ∀ (ce : Cell) (q9 : Addr) (j : Nat) (ad' : Nat → Nat) (H1 : Heap) (locs1 : List Loc), r1.1 = .inr j → am_Post dC dI ty ad h H.size r1.2.1 ad' H1 → va_S A s.heap H1 locs1 → H1[q9]? = some ce → ce.vm = .none → s.vm.findClass (am_en j) = some ce.cls → vx_W p l e R s m args below meth c H1 locs1 (cells + mc) (slots + ms) Q (F0 m pc ls rest) q9)
    (kk : ∀ (v : Option Value) (ad' : Nat → Nat) (H1 : Heap) (locs1 : List Loc), r1.1 = .inl v → am_Post dC dI ty ad h H.size r1.2.1 ad' H1 → va_S A s.heap H1 locs1 → W p l e R s m args below meth c H1 locs1 (cells + mc) (slots + ms) Q (F0 m (pc + 3) ls ((v.map (am_cv ad')).toList ++ rest))) : W p l e R s m args below meth c H locs cells slots Q (F0 m pc ls st0) := by
  intro T hT X
  rcases hr T hT X with ⟨v, st₀, t, T', L9, h0, X', hL, e1, e2, ⟨⟨v', ad', g1, g2, g3⟩, hF⟩, st⟩ | ⟨q, st₀, t, T', L9, E, ce, h0, X', hL, e1, e2, ⟨⟨j, ad', g1, g2, g3⟩, hF⟩, hce, hcv, hcl, st⟩
  · cases g2
    obtain ⟨-, -, k3⟩ := vx_keep h0 e1 hS (fun q _ z => hf q z) hf hL hF
    rw [← e1] at g3
    obtain ⟨t2, a1, b1⟩ := kk v' ad' T'.heap (locs ++ L9) g1 g3 k3 T' rfl X'
    exact ⟨t2, st t2 a1, b1⟩
  · obtain ⟨-, -, k3⟩ := vx_keep h0 e1 hS (fun q _ z => hf q z) hf hL hF
    rw [← e1] at g3
    subst g2
    obtain ⟨t2, a1, b1⟩ := kx ce q j ad' T'.heap (locs ++ L9) g1 g3 k3 (by rw [e1]; exact hce) hcv hcl T' rfl X'
    exact ⟨t2, st.trans a1, b1⟩
end Step
end
section
/-! ===== BEGIN a constructor that throws (launches without stack traces) ===== -/
section VXIA
variable {p : Program} {l : Launch} {e : Env} {R : Room} {s : State} {m : MethodId} {args : Array Value} {below : List Frame} {meth : Method} {c : Code} {T : State} {locs : List Loc} {cells slots : Nat}
theorem vx_callI (X : Stand p l e R s m args below meth c T locs cells slots) (hexec : p.tables.exec = Jvm.exec) {own : String} {index : Nat} {y : MethodName} {bytes : ByteArray} {maxL : Nat}
    (hown : s.vm.findClass own = some m.cls) (hy1 : y.name = "<init>") (hlink : (Cond.methodLink own index y).before args s = true) (hinst : (Cond.instanceMethod y).before args s = true)
    (hcode : (Cond.code y bytes maxL none).before args s = true) (hy : y.cls ≠ "java/lang/invoke/MethodHandle" ∧ y.cls ≠ "java/lang/invoke/VarHandle")
    {W9 : Nat} {Pre : Pt → Array Value → Prop} {Post : Pt → Array Value → Option Value → Pt → Prop} {PostX : Pt → Array Value → Addr → Pt → Prop} (hK : vx_Back l R p e below s args y 3 W9 Pre Post PostX)
    {g : JFrame} (hg : g.method = m) (hsize : g.locals.size = c.maxLocals) {a : Addr} {argsL rest : List Value} (hlen : ∀ sig, parseMethodDescriptor y.desc = some sig → argsL.length = sig.parameters.length)
    (hstack : g.stack = argsL.reverse ++ .ref a :: rest) (hW : 2 * g.monitorRoom + (rest.map fun v => v.category).sum ≤ W9) (hdg : decode c.code g.pc = .ok (.invokespecial index, 3))
    (hpre : ∀ vm₁, s.WarmedH vm₁ → Pre ⟨T.setVm vm₁, locs, cells, slots⟩ (Value.ref a :: argsL).toArray) :
    (∃ (v : Option Value) (vm₁ : Vm) (B : Pt), s.WarmedH vm₁ ∧ Stand p l e R s m args below meth c B.U B.locs B.cells B.slots ∧ Post ⟨T.setVm vm₁, locs, cells, slots⟩ (Value.ref a :: argsL).toArray v B ∧
      ∀ target, Steps p.tables e below (B.U.setTop { g with pc := g.pc + 3, stack := v.toList ++ rest }) target → Steps p.tables e below (T.setTop g) target) ∨
    (∃ (q : Addr) (vm₁ : Vm) (B : Pt), s.WarmedH vm₁ ∧ Stand p l e R s m args below meth c B.U B.locs B.cells B.slots ∧ PostX ⟨T.setVm vm₁, locs, cells, slots⟩ (Value.ref a :: argsL).toArray q B ∧
      Steps p.tables e below (T.setTop g) ((B.U.setTop { g with stack := rest }).pushFrame (.throwing q))) := by
  subst hg
  have hpl : e.platform.magicAccessors = ({} : Platform).magicAccessors := by rw [X.admits.platform]
  obtain ⟨mk, methM, cM, kP, vm₁, hnamed, hmethM, hcodeM, -, hlocalsM, -, hkP, -, hW₁, hstep₁⟩ := Steps.initColdArgs (e := e) X.here hexec X.warmed hpl hown hy1 hy hlink hinst hcode (f := g) rfl hlen hstack hdg
  have X₁ := X.noted hW₁
  rcases hK g.method meth c ⟨T.setVm vm₁, locs, cells, slots⟩ { g with stack := rest } (.invokespecial index) mk (Value.ref a :: argsL).toArray X₁ rfl hsize hdg hW (X₁.named hnamed) (hpre vm₁ X₁.warmed) with ⟨v, B, X', hpost, hsteps⟩ | ⟨q, B, X', hpost, hsteps⟩
  · exact Or.inl ⟨v, vm₁, B, X₁.warmed, X', hpost, fun target h => hstep₁ _ fun acts => by rw [doInvoke_state]; exact hsteps.trans h⟩
  · exact Or.inr ⟨q, vm₁, B, X₁.warmed, X', hpost, hstep₁ _ fun acts => by rw [doInvoke_state]; exact hsteps⟩
end VXIA
section VXIB
variable {p : Program} {l : Launch} {e : Env} {R : Room} {s : State} {m : MethodId} {args : Array Value} {below : List Frame} {meth : Method} {c : Code} {H : Heap} {locs : List Loc} {cells slots : Nat}
variable {y : MethodName} {bytes cc : ByteArray} {maxL nL mc ms n index : Nat} {ret : Option FieldType} {ws : List Cond} {rm : Room} {Pc : Array Value → State → Prop} {Qc : Array Value → State → Outcome → State → Prop} {XC : String → State → State → Prop} {free : Addr → Prop} {Ts : List Cond} {own C : String} {b : Addr} {As rest : List Value} {g : JFrame}
theorem vx_runI (S : CallFix p m c cc nL s args Ts own) (hM : vx_Met l y ws rm Pc Qc XC mc ms free) (cw : CallB R s args own index y bytes maxL none ws rm mc ms n ∧ y.name = "<init>" ∧ (Cond.instanceMethod y).before args s = true) (hp : PreS s H Pc (.ref b :: As))
    (hg : g.method = m) (hn : As.length = n) (hsize : g.locals.size = nL) (hstack : g.stack = As.reverse ++ .ref b :: rest) (hW : 2 * g.monitorRoom + (rest.map fun v => v.category).sum ≤ 8) (hdg : decode cc g.pc = .ok (.invokespecial index, 3)) (hf : cells + mc ≤ R.cells ∧ slots + ms ≤ R.slots) :
    vx_Run p l e R s m args below meth c H locs cells slots mc ms g rest (Qc (Value.ref b :: As).toArray) XC free := by
  have hK : vx_Back l R p e below s args y 3 8 (PreOf R mc ms Pc) (PostOf Qc mc ms free) (vx_Post XC mc ms free) := vx_callBack cw.1 hM hp.1
  obtain ⟨⟨-, -, -, -, -, -, hcode, -, hy, hlen, hl⟩, hy1, hin⟩ := cw
  obtain ⟨hx, hb, hml, ho, -⟩ := S
  have hPc := hp.2
  intro T hT X
  rcases vx_callI X hx (bytes := bytes) (maxL := maxL) ho hy1 hl hin hcode hy hK hg (hsize.trans hml.symm) (a := b) (argsL := As) (rest := rest) (fun sig h => hn.trans (hlen sig h)) hstack hW (by rw [hb]; exact hdg)
    (fun vm₁ hW₁ => ⟨hf.1, hf.2, hPc (T.setVm vm₁) hT hW₁⟩) with ⟨v, vm₁, ⟨U', l2, c2, s2⟩, hW₁, X', ⟨g', mk, t, L, e1, e2, hq, h1, hL, h2, h3⟩, st⟩ | ⟨q, vm₁, ⟨U', l2, c2, s2⟩, hW₁, X', ⟨g', mk, t, L, E, ce, e1, e2, hq, hce, hcv, hcl, h1, hL, h2, h3⟩, st⟩
  · dsimp only [Pt.U, Pt.locs, Pt.cells, Pt.slots] at X' e1 e2 h1 h2 h3 st
    subst h1; subst h2; subst h3
    exact Or.inl ⟨v, (T.setVm vm₁).calling g' mk (Value.ref b :: As).toArray, t, U', L, hT, X', hL, e1, e2, hq, st⟩
  · dsimp only [Pt.U, Pt.locs, Pt.cells, Pt.slots] at X' e1 e2 h1 h2 h3 st hcl
    subst h1; subst h2; subst h3
    exact Or.inr ⟨q, (T.setVm vm₁).calling g' mk (Value.ref b :: As).toArray, t, U', L, E, ce, hT, X', hL, e1, e2, hq, hce, hcv, vx_cls hW₁ hcl, st⟩
end VXIB
/-! ===== END ===== -/
/-! ===== BEGIN a private constructor of a nest mate that throws ===== -/
section VXIC
variable {p : Program} {l : Launch} {e : Env} {R : Room} {s : State} {m : MethodId} {args : Array Value} {below : List Frame} {meth : Method} {c : Code} {T : State} {locs : List Loc} {cells slots : Nat}
theorem vx_callIN (X : Stand p l e R s m args below meth c T locs cells slots) (hexec : p.tables.exec = Jvm.exec) {own : String} {index : Nat} {host : String} {y : MethodName} {bytes : ByteArray} {maxL : Nat}
    (hown : s.vm.findClass own = some m.cls) (hy1 : y.name = "<init>") (hlink : (Cond.methodLinkNest own index y host).before args s = true) (hinst : (Cond.instanceMethod y).before args s = true)
    (hcode : (Cond.code y bytes maxL none).before args s = true) (hy : y.cls ≠ "java/lang/invoke/MethodHandle" ∧ y.cls ≠ "java/lang/invoke/VarHandle")
    {W9 : Nat} {Pre : Pt → Array Value → Prop} {Post : Pt → Array Value → Option Value → Pt → Prop} {PostX : Pt → Array Value → Addr → Pt → Prop} (hK : vx_Back l R p e below s args y 3 W9 Pre Post PostX)
    {g : JFrame} (hg : g.method = m) (hsize : g.locals.size = c.maxLocals) {a : Addr} {argsL rest : List Value} (hlen : ∀ sig, parseMethodDescriptor y.desc = some sig → argsL.length = sig.parameters.length)
    (hstack : g.stack = argsL.reverse ++ .ref a :: rest) (hW : 2 * g.monitorRoom + (rest.map fun v => v.category).sum ≤ W9) (hdg : decode c.code g.pc = .ok (.invokespecial index, 3))
    (hpre : ∀ vm₁, s.WarmedH vm₁ → Pre ⟨T.setVm vm₁, locs, cells, slots⟩ (Value.ref a :: argsL).toArray) :
    (∃ (v : Option Value) (vm₁ : Vm) (B : Pt), s.WarmedH vm₁ ∧ Stand p l e R s m args below meth c B.U B.locs B.cells B.slots ∧ Post ⟨T.setVm vm₁, locs, cells, slots⟩ (Value.ref a :: argsL).toArray v B ∧
      ∀ target, Steps p.tables e below (B.U.setTop { g with pc := g.pc + 3, stack := v.toList ++ rest }) target → Steps p.tables e below (T.setTop g) target) ∨
    (∃ (q : Addr) (vm₁ : Vm) (B : Pt), s.WarmedH vm₁ ∧ Stand p l e R s m args below meth c B.U B.locs B.cells B.slots ∧ PostX ⟨T.setVm vm₁, locs, cells, slots⟩ (Value.ref a :: argsL).toArray q B ∧
      Steps p.tables e below (T.setTop g) ((B.U.setTop { g with stack := rest }).pushFrame (.throwing q))) := by
  subst hg
  have hpl : e.platform.magicAccessors = ({} : Platform).magicAccessors := by rw [X.admits.platform]
  obtain ⟨mk, methM, cM, kP, vm₁, hnamed, hmethM, hcodeM, -, hlocalsM, -, hkP, -, hW₁, hstep₁⟩ := Steps.initColdArgsNest (e := e) X.here hexec X.warmed hpl hown hy1 hy hlink hinst hcode (f := g) rfl hlen hstack hdg
  have X₁ := X.noted hW₁
  rcases hK g.method meth c ⟨T.setVm vm₁, locs, cells, slots⟩ { g with stack := rest } (.invokespecial index) mk (Value.ref a :: argsL).toArray X₁ rfl hsize hdg hW (X₁.named hnamed) (hpre vm₁ X₁.warmed) with ⟨v, B, X', hpost, hsteps⟩ | ⟨q, B, X', hpost, hsteps⟩
  · exact Or.inl ⟨v, vm₁, B, X₁.warmed, X', hpost, fun target h => hstep₁ _ fun acts => by rw [doInvoke_state]; exact hsteps.trans h⟩
  · exact Or.inr ⟨q, vm₁, B, X₁.warmed, X', hpost, hstep₁ _ fun acts => by rw [doInvoke_state]; exact hsteps⟩
end VXIC
section VXID
variable {p : Program} {l : Launch} {e : Env} {R : Room} {s : State} {m : MethodId} {args : Array Value} {below : List Frame} {meth : Method} {c : Code} {H : Heap} {locs : List Loc} {cells slots : Nat}
theorem vx_runIN {y : MethodName} {bytes cc : ByteArray} {maxL nL mc ms n index : Nat} {ws : List Cond} {rm : Room} {Pc : Array Value → State → Prop} {Qc : Array Value → State → Outcome → State → Prop} {XC : String → State → State → Prop} {free : Addr → Prop} {Ts : List Cond} {own host : String} {b : Addr} {As rest : List Value} {g : JFrame}
    (S : CallFix p m c cc nL s args Ts own) (hM : vx_Met l y ws rm Pc Qc XC mc ms free) (cw : va_CN R s args own index y host bytes maxL none ws rm mc ms n ∧ y.name = "<init>" ∧ (Cond.instanceMethod y).before args s = true) (hp : PreS s H Pc (.ref b :: As))
    (hg : g.method = m) (hn : As.length = n) (hsize : g.locals.size = nL) (hstack : g.stack = As.reverse ++ .ref b :: rest) (hW : 2 * g.monitorRoom + (rest.map fun v => v.category).sum ≤ 8) (hdg : decode cc g.pc = .ok (.invokespecial index, 3)) (hf : cells + mc ≤ R.cells ∧ slots + ms ≤ R.slots) :
    vx_Run p l e R s m args below meth c H locs cells slots mc ms g rest (Qc (Value.ref b :: As).toArray) XC free := by
  obtain ⟨⟨⟨hrc, hrs, hfr, hlo, hws, hcw⟩, hcode, hini, hy, hlen, hl⟩, hx1, hx2⟩ := cw
  have hK : vx_Back l R p e below s args y 3 8 (PreOf R mc ms Pc) (PostOf Qc mc ms free) (vx_Post XC mc ms free) := vx_back (bytes := bytes) (maxL := maxL) (ret := none) hM hp.1 hrc hrs hfr hlo hws hcw (fun a' U hW => word_at hW (Or.inl (by first | rfl | simp [Cond.onTables, Cond.keeps, Cond.steady])) hini)
  obtain ⟨hx, hb, hml, ho, -⟩ := S
  have hPc := hp.2
  intro T hT X
  rcases vx_callIN X hx (bytes := bytes) (maxL := maxL) ho hx1 hl hx2 hcode hy hK hg (hsize.trans hml.symm) (a := b) (argsL := As) (rest := rest) (fun sig h => hn.trans (hlen sig h)) hstack hW (by rw [hb]; exact hdg)
    (fun vm₁ hW₁ => ⟨hf.1, hf.2, hPc (T.setVm vm₁) hT hW₁⟩) with ⟨v, vm₁, ⟨U', l2, c2, s2⟩, hW₁, X', ⟨g', mk, t, L, e1, e2, hq, h1, hL, h2, h3⟩, st⟩ | ⟨q, vm₁, ⟨U', l2, c2, s2⟩, hW₁, X', ⟨g', mk, t, L, E, ce, e1, e2, hq, hce, hcv, hcl, h1, hL, h2, h3⟩, st⟩
  · dsimp only [Pt.U, Pt.locs, Pt.cells, Pt.slots] at X' e1 e2 h1 h2 h3 st
    subst h1; subst h2; subst h3
    exact Or.inl ⟨v, (T.setVm vm₁).calling g' mk (Value.ref b :: As).toArray, t, U', L, hT, X', hL, e1, e2, hq, st⟩
  · dsimp only [Pt.U, Pt.locs, Pt.cells, Pt.slots] at X' e1 e2 h1 h2 h3 st hcl
    subst h1; subst h2; subst h3
    exact Or.inr ⟨q, (T.setVm vm₁).calling g' mk (Value.ref b :: As).toArray, t, U', L, E, ce, hT, X', hL, e1, e2, hq, hce, hcv, vx_cls hW₁ hcl, st⟩
end VXID
/-! ===== END ===== -/
/-! ===== BEGIN a private method of a nest mate that may throw (follows va_callVN, va_callSN, va_runVN, va_runSN) ===== -/
section
variable {p : Program} {l : Launch} {e : Env} {R : Room} {s : State} {m : MethodId} {args : Array Value} {below : List Frame} {meth : Method} {c : Code} {H : Heap} {locs : List Loc} {cells slots : Nat}
variable {T : State}
theorem vx_callVN (X : Stand p l e R s m args below meth c T locs cells slots) (hexec : p.tables.exec = Jvm.exec) {own C : String} {index : Nat} {host : String} {y : MethodName} {bytes : ByteArray} {maxL : Nat} {ret : Option FieldType}
    (hown : s.vm.findClass own = some m.cls) (hlink : (Cond.methodLinkNest own index y host).before args s = true) (hinst : (Cond.instanceMethod y).before args s = true) (hsel : (Cond.selects C y y).before args s = true)
    (hcode : (Cond.code y bytes maxL ret).before args s = true) (hy : y.cls ≠ "java/lang/invoke/MethodHandle" ∧ y.cls ≠ "java/lang/invoke/VarHandle")
    {W : Nat} {Pre : Pt → Array Value → Prop} {Post : Pt → Array Value → Option Value → Pt → Prop} {PostX : Pt → Array Value → Addr → Pt → Prop} (hK : vx_Back l R p e below s args y 3 W Pre Post PostX)
    {b : Addr} {cellB : Cell} (hcell : T.heap[b]? = some cellB) (hobj : cellB.vm.isStatics = false) (hcls : s.vm.findClass C = some cellB.cls)
    {g : JFrame} (hg : g.method = m) (hsize : g.locals.size = c.maxLocals) {argsL rest : List Value} (hlen : ∀ sig, parseMethodDescriptor y.desc = some sig → argsL.length = sig.parameters.length)
    (hstack : g.stack = argsL.reverse ++ .ref b :: rest) (hW : 2 * g.monitorRoom + (rest.map fun v => v.category).sum ≤ W) (hdg : decode c.code g.pc = .ok (.invokevirtual index, 3))
    (hpre : ∀ vm₁, s.WarmedH vm₁ → Pre ⟨T.setVm vm₁, locs, cells, slots⟩ (Value.ref b :: argsL).toArray) :
    (∃ (v : Option Value) (vm₁ : Vm) (B : Pt), s.WarmedH vm₁ ∧ Stand p l e R s m args below meth c B.U B.locs B.cells B.slots ∧ Post ⟨T.setVm vm₁, locs, cells, slots⟩ (Value.ref b :: argsL).toArray v B ∧
      ∀ target, Steps p.tables e below (B.U.setTop { g with pc := g.pc + 3, stack := v.toList ++ rest }) target → Steps p.tables e below (T.setTop g) target) ∨
    (∃ (q : Addr) (vm₁ : Vm) (B : Pt), s.WarmedH vm₁ ∧ Stand p l e R s m args below meth c B.U B.locs B.cells B.slots ∧ PostX ⟨T.setVm vm₁, locs, cells, slots⟩ (Value.ref b :: argsL).toArray q B ∧
      Steps p.tables e below (T.setTop g) ((B.U.setTop { g with stack := rest }).pushFrame (.throwing q))) := by
  obtain ⟨mk, methM, hnamed, hmethM, hstM, habM⟩ := Cond.instanceMethod_spec hinst
  obtain ⟨methM', cM, hmethM', -, -, -, -, -, -, hsigM⟩ := Cond.code_spec hnamed hcode
  cases hmethM.symm.trans hmethM'
  obtain ⟨c2, r2, m2, q1, q2, q3, q4, kP, hkP, hkPi⟩ := Cond.selects_spec hsel
  cases hcls.symm.trans q1
  cases (State.methodFound?_of_named hnamed hy).symm.trans q2
  cases hnamed.symm.trans q3
  have hselP : selectMethod e.platform s.vm cellB.cls mk = .method mk := by rw [Launch.admits_selectMethod X.admits]; exact q4
  obtain ⟨vm₁, X₁, hstep₁⟩ := X.invokevirtualNest hexec hown hlink hnamed hmethM hstM hkP hkPi hy (a := b) (cell := cellB) hcell
    (fun z h => by rw [h] at hobj; cases hobj) hselP hmethM habM hkP hkPi (g := g) hg (argsL := argsL) (rest := rest) (hlen _ hsigM) hstack hdg
  rcases hK m meth c ⟨T.setVm vm₁, locs, cells, slots⟩ { g with stack := rest } (.invokevirtual index) mk (Value.ref b :: argsL).toArray X₁ hg hsize hdg hW (X₁.named hnamed) (hpre vm₁ X₁.warmed) with ⟨v, B, X', hpost, hsteps⟩ | ⟨q, B, X', hpost, hsteps⟩
  · exact Or.inl ⟨v, vm₁, B, X₁.warmed, X', hpost, fun target h => hstep₁ _ fun acts => by rw [doInvoke_state]; exact hsteps.trans h⟩
  · exact Or.inr ⟨q, vm₁, B, X₁.warmed, X', hpost, hstep₁ _ fun acts => by rw [doInvoke_state]; exact hsteps⟩
theorem vx_callSN (X : Stand p l e R s m args below meth c T locs cells slots) (hexec : p.tables.exec = Jvm.exec) {own : String} {index : Nat} {host : String} {y : MethodName} {bytes : ByteArray} {maxL : Nat} {ret : Option FieldType}
    (hown : s.vm.findClass own = some m.cls) (hlink : (Cond.methodLinkNest own index y host).before args s = true) (hstat : (Cond.static y).before args s = true) (hinit : (Cond.initialized y.cls).before args s = true)
    (hcode : (Cond.code y bytes maxL ret).before args s = true) (hy : y.cls ≠ "java/lang/invoke/MethodHandle" ∧ y.cls ≠ "java/lang/invoke/VarHandle")
    {W : Nat} {Pre : Pt → Array Value → Prop} {Post : Pt → Array Value → Option Value → Pt → Prop} {PostX : Pt → Array Value → Addr → Pt → Prop} (hK : vx_Back l R p e below s args y 3 W Pre Post PostX)
    {g : JFrame} (hg : g.method = m) (hsize : g.locals.size = c.maxLocals) {argsL rest : List Value} (hlen : ∀ sig, parseMethodDescriptor y.desc = some sig → argsL.length = sig.parameters.length)
    (hstack : g.stack = argsL.reverse ++ rest) (hW : 2 * g.monitorRoom + (rest.map fun v => v.category).sum ≤ W) (hdg : decode c.code g.pc = .ok (.invokestatic index, 3))
    (hpre : ∀ vm₁, s.WarmedH vm₁ → Pre ⟨T.setVm vm₁, locs, cells, slots⟩ argsL.toArray) :
    (∃ (v : Option Value) (vm₁ : Vm) (B : Pt), s.WarmedH vm₁ ∧ Stand p l e R s m args below meth c B.U B.locs B.cells B.slots ∧ Post ⟨T.setVm vm₁, locs, cells, slots⟩ argsL.toArray v B ∧
      ∀ target, Steps p.tables e below (B.U.setTop { g with pc := g.pc + 3, stack := v.toList ++ rest }) target → Steps p.tables e below (T.setTop g) target) ∨
    (∃ (q : Addr) (vm₁ : Vm) (B : Pt), s.WarmedH vm₁ ∧ Stand p l e R s m args below meth c B.U B.locs B.cells B.slots ∧ PostX ⟨T.setVm vm₁, locs, cells, slots⟩ argsL.toArray q B ∧
      Steps p.tables e below (T.setTop g) ((B.U.setTop { g with stack := rest }).pushFrame (.throwing q))) := by
  obtain ⟨mk, hnamed⟩ := Cond.code_named hcode
  obtain ⟨methM, cM, hmethM, -, -, -, -, -, -, hsigM⟩ := Cond.code_spec hnamed hcode
  have hstatic : methM.isStatic = true := Cond.static_spec hnamed hmethM hstat
  obtain ⟨kP, hkP, -⟩ := className_of_methodNamed hnamed
  have hinitP : kP.init = .initialized := Cond.initialized_spec (findClass_of_methodNamed hnamed) hkP hinit
  obtain ⟨vm₁, X₁, hstep₁⟩ := X.invokestaticNest hexec hown hlink hnamed hmethM hstatic hkP hinitP hy (g := g) hg (argsL := argsL) (rest := rest) (hlen _ hsigM) hstack hdg
  rcases hK m meth c ⟨T.setVm vm₁, locs, cells, slots⟩ { g with stack := rest } (.invokestatic index) mk argsL.toArray X₁ hg hsize hdg hW (X₁.named hnamed) (hpre vm₁ X₁.warmed) with ⟨v, B, X', hpost, hsteps⟩ | ⟨q, B, X', hpost, hsteps⟩
  · exact Or.inl ⟨v, vm₁, B, X₁.warmed, X', hpost, fun target h => hstep₁ _ fun acts => by rw [doInvoke_state]; exact hsteps.trans h⟩
  · exact Or.inr ⟨q, vm₁, B, X₁.warmed, X', hpost, hstep₁ _ fun acts => by rw [doInvoke_state]; exact hsteps⟩
theorem vx_runVN {y : MethodName} {bytes cc : ByteArray} {maxL nL mc ms n index : Nat} {ret : Option FieldType} {ws : List Cond} {rm : Room} {Pc : Array Value → State → Prop} {Qc : Array Value → State → Outcome → State → Prop} {XC : String → State → State → Prop} {free : Addr → Prop} {Ts : List Cond} {own C host : String} {b : Addr} {As rest : List Value} {g : JFrame}
    (S : CallFix p m c cc nL s args Ts own) (hM : vx_Met l y ws rm Pc Qc XC mc ms free) (cw : va_CN R s args own index y host bytes maxL ret ws rm mc ms n ∧ (Cond.instanceMethod y).before args s = true ∧ (Cond.selects C y y).before args s = true) (hp : PreV s H C b Pc As)
    (hg : g.method = m) (hn : As.length = n) (hsize : g.locals.size = nL) (hstack : g.stack = As.reverse ++ .ref b :: rest) (hW : 2 * g.monitorRoom + (rest.map fun v => v.category).sum ≤ 8) (hdg : decode cc g.pc = .ok (.invokevirtual index, 3)) (hf : cells + mc ≤ R.cells ∧ slots + ms ≤ R.slots) :
    vx_Run p l e R s m args below meth c H locs cells slots mc ms g rest (Qc (Value.ref b :: As).toArray) XC free := by
  obtain ⟨⟨⟨hrc, hrs, hfr, hlo, hws, hcw⟩, hcode, hini, hy, hlen, hl⟩, hx1, hx2⟩ := cw
  have hK : vx_Back l R p e below s args y 3 8 (PreOf R mc ms Pc) (PostOf Qc mc ms free) (vx_Post XC mc ms free) := vx_back (bytes := bytes) (maxL := maxL) (ret := ret) hM hp.1 hrc hrs hfr hlo hws hcw (fun a' U hW => word_at hW (Or.inl (by first | rfl | simp [Cond.onTables, Cond.keeps, Cond.steady])) hini)
  obtain ⟨hx, hb, hml, ho, -⟩ := S
  obtain ⟨-, ⟨cellB, hcB, hoB, hclB⟩, hPc⟩ := hp
  intro T hT X
  rcases vx_callVN X hx (C := C) (bytes := bytes) (maxL := maxL) (ret := ret) ho hl hx1 hx2 hcode hy hK (by rw [hT]; exact hcB) hoB hclB hg (hsize.trans hml.symm) (argsL := As) (rest := rest) (fun sig h => hn.trans (hlen sig h)) hstack hW (by rw [hb]; exact hdg)
    (fun vm₁ hW₁ => ⟨hf.1, hf.2, hPc (T.setVm vm₁) hT hW₁⟩) with ⟨v, vm₁, ⟨U', l2, c2, s2⟩, hW₁, X', ⟨g', mk, t, L, e1, e2, hq, h1, hL, h2, h3⟩, st⟩ | ⟨q, vm₁, ⟨U', l2, c2, s2⟩, hW₁, X', ⟨g', mk, t, L, E, ce, e1, e2, hq, hce, hcv, hcl, h1, hL, h2, h3⟩, st⟩
  · dsimp only [Pt.U, Pt.locs, Pt.cells, Pt.slots] at X' e1 e2 h1 h2 h3 st
    subst h1; subst h2; subst h3
    exact Or.inl ⟨v, (T.setVm vm₁).calling g' mk (Value.ref b :: As).toArray, t, U', L, hT, X', hL, e1, e2, hq, st⟩
  · dsimp only [Pt.U, Pt.locs, Pt.cells, Pt.slots] at X' e1 e2 h1 h2 h3 st hcl
    subst h1; subst h2; subst h3
    exact Or.inr ⟨q, (T.setVm vm₁).calling g' mk (Value.ref b :: As).toArray, t, U', L, E, ce, hT, X', hL, e1, e2, hq, hce, hcv, vx_cls hW₁ hcl, st⟩
theorem vx_runSN {y : MethodName} {bytes cc : ByteArray} {maxL nL mc ms n index : Nat} {ret : Option FieldType} {ws : List Cond} {rm : Room} {Pc : Array Value → State → Prop} {Qc : Array Value → State → Outcome → State → Prop} {XC : String → State → State → Prop} {free : Addr → Prop} {Ts : List Cond} {own host : String} {As rest : List Value} {g : JFrame}
    (S : CallFix p m c cc nL s args Ts own) (hM : vx_Met l y ws rm Pc Qc XC mc ms free) (cw : va_CN R s args own index y host bytes maxL ret ws rm mc ms n ∧ (Cond.static y).before args s = true ∧ True) (hp : PreS s H Pc As)
    (hg : g.method = m) (hn : As.length = n) (hsize : g.locals.size = nL) (hstack : g.stack = As.reverse ++ rest) (hW : 2 * g.monitorRoom + (rest.map fun v => v.category).sum ≤ 8) (hdg : decode cc g.pc = .ok (.invokestatic index, 3)) (hf : cells + mc ≤ R.cells ∧ slots + ms ≤ R.slots) :
    vx_Run p l e R s m args below meth c H locs cells slots mc ms g rest (Qc As.toArray) XC free := by
  obtain ⟨⟨⟨hrc, hrs, hfr, hlo, hws, hcw⟩, hcode, hini, hy, hlen, hl⟩, hx1, hx2⟩ := cw
  have hK : vx_Back l R p e below s args y 3 8 (PreOf R mc ms Pc) (PostOf Qc mc ms free) (vx_Post XC mc ms free) := vx_back (bytes := bytes) (maxL := maxL) (ret := ret) hM hp.1 hrc hrs hfr hlo hws hcw (fun a' U hW => word_at hW (Or.inl (by first | rfl | simp [Cond.onTables, Cond.keeps, Cond.steady])) hini)
  obtain ⟨hx, hb, hml, ho, -⟩ := S
  have hPc := hp.2
  intro T hT X
  rcases vx_callSN X hx (bytes := bytes) (maxL := maxL) (ret := ret) ho hl hx1 hini hcode hy hK hg (hsize.trans hml.symm) (argsL := As) (rest := rest) (fun sig h => hn.trans (hlen sig h)) hstack hW (by rw [hb]; exact hdg)
    (fun vm₁ hW₁ => ⟨hf.1, hf.2, hPc (T.setVm vm₁) hT hW₁⟩) with ⟨v, vm₁, ⟨U', l2, c2, s2⟩, hW₁, X', ⟨g', mk, t, L, e1, e2, hq, h1, hL, h2, h3⟩, st⟩ | ⟨q, vm₁, ⟨U', l2, c2, s2⟩, hW₁, X', ⟨g', mk, t, L, E, ce, e1, e2, hq, hce, hcv, hcl, h1, hL, h2, h3⟩, st⟩
  · dsimp only [Pt.U, Pt.locs, Pt.cells, Pt.slots] at X' e1 e2 h1 h2 h3 st
    subst h1; subst h2; subst h3
    exact Or.inl ⟨v, (T.setVm vm₁).calling g' mk As.toArray, t, U', L, hT, X', hL, e1, e2, hq, st⟩
  · dsimp only [Pt.U, Pt.locs, Pt.cells, Pt.slots] at X' e1 e2 h1 h2 h3 st hcl
    subst h1; subst h2; subst h3
    exact Or.inr ⟨q, (T.setVm vm₁).calling g' mk As.toArray, t, U', L, E, ce, hT, X', hL, e1, e2, hq, hce, hcv, vx_cls hW₁ hcl, st⟩
end
/-! ===== END ===== -/
end
section
section Step
variable {p : Program} {l : Launch} {e : Env} {R : Room} {s : State} {m : MethodId} {args : Array Value} {below : List Frame} {meth : Method} {c : Code} {Q : State → Prop}
variable {mid sl b : Nat} {sx : Nat → Int32} {A : Nat → Prop} {dC : Nat → ClassId} {dI : Nat → Nat → Nat} {ty : Nat → ClassId} {n0 k0 s0 : Nat} {ad0 : Nat → Nat}
variable {x y z pc : Nat} {L : List (Nat × Value)} {S : List Value} {h : List am_E} {k n : Nat} {ad sp : Nat → Nat} {ls : Array Slot} {H : Heap} {locs : List Loc}
theorem am_mok_of {k : Nat} (h : am_mok k = true) : (if am_ki k = 0 then am_pl (am_mz k).2.1 (.static (am_y k)) else am_pl (am_mz k).2.1 (.instanceMethod (am_y k)) && (decide ((am_y k).name = "<init>") || am_pl (am_mz k).2.2.1 (.selects (am_y k).cls (am_y k) (am_y k)))) = true ∧ am_pl (am_mz k).2.2.2 (.initialized (am_y k).cls) = true ∧ ((am_y k).cls ≠ "java/lang/invoke/MethodHandle" ∧ (am_y k).cls ≠ "java/lang/invoke/VarHandle" ∧ (parseMethodDescriptor (am_y k).desc).map (fun d => d.parameters.length) = some (am_na k)) ∧ am_ml k ≤ 30 ∧ plainName (am_y k).cls = true := by
  unfold am_mok at h
  simp only [Bool.and_eq_true, decide_eq_true_eq] at h
  obtain ⟨h1, h2, -, h4, h5, h6, h7, h8⟩ := h
  exact ⟨by simpa only [Bool.and_eq_true, decide_eq_true_eq] using h1, h2, ⟨h4, h5, h7⟩, Nat.le_of_ble_eq_true h8, h6⟩
theorem am_nest_nw {mid idx x z : Nat} (h : lw_tbl[z]? = some (.methodLinkNest (am_own mid) idx (am_y x) "TermJudge")) : Cond.methodLinkNest (am_own mid) idx (am_y x) "TermJudge" ∈ am_nw := List.mem_filter.mpr ⟨List.mem_of_getElem? h, rfl⟩
theorem am_hh_nest {i : Instr} (hfet : am_fetch mid pc = some (i, x, y, z)) (hy : y % 2 = 1) : am_hh x = [] := by
  have h1 := am_lk_mem hfet
  have h2 := am_nk mid
  unfold am_nko at h2
  rw [List.getD_eq_getElem?_getD] at h1
  cases h3 : (am_code mid)[pc / 32]? with
  | none => rw [h3] at h1; simp at h1
  | some l =>
    rw [h3] at h1
    have h4 := List.all_eq_true.mp h2 l (List.mem_of_getElem? h3)
    have h5 := List.all_eq_true.mp h4 _ h1
    simpa [hy] using h5
theorem am_recv_inv {As : List Value} (hrc : am_recv x h As = true) : ∃ (b0 : Nat) (As0 : List Value) (fs : List Value), As = .ref b0 :: As0 ∧ h[b0]? = some (.inr (am_oc x, fs)) := by
  unfold am_recv at hrc
  split at hrc
  · split at hrc
    · rename_i b0 As0 o ci fs ho
      have hci := Nat.eq_of_beq_eq_true hrc
      subst hci
      exact ⟨b0, As0, fs, rfl, ho⟩
    · cases hrc
  · cases hrc
theorem am_s_call {i : Instr} {d : Nat} {call : Nat → List Value → List am_E → Nat → Nat → am_R → Prop} {As rest : List Value} {r1 : am_R} (C : am_Cx mid sl sx b A l dC dI ty p e R s m args below meth c) (hOK : am_OK l d call) (hfet : am_fetch mid pc = some (i, x, y, z)) (hisc : am_isc i x = true) (hS9 : S = As.reverse ++ rest) (hfit : am_cfit i x h L As rest = true) (hc : call x As h k n r1) (hk0 : k0 ≤ k) (hs0 : s0 ≤ n) (hR : r1.2.2.1 - k0 ≤ R.cells ∧ r1.2.2.2 - s0 ≤ R.slots) (hRf : d + 9 ≤ R.frames) (hRl : 60 * d + 260 ≤ R.locals) (hSt : am_Sta mid A dC dI ty n0 ad0 b s L h ad sp ls H locs)
    (kx : ∀ (ce : Cell) (q9 : Addr) (j : Nat) (ad' : Nat → Nat) (H1 : Heap) (locs1 : List Loc), r1.1 = .inr j → am_Sta mid A dC dI ty n0 ad0 b s L r1.2.1 ad' sp ls H1 locs1 → H1[q9]? = some ce → ce.vm = .none → s.vm.findClass (am_en j) = some ce.cls → vx_W p l e R s m args below meth c H1 locs1 (r1.2.2.1 - k0) (r1.2.2.2 - s0) Q (F0 m pc ls (rest.map (am_sv sp ad'))) q9)
    (kk : ∀ v : Option Value, r1.1 = .inl v → am_KK p l e R s m args below meth c Q mid b A dC dI ty n0 k0 s0 ad0 sp (pc + 3, L, v.toList ++ rest, r1.2)) : W p l e R s m args below meth c H locs (k - k0) (n - s0) Q (F0 m pc ls (S.map (am_sv sp ad))) := by
  obtain ⟨hx, hb, hml, hown, hts, -, hA, hK, hX, -, -, -, -⟩ := C
  obtain ⟨hdk, hwk⟩ := am_fetch_ok hfet
  obtain ⟨hxM, hk1, hn1, hlen, hint, -, hM⟩ := hOK x As h k n r1 hc
  have hM := hM ad dC dI ty H.size
  unfold am_cfit at hfit
  simp only [Bool.and_eq_true] at hfit
  obtain ⟨hfA, hsum, hhard, hnr⟩ := hfit
  have hsum := Nat.le_of_ble_eq_true hsum
  simp only [am_hard, Bool.and_eq_true] at hhard
  have hAs : As.map (am_sv sp ad) = As.map (am_cv ad) := List.map_congr_left fun v hv => am_noret_sv (List.all_eq_true.mp hnr v hv)
  have hcn : (As.map (am_cv ad)).length = As.length := List.length_map _
  have hfree : ∀ q, va_A (am_ws ty ad h) H.size q → A q := by
    intro q hq
    rcases hq with ⟨j, e9, h9⟩ | h9
    · exact hSt.2.2.1.2 j (q, e9) h9
    · exact hA q (Nat.le_trans hSt.2.2.2.1.1 h9)
  have hPre : ∀ U : State, U.heap = H → s.WarmedH U.vm → am_Pre dC dI ty ad h H.size U := fun U hU hW =>
    ⟨by rw [hU], by rw [hU]; exact hSt.2.1, va_K.moved hW.alike hK, hSt.2.2.1.weaken (fun _ _ _ _ => trivial), by rw [hU]; exact (hX.later hSt.2.2.2.1 hfree).warm hW⟩
  have ec : k - k0 + (r1.2.2.1 - k) = r1.2.2.1 - k0 := by omega
  have en : n - s0 + (r1.2.2.2 - n) = r1.2.2.2 - s0 := by omega
  have hf9 : k - k0 + (r1.2.2.1 - k) ≤ R.cells ∧ n - s0 + (r1.2.2.2 - n) ≤ R.slots := by rw [ec, en]; exact hR
  have hroom : ((rest.map (am_sv sp ad)).map fun v => v.category).sum ≤ 8 := by rw [am_csum_sv]; exact hsum
  have hsv : ∀ ad', am_ag h.length ad ad' → rest.map (am_sv sp ad') = rest.map (am_sv sp ad) := fun ad' hag => List.map_congr_left fun v hv => am_sv_hard hag (List.all_eq_true.mp hhard.2 v hv)
  have hLv : ∀ ad', am_ag h.length ad ad' → (L.map fun q => (q.1, am_sv sp ad' q.2)) = L.map fun q => (q.1, am_sv sp ad q.2) := fun ad' hag => List.map_congr_left fun v hv => by rw [am_sv_hard hag (List.all_eq_true.mp hhard.1 v hv)]
  have hSta : ∀ ad' H1 locs1, am_Post dC dI ty ad h H.size r1.2.1 ad' H1 → va_S A s.heap H1 locs1 → am_Sta mid A dC dI ty n0 ad0 b s L r1.2.1 ad' sp ls H1 locs1 := by
    intro ad' H1 locs1 hp hS1
    obtain ⟨hag, hl2, hP2, hD2⟩ := hp
    obtain ⟨t1, -, -, -, t5, t6, t7⟩ := hSt
    exact ⟨by rw [hLv ad' hag]; exact t1, hP2, hD2.weaken (fun _ q _ z9 => hfree q.1 z9), hS1, fun j hj hs => (hag j (by omega) hs).trans (t5 j hj hs), by omega, t7⟩
  have main : ∀ a : Array Value, vx_Run p l e R s m args below meth c H locs (k - k0) (n - s0) (r1.2.2.1 - k) (r1.2.2.2 - n) (F0 m pc ls (S.map (am_sv sp ad))) (rest.map (am_sv sp ad)) (am_Qc dC dI ty ad h H.size r1 a) (am_XC dC dI ty ad h H.size r1) (va_A (am_ws ty ad h) H.size) → W p l e R s m args below meth c H locs (k - k0) (n - s0) Q (F0 m pc ls (S.map (am_sv sp ad))) := by
    intro a hr
    refine am_docall (wc := []) (h' := []) hr hSt.2.2.2.1 hfree ?_ ?_
    · intro ce q9 j ad' H1 locs1 g1 g2 g3 g4 g5 g6
      rw [ec, en, ← hsv ad' g2.1]
      exact kx ce q9 j ad' H1 locs1 g1 (hSta ad' H1 locs1 g2 g3) g4 g5 g6
    · intro v ad' H1 locs1 g1 g2 g3
      have h9 := kk v g1 ad' ls H1 locs1 (hSta ad' H1 locs1 g2 g3)
      rw [ec, en, ← hsv ad' g2.1]
      have e9 : (v.toList ++ rest).map (am_sv sp ad') = (v.map (am_cv ad')).toList ++ rest.map (am_sv sp ad') := by
        cases v with
        | none => rfl
        | some w =>
          obtain ⟨w', rfl⟩ := hint w g1
          rfl
      rw [← e9]
      exact h9
  cases i with
  | invokevirtual idx =>
    have hxn := am_blt (show Nat.blt x am_nm = true from hisc)
    have hD := am_dec_of hdk (fun _ _ _ _ q => nomatch q) (fun _ _ q => nomatch q)
    simp only [am_wok, am_inv, Bool.and_eq_true, decide_eq_true_eq] at hwk
    obtain ⟨⟨-, hlk⟩, hni, hki⟩ := hwk
    have hki : am_ki x = 1 := eq_of_beq hki
    obtain ⟨m1, m2, m3, m4, -⟩ := am_mok_of (am_mk x hxn hxM)
    rw [if_neg (by omega)] at m1
    simp only [Bool.and_eq_true, Bool.or_eq_true, decide_eq_true_eq] at m1
    obtain ⟨m5, m6⟩ := m1
    have m6 := m6.resolve_left hni
    have hhh := am_hh_ki x hki
    have hw' : am_w x = Cond.code (am_y x) (am_b x) (am_ml x) (am_rt x) :: am_gw := by unfold am_w am_cw; rw [hhh]
    obtain ⟨hcl, hoc7⟩ := am_occ x hxn hxM hki
    have hfA' : Nat.beq As.length (am_na x + 1) = true ∧ am_recv x h As = true := by simpa [am_stat] using hfA
    obtain ⟨hAl, hrc⟩ := hfA'
    have hAl := Nat.eq_of_beq_eq_true hAl
    obtain ⟨b0, As0, fs, rfl, ho⟩ := am_recv_inv hrc
    · · skip
        have hrecv := va_recv hK hSt.2.1 (am_vw (am_oc x) hoc7) (am_ws_at ho)
        have hstk : S.map (am_sv sp ad) = (As0.map (am_cv ad)).reverse ++ .ref (ad b0) :: rest.map (am_sv sp ad) := by
          rw [hS9, List.map_append, List.map_reverse, hAs]
          simp [am_cv]
        have hn' : (As0.map (am_cv ad)).length = am_na x := by rw [List.length_map]; simpa using hAl
        have hpv : PreV s H (am_y x).cls (ad b0) (va_Pc (((.ref b0 : Value) :: As0).map (am_cv ad)) (am_Pre dC dI ty ad h H.size)) (As0.map (am_cv ad)) :=
          ⟨am_blind, by obtain ⟨cell, c1, c2, c3⟩ := hrecv; exact ⟨cell, c1, c2, by rw [← hcl]; exact c3⟩, fun U hU hW => ⟨rfl, hPre U hU hW⟩⟩
        have hRR : (am_rm d (r1.2.2.1 - k) (r1.2.2.2 - n)).frames + 1 ≤ R.frames ∧ 8 + (am_ml x + 11) + (am_rm d (r1.2.2.1 - k) (r1.2.2.2 - n)).locals ≤ R.locals := by
          constructor
          · show d + 8 + 1 ≤ R.frames; omega
          · show 8 + (am_ml x + 11) + (60 * d + 200) ≤ R.locals; omega
        split at hlk
        · have hlk := of_decide_eq_true hlk
          refine main _ (vx_runVN (As := As0.map (am_cv ad)) (rest := rest.map (am_sv sp ad)) ⟨hx, hb, hml, hown, hts⟩ hM ⟨va_cnB (am_na x) hts (am_GI (am_w_in x hxn hxM)) hw' rfl rfl (hX.2.2.1 _ (am_nest_nw hlk)) (hts _ (am_gin m2)) m3 hRR, hts _ (am_gin m5), hts _ (am_gin m6)⟩ hpv rfl hn' hSt.1.1 hstk (lv_room hroom) hD hf9)
        · refine main _ (vx_runV (As := As0.map (am_cv ad)) (rest := rest.map (am_sv sp ad)) ⟨hx, hb, hml, hown, hts⟩ hM (cwV (am_na x) hts (am_GI ?_) hw' rfl rfl ⟨rfl, m3⟩ hRR) hpv rfl hn' hSt.1.1 hstk (lv_room hroom) hD hf9)
          intro w hw
          rcases List.mem_append.mp hw with h9 | h9
          · simp only [List.mem_cons, List.not_mem_nil, or_false] at h9
            rcases h9 with rfl | rfl | rfl | rfl
            · exact am_gin hlk
            · exact am_gin m5
            · exact am_gin m6
            · exact am_gin m2
          · exact am_w_in x hxn hxM w h9
  | invokespecial idx =>
    have hxn := am_blt (show Nat.blt x am_nm = true from hisc)
    have hx1 : ¬ x = 1001 := by have : am_nm < 1001 := by decide
                                omega
    have hD := am_dec_of hdk (fun _ _ _ _ q => nomatch q) (fun _ _ q => nomatch q)
    simp only [am_wok, if_neg hx1, am_inv, Bool.and_eq_true, decide_eq_true_eq] at hwk
    obtain ⟨⟨-, hlk⟩, hni, hki⟩ := hwk
    have hki : am_ki x = 1 := eq_of_beq hki
    obtain ⟨m1, m2, m3, m4, -⟩ := am_mok_of (am_mk x hxn hxM)
    rw [if_neg (by omega)] at m1
    simp only [Bool.and_eq_true] at m1
    have m5 := m1.1
    have hhh := am_hh_ki x hki
    have hrt := am_rti x hxn hni
    have hw' : am_w x = Cond.code (am_y x) (am_b x) (am_ml x) none :: am_gw := by unfold am_w am_cw; rw [hhh, hrt]
    have hfA' : Nat.beq As.length (am_na x + 1) = true ∧ am_recv x h As = true := by simpa [am_stat] using hfA
    obtain ⟨hAl, hrc⟩ := hfA'
    have hAl := Nat.eq_of_beq_eq_true hAl
    obtain ⟨b0, As0, fs, rfl, ho⟩ := am_recv_inv hrc
    · skip
      have hstk : S.map (am_sv sp ad) = (As0.map (am_cv ad)).reverse ++ .ref (ad b0) :: rest.map (am_sv sp ad) := by
        rw [hS9, List.map_append, List.map_reverse, hAs]
        simp [am_cv]
      have hn' : (As0.map (am_cv ad)).length = am_na x := by rw [List.length_map]; simpa using hAl
      have hps : PreS s H (va_Pc (((.ref b0 : Value) :: As0).map (am_cv ad)) (am_Pre dC dI ty ad h H.size)) (.ref (ad b0) :: As0.map (am_cv ad)) := ⟨am_blind, fun U hU hW => ⟨rfl, hPre U hU hW⟩⟩
      have hRR : (am_rm d (r1.2.2.1 - k) (r1.2.2.2 - n)).frames + 1 ≤ R.frames ∧ 8 + (am_ml x + 11) + (am_rm d (r1.2.2.1 - k) (r1.2.2.2 - n)).locals ≤ R.locals := by
        constructor
        · show d + 8 + 1 ≤ R.frames; omega
        · show 8 + (am_ml x + 11) + (60 * d + 200) ≤ R.locals; omega
      split at hlk
      · have hlk := of_decide_eq_true hlk
        exact main _ (vx_runIN (As := As0.map (am_cv ad)) (rest := rest.map (am_sv sp ad)) ⟨hx, hb, hml, hown, hts⟩ hM ⟨va_cnB (am_na x) hts (am_GI (am_w_in x hxn hxM)) hw' rfl rfl (hX.2.2.1 _ (am_nest_nw hlk)) (hts _ (am_gin m2)) m3 hRR, hni, hts _ (am_gin m5)⟩ hps rfl hn' hSt.1.1 hstk (lv_room hroom) hD hf9)
      · exact main _ (vx_runI (As := As0.map (am_cv ad)) (rest := rest.map (am_sv sp ad)) ⟨hx, hb, hml, hown, hts⟩ hM (cwI (am_na x) hts (am_GI (am_w_in x hxn hxM)) hw' rfl rfl (hts _ (am_gin m2)) (hts _ (am_gin hlk)) (hts _ (am_gin m5)) hni m3 hRR) hps rfl hn' hSt.1.1 hstk (lv_room hroom) hD hf9)
  | invokestatic idx =>
    have hxn := am_blt (show Nat.blt x am_nm = true from hisc)
    have hx1 : ¬ x = 1002 ∧ ¬ x = 1003 := by have : am_nm < 1001 := by decide
                                             omega
    have hD := am_dec_of hdk (fun _ _ _ _ q => nomatch q) (fun _ _ q => nomatch q)
    simp only [am_wok, if_neg hx1.1, am_inv, Bool.and_eq_true, Bool.or_eq_true, decide_eq_true_eq] at hwk
    obtain ⟨⟨-, hlk⟩, hki⟩ := hwk.resolve_left hx1.2
    have hki : am_ki x = 0 := eq_of_beq hki
    obtain ⟨m1, m2, m3, m4, -⟩ := am_mok_of (am_mk x hxn hxM)
    rw [if_pos hki] at m1
    have hAl : As.length = am_na x := Nat.eq_of_beq_eq_true (by simpa [am_stat] using hfA)
    have hstk : S.map (am_sv sp ad) = (As.map (am_cv ad)).reverse ++ rest.map (am_sv sp ad) := by
      rw [hS9, List.map_append, List.map_reverse, hAs]
    have hn' : (As.map (am_cv ad)).length = am_na x := by rw [List.length_map]; exact hAl
    have hps : PreS s H (va_Pc (As.map (am_cv ad)) (am_Pre dC dI ty ad h H.size)) (As.map (am_cv ad)) := ⟨am_blind, fun U hU hW => ⟨rfl, hPre U hU hW⟩⟩
    have hRR : (am_rm d (r1.2.2.1 - k) (r1.2.2.2 - n)).frames + 1 ≤ R.frames ∧ 8 + (am_ml x + 11) + (am_rm d (r1.2.2.1 - k) (r1.2.2.2 - n)).locals ≤ R.locals := by
      constructor
      · show d + 8 + 1 ≤ R.frames; omega
      · show 8 + (am_ml x + 11) + (60 * d + 200) ≤ R.locals; omega
    cases hhh : am_hh x with
    | nil =>
      have hw' : am_w x = Cond.code (am_y x) (am_b x) (am_ml x) (am_rt x) :: am_gw := by unfold am_w am_cw; rw [hhh]
      split at hlk
      · have hlk := of_decide_eq_true hlk
        exact main _ (vx_runSN (As := As.map (am_cv ad)) (rest := rest.map (am_sv sp ad)) ⟨hx, hb, hml, hown, hts⟩ hM ⟨va_cnB (am_na x) hts (am_GI (am_w_in x hxn hxM)) hw' rfl rfl (hX.2.2.1 _ (am_nest_nw hlk)) (hts _ (am_gin m2)) m3 hRR, hts _ (am_gin m1), trivial⟩ hps rfl hn' hSt.1.1 hstk (lv_room hroom) hD hf9)
      · exact main _ (vx_runS (As := As.map (am_cv ad)) (rest := rest.map (am_sv sp ad)) ⟨hx, hb, hml, hown, hts⟩ hM ⟨callB_of (am_na x) hts (am_GI (am_w_in x hxn hxM)) hw' rfl rfl (hts _ (am_gin m2)) (hts _ (am_gin hlk)) m3 hRR, hts _ (am_gin m1)⟩ hps rfl hn' hSt.1.1 hstk (lv_room hroom) hD hf9)
    | cons q0 qr =>
      have hw' : am_w x = Cond.codeWith (am_y x) (am_b x) (am_ml x) (am_rt x) (q0 :: qr) :: am_gw := by unfold am_w am_cw; rw [hhh]
      split at hlk
      · rename_i hy1
        exact absurd (am_hh_nest hfet hy1) (by rw [hhh]; exact fun q => nomatch q)
      · refine main _ (vx_runSX (As := As.map (am_cv ad)) (rest := rest.map (am_sv sp ad)) ⟨hx, hb, hml, hown, hts⟩ hM (vx_cwSW (am_na x) hts (am_GI ?_) hw' rfl rfl m3 hRR) hps rfl hn' hSt.1.1 hstk (lv_room hroom) hD hf9)
        intro w hw
        rcases List.mem_append.mp hw with h9 | h9
        · simp only [List.mem_cons, List.not_mem_nil, or_false] at h9
          rcases h9 with rfl | rfl | rfl
          · exact am_gin hlk
          · exact am_gin m1
          · exact am_gin m2
        · exact am_w_in x hxn hxM w h9
  | _ => cases hisc
end Step
end
section
/-! ===== a whole run ===== -/
theorem am_thr_lt : ∀ q ∈ am_thr, q.2.2.2.2.2.1 < 3 := by decide
theorem am_Ex_out {l : Launch} {d : Nat} {call : Nat → List Value → List am_E → Nat → Nat → am_R → Prop} {mid sl : Nat} {sx : Nat → Int32} (hOK : am_OK l d call) : ∀ (N : Nat) (f : am_F) (r : am_R), am_Ex call mid sl sx N f r → f.2.2.2.2.1 ≤ r.2.2.1 ∧ f.2.2.2.2.2 ≤ r.2.2.2 ∧ f.2.2.2.1.length ≤ r.2.1.length ∧ (∀ v, r.1 = .inl (some v) → ∃ w, v = .int w) ∧ (∀ e, r.1 = .inr e → e < 3)
  | 0, _, _, h => h.elim
  | N + 1, f, r, h => by
    obtain ⟨i, x, y, z, hf, h1 | ⟨hic, As, rest, r1, hS, hfit, hc, h2⟩ | ⟨ks, h3⟩ | ⟨v, -, -, -, rfl⟩ | ⟨-, -, -, rfl⟩ | ⟨j, -, ⟨q, hq, -, -, rfl⟩, -, -, rfl⟩⟩ := h
    · obtain ⟨g, f', hs, -, h3⟩ := h1
      obtain ⟨m1, m2, m3⟩ := am_st_mono hs
      obtain ⟨i1, i2, i3, i4, i5⟩ := am_Ex_out hOK N f' r h3
      exact ⟨Nat.le_trans m1 i1, Nat.le_trans m2 i2, Nat.le_trans m3 i3, i4, i5⟩
    · obtain ⟨-, m1, m2, m3, m4, m5, -⟩ := hOK x As _ _ _ r1 hc
      rcases h2 with ⟨v, -, h3⟩ | ⟨e, he, ⟨hp, -, -, h3⟩ | ⟨-, rfl⟩⟩
      · obtain ⟨i1, i2, i3, i4, i5⟩ := am_Ex_out hOK N _ r h3
        exact ⟨Nat.le_trans m1 i1, Nat.le_trans m2 i2, Nat.le_trans m3 i3, i4, i5⟩
      · obtain ⟨i1, i2, i3, i4, i5⟩ := am_Ex_out hOK N _ r h3
        exact ⟨Nat.le_trans m1 i1, Nat.le_trans m2 i2, Nat.le_trans m3 i3, i4, i5⟩
      · exact ⟨m1, m2, m3, (fun v hv => nomatch hv), fun e' he' => by cases he'; exact m5 e he⟩
    · exact am_Ex_out hOK N (f.1, lv_pick f.2.1 ks, f.2.2) r h3
    · exact ⟨Nat.le_refl _, Nat.le_refl _, Nat.le_refl _, fun v' hv => by cases hv; exact ⟨v, rfl⟩, fun e he => nomatch he⟩
    · exact ⟨Nat.le_refl _, Nat.le_refl _, Nat.le_refl _, (fun v' hv => by cases hv), fun e he => nomatch he⟩
    · exact ⟨Nat.le_succ _, Nat.le_add_right _ _, Nat.le_refl _, (fun v' hv => nomatch hv), fun e he => by cases he; exact am_thr_lt q (List.mem_of_getElem? hq)⟩
theorem am_cast_ok : ∀ e, e < 3 → Cond.castable (am_en e) (am_en e) ∈ am_nw
  | 0, _ => by decide +kernel
  | 1, _ => by decide +kernel
  | 2, _ => by decide +kernel
  | e + 3, h => absurd h (by omega)
theorem am_nc_ok : ∀ e k, e < 3 → k < 3 → e ≠ k → (am_en e, am_en k) ∈ am_ncs
  | 0, 0, _, _, h => absurd rfl h
  | 0, 1, _, _, _ => by decide +kernel
  | 0, 2, _, _, _ => by decide +kernel
  | 1, 0, _, _, _ => by decide +kernel
  | 1, 1, _, _, h => absurd rfl h
  | 1, 2, _, _, _ => by decide +kernel
  | 2, 0, _, _, _ => by decide +kernel
  | 2, 1, _, _, _ => by decide +kernel
  | 2, 2, _, _, h => absurd rfl h
  | e + 3, _, h, _, _ => absurd h (by omega)
  | _, k + 3, _, h, _ => absurd h (by omega)
section Step
variable {p : Program} {l : Launch} {e : Env} {R : Room} {s : State} {m : MethodId} {args : Array Value} {below : List Frame} {meth : Method} {c : Code} {Q : State → Prop}
variable {mid sl b : Nat} {sx : Nat → Int32} {A : Nat → Prop} {dC : Nat → ClassId} {dI : Nat → Nat → Nat} {ty : Nat → ClassId} {n0 k0 s0 : Nat} {ad0 : Nat → Nat}
variable {x y z pc : Nat} {L : List (Nat × Value)} {S : List Value} {h : List am_E} {k n : Nat} {ad sp : Nat → Nat} {ls : Array Slot} {H : Heap} {locs : List Loc}
theorem am_s_catch {q9 hp j : Nat} {ce : Cell} {rest : List Value} {cells slots : Nat} (C : am_Cx mid sl sx b A l dC dI ty p e R s m args below meth c) (hj : j < 3) (hh : am_hnd mid pc j = some hp) (hce : H[q9]? = some ce) (hcv : ce.vm = .none) (hcl : s.vm.findClass (am_en j) = some ce.cls)
    (kk : W p l e R s m args below meth c H locs cells slots Q (F0 m hp ls [.ref q9])) : vx_W p l e R s m args below meth c H locs cells slots Q (F0 m pc ls rest) q9 := by
  obtain ⟨hx, hb, hml, hown, hts, -, hA, hK, hX, hT, -, -, -⟩ := C
  unfold am_hnd at hh
  obtain ⟨q, hq, rfl⟩ := Option.map_eq_some_iff.mp hh
  obtain ⟨hpq, as, bs, hsp, has⟩ := List.find?_eq_some_iff_append.mp hq
  have hk := List.all_eq_true.mp (show (am_hh mid).all _ = true from am_hk mid)
  have hqm : q ∈ am_hh mid := by rw [hsp]; exact List.mem_append_right _ List.mem_cons_self
  simp only [Bool.and_eq_true] at hpq
  obtain ⟨⟨p1, p2⟩, p3⟩ := hpq
  have p1 := Nat.le_of_ble_eq_true p1
  have p2 := am_blt p2
  have p3 := Nat.eq_of_beq_eq_true p3
  have hkq := hk q hqm
  simp only [Bool.and_eq_true] at hkq
  obtain ⟨k1, k2, k3⟩ := hkq
  refine vx_catch (own := am_own mid) (name := am_en j) (E := am_en j) (ce := ce) hown (as.map fun q => ⟨q.1, q.2.1, q.2.2.1, q.2.2.2⟩) ⟨q.1, q.2.1, q.2.2.1, q.2.2.2⟩ (bs.map fun q => ⟨q.1, q.2.1, q.2.2.1, q.2.2.2⟩) (by rw [hT, hsp]; unfold tableOf; rw [List.map_append, List.map_cons]) ?_ ?_ ?_ ?_ (va_Nw.use rfl (hX.2.2.1 _ (am_cast_ok j hj))) hce hcv hcl kk
  · intro z hz
    obtain ⟨z', hz', rfl⟩ := List.mem_map.mp hz
    have hzm : z' ∈ am_hh mid := by rw [hsp]; exact List.mem_append_left _ hz'
    have h1 := has z' hz'
    have hkz := hk z' hzm
    simp only [Bool.and_eq_true] at hkz
    obtain ⟨g1, g2, g3⟩ := hkz
    by_cases hcov : z'.1 ≤ pc ∧ pc < z'.2.1
    · refine Or.inr ⟨by have := am_blt g3; exact fun q => by simp at q; omega, am_en (am_cat z'.2.2.2), hts _ (am_gin g1), hX.2.2.2.2 _ (am_nc_ok j _ hj (am_blt g2) ?_)⟩
      intro e9
      rw [← e9] at h1
      have t1 : Nat.ble z'.1 pc = true := Nat.ble_eq_true_of_le hcov.1
      have t2 : Nat.blt pc z'.2.1 = true := Nat.ble_eq_true_of_le hcov.2
      rw [t1, t2] at h1
      simp at h1
    · refine Or.inl ?_
      simp only [covers]
      by_cases t1 : z'.1 ≤ pc
      · have t2 : ¬ pc < z'.2.1 := fun z9 => hcov ⟨t1, z9⟩
        simp [t1, t2]
      · simp [t1]
  · simp [covers, p1, p2]
  · have := am_blt k3
    simp only [ne_eq]
    omega
  · rw [← p3]
    exact hts _ (am_gin k1)
theorem am_run {r : am_R} {d : Nat} {call : Nat → List Value → List am_E → Nat → Nat → am_R → Prop} (C : am_Cx mid sl sx b A l dC dI ty p e R s m args below meth c) (hin : (am_y mid).name = "<init>" → meth.name = "<init>") (hOK : am_OK l d call) (hR : r.2.2.1 - k0 ≤ R.cells ∧ r.2.2.2 - s0 ≤ R.slots) (hRf : d + 9 ≤ R.frames) (hRl : 60 * d + 260 ≤ R.locals)
    (hret : ∀ (i : Instr) (x y z pc : Nat) (v : Option Value) (L : List (Nat × Value)) (S : List Value) (h : List am_E) (k n : Nat) (ad sp : Nat → Nat) (ls : Array Slot) (H : Heap) (locs : List Loc), am_fetch mid pc = some (i, x, y, z) → ((∃ w, v = some (.int w) ∧ i = .ireturn ∧ S = [.int w] ∧ ∃ ty', am_rt mid = some ty' ∧ narrow ty' (.int w) = .int w) ∨ (v = none ∧ i = .return_ ∧ S = [] ∧ am_rt mid = none)) → r = (.inl v, h, k, n) → am_Sta mid A dC dI ty n0 ad0 b s L h ad sp ls H locs → W p l e R s m args below meth c H locs (k - k0) (n - s0) Q (F0 m pc ls (S.map (am_sv sp ad))))
    (hthr : ∀ (i : Instr) (j y z pc : Nat) (L : List (Nat × Value)) (S : List Value) (h : List am_E) (k n : Nat) (ad sp : Nat → Nat) (ls : Array Slot) (H : Heap) (locs : List Loc), am_fetch mid pc = some (i, 1000 + j, y, z) → (∃ q, am_thr[j]? = some q ∧ q.1 = mid ∧ q.2.1 = pc ∧ q.2.2.2.2.2.1 = y) → am_csum S ≤ 8 → am_hh mid = [] → r = (.inr y, h, k + 1, n + 6) → k0 ≤ k → s0 ≤ n → am_Sta mid A dC dI ty n0 ad0 b s L h ad sp ls H locs → W p l e R s m args below meth c H locs (k - k0) (n - s0) Q (F0 m pc ls (S.map (am_sv sp ad))))
    (hout : ∀ (j pc : Nat) (L : List (Nat × Value)) (h : List am_E) (k n : Nat) (ad sp : Nat → Nat) (ls : Array Slot) (H : Heap) (locs : List Loc) (rest : List Value) (ce : Cell) (q9 : Addr), r = (.inr j, h, k, n) → am_hh mid = [] → am_Sta mid A dC dI ty n0 ad0 b s L h ad sp ls H locs → H[q9]? = some ce → ce.vm = .none → s.vm.findClass (am_en j) = some ce.cls → vx_W p l e R s m args below meth c H locs (k - k0) (n - s0) Q (F0 m pc ls rest) q9) :
    ∀ (N : Nat) (f : am_F), am_Ex call mid sl sx N f r → k0 ≤ f.2.2.2.2.1 → s0 ≤ f.2.2.2.2.2 → ∀ (ad sp : Nat → Nat) (ls : Array Slot) (H : Heap) (locs : List Loc), am_Sta mid A dC dI ty n0 ad0 b s f.2.1 f.2.2.2.1 ad sp ls H locs → W p l e R s m args below meth c H locs (f.2.2.2.2.1 - k0) (f.2.2.2.2.2 - s0) Q (F0 m f.1 ls (f.2.2.1.map (am_sv sp ad)))
  | 0, _, h, _, _ => h.elim
  | N + 1, f, h, hk0, hs0 => by
    intro ad sp ls H locs hSt
    obtain ⟨pc, L, S, hh, k, n⟩ := f
    have hfull := h
    obtain ⟨i, x, y, z, hf, h1 | ⟨hic, As, rest, r1, hS, hfit, hc, h2⟩ | ⟨ks, h3⟩ | ⟨v, rfl, hS, hty, hr⟩ | ⟨rfl, hS, hrt, hr⟩ | ⟨j, rfl, hq, hcs, hhn, hr⟩⟩ := h
    · obtain ⟨g, f', hs, hg, h3⟩ := h1
      obtain ⟨m1, m2, m3⟩ := am_st_mono hs
      obtain ⟨i1, i2, -⟩ := am_Ex_out hOK N f' r h3
      refine am_step C hin hf hs hg hk0 hs0 ⟨Nat.le_trans (Nat.sub_le_sub_right i1 k0) hR.1, Nat.le_trans (Nat.sub_le_sub_right i2 s0) hR.2⟩ (by omega) (by omega) hSt ?_
      intro ad' ls' H' locs' hSt'
      exact am_run C hin hOK hR hRf hRl hret hthr hout N f' h3 (Nat.le_trans hk0 m1) (Nat.le_trans hs0 m2) ad' sp ls' H' locs' hSt'
    · obtain ⟨-, m1, m2, m3, m4, m5, -⟩ := hOK x As _ _ _ r1 hc
      have i12 : r1.2.2.1 ≤ r.2.2.1 ∧ r1.2.2.2 ≤ r.2.2.2 := by
        rcases h2 with ⟨v, -, h3⟩ | ⟨e, he, ⟨hp, -, -, h3⟩ | ⟨-, rfl⟩⟩
        · obtain ⟨i1, i2, -⟩ := am_Ex_out hOK N _ r h3
          exact ⟨i1, i2⟩
        · obtain ⟨i1, i2, -⟩ := am_Ex_out hOK N _ r h3
          exact ⟨i1, i2⟩
        · exact ⟨Nat.le_refl _, Nat.le_refl _⟩
      refine am_s_call C hOK hf hic hS hfit hc hk0 hs0 ⟨Nat.le_trans (Nat.sub_le_sub_right i12.1 k0) hR.1, Nat.le_trans (Nat.sub_le_sub_right i12.2 s0) hR.2⟩ hRf hRl hSt ?_ ?_
      · intro ce q9 j ad' H1 locs1 g1 g2 g3 g4 g5
        rcases h2 with ⟨v, hv, -⟩ | ⟨e, he, h4⟩
        · rw [hv] at g1
          cases g1
        · rw [he] at g1
          cases g1
          rcases h4 with ⟨hp, hhn, hLn, h3⟩ | ⟨hnil, hr⟩
          · refine am_s_catch C (m5 j he) hhn g3 g4 g5 ?_
            have e1 : (L.map fun q => (q.1, am_sv (fun j => if j = 1 then q9 else sp j) ad' q.2)) = L.map fun q => (q.1, am_sv sp ad' q.2) := by
              refine List.map_congr_left fun q hq => ?_
              have h9 := List.all_eq_true.mp hLn q hq
              obtain ⟨q1, q2⟩ := q
              cases q2 <;> first | rfl | cases h9
            have h8 := am_run C hin hOK hR hRf hRl hret hthr hout N _ h3 (Nat.le_trans hk0 m1) (Nat.le_trans hs0 m2) ad' (fun j => if j = 1 then q9 else sp j) ls H1 locs1 (by
              obtain ⟨a1, a2⟩ := g2
              exact ⟨by show lv_has ls _ (L.map fun q => (q.1, am_sv (fun j => if j = 1 then q9 else sp j) ad' q.2)); rw [e1]; exact a1, a2.1, a2.2.1, a2.2.2.1, a2.2.2.2.1, a2.2.2.2.2.1, a2.2.2.2.2.2⟩)
            exact h8
          · exact hout j pc L r1.2.1 r1.2.2.1 r1.2.2.2 ad' sp ls H1 locs1 _ ce q9 hr hnil g2 g3 g4 g5
      · intro v hv ad' ls' H1 locs1 g2
        rcases h2 with ⟨v', hv', h3⟩ | ⟨e, he, -⟩
        · rw [hv] at hv'
          cases hv'
          exact am_run C hin hOK hR hRf hRl hret hthr hout N _ h3 (Nat.le_trans hk0 m1) (Nat.le_trans hs0 m2) ad' sp ls' H1 locs1 g2
        · rw [hv] at he
          cases he
    · refine am_run C hin hOK hR hRf hRl hret hthr hout N _ h3 hk0 hs0 ad sp ls H locs ⟨⟨hSt.1.1, hSt.1.2.1, fun q hq => ?_⟩, hSt.2⟩
      obtain ⟨q', hq', rfl⟩ := List.mem_map.mp hq
      obtain ⟨k9, -, hk9⟩ := List.mem_filterMap.mp hq'
      exact hSt.1.2.2 _ (List.mem_map.mpr ⟨q', List.mem_of_getElem? hk9, rfl⟩)
    · exact hret _ x y z pc _ L S hh k n ad sp ls H locs hf (Or.inl ⟨v, rfl, rfl, hS, hty⟩) hr hSt
    · exact hret _ x y z pc _ L S hh k n ad sp ls H locs hf (Or.inr ⟨rfl, rfl, hS, hrt⟩) hr hSt
    · exact hthr i j y z pc L S hh k n ad sp ls H locs hf hq (Nat.le_of_ble_eq_true hcs) hhn hr hk0 hs0 hSt
end Step
end
section
/-! ===== THE METHODS: each call that the run has ends so on the machine ===== -/
theorem am_lgsl (ad : Nat → Nat) (As : List Value) : (lg_sl (As.map (am_cv ad))).length = (lg_sl As).length := by
  unfold lg_sl
  induction As with
  | nil => rfl
  | cons v As ih =>
    simp only [List.map_cons, List.flatMap_cons, List.length_append, ih]
    congr 1
    cases v <;> rfl
theorem am_lvargs (ad sp : Nat → Nat) : ∀ (As : List Value) (i : Nat), As.all am_noret = true → lv_args i (As.map (am_cv ad)) = (lv_args i As).map fun q => (q.1, am_sv sp ad q.2)
  | [], _, _ => rfl
  | v :: As, i, h => by
    simp only [List.all_cons, Bool.and_eq_true] at h
    show (i, am_cv ad v) :: lv_args (if (am_cv ad v).category = 2 then i + 2 else i + 1) (As.map (am_cv ad)) = (i, am_sv sp ad v) :: (lv_args (if v.category = 2 then i + 2 else i + 1) As).map fun q => (q.1, am_sv sp ad q.2)
    have hc : (am_cv ad v).category = v.category := by cases v <;> rfl
    rw [am_lvargs ad sp As _ h.2, am_noret_sv h.1, hc]
theorem am_cls_own {k : Nat} (h : am_mok k = true) : (am_y k).cls = am_own k := by
  unfold am_mok at h
  simp only [Bool.and_eq_true, decide_eq_true_eq] at h
  exact h.2.2.1
theorem am_tw_of {w : Cond} {args : Array Value} {s : State} (h : am_tw w = true) (hts : ∀ w ∈ am_gw, w.before args s = true) (hnw : ∀ w ∈ am_nw, va_Nw w s) : w.before args s = true ∧ vx_ot w = true := by
  unfold am_tw at h
  rw [Bool.or_eq_true] at h
  rcases h with h | h
  · simp only [Bool.and_eq_true, decide_eq_true_eq] at h
    exact ⟨hts w (List.mem_filter.mpr ⟨h.2, h.1⟩), by unfold vx_ot; rw [h.1, Bool.or_true]⟩
  · split at h
    · exact ⟨va_Nw.use rfl (hnw _ (List.mem_filter.mpr ⟨of_decide_eq_true h, rfl⟩)), rfl⟩
    · exact ⟨va_Nw.use rfl (hnw _ (List.mem_filter.mpr ⟨of_decide_eq_true h, rfl⟩)), rfl⟩
    · exact ⟨va_Nw.use rfl (hnw _ (List.mem_filter.mpr ⟨of_decide_eq_true h, rfl⟩)), rfl⟩
    · cases h
theorem am_init_in : ∀ k, k < 3 → Cond.initialized (am_en k) ∈ am_gw := by
  have h := am_ezk
  simp only [Bool.and_eq_true] at h
  intro k hk
  match k, hk with
  | 0, _ => exact am_gin h.1
  | 1, _ => exact am_gin h.2.1
  | 2, _ => exact am_gin h.2.2
  | k + 3, hk => exact absurd hk (by omega)
section Meth
variable {p : Program} {l : Launch} {e : Env} {R : Room} {s : State} {m : MethodId} {args : Array Value} {below : List Frame} {meth : Method} {c : Code}
theorem am_body {mid d N : Nat} {As : List Value} {h : List am_E} {k n : Nat} {r : am_R} {ad : Nat → Nat} {dC : Nat → ClassId} {dI : Nat → Nat → Nat} {ty : Nat → ClassId} (hl : l.stackTraces = false) (hM : mid ≠ am_M) (hmid : mid < am_nm) (hnr : As.all am_noret = true) (hla : (lg_sl As).length ≤ am_ml mid) (hOK : am_OK l d (am_Call d)) (hEx : am_Ex (am_Call d) mid 0 (fun _ => 0) N (0, lv_args 0 As, [], h, k, n) r)
    (hx : p.tables.exec = Jvm.exec) (hb : c.code = am_b mid) (hr : meth.sig.returnType = am_rt mid) (hts : ∀ w ∈ am_w mid, w.before args s = true) (hnm : s.vm.findClass (am_y mid).cls = some m.cls) (hname : meth.name = (am_y mid).name) (hlk : meth.locks = false) (hml : c.maxLocals = am_ml mid) (hT : c.exceptionTable.toList = tableOf (am_hh mid)) (hpre : va_Pc (As.map (am_cv ad)) (am_Pre dC dI ty ad h s.heap.size) args s) :
    W p l e (am_rm (d + 1) (r.2.2.1 - k) (r.2.2.2 - n)) s m args below meth c s.heap [] 0 0 (vx_MQ below (am_Qc dC dI ty ad h s.heap.size r) (am_XC dC dI ty ad h s.heap.size r) args s (r.2.2.1 - k) (r.2.2.2 - n) (va_A (am_ws ty ad h) s.heap.size)) (entryFrame m args (am_ml mid)) := by
  obtain ⟨rfl, -, hP, hK, hD, hX⟩ := hpre
  have hmk := am_mk mid hmid hM
  have hown : s.vm.findClass (am_own mid) = some m.cls := by rw [← am_cls_own hmk]; exact hnm
  obtain ⟨-, -, -, hml30, -⟩ := am_mok_of hmk
  have hgw : ∀ w ∈ am_gw, w.before (As.map (am_cv ad)).toArray s = true := fun w hw => hts w (List.mem_cons_of_mem _ hw)
  generalize hAe : va_A (am_ws ty ad h) s.heap.size = A at hX ⊢
  have hA : ∀ q : Nat, s.heap.size ≤ q → A q := fun q h => by rw [← hAe]; exact Or.inr h
  have hD' : va_D A (am_ws ty ad h) := by rw [← hAe]; exact hD.self
  have C : am_Cx mid 0 (fun _ => 0) 0 A l dC dI ty p e (am_rm (d + 1) (r.2.2.1 - k) (r.2.2.2 - n)) s m (As.map (am_cv ad)).toArray below meth c :=
    ⟨hx, hb, hml, hown, hgw, hlk, hA, hK, hX, hT, hl, fun q => absurd q (Nat.lt_irrefl 0), fun q x hx9 => by rw [hT, q] at hx9; cases hx9⟩
  have hls := lv_entry (As.map (am_cv ad)) (n := am_ml mid) (by rw [am_lgsl]; exact hla)
  rw [lg_entry_eq]
  generalize (lg_sl (As.map (am_cv ad)) ++ List.replicate (am_ml mid - (lg_sl (As.map (am_cv ad))).length) Slot.unset).toArray = ls at hls ⊢
  rw [am_lvargs ad (fun _ => 0) As 0 hnr] at hls
  have hout := am_Ex_out hOK N _ r hEx
  have hmain := am_run (k0 := k) (s0 := n) (n0 := h.length) (ad0 := ad) (b := 0) (r := r) (below := below) (Q := vx_MQ below (am_Qc dC dI ty ad h s.heap.size r) (am_XC dC dI ty ad h s.heap.size r) (As.map (am_cv ad)).toArray s (r.2.2.1 - k) (r.2.2.2 - n) A) C (fun q => by rw [hname]; exact q) hOK ⟨Nat.le_refl _, Nat.le_refl _⟩ (by show d + 9 ≤ d + 1 + 8; omega) (by show 60 * d + 260 ≤ 60 * (d + 1) + 200; omega) ?_ ?_ ?_ N _ hEx (Nat.le_refl _) (Nat.le_refl _) ad (fun _ => 0) ls s.heap [] ⟨hls, hP, hD', va_S.rf, fun _ _ _ => rfl, Nat.le_refl _, rfl⟩
  · rw [Nat.sub_self, Nat.sub_self] at hmain
    exact hmain
  · intro i x y z pc v L S h1 k1 n1 ad1 sp1 ls1 H1 locs1 hf hcase hr1 hSt
    subst hr1
    obtain ⟨hdk, hwk⟩ := am_fetch_ok hf
    obtain ⟨t1, t2, t3, t4, t5, t6, t7⟩ := hSt
    have hpost : ∀ t : State, t.heap = H1 → am_Post dC dI ty ad h s.heap.size h1 ad1 t.heap := fun t ht => ⟨t5, t6, by rw [ht]; exact t2, by rw [hAe]; exact t3⟩
    rcases hcase with ⟨w, rfl, rfl, rfl, ty', hty, hnar⟩ | ⟨rfl, rfl, rfl, hrt⟩
    · exact vx_ret (W.zret hx hb (hr.trans hty) hnar (fun t ht hW => ⟨⟨some (.int w), ad1, rfl, rfl, hpost t ht⟩, by rw [hAe]; exact t4.F ht⟩) t4.2.2 (am_dec_of hdk (fun _ _ _ _ q => nomatch q) (fun _ _ q => nomatch q)) hlk)
    · exact vx_ret (W.vret hx hb (hr.trans hrt) (fun t ht hW => ⟨⟨none, ad1, rfl, rfl, hpost t ht⟩, by rw [hAe]; exact t4.F ht⟩) t4.2.2 (am_dec_of hdk (fun _ _ _ _ q => nomatch q) (fun _ _ q => nomatch q)) hlk)
  · intro i j y z pc L S h1 k1 n1 ad1 sp1 ls1 H1 locs1 hf hq hcs hhn hr1 hk1 hn1 hSt
    obtain ⟨q, hq1, hq2, hq3, hq4⟩ := hq
    subst hr1
    obtain ⟨t1, t2, t3, t4, t5, t6, t7⟩ := hSt
    have hqm := List.mem_of_getElem? hq1
    have hck := List.all_eq_true.mp am_thc q hqm
    simp only [am_thchk, Bool.and_eq_true, decide_eq_true_eq] at hck
    obtain ⟨d0, d3, d4, d6, d9, hcl⟩ := hck
    have hy3 := am_thr_lt q hqm
    obtain ⟨sa, hstr⟩ := hX.2.2.2.1 q hqm
    have hatw := List.all_eq_true.mp (am_thw j q hq1)
    rw [hq2] at d0 d3 d4 d6 d9 hcl hstr hatw
    rw [hq3] at d0 d3 d4 d6 d9
    rw [hq4] at hcl hatw hy3
    have hk2 : k1 - k + 1 ≤ k1 + 1 - k := by omega
    have hn2 : n1 - n + 6 ≤ n1 + 6 - n := by omega
    refine vx_throwS (p := p) (own := am_own mid) (cls := am_en y) (text := q.2.2.2.2.2.2.1) (names := am_ns) (ik := q.2.2.1) (is := q.2.2.2.1) (ic := q.2.2.2.2.1) (sa := sa) (A := A) hx hb hl hown (am_fitE.1 y hy3) am_fitE.2 (hgw _ (am_gin hcl)) (hgw _ (am_init_in y hy3)) hstr (fun w hw => (am_tw_of (hatw w hw) hgw hX.2.2.1).1) (fun w hw => ?_) hX.1 hX.2.1 t4 (by rw [hml]; exact t1.1) d0 d3 d4 d6 d9 (fun x hx9 => by rw [hT, hhn] at hx9; cases hx9) (by show 2 + 3 < d + 1 + 8; omega) (by rw [am_csum_sv]; show am_csum S + 82 ≤ 60 * (d + 1) + 200; omega) hk2 hn2 hlk ?_ t4.2.2 hk2 hn2
    · rcases List.mem_cons.mp hw with rfl | hw
      · rfl
      · rcases List.mem_cons.mp hw with rfl | hw
        · rfl
        · exact (am_tw_of (hatw w hw) hgw hX.2.2.1).2
    · intro t hal hsz hkp
      refine ⟨⟨y, ad1, rfl, rfl, t5, t6, t2.kept fun k9 q9 hk9 => hkp q9.1 ((t2 k9 q9 hk9).lt), by rw [hAe]; exact t3⟩, ?_⟩
      rw [hAe]
      exact ⟨Nat.le_trans t4.1 hsz, fun q9 h9 h8 => (hkp q9 (Nat.lt_of_lt_of_le h9 t4.1)).trans (t4.2.1 q9 h9 h8)⟩
  · intro j pc L h1 k1 n1 ad1 sp1 ls1 H1 locs1 rest ce q9 hr1 hhn hSt g3 g4 g5
    subst hr1
    obtain ⟨t1, t2, t3, t4, t5, t6, t7⟩ := hSt
    refine vx_out (fun x hx9 => by rw [hT, hhn] at hx9; cases hx9) hlk g3 g4 g5 (fun t ht hal => ?_) t4.2.2 (Nat.le_refl _) (Nat.le_refl _)
    exact ⟨⟨j, ad1, rfl, rfl, t5, t6, by rw [ht]; exact t2, by rw [hAe]; exact t3⟩, by rw [hAe]; exact t4.F ht⟩
end Meth
end
section
/-! ===== the nodes' rows are lengthened: Arrays.copyOf, then grow, by hand ===== -/
def am_cpP (dC : Nat → ClassId) (dI : Nat → Nat → Nat) (ty : Nat → ClassId) (ws : va_W) (sz : Nat) (U : State) : Prop := U.heap.size = sz ∧ va_P (dC, dI) vwCl ws U.heap ∧ va_K (dC, dI) vwCl (am_tys ty) U ∧ va_D (fun _ => True) ws
theorem am_cpblind {dC : Nat → ClassId} {dI : Nat → Nat → Nat} {ty : Nat → ClassId} {ws : va_W} {sz : Nat} {av : List Value} : FrameBlind (va_Pc av (am_cpP dC dI ty ws sz)) := by
  intro a U g mk q
  obtain ⟨q0, q1, qP, qK, qD⟩ := q
  exact ⟨q0, q1, qP, va_K.moved (u := U) (U := U.calling g mk a) (Vm.Alike.refl U.vm) qK, qD⟩
theorem am_jin : Cond.code am_yJ am_bJ am_mJ (some (.array .int)) ∈ am_gw := List.mem_filter.mpr ⟨List.mem_of_getElem? am_jz, rfl⟩
theorem am_ext_cpy (f : Nat → Int32) (c : Nat) : va_cpy f (fun _ => 0) 0 0 c = am_ext f c := by
  funext k
  simp [va_cpy, am_ext]
theorem am_clamp0 : (0 : Int32).toNatClampNeg = 0 := by decide +kernel
set_option maxHeartbeats 4000000 in
set_option maxRecDepth 100000 in
theorem am_copyOf (l : Launch) {dC : Nat → ClassId} {dI : Nat → Nat → Nat} {ty : Nat → ClassId} {ws : va_W} {q0 a c m0 sz : Nat} {f : Nat → Int32} (ha : ws[q0]? = some (a, .inl (ty 0, c, .inl f))) (hcm : c < m0) (hm0 : m0 ≤ 65536) : Met l am_yJ (Cond.code am_yJ am_bJ am_mJ (some (.array .int)) :: am_gw) ({ frames := 3, cells := 1, slots := m0, locals := 150 } : Room) (va_Pc [.ref a, .int (nI m0)] (am_cpP dC dI ty ws sz)) (va_Qr (S := Unit) (fun _ => True) (fun _ q t => va_P (dC, dI) vwCl (ws ++ [(q, .inl (ty 0, m0, .inl (am_ext f c)))]) t.heap ∧ va_D (va_A ws sz) (ws ++ [(q, .inl (ty 0, m0, .inl (am_ext f c)))])) (va_A ws sz)) 1 m0 (va_A ws sz) := by
  refine Met.ofW (cc := am_bJ) (maxL := am_mJ) (ret := some (.array .int)) (by decide) rfl ?_
  intro p e s m args below meth cc s₁ B hml hv
  obtain ⟨rfl, hsz, hP, hK, hD0⟩ := hv
  have hx := B.exec
  have hb := B.bytes
  have hr := B.returns
  have hts0 := atoms_spec (ws := Cond.code am_yJ am_bJ am_mJ (some (.array .int)) :: am_gw) B.pre
  have hts : ∀ w ∈ am_gw, w.before [Value.ref a, .int (nI m0)].toArray s = true := fun w hw => hts0 w (List.mem_cons_of_mem _ hw)
  have hown : s.vm.findClass am_RJ = some m.cls := findClass_of_methodNamed B.named
  have hlocks := B.notSynchronized
  subst hsz
  have hD := hD0.self (sz := s.heap.size)
  generalize hAe : va_A ws s.heap.size = A at hD ⊢
  have hA : ∀ q : Nat, s.heap.size ≤ q → A q := fun q h => by rw [← hAe]; exact Or.inr h
  have hS : va_S A s.heap s.heap [] := va_S.rf
  have hl := lv_entry ([.ref a, .int (nI m0)]) (n := am_mJ) (Nat.le_of_ble_eq_true rfl)
  rw [lg_entry_eq]
  generalize (lg_sl ([.ref a, .int (nI m0)]) ++ List.replicate (am_mJ - (lg_sl ([.ref a, .int (nI m0)])).length) Slot.unset).toArray = ls at hl ⊢
  have hl : lv_has ls am_mJ [(0, .ref a), (1, .int (nI m0))] := hl
  have hmw := am_jw
  simp only [Bool.and_eq_true] at hmw
  obtain ⟨-, -, -, w4, w5, w6, w7, w8, w9⟩ := hmw
  have hxz := am_xzok
  simp only [Bool.and_eq_true] at hxz
  have haz := am_azok
  simp only [Bool.and_eq_true] at haz
  have hmin : Cond.code Lib.Math.min.name Lib.Math.min.code 2 (some .int) ∈ am_gw := List.mem_filter.mpr ⟨List.mem_of_getElem? am_jm, rfl⟩
  have hc31 : c < 2 ^ 31 := by omega
  have hm31 : m0 < 2 ^ 31 := by omega
  refine lv_iload_n hx hb am_dJ_0 rfl (lv_at hl 1 rfl) ?_
  refine lv_aload_n hx hb am_dJ_1 rfl (lv_at hl 0 rfl) ?_
  refine va_alen (v := nI c) hx hb hK hP q0 0 ha rfl rfl am_dJ_2 ?_
  refine lv_icmp_ne (tgt := 14) hx hb am_dJ_3 (by decide) (fun _ => ?_) (fun q => absurd ((nI_eq hm31 hc31).mp q) (by omega))
  refine lv_iload_n hx hb am_dJ_14 rfl (lv_at hl 1 rfl) ?_
  refine va_newa (atype := .int) (ty := .int) (N' := m0) (a0 := (m0, .inl fun _ => 0)) hx hb (hts _ (am_gin haz.1)) rfl hK hP hD hS hA (fun _ => rfl) (nI_pos hm31) (nI_clamp hm31) (by show m0 * 4 ≤ 536870912; omega) (by show 0 + 1 ≤ 1; omega) (by show 0 + m0 ≤ m0; omega) am_dJ_15 (fun q cA H1 hK1 hP hD hS => ?_)
  have hcA : cA = ty 0 := Option.some.inj (Eq.trans (Eq.symm (hK1.2 3 (cA, .int) rfl).2) (hK.2 0 (ty 0, .int) rfl).2)
  subst hcA
  refine lv_astore_n (lv' := [(2, .ref q), (0, .ref a), (1, .int (nI m0))]) hx hb am_dJ_17 rfl hl (by decide) rfl (fun ls hl => ?_)
  have haq : (ws ++ [(q, (.inl (ty 0, m0, .inl fun _ => 0) : va_E))])[q0]? = some (a, .inl (ty 0, c, .inl f)) := by
    rw [List.getElem?_append_left (List.getElem?_eq_some_iff.mp ha).1]; exact ha
  have hqq : (ws ++ [(q, (.inl (ty 0, m0, .inl fun _ => 0) : va_E))])[ws.length]? = some (q, .inl (ty 0, m0, .inl fun _ => 0)) := by
    rw [List.getElem?_append_right (Nat.le_refl _), Nat.sub_self]; rfl
  refine lv_aload_n hx hb am_dJ_18 rfl (lv_at hl 1 rfl) ?_
  refine lv_iconst (v := 0) hx hb am_dJ_19 (by decide) ?_
  refine lv_aload_n hx hb am_dJ_20 rfl (lv_at hl 0 rfl) ?_
  refine lv_iconst (v := 0) hx hb am_dJ_21 (by decide) ?_
  refine lv_aload_n hx hb am_dJ_22 rfl (lv_at hl 1 rfl) ?_
  refine va_alen (v := nI c) hx hb hK hP q0 0 haq rfl rfl am_dJ_23 ?_
  refine lv_iload_n hx hb am_dJ_24 rfl (lv_at hl 2 rfl) ?_
  refine va_mmin hx hb (by rw [hml]; exact hl.1.symm) hown (hts _ (am_gin w4)) (hts _ (am_gin w5)) (hts _ (am_gin hxz.2)) (hts _ hmin) (by show 1 ≤ 3; omega) (by show 4 + 13 ≤ 150; omega) (by show 0 + 1 ≤ 1; omega) (by show 0 + m0 ≤ m0; omega) am_dJ_25 ?_
  rw [if_neg (nI_nlt (Nat.le_of_lt hcm) hm31)]
  refine va_copyi hx hb (by rw [hml]; exact hl.1.symm) hown (hts _ (am_gin w6)) (hts _ (am_gin w7)) (hts _ (am_gin w8)) (hts _ (am_gin w9)) hK hP hD hS q0 ws.length 0 0 haq hqq rfl rfl rfl (by decide) (by decide) (nI_pos hc31) (by rw [am_clamp0, nI_clamp hc31]; omega) (by rw [am_clamp0, nI_clamp hc31]; omega) (fun _ _ => rfl) (by show 1 ≤ 3; omega) (Nat.le_of_ble_eq_true rfl) am_dJ_28 (fun H1 locs1 hP hD hS => ?_)
  rw [am_clamp0, nI_clamp hc31, am_ext_cpy, List.set_append_right _ _ (Nat.le_refl _), Nat.sub_self] at hP hD
  refine lv_aload_n hx hb am_dJ_31 rfl (lv_at hl 0 rfl) ?_
  refine W.eq (g2 := F0 m 32 ls [.ref q]) rfl ?_
  have e1 : 0 + 1 = 1 := rfl
  have e2 : 0 + m0 = m0 := Nat.zero_add m0
  rw [e2]
  exact W.aret (v := .ref q) hx hb hr (Or.inr ⟨_, rfl⟩) (Or.inr ⟨q, rfl⟩) (fun t ht hW => ⟨⟨(), q, rfl, trivial, by rw [ht]; exact hP, by exact hD⟩, hS.F ht⟩) hS.2.2 am_dJ_32 hlocks
/-- a world picked out of another, each cell once -/
theorem am_remap {D : va_G} {cl : List vw_C} {A : Nat → Prop} {ws ws' : va_W} {H : Heap} (σ : Nat → Nat) (hP : va_P D cl ws H) (hD : va_D A ws) (h1 : ∀ i q, ws'[i]? = some q → ws[σ i]? = some q) (h2 : ∀ i j, i < ws'.length → j < ws'.length → σ i = σ j → i = j) : va_P D cl ws' H ∧ va_D A ws' := by
  refine ⟨fun k q hk => hP (σ k) q (h1 k q hk), fun i j p q hi hj hpq => ?_, fun k q hk => hD.2 (σ k) q (h1 k q hk)⟩
  exact h2 i j (List.getElem?_eq_some_iff.mp hi).1 (List.getElem?_eq_some_iff.mp hj).1 (hD.1 (σ i) (σ j) p q (h1 i p hi) (h1 j q hj) hpq)
abbrev am_gc (ty : Nat → ClassId) (c q : Nat) (f : Nat → Int32) : Nat × va_E := (q, .inl (ty 0, c * 2, .inl (am_ext f c)))
section Grow
variable {p : Program} {l : Launch} {e : Env} {R : Room} {s : State} {m : MethodId} {args : Array Value} {below : List Frame} {meth : Method} {cc : Code} {Q : State → Prop}
variable {A : Nat → Prop} {dC : Nat → ClassId} {dI : Nat → Nat → Nat} {ty : Nat → ClassId}
set_option maxHeartbeats 4000000 in
/-- one row of the five -/
theorem am_g_round {pc j i0 idx zz : Nat} {ws : va_W} {a1 x c : Nat} {f : Nat → Int32} {fs : List Value} {ls : Array Slot} {H : Heap} {locs : List Loc} {k n : Nat}
    (hx : p.tables.exec = Jvm.exec) (hb : cc.code = am_b am_G) (hml : cc.maxLocals = am_ml am_G) (hown : s.vm.findClass (am_own am_G) = some m.cls) (hts : ∀ w ∈ am_gw, w.before args s = true) (hK : va_K (dC, dI) vwCl (am_tys ty) s) (hA : ∀ q, s.heap.size ≤ q → A q)
    (hP : va_P (dC, dI) vwCl ws H) (hD : va_D A ws) (hS : va_S A s.heap H locs) (hl : lv_has ls (am_ml am_G) [(1, .int (nI (c * 2))), (0, .ref a1)]) (hc0 : 0 < c) (hc : c * 2 ≤ 65536)
    (h1 : ws[1]? = some (a1, .inr (3, fs))) (hj : j < 5) (hfl : fs.length = 8) (hf : fs[j]? = some (.ref x)) (hx0 : ws[i0]? = some (x, .inl (ty 0, c, .inl f))) (hw : am_pl zz (.fieldLink (am_own am_G) idx (am_T 3 j).1 (am_T 3 j).2.1 (am_T 3 j).2.2.1) = true)
    (d0 : decode (am_b am_G) pc = .ok (.aload_n 0, 1)) (d1 : decode (am_b am_G) (pc + 1) = .ok (.aload_n 0, 1)) (d2 : decode (am_b am_G) (pc + 2) = .ok (.getfield idx, 3)) (d5 : decode (am_b am_G) (pc + 5) = .ok (.iload_n 1, 1)) (d6 : decode (am_b am_G) (pc + 6) = .ok (.invokestatic 78, 3)) (d9 : decode (am_b am_G) (pc + 9) = .ok (.putfield idx, 3))
    (hRf : 4 ≤ R.frames) (hRl : 200 ≤ R.locals) (hRc : k + 1 ≤ R.cells ∧ n + c * 2 ≤ R.slots)
    (kk : ∀ (q : Nat) (H1 : Heap) (locs1 : List Loc), va_P (dC, dI) vwCl ((ws ++ [am_gc ty c q f]).set 1 (a1, .inr (3, fs.set j (.ref q)))) H1 → va_D A ((ws ++ [am_gc ty c q f]).set 1 (a1, .inr (3, fs.set j (.ref q)))) → va_S A s.heap H1 locs1 → W p l e R s m args below meth cc H1 locs1 (k + 1) (n + c * 2) Q (F0 m (pc + 12) ls [])) : W p l e R s m args below meth cc H locs k n Q (F0 m pc ls []) := by
  have hmw := am_jw
  simp only [Bool.and_eq_true] at hmw
  obtain ⟨w1, w2, w3, -⟩ := hmw
  have hj8 : j < am_N 3 := Nat.lt_of_lt_of_le hj (by decide)
  have hlin := hts _ (am_gin hw)
  refine lv_aload_n hx hb d0 rfl (lv_at hl 1 rfl) ?_
  refine lv_aload_n hx hb d1 rfl (lv_at hl 1 rfl) ?_
  refine va_get (D := (dC, dI)) (ci := 3) (v := .ref x) (C := am_C 3) (T := am_T 3) (N := am_N 3) hx hb hts (am_uin 3 (by decide)) hown hK hP 1 h1 rfl j hj8 hlin (fun _ h9 => h9) hf d2 ?_
  refine lv_iload_n hx hb d5 rfl (lv_at hl 0 rfl) ?_
  have hfree : ∀ q, va_A ws H.size q → A q := by
    intro q hq
    rcases hq with ⟨j9, e9, h9⟩ | h9
    · exact hD.2 j9 (q, e9) h9
    · exact hA q (Nat.le_trans hS.1 h9)
  refine va_callr (va_runS (As := [.ref x, .int (nI (c * 2))]) (rest := [.ref a1]) ⟨hx, hb, hml, hown, hts⟩ (am_copyOf l (dC := dC) (dI := dI) (sz := H.size) hx0 (m0 := c * 2) (by omega) hc) ⟨callB_of 2 hts (am_GI fun w hw => (List.mem_cons.mp hw).elim (fun e => e ▸ am_jin) id) rfl rfl rfl (hts _ (am_gin w3)) (hts _ (am_gin w1)) (by decide +kernel) ⟨by show 3 + 1 ≤ R.frames; omega, by show 8 + (am_mJ + 11) + 150 ≤ R.locals; have : am_mJ = 3 := rfl; omega⟩, hts _ (am_gin w2)⟩ ⟨am_cpblind, fun U hU hW => ⟨rfl, by rw [hU], by rw [hU]; exact hP, va_K.moved hW.alike hK, hD.weaken (fun _ _ _ _ => trivial)⟩⟩ rfl rfl hl.1 rfl (lv_room (Nat.le_of_ble_eq_true rfl)) d6 hRc) hS (fun q _ h => hfree q h) hfree (fun u q t H1 locs1 ht hvm hw hB hz1 hk1 hS => ?_)
  obtain ⟨hP1, hD1⟩ := hB
  rw [ht] at hP1
  have hD1 : va_D A (ws ++ [am_gc ty c q f]) := hD1.weaken fun _ q9 _ h9 => hfree q9.1 h9
  have h1' : (ws ++ [am_gc ty c q f])[1]? = some (a1, .inr (3, fs)) := by
    rw [List.getElem?_append_left (List.getElem?_eq_some_iff.mp h1).1]; exact h1
  have hfin : (am_T 3 j).2.2.2 = false := by
    match j, hj with
    | 0, _ => rfl
    | 1, _ => rfl
    | 2, _ => rfl
    | 3, _ => rfl
    | 4, _ => rfl
  have hty : am_ty 3 j = .array .int := by
    match j, hj with
    | 0, _ => rfl
    | 1, _ => rfl
    | 2, _ => rfl
    | 3, _ => rfl
    | 4, _ => rfl
  exact va_put (D := (dC, dI)) (ci := 3) (v := .ref q) (ty := am_ty 3 j) (C := am_C 3) (T := am_T 3) (N := am_N 3) hx hb hts (am_uin 3 (by decide)) (am_ty 3) (am_tyok 3 (by decide)) (am_nmok 3 (by decide)) hown hK hP1 hD1 hS 1 h1' rfl j hj8 hlin (fun _ h9 => h9) hfin (am_tyok 3 (by decide) j hj8) (by rw [hty]; rfl) (by rw [hty]; rfl) (by omega) d9 (fun H2 locs2 hP hD hS => kk q H2 locs2 hP hD hS)
theorem am_setapp {ws : va_W} {o o' : Nat × va_E} {cs : va_W} {g : Nat × va_E} (h : 1 < ws.length) : (((ws ++ cs).set 1 o) ++ [g]).set 1 o' = (ws ++ (cs ++ [g])).set 1 o' := by
  have h1 : 1 < (ws ++ cs).length := by rw [List.length_append]; omega
  rw [List.set_append_left _ _ (by rw [List.length_set]; exact h1), List.set_set, ← List.append_assoc, List.set_append_left _ _ h1]
set_option maxHeartbeats 4000000 in
theorem am_growbody {d c k n : Nat} {f2 f3 f4 f5 f6 : Nat → Int32} {v5 v6 v7 : Int32} {h0 : am_E} {t : List am_E} {ad : Nat → Nat} (hc0 : 0 < c) (hc : c * 2 ≤ 65536) (hn0 : am_nosoft h0 = true) (hnt : t.all am_nosoft = true) {h h' : List am_E} (hh : h = h0 :: .inr (3, [.ref 2, .ref 3, .ref 4, .ref 5, .ref 6, .int v5, .int v6, .int v7]) :: .inl (0, c, .inl f2) :: .inl (0, c, .inl f3) :: .inl (0, c, .inl f4) :: .inl (0, c, .inl f5) :: .inl (0, c, .inl f6) :: t)
    (hh' : h' = h0 :: .inr (3, [.ref 2, .ref 3, .ref 4, .ref 5, .ref 6, .int v5, .int v6, .int v7]) :: .inl (0, c * 2, .inl (am_ext f2 c)) :: .inl (0, c * 2, .inl (am_ext f3 c)) :: .inl (0, c * 2, .inl (am_ext f4 c)) :: .inl (0, c * 2, .inl (am_ext f5 c)) :: .inl (0, c * 2, .inl (am_ext f6 c)) :: t)
    (hx : p.tables.exec = Jvm.exec) (hb : cc.code = am_b am_G) (hr : meth.sig.returnType = none) (hts0 : ∀ w ∈ am_w am_G, w.before args s = true) (hnm : s.vm.findClass (am_y am_G).cls = some m.cls) (hlk : meth.locks = false) (hml : cc.maxLocals = am_ml am_G) (hpre : va_Pc (([.ref 1] : List Value).map (am_cv ad)) (am_Pre dC dI ty ad h s.heap.size) args s) :
    W p l e (am_rm (d + 1) (k + 5 - k) (n + 5 * (c * 2) - n)) s m args below meth cc s.heap [] 0 0 (vx_MQ below (am_Qc dC dI ty ad h s.heap.size (.inl none, h', k + 5, n + 5 * (c * 2))) (am_XC dC dI ty ad h s.heap.size (.inl none, h', k + 5, n + 5 * (c * 2))) args s (k + 5 - k) (n + 5 * (c * 2) - n) (va_A (am_ws ty ad h) s.heap.size)) (entryFrame m args (am_ml am_G)) := by
  obtain ⟨rfl, -, hP, hK, hD, -⟩ := hpre
  have hown : s.vm.findClass (am_own am_G) = some m.cls := hnm
  have hts : ∀ w ∈ am_gw, w.before (([.ref 1] : List Value).map (am_cv ad)).toArray s = true := fun w hw => hts0 w (List.mem_cons_of_mem _ hw)
  generalize hAe : va_A (am_ws ty ad h) s.heap.size = A
  have hA : ∀ q : Nat, s.heap.size ≤ q → A q := fun q h => by rw [← hAe]; exact Or.inr h
  have hD : va_D A (am_ws ty ad h) := by rw [← hAe]; exact hD.self
  have hS : va_S A s.heap s.heap [] := va_S.rf
  have hls := lv_entry (([.ref 1] : List Value).map (am_cv ad)) (n := am_ml am_G) (Nat.le_of_ble_eq_true rfl)
  rw [lg_entry_eq]
  generalize (lg_sl (([.ref 1] : List Value).map (am_cv ad)) ++ List.replicate (am_ml am_G - (lg_sl (([.ref 1] : List Value).map (am_cv ad))).length) Slot.unset).toArray = ls at hls ⊢
  have hl : lv_has ls (am_ml am_G) [(0, .ref (ad 1))] := hls
  have hg1 : h[1]? = some (.inr (3, [.ref 2, .ref 3, .ref 4, .ref 5, .ref 6, .int v5, .int v6, .int v7])) := by rw [hh]; rfl
  have hg2 : h[2]? = some (.inl (0, c, .inl f2)) := by rw [hh]; rfl
  have hg3 : h[3]? = some (.inl (0, c, .inl f3)) := by rw [hh]; rfl
  have hg4 : h[4]? = some (.inl (0, c, .inl f4)) := by rw [hh]; rfl
  have hg5 : h[5]? = some (.inl (0, c, .inl f5)) := by rw [hh]; rfl
  have hg6 : h[6]? = some (.inl (0, c, .inl f6)) := by rw [hh]; rfl
  have hlen : h.length = t.length + 7 := by rw [hh]; rfl
  have hwl : (am_ws ty ad h).length = t.length + 7 := by unfold am_ws; rw [List.length_mapIdx, hlen]
  have w1 := am_ws_at (ty := ty) (ad := ad) hg1
  have w2 := am_ws_at (ty := ty) (ad := ad) hg2
  have w3 := am_ws_at (ty := ty) (ad := ad) hg3
  have w4 := am_ws_at (ty := ty) (ad := ad) hg4
  have w5 := am_ws_at (ty := ty) (ad := ad) hg5
  have w6 := am_ws_at (ty := ty) (ad := ad) hg6
  have hc31 : c * 2 < 2 ^ 31 := by omega
  refine lv_aload_n hx hb am_dG_0 rfl (lv_at hl 0 rfl) ?_
  refine va_get (D := (dC, dI)) (ci := 3) (v := .ref (ad 2)) (C := am_C 3) (T := am_T 3) (N := am_N 3) hx hb hts (am_uin 3 (by decide)) hown hK hP 1 w1 rfl 0 (by decide) (hts _ (am_gin am_wG0)) (fun _ h9 => h9) rfl am_dG_1 ?_
  refine va_alen (v := nI c) hx hb hK hP 2 0 w2 rfl rfl am_dG_4 ?_
  refine lv_iconst (v := nI 2) hx hb am_dG_5 (by decide) ?_
  refine lv_imul hx hb am_dG_6 ?_
  rw [pk_mul]
  refine lv_istore_n (lv' := [(1, .int (nI (c * 2))), (0, .ref (ad 1))]) hx hb am_dG_7 rfl hl (by decide) rfl (fun ls hl => ?_)
  refine lv_iload_n hx hb am_dG_8 rfl (lv_at hl 0 rfl) ?_
  refine lv_ldc hx hb hown (hts _ (am_gin am_wGc)) am_dG_9 ?_
  refine lv_icmp_le (tgt := 24) hx hb am_dG_11 (by decide) (fun _ => ?_) (fun q => absurd (show nI (c * 2) ≤ nI 65536 from (nI_leI hc31 (by decide)).mpr hc) q)
  have e5 : k + 5 - k = 5 := by omega
  have eN : n + 5 * (c * 2) - n = 5 * (c * 2) := by omega
  rw [e5, eN]
  have hRf : 4 ≤ (am_rm (d + 1) 5 (5 * (c * 2))).frames := by show 4 ≤ d + 1 + 8; omega
  have hRl : 200 ≤ (am_rm (d + 1) 5 (5 * (c * 2))).locals := by show 200 ≤ 60 * (d + 1) + 200; omega
  refine am_g_round (pc := 24) (j := 0) (i0 := 2) hx hb hml hown hts hK hA hP hD hS hl hc0 hc w1 (by decide) rfl rfl w2 am_wG0 am_dG_24 am_dG_25 am_dG_26 am_dG_29 am_dG_30 am_dG_33 hRf hRl ⟨by show 0 + 1 ≤ 5; omega, by show 0 + c * 2 ≤ 5 * (c * 2); omega⟩ (fun q1 H1 locs1 hP hD hS => ?_)
  have lk : ∀ (cs : va_W) (o : Nat × va_E) (i : Nat) (q : Nat × va_E), (am_ws ty ad h)[i]? = some q → i ≠ 1 → ((am_ws ty ad h ++ cs).set 1 o)[i]? = some q := by
    intro cs o i q hq hi
    rw [List.getElem?_set_ne (fun z => hi z.symm), List.getElem?_append_left (List.getElem?_eq_some_iff.mp hq).1]
    exact hq
  have lk1 : ∀ (cs : va_W) (o : Nat × va_E), ((am_ws ty ad h ++ cs).set 1 o)[1]? = some o := by
    intro cs o
    rw [List.getElem?_set_self (by rw [List.length_append]; omega)]
  refine am_g_round (pc := 36) (j := 1) (i0 := 3) hx hb hml hown hts hK hA hP hD hS hl hc0 hc (lk1 _ _) (by decide) rfl rfl (lk _ _ 3 _ w3 (by decide)) am_wG1 am_dG_36 am_dG_37 am_dG_38 am_dG_41 am_dG_42 am_dG_45 hRf hRl ⟨by show 0 + 1 + 1 ≤ 5; omega, by show 0 + c * 2 + c * 2 ≤ 5 * (c * 2); omega⟩ (fun q2 H1 locs1 hP hD hS => ?_)
  rw [am_setapp (by omega)] at hP hD
  refine am_g_round (pc := 48) (j := 2) (i0 := 4) hx hb hml hown hts hK hA hP hD hS hl hc0 hc (lk1 _ _) (by decide) rfl rfl (lk _ _ 4 _ w4 (by decide)) am_wG2 am_dG_48 am_dG_49 am_dG_50 am_dG_53 am_dG_54 am_dG_57 hRf hRl ⟨by show 0 + 1 + 1 + 1 ≤ 5; omega, by show 0 + c * 2 + c * 2 + c * 2 ≤ 5 * (c * 2); omega⟩ (fun q3 H1 locs1 hP hD hS => ?_)
  rw [am_setapp (by omega)] at hP hD
  refine am_g_round (pc := 60) (j := 3) (i0 := 5) hx hb hml hown hts hK hA hP hD hS hl hc0 hc (lk1 _ _) (by decide) rfl rfl (lk _ _ 5 _ w5 (by decide)) am_wG3 am_dG_60 am_dG_61 am_dG_62 am_dG_65 am_dG_66 am_dG_69 hRf hRl ⟨by show 0 + 1 + 1 + 1 + 1 ≤ 5; omega, by show 0 + c * 2 + c * 2 + c * 2 + c * 2 ≤ 5 * (c * 2); omega⟩ (fun q4 H1 locs1 hP hD hS => ?_)
  rw [am_setapp (by omega)] at hP hD
  refine am_g_round (pc := 72) (j := 4) (i0 := 6) hx hb hml hown hts hK hA hP hD hS hl hc0 hc (lk1 _ _) (by decide) rfl rfl (lk _ _ 6 _ w6 (by decide)) am_wG4 am_dG_72 am_dG_73 am_dG_74 am_dG_77 am_dG_78 am_dG_81 hRf hRl ⟨by show 0 + 1 + 1 + 1 + 1 + 1 ≤ 5; omega, by show 0 + c * 2 + c * 2 + c * 2 + c * 2 + c * 2 ≤ 5 * (c * 2); omega⟩ (fun q5 H1 locs1 hP hD hS => ?_)
  rw [am_setapp (by omega)] at hP hD
  have hw5 : (am_ws ty ad h ++ ([am_gc ty c q1 f2] ++ [am_gc ty c q2 f3] ++ [am_gc ty c q3 f4] ++ [am_gc ty c q4 f5] ++ [am_gc ty c q5 f6])) = am_ws ty ad h ++ [am_gc ty c q1 f2, am_gc ty c q2 f3, am_gc ty c q3 f4, am_gc ty c q4 f5, am_gc ty c q5 f6] := rfl
  obtain ⟨ad', had⟩ : ∃ z : Nat → Nat, z = fun j => match j with
    | 2 => q1
    | 3 => q2
    | 4 => q3
    | 5 => q4
    | 6 => q5
    | j => ad j := ⟨_, rfl⟩
  have hag : am_ag h.length ad ad' := by
    intro j _ hj
    subst had
    match j, hj with
    | 0, _ => rfl
    | 1, _ => rfl
    | 2, hj => cases hj
    | 3, hj => cases hj
    | 4, hj => cases hj
    | 5, hj => cases hj
    | 6, hj => cases hj
    | j + 7, _ => rfl
  have hsoft : ∀ j, am_soft j = false → ad' j = ad j := by
    intro j hj
    subst had
    match j, hj with
    | 0, _ => rfl
    | 1, _ => rfl
    | 2, hj => cases hj
    | 3, hj => cases hj
    | 4, hj => cases hj
    | 5, hj => cases hj
    | 6, hj => cases hj
    | j + 7, _ => rfl
  have hce : ∀ e9 : am_E, am_nosoft e9 = true → am_ce ty ad' e9 = am_ce ty ad e9 := by
    intro e9 h9
    obtain ⟨t9, a9⟩ | ⟨c9, fs9⟩ := e9
    · rfl
    · show Sum.inr (c9, fs9.map (am_cv ad')) = Sum.inr (c9, fs9.map (am_cv ad))
      rw [List.map_congr_left fun v hv => ?_]
      have h8 : am_nosv v = true := List.all_eq_true.mp h9 v hv
      cases v with
      | ref z9 =>
        simp only [am_nosv, Bool.not_eq_true'] at h8
        show Value.ref (ad' z9) = Value.ref (ad z9)
        rw [hsoft z9 h8]
      | _ => rfl
  obtain ⟨hP', hD'⟩ := am_remap (ws' := am_ws ty ad' h') (fun i => if 2 ≤ i ∧ i ≤ 6 then t.length + 7 + (i - 2) else i) hP hD (by
    intro i q hq
    have hq9 : (h'[i]?).map (fun e9 => (ad' i, am_ce ty ad' e9)) = some q := by
      unfold am_ws at hq
      rwa [List.getElem?_mapIdx] at hq
    by_cases hi : 2 ≤ i ∧ i ≤ 6
    · rw [if_pos hi, List.getElem?_set_ne (by omega), List.getElem?_append_right (by omega), hwl]
      rw [show t.length + 7 + (i - 2) - (t.length + 7) = i - 2 by omega]
      subst had
      match i, hi, hq9 with
      | 2, _, hq9 => rw [hh'] at hq9; rw [← hq9]; rfl
      | 3, _, hq9 => rw [hh'] at hq9; rw [← hq9]; rfl
      | 4, _, hq9 => rw [hh'] at hq9; rw [← hq9]; rfl
      | 5, _, hq9 => rw [hh'] at hq9; rw [← hq9]; rfl
      | 6, _, hq9 => rw [hh'] at hq9; rw [← hq9]; rfl
      | i + 7, hi, _ => exact absurd hi.2 (by omega)
      | 0, hi, _ => exact absurd hi.1 (by omega)
      | 1, hi, _ => exact absurd hi.1 (by omega)
    · rw [if_neg hi]
      by_cases h1 : i = 1
      · subst h1
        rw [List.getElem?_set_self (by rw [List.length_append]; omega), ← hq9, hh']
        subst had
        rfl
      · rw [List.getElem?_set_ne (fun z => h1 z.symm)]
        have hold : h'[i]? = h[i]? := by
          rw [hh, hh']
          match i, hi, h1 with
          | 0, _, _ => rfl
          | 1, _, h1 => exact absurd rfl h1
          | 2, hi, _ => exact absurd ⟨by omega, by omega⟩ hi
          | 3, hi, _ => exact absurd ⟨by omega, by omega⟩ hi
          | 4, hi, _ => exact absurd ⟨by omega, by omega⟩ hi
          | 5, hi, _ => exact absurd ⟨by omega, by omega⟩ hi
          | 6, hi, _ => exact absurd ⟨by omega, by omega⟩ hi
          | i + 7, _, _ => rfl
        have hns : ∀ e9, h[i]? = some e9 → am_nosoft e9 = true := by
          rw [hh]
          match i, hi, h1 with
          | 0, _, _ => intro e9 h9; cases h9; exact hn0
          | 1, _, h1 => exact absurd rfl h1
          | 2, hi, _ => exact absurd ⟨by omega, by omega⟩ hi
          | 3, hi, _ => exact absurd ⟨by omega, by omega⟩ hi
          | 4, hi, _ => exact absurd ⟨by omega, by omega⟩ hi
          | 5, hi, _ => exact absurd ⟨by omega, by omega⟩ hi
          | 6, hi, _ => exact absurd ⟨by omega, by omega⟩ hi
          | i + 7, _, _ => intro e9 h9; exact List.all_eq_true.mp hnt e9 (List.mem_of_getElem? h9)
        rw [hold] at hq9
        cases h9 : h[i]? with
        | none => rw [h9] at hq9; cases hq9
        | some e9 =>
          rw [h9] at hq9
          cases hq9
          have hlt := (List.getElem?_eq_some_iff.mp h9).1
          rw [List.getElem?_append_left (by omega), am_ws_at h9]
          show some (ad i, am_ce ty ad e9) = some (ad' i, am_ce ty ad' e9)
          rw [hce e9 (hns e9 h9), hsoft i (by
            match i, hi, h1 with
            | 0, _, _ => rfl
            | 1, _, h1 => exact absurd rfl h1
            | 2, hi, _ => exact absurd ⟨by omega, by omega⟩ hi
            | 3, hi, _ => exact absurd ⟨by omega, by omega⟩ hi
            | 4, hi, _ => exact absurd ⟨by omega, by omega⟩ hi
            | 5, hi, _ => exact absurd ⟨by omega, by omega⟩ hi
            | 6, hi, _ => exact absurd ⟨by omega, by omega⟩ hi
            | i + 7, _, _ => rfl)]) (by
    intro i j hi hj hij
    have hl' : (am_ws ty ad' h').length = t.length + 7 := by unfold am_ws; rw [List.length_mapIdx, hh']; rfl
    rw [hl'] at hi hj
    split at hij <;> split at hij <;> omega)
  have hl9 : h'.length = h.length := by rw [hh, hh']; rfl
  refine W.widen (k := 5) (n := 5 * (c * 2)) (by omega) (by omega) ?_
  exact vx_ret (W.vret hx hb hr (fun t9 ht hW => ⟨⟨none, ad', rfl, rfl, hag, by rw [hl9]; exact Nat.le_refl _, by rw [ht]; exact hP', by rw [hAe]; exact hD'⟩, by rw [hAe]; exact hS.F ht⟩) hS.2.2 am_dG_84 hlk)
end Grow
end
section
/-! ===== every call of the run, at every depth ===== -/
theorem am_sound (l : Launch) (hl : l.stackTraces = false) : ∀ d : Nat, am_OK l d (am_Call d)
  | 0 => fun _ _ _ _ _ _ h => h.elim
  | d + 1 => by
    have hOK := am_sound l hl d
    intro mid As h k n r hc
    obtain ⟨hM, hmid, hnr, hla, ⟨rfl, hg⟩ | ⟨hG, N, hEx⟩⟩ := hc
    · obtain ⟨c, f2, f3, f4, f5, f6, v5, v6, v7, h0, t, rfl, hc0, hc, hn0, hnt, hh, rfl⟩ := hg
      refine ⟨hM, Nat.le_add_right _ _, Nat.le_add_right _ _, by rw [hh]; exact Nat.le_refl _, (fun v hv => by cases hv), (fun e he => nomatch he), fun ad dC dI ty sz => ?_⟩
      refine vx_ofW (cc := am_b am_G) (maxL := am_ml am_G) (ret := none) (by decide +kernel) rfl ?_
      intro p e s m args below meth cc s₁ B hml _ hv
      have hsz := hv.2.1
      subst hsz
      exact am_growbody hc0 hc hn0 hnt hh rfl B.exec B.bytes B.returns (atoms_spec (ws := am_w am_G) B.pre) (findClass_of_methodNamed B.named) B.notSynchronized hml hv
    · obtain ⟨o1, o2, o3, o4, o5⟩ := am_Ex_out hOK N _ r hEx
      refine ⟨hM, o1, o2, o3, o4, o5, fun ad dC dI ty sz => ?_⟩
      obtain ⟨-, -, -, -, hpl⟩ := am_mok_of (am_mk mid hmid hM)
      cases hhh : am_hh mid with
      | nil =>
        have hw' : am_w mid = Cond.code (am_y mid) (am_b mid) (am_ml mid) (am_rt mid) :: am_gw := by unfold am_w am_cw; rw [hhh]
        refine vx_ofW (cc := am_b mid) (maxL := am_ml mid) (ret := am_rt mid) hpl hw' ?_
        intro p e s m args below meth cc s₁ B hml hT hv
        have hsz := hv.2.1
        subst hsz
        refine am_body hl hM hmid hnr hla hOK hEx B.exec B.bytes B.returns (atoms_spec (ws := am_w mid) B.pre) (findClass_of_methodNamed B.named) (name_of_methodNamed B.named B.method).1 B.notSynchronized hml ?_ hv
        rw [hhh]
        exact List.eq_nil_iff_forall_not_mem.mpr hT
      | cons q0 qr =>
        have hw' : am_w mid = Cond.codeWith (am_y mid) (am_b mid) (am_ml mid) (am_rt mid) (q0 :: qr) :: am_gw := by unfold am_w am_cw; rw [hhh]
        refine vx_ofWH (cc := am_b mid) (maxL := am_ml mid) (ret := am_rt mid) (hh := q0 :: qr) hpl hw' ?_
        intro p e s m args below meth cc s₁ B hml hv
        have hsz := hv.2.1
        subst hsz
        have hts := atoms_spec (ws := am_w mid) B.pre
        refine am_body hl hM hmid hnr hla hOK hEx B.exec B.bytes B.returns hts (findClass_of_methodNamed B.named) (name_of_methodNamed B.named B.method).1 B.notSynchronized hml ?_ hv
        rw [hhh]
        exact vx_table (x := am_y mid) B (hts _ (by rw [hw']; exact List.mem_cons_self))
end
section
/-! THE CLAIM OUT OF ONE WALK OF THE LAW'S BODY. Your part is whole_start (and what it stands on); all else here is the same for every law, but numbers. -/
def R_law : String := "TermJudgeLaw"
def lw_P (b : Addr) (xs : List Int32) (args : Array Value) (s : State) : Prop := args = #[.ref b] ∧ s.IntsAt b xs ∧ xs.length ≤ 4 ∧ (Jvm.Cond.and given_1 narrow_1).before args s = true
def lw_Q (_ : Array Value) (s : State) (o : Outcome) (t : State) : Prop := o = .returned (some (.int 1)) ∧ Framed s o t [] 600002 7302232
def lw_Z (below : List Frame) (a : Array Value) (s : State) : State → Prop := fun t => ∃ o, t.status = .running ∧ Ended t below o ∧ lw_Q a s o t
/-- the law's own end, with 1 on the stack, nothing written that was there before, its room as the claim has it -/
theorem lw_ret {p : Program} {l : Launch} {e : Env} {s : State} {m : MethodId} {below : List Frame} {meth : Method} {c : Code} {b : Nat} (hx : p.tables.exec = Jvm.exec) (hb : c.code = code) (hr : meth.sig.returnType = ret) (hlocks : meth.locks = false) {pc : Nat} {H : Heap} {ls : Array Slot} (hdg : decode code pc = .ok (.ireturn, 1)) : W p l e room_1 s m #[Value.ref b] below meth c H [] 600002 7302232 (lw_Z below #[Value.ref b] s) (F0 m pc ls [.int 1]) := by
  intro T hT X
  obtain ⟨fs, hret, hrun, hended, hW, hframe⟩ := X.leave (v := some (.int 1)) (hlocks := hlocks) (fun h => by rw [hr] at h; cases h)
  have hmeth' : T.vm.method? m = some meth := X.method'
  refine ⟨T.setFrames fs, ?_, .returned (some (.int 1)), hrun, hended, rfl, ⟨_, rfl⟩, hW, hframe⟩
  jvm_step X.here [X.here.top, hx, hb, hdg, hmeth', hr, ret, narrow_b1]
  (try refine ⟨rfl, ?_⟩); (try refine ⟨rfl, ?_⟩)
  first | (intro acts; rw [hret _ acts rfl rfl rfl]) | rw [hret _ _ rfl rfl rfl]
  exact Steps.refl _
/-- what holds at the law's entry: the machine, the code, the tables' words (any of lw_tbl by 'hts w (by decide +kernel)'), the script of L ints xs at the cell b, what the Statement gives of the start (any of its parts by flat_of_before) -/
def lw_At (p : Program) (s : State) (m : MethodId) (meth : Method) (c : Code) (b L : Nat) (xs : Nat → Int32) : Prop :=
  p.tables.exec = Jvm.exec ∧ c.code = code ∧ meth.sig.returnType = ret ∧ c.maxLocals = 7 ∧ s.vm.findClass R_law = some m.cls ∧ (∀ w ∈ lw_tbl, w.before #[Value.ref b] s = true) ∧ va_X b L xs s s.heap ∧ b < s.heap.size ∧ meth.locks = false ∧ (Jvm.Cond.and given_1 narrow_1).before #[Value.ref b] s = true ∧ c.exceptionTable.toList = []

theorem am_flags (l : Launch) (hflags : l.flags = flags0) : l.stackTraces = false := by
  unfold Launch.stackTraces
  rw [hflags]
  decide +kernel
theorem am_gn : ∀ w ∈ ([.isRef (.static Bundle.tN "UNASSIGNED_STACK" Bundle.steD), .isRef (.static Bundle.tN "SUPPRESSED_SENTINEL" Bundle.listD)] ++ am_thr.map (fun t => Cond.exactly (.string (am_own t.1) t.2.2.2.1) "java/lang/String") ++ am_ncs.map (fun q => Cond.not (.castable q.1 q.2)) : List Cond), w ∈ flatC (Jvm.Cond.and given_1 narrow_1) := by decide +kernel
theorem am_gt : ∀ w ∈ ([.laysStatic Bundle.tN "UNASSIGNED_STACK" Bundle.steD, .laysStatic Bundle.tN "SUPPRESSED_SENTINEL" Bundle.listD, .initialized Bundle.tN] ++ am_thr.map (fun t => Cond.stringRef (am_own t.1) t.2.2.2.1 t.2.2.2.2.2.2.1) : List Cond), w ∈ lw_tbl := by decide +kernel
theorem am_known {args : Array Value} {s : State} (hts : ∀ w ∈ lw_tbl, w.before args s = true) : ∃ (dC : Nat → ClassId) (dI : Nat → Nat → Nat) (ty : Nat → ClassId), va_K (dC, dI) vwCl (am_tys ty) s := by
  have hgw : ∀ w ∈ am_gw, w.before args s = true := fun w hw => hts w (List.mem_filter.mp hw).1
  have h1 : ∀ k, ∃ (cC : ClassId) (iS : Nat → Nat), k < 7 → u_Kn s (am_C k) (am_T k) (am_N k) cC iS := by
    intro k
    by_cases hk : k < 7
    · obtain ⟨o1, -, -⟩ := am_ok k hk
      simp only [Bool.and_eq_true] at o1
      obtain ⟨cC, iS, h⟩ := u_known (C := am_C k) (T := am_T k) (N := am_N k) hgw (am_uin k hk) (hgw _ (am_gin o1.1))
      exact ⟨cC, iS, fun _ => h⟩
    · exact ⟨0, fun _ => 0, fun h => absurd h hk⟩
  have h2 : ∀ ft : FieldType, (Cond.arrayClass ft).before args s = true → ∃ cA : ClassId, ArrOfT s cA ft ∧ s.vm.findClass ("[" ++ ft.toString) = some cA := by
    intro ft h
    obtain ⟨c, k, comp, g1, g2, g3⟩ := Cond.arrayClass_spec h
    exact ⟨c, fun n z => ⟨fun k h => (by cases h), k, g2, comp, g3⟩, g1⟩
  have haz := am_azok
  simp only [Bool.and_eq_true] at haz
  obtain ⟨t0, a0, b0⟩ := h2 .int (hgw _ (am_gin haz.1))
  obtain ⟨t1, a1, b1⟩ := h2 .boolean (hgw _ (am_gin haz.2.1))
  obtain ⟨t2, a2, b2⟩ := h2 .long (hgw _ (am_gin haz.2.2))
  refine ⟨fun k => Classical.choose (h1 k), fun k => Classical.choose (Classical.choose_spec (h1 k)), fun k => match k with | 0 => t0 | 1 => t1 | _ => t2, fun k q hq => ?_, fun k q hq => ?_⟩
  · have hk : k < 7 := (List.getElem?_eq_some_iff.mp hq).1
    rw [am_vw k hk] at hq
    cases hq
    exact Classical.choose_spec (Classical.choose_spec (h1 k)) hk
  · match k, hq with
    | 0, hq => cases hq; exact ⟨a0, b0⟩
    | 1, hq => cases hq; exact ⟨a1, b1⟩
    | 2, hq => cases hq; exact ⟨a2, b2⟩
    | k + 3, hq => simp [am_tys] at hq
theorem am_X0 {args : Array Value} {s : State} {A : Nat → Prop} (hts : ∀ w ∈ lw_tbl, w.before args s = true) (hgv : (Jvm.Cond.and given_1 narrow_1).before args s = true) (hA : ∀ a : Nat, a < s.heap.size → ¬ A a) : am_X A s s.heap := by
  have hf := flat_of_before _ hgv
  have h1 : ∀ w ∈ ([.isRef (.static Bundle.tN "UNASSIGNED_STACK" Bundle.steD), .isRef (.static Bundle.tN "SUPPRESSED_SENTINEL" Bundle.listD)] ++ am_thr.map (fun t => Cond.exactly (.string (am_own t.1) t.2.2.2.1) "java/lang/String") ++ am_ncs.map (fun q => Cond.not (.castable q.1 q.2)) : List Cond), w.before args s = true := fun w hw => hf w (am_gn w hw)
  have h2 : ∀ w ∈ ([.laysStatic Bundle.tN "UNASSIGNED_STACK" Bundle.steD, .laysStatic Bundle.tN "SUPPRESSED_SENTINEL" Bundle.listD, .initialized Bundle.tN] ++ am_thr.map (fun t => Cond.stringRef (am_own t.1) t.2.2.2.1 t.2.2.2.2.2.2.1) : List Cond), w.before args s = true := fun w hw => hts w (am_gt w hw)
  refine ⟨vx_Zqof (h2 _ (by simp)) (h2 _ (by simp)) (h1 _ (by simp)) hA, vx_Zqof (h2 _ (by simp)) (h2 _ (by simp)) (h1 _ (by simp)) hA, fun w hw => ?_, fun t ht => ?_, fun q hq => ?_⟩
  · exact va_Nw.of (am_nw_tab hw) (hts w (List.mem_filter.mp hw).1)
  · obtain ⟨a, c9, cA, kA, q1, -⟩ := Cond.exactly_spec (args := args) (first := s) (o := none) (s := s) (idx := []) (t := .string (am_own t.1) t.2.2.2.1) (cls := "java/lang/String") (h1 _ (List.mem_append_left _ (List.mem_append_right _ (List.mem_map.mpr ⟨t, ht, rfl⟩))))
    exact ⟨a, vk_R.of (A := args) (h2 _ (List.mem_append_right _ (List.mem_map.mpr ⟨t, ht, rfl⟩))) q1⟩
  · exact va_Nc.of (h1 _ (List.mem_append_right _ (List.mem_map.mpr ⟨q, hq, rfl⟩)))
theorem am_codeM : am_b am_M = code := by
  rw [show am_b am_M = cL_law from rfl]
/-- from a run of the law to its walk -/
theorem am_start {p : Program} {e : Env} {s : State} {m : MethodId} {below : List Frame} {meth : Method} {c : Code} (l : Launch) (hflags : l.flags = flags0) {b L : Nat} {xs : Nat → Int32} (C0 : lw_At p s m meth c b L xs) {d N k' n' : Nat} {h' : List am_E} (hd : d ≤ 1000) (hEx : am_Ex (am_Call d) am_M (L + 1) xs N (0, [(0, .retAddr 0)], [], [], 0, 0) (.inl (some (.int 1)), h', k', n')) (hk : k' ≤ 600002) (hn : n' ≤ 7302232) : W p l e room_1 s m #[Value.ref b] below meth c s.heap [] 0 0 (lw_Z below #[Value.ref b] s) (entryFrame m ([Value.ref b] : List Value).toArray (am_ml am_M)) := by
  obtain ⟨hx, hb, hr, hml, hown, hts, hX, hbl, hlocks, hgv, hT⟩ := C0
  have hl := am_flags l hflags
  obtain ⟨dC, dI, ty, hK⟩ := am_known hts
  have hA : ∀ q : Nat, s.heap.size ≤ q → (fun q : Nat => s.heap.size ≤ q) q := fun _ h => h
  have hbA : ¬ (fun q : Nat => s.heap.size ≤ q) b := Nat.not_le.mpr hbl
  have hAX : am_X (fun q : Nat => s.heap.size ≤ q) s s.heap := am_X0 hts hgv (fun a ha => Nat.not_le.mpr ha)
  have C : am_Cx am_M (L + 1) xs b (fun q : Nat => s.heap.size ≤ q) l dC dI ty p e room_1 s m #[Value.ref b] below meth c :=
    ⟨hx, by rw [am_codeM]; exact hb, hml, hown, fun w hw => hts w (List.mem_filter.mp hw).1, hlocks, hA, hK, hAX, by rw [hT]; rfl, hl, fun _ => ⟨hX, hbl, hbA⟩, fun _ x hx9 => by rw [hT] at hx9; cases hx9⟩
  have hls := lv_entry ([.ref b] : List Value) (n := am_ml am_M) (Nat.le_of_ble_eq_true rfl)
  rw [lg_entry_eq]
  generalize (lg_sl ([.ref b] : List Value) ++ List.replicate (am_ml am_M - (lg_sl ([.ref b] : List Value)).length) Slot.unset).toArray = ls at hls ⊢
  have hmain := am_run (k0 := 0) (s0 := 0) (n0 := 0) (ad0 := fun _ => 0) (b := b) (below := below) (Q := lw_Z below #[Value.ref b] s) C (fun q => absurd q (by decide)) (am_sound l hl d) ⟨hk, hn⟩ (by show d + 9 ≤ 2048; omega) (by show 60 * d + 260 ≤ 84000; omega) ?_ ?_ ?_ N _ hEx (Nat.le_refl _) (Nat.le_refl _) (fun _ => 0) (fun j => if j = 0 then b else 0) ls s.heap [] ⟨hls, fun k q h => by simp [am_ws] at h, ⟨fun i j p q h => by simp [am_ws] at h, fun k q h => by simp [am_ws] at h⟩, va_S.rf, fun _ h _ => absurd h (Nat.not_lt_zero _), Nat.le_refl _, rfl⟩
  · exact hmain
  · intro i x y z pc v L9 S h1 k1 n1 ad1 sp1 ls1 H1 locs1 hf hcase hr1 hSt
    cases hr1
    obtain ⟨hdk, hwk⟩ := am_fetch_ok hf
    rcases hcase with ⟨w, hw, rfl, rfl, -⟩ | ⟨hw, -⟩
    · cases hw
      refine va_forget (fun q hq => hSt.2.2.2.1.2.2 q hq) ?_
      refine W.widen (k := 600002) (n := 7302232) (by omega) (by omega) ?_
      have hdd := am_dec_of hdk (fun _ _ _ _ q => nomatch q) (fun _ _ q => nomatch q)
      rw [am_codeM] at hdd
      exact lw_ret hx hb hr hlocks hdd
    · cases hw
  · intro i j y z pc L9 S h1 k1 n1 ad1 sp1 ls1 H1 locs1 _ _ _ _ hr1
    cases hr1
  · intro j pc L9 h1 k1 n1 ad1 sp1 ls1 H1 locs1 rest ce q9 hr1
    cases hr1
end
section
/-! ===== runs put together: some steps, a branch, a call, an end ===== -/
def am_stN (mid sl : Nat) (sx : Nat → Int32) : Nat → am_F → Option (Prop × am_F)
  | 0, f => some (True, f)
  | N + 1, f => match am_fetch mid f.1 with
    | some (i, x, y, _) => match am_st mid sl sx x y f.1 f.2.1 f.2.2.1 f.2.2.2.1 f.2.2.2.2.1 f.2.2.2.2.2 i with
      | some (g, f') => match am_stN mid sl sx N f' with
        | some (g', f'') => some (g ∧ g', f'')
        | none => none
      | none => none
    | none => none
def am_Ev (D mid sl : Nat) (sx : Nat → Int32) (f : am_F) (r : am_R) : Prop := ∃ N, am_Ex (am_Call D) mid sl sx N f r
section Ev
variable {D mid sl : Nat} {sx : Nat → Int32} {f f' : am_F} {r : am_R}
theorem am_ev_st : ∀ (k : Nat) {f f' : am_F} {g : Prop}, am_stN mid sl sx k f = some (g, f') → g → am_Ev D mid sl sx f' r → am_Ev D mid sl sx f r
  | 0, f, f', g, h, _, hk => by
    cases h
    exact hk
  | k + 1, f, f', g, h, hg, hk => by
    unfold am_stN at h
    split at h
    · rename_i i x y z hf
      split at h
      · rename_i g1 f1 hs
        split at h
        · rename_i g2 f2 hs2
          cases h
          obtain ⟨N, hN⟩ := am_ev_st k hs2 hg.2 hk
          exact ⟨N + 1, i, x, y, z, hf, Or.inl ⟨g1, f1, hs, hg.1, hN⟩⟩
        · cases h
      · cases h
    · cases h
theorem am_ev_pos {c : Prop} [Decidable c] {t pc : Nat} {L : List (Nat × Value)} {S : List Value} {h : List am_E} {k n : Nat} (hc : c) (hk : am_Ev D mid sl sx (t, L, S, h, k, n) r) : am_Ev D mid sl sx (am_br c t pc L S h k n) r := by
  unfold am_br
  rw [if_pos hc]
  exact hk
theorem am_ev_neg {c : Prop} [Decidable c] {t pc : Nat} {L : List (Nat × Value)} {S : List Value} {h : List am_E} {k n : Nat} (hc : ¬ c) (hk : am_Ev D mid sl sx (pc + 3, L, S, h, k, n) r) : am_Ev D mid sl sx (am_br c t pc L S h k n) r := by
  unfold am_br
  rw [if_neg hc]
  exact hk
/-- the class has an instruction at each place where a run goes on -/
def am_isat (mid pc : Nat) : Bool := (am_fetch mid pc).isSome
theorem am_ev_drop {pc : Nat} {L L' : List (Nat × Value)} {z : List Value × List am_E × Nat × Nat} (ks : List Nat) (hp : am_isat mid pc = true) (hL : lv_pick L ks = L') (hk : am_Ev D mid sl sx (pc, L', z) r) : am_Ev D mid sl sx (pc, L, z) r := by
  obtain ⟨N, hN⟩ := hk
  unfold am_isat at hp
  obtain ⟨⟨i, x, y, z9⟩, hf⟩ := Option.isSome_iff_exists.mp hp
  subst hL
  exact ⟨N + 1, i, x, y, z9, hf, Or.inr (Or.inr (Or.inl ⟨ks, hN⟩))⟩
theorem am_ev_ret {pc : Nat} {L : List (Nat × Value)} {v : Int32} {z : List am_E × Nat × Nat} (x y w : Nat) (hf : am_fetch mid pc = some (.ireturn, x, y, w)) (ty : FieldType) (ht : am_rt mid = some ty) (hn : narrow ty (.int v) = .int v) (hr : r = (.inl (some (.int v)), z)) : am_Ev D mid sl sx (pc, L, [.int v], z) r := by
  exact ⟨1, _, x, y, w, hf, Or.inr (Or.inr (Or.inr (Or.inl ⟨v, rfl, rfl, ⟨ty, ht, hn⟩, hr⟩)))⟩
theorem am_ev_vret {pc : Nat} {L : List (Nat × Value)} {z : List am_E × Nat × Nat} (x y w : Nat) (hf : am_fetch mid pc = some (.return_, x, y, w)) (ht : am_rt mid = none) (hr : r = (.inl none, z)) : am_Ev D mid sl sx (pc, L, [], z) r := by
  exact ⟨1, _, x, y, w, hf, Or.inr (Or.inr (Or.inr (Or.inr (Or.inl ⟨rfl, rfl, ht, hr⟩))))⟩
theorem am_ev_throw {pc : Nat} {L : List (Nat × Value)} {S : List Value} {h : List am_E} {k n : Nat} (i : Instr) (j y w : Nat) (hf : am_fetch mid pc = some (i, 1000 + j, y, w)) (q : Nat × Nat × Nat × Nat × Nat × Nat × String × Nat) (hq : am_thr[j]? = some q) (h1 : q.1 = mid) (h2 : q.2.1 = pc) (h3 : q.2.2.2.2.2.1 = y) (hs : Nat.ble (am_csum S) 8 = true) (hh : am_hh mid = []) (hr : r = (.inr y, h, k + 1, n + 6)) : am_Ev D mid sl sx (pc, L, S, h, k, n) r := by
  exact ⟨1, i, _, y, w, hf, Or.inr (Or.inr (Or.inr (Or.inr (Or.inr ⟨j, rfl, ⟨q, hq, h1, h2, h3⟩, hs, hh, hr⟩))))⟩
theorem am_ev_call {pc : Nat} {L : List (Nat × Value)} {S : List Value} {h : List am_E} {k n : Nat} {r1 : am_R} {v : Option Value} {z : List am_E × Nat × Nat} (i : Instr) (x y w : Nat) (As rest : List Value) (hf : am_fetch mid pc = some (i, x, y, w)) (hi : am_isc i x = true) (hS : S = As.reverse ++ rest) (hfit : am_cfit i x h L As rest = true) (hc : am_Call D x As h k n r1) (hr1 : r1 = (.inl v, z)) (hk : am_Ev D mid sl sx (pc + 3, L, v.toList ++ rest, z) r) : am_Ev D mid sl sx (pc, L, S, h, k, n) r := by
  subst hr1
  obtain ⟨N, hN⟩ := hk
  exact ⟨N + 1, i, x, y, w, hf, Or.inr (Or.inl ⟨hi, As, rest, _, hS, hfit, hc, Or.inl ⟨v, rfl, hN⟩⟩)⟩
theorem am_ev_callx {pc : Nat} {L : List (Nat × Value)} {S : List Value} {h : List am_E} {k n : Nat} {r1 : am_R} {e : Nat} {z : List am_E × Nat × Nat} (i : Instr) (x y w : Nat) (As rest : List Value) (hf : am_fetch mid pc = some (i, x, y, w)) (hi : am_isc i x = true) (hS : S = As.reverse ++ rest) (hfit : am_cfit i x h L As rest = true) (hc : am_Call D x As h k n r1) (hr1 : r1 = (.inr e, z)) (hh : am_hh mid = []) (hr : r = (.inr e, z)) : am_Ev D mid sl sx (pc, L, S, h, k, n) r := by
  subst hr1
  exact ⟨1, i, x, y, w, hf, Or.inr (Or.inl ⟨hi, As, rest, _, hS, hfit, hc, Or.inr ⟨e, rfl, Or.inr ⟨hh, hr⟩⟩⟩)⟩
theorem am_ev_catch {pc : Nat} {L : List (Nat × Value)} {S : List Value} {h : List am_E} {k n : Nat} {r1 : am_R} {e : Nat} {z : List am_E × Nat × Nat} (i : Instr) (x y w : Nat) (As rest : List Value) (hf : am_fetch mid pc = some (i, x, y, w)) (hi : am_isc i x = true) (hS : S = As.reverse ++ rest) (hfit : am_cfit i x h L As rest = true) (hc : am_Call D x As h k n r1) (hr1 : r1 = (.inr e, z)) (hp : Nat) (hh : am_hnd mid pc e = some hp) (hL : L.all (fun q => am_noret q.2) = true) (hk : am_Ev D mid sl sx (hp, L, [.retAddr 1], z) r) : am_Ev D mid sl sx (pc, L, S, h, k, n) r := by
  subst hr1
  obtain ⟨N, hN⟩ := hk
  exact ⟨N + 1, i, x, y, w, hf, Or.inr (Or.inl ⟨hi, As, rest, _, hS, hfit, hc, Or.inr ⟨e, rfl, Or.inl ⟨hp, hh, hL, hN⟩⟩⟩)⟩
end Ev
theorem am_call_run {D mid : Nat} {As : List Value} {L : List (Nat × Value)} {h : List am_E} {k n : Nat} {r : am_R} (h1 : mid ≠ am_M) (h2 : mid < am_nm) (h3 : As.all am_noret = true) (h4 : (lg_sl As).length ≤ am_ml mid) (h5 : mid ≠ am_G) (hL : lv_args 0 As = L) (hk : am_Ev D mid 0 (fun _ => 0) (0, L, [], h, k, n) r) : am_Call (D + 1) mid As h k n r := by
  subst hL
  exact ⟨h1, h2, h3, h4, Or.inr ⟨h5, hk⟩⟩
theorem am_tg_eq {v : Int} {t d : Nat} {r : List (Int × Nat)} {a : Int32} (h : a = Int32.ofInt v) : am_tg ((v, t) :: r) d a = t := if_pos h
theorem am_tg_ne {v : Int} {t d : Nat} {r : List (Int × Nat)} {a : Int32} (h : ¬ a = Int32.ofInt v) : am_tg ((v, t) :: r) d a = am_tg r d a := if_neg h
def am_bz (b : Bool) : Int32 := bif b then 1 else 0
theorem am_bz_nar (b : Bool) : narrow .boolean (.int (am_bz b)) = .int (am_bz b) := by cases b <;> decide +kernel
end
section
abbrev cN : Type := (Nat → Int32) × (Nat → Int32) × (Nat → Int32) × (Nat → Int32) × (Nat → Int32) × Nat × Int32 × Int32 × Int32
abbrev cC : Type := (Nat → Int32) × (Nat → Int32) × Int32
abbrev cE : Type := (Nat → Int32) × (Nat → Int32) × Int32 × Int32 × Int32
abbrev cF : Type := (Nat → Int32) × Int32
abbrev cP : Type := (Nat → Int32) × Int32 × Int32
abbrev cQ : Type := (Nat → Int32) × Int32 × Int32
abbrev cT : Type := Int32 × (Nat → Int32) × (Nat → Int32) × (Nat → Int32) × (Nat → Int32) × (Nat → Int32)
abbrev cG : Type := Int32 × (Nat → Int32)
abbrev cU : Type := Int32
abbrev cH : Type := Int32
abbrev cB : Type := (Nat → Int32) × (Nat → Int32)
abbrev cO : Type := Int32 × (Nat → Int32) × Int32
abbrev cJ : Type := (Nat → Int32) × (Nat → Int32)
abbrev cV : Type := Int32 × Int32 × Int32
abbrev cY : Type := Int32 × (Nat → Int32) × (Nat → Int32) × (Nat → Int32) × Int32 × Int32 × (Nat → Int32)
abbrev cZ : Type := Int32 × Int32 × (Nat → Int32) × (Nat → Int32) × (Nat → Int32)
abbrev cO9 : Type := (Nat → Int64)
/-- all cells, by what they hold -/
def W9 (N : cN) (C : cC) (E : cE) (F : cF) (P : cP) (Q : cQ) (T : cT) (G : cG) (U : cU) (H : cH) (B : cB) (O : cO) (J : cJ) (V : cV) (Y : cY) (Z : cZ) (O9 : cO9) : List am_E := [.inr (5, [.ref 1, .ref 7, .ref 10, .ref 13, .ref 15, .ref 17]),
  .inr (3, [.ref 2, .ref 3, .ref 4, .ref 5, .ref 6, .int N.2.2.2.2.2.2.1, .int N.2.2.2.2.2.2.2.1, .int N.2.2.2.2.2.2.2.2]),
  .inl (0, N.2.2.2.2.2.1, .inl N.1),
  .inl (0, N.2.2.2.2.2.1, .inl N.2.1),
  .inl (0, N.2.2.2.2.2.1, .inl N.2.2.1),
  .inl (0, N.2.2.2.2.2.1, .inl N.2.2.2.1),
  .inl (0, N.2.2.2.2.2.1, .inl N.2.2.2.2.1),
  .inr (0, [.ref 8, .ref 9, .int C.2.2]),
  .inl (0, 16, .inl C.1),
  .inl (0, 16, .inl C.2.1),
  .inr (4, [.ref 1, .ref 7, .ref 11, .ref 12, .int E.2.2.1, .int E.2.2.2.1, .int E.2.2.2.2]),
  .inl (0, 512, .inl E.1),
  .inl (0, 512, .inl E.2.1),
  .inr (1, [.ref 1, .ref 7, .ref 10, .ref 14, .int F.2]),
  .inl (0, 12, .inl F.1),
  .inr (2, [.ref 16, .int P.2.1, .int P.2.2]),
  .inl (0, 60, .inl P.1),
  .inr (2, [.ref 18, .int Q.2.1, .int Q.2.2]),
  .inl (0, 60, .inl Q.1),
  .inr (6, [.int U, .int T.1, .ref 20, .ref 21, .ref 22, .ref 23, .ref 24, .int G.1, .ref 25, .int H, .ref 26, .ref 27, .int O.1, .ref 28, .int O.2.2, .ref 29, .ref 30, .int V.1, .int V.2.1, .int V.2.2, .int Y.1, .ref 31, .ref 32, .ref 33, .int Y.2.2.2.2.1, .int Y.2.2.2.2.2.1, .ref 34, .int Z.1, .int Z.2.1, .ref 35, .ref 36, .ref 37]),
  .inl (0, 120, .inl T.2.1),
  .inl (0, 120, .inl T.2.2.1),
  .inl (0, 120, .inl T.2.2.2.1),
  .inl (0, 120, .inl T.2.2.2.2.1),
  .inl (0, 120, .inl T.2.2.2.2.2),
  .inl (1, 16, .inl G.2),
  .inl (0, 5760, .inl B.1),
  .inl (0, 96, .inl B.2),
  .inl (0, 60, .inl O.2.1),
  .inl (0, 130, .inl J.1),
  .inl (0, 130, .inl J.2),
  .inl (0, 40, .inl Y.2.1),
  .inl (0, 40, .inl Y.2.2.1),
  .inl (0, 40, .inl Y.2.2.2.1),
  .inl (0, 40, .inl Y.2.2.2.2.2.2),
  .inl (0, 4000, .inl Z.2.2.1),
  .inl (0, 400, .inl Z.2.2.2.1),
  .inl (0, 400, .inl Z.2.2.2.2),
  .inl (2, 1, .inr (.inl O9))]
theorem am_n0 : narrow .boolean (.int 0) = .int 0 := am_b01.1
theorem am_n1 : narrow .boolean (.int 1) = .int 1 := am_b01.2.2.1
def am_oI : Int32 ⊕ Nat → Option Value ⊕ Nat
  | .inl v => .inl (some (.int v))
  | .inr e => .inr e
def am_oB : Bool ⊕ Nat → Option Value ⊕ Nat
  | .inl v => .inl (some (.int (am_bz v)))
  | .inr e => .inr e
def am_oV : Unit ⊕ Nat → Option Value ⊕ Nat
  | .inl _ => .inl none
  | .inr e => .inr e
theorem am_ev_sweq {D mid sl : Nat} {sx : Nat → Int32} {r : am_R} {v : Int} {t d : Nat} {rs : List (Int × Nat)} {a : Int32} {z : List (Nat × Value) × List Value × List am_E × Nat × Nat} (h : a = Int32.ofInt v) (hk : am_Ev D mid sl sx (t, z) r) : am_Ev D mid sl sx (am_tg ((v, t) :: rs) d a, z) r := by
  rw [am_tg_eq h]
  exact hk
theorem am_ev_swne {D mid sl : Nat} {sx : Nat → Int32} {r : am_R} {v : Int} {t d : Nat} {rs : List (Int × Nat)} {a : Int32} {z : List (Nat × Value) × List Value × List am_E × Nat × Nat} (h : ¬ a = Int32.ofInt v) (hk : am_Ev D mid sl sx (am_tg rs d a, z) r) : am_Ev D mid sl sx (am_tg ((v, t) :: rs) d a, z) r := by
  rw [am_tg_ne h]
  exact hk
theorem am_ev_sw0 {D mid sl : Nat} {sx : Nat → Int32} {r : am_R} {d : Nat} {a : Int32} {z : List (Nat × Value) × List Value × List am_E × Nat × Nat} (hk : am_Ev D mid sl sx (d, z) r) : am_Ev D mid sl sx (am_tg [] d a, z) r := hk
/-- the five rows of the nodes, lengthened -/
def fN_grow (N : cN) (k n : Nat) : Option (cN × (Nat × Nat)) :=
  match N with
  | (K, L, R, S, D, cap, mt, le, en) => if 0 < cap ∧ cap * 2 ≤ 65536 then some ((am_ext K cap, am_ext L cap, am_ext R cap, am_ext S cap, am_ext D cap, cap * 2, mt, le, en), (k + 5, n + 5 * (cap * 2))) else none
theorem ok_fN_grow {N : cN} {C : cC} {E : cE} {F : cF} {P : cP} {Q : cQ} {T : cT} {G : cG} {U : cU} {H : cH} {B : cB} {O : cO} {J : cJ} {V : cV} {Y : cY} {Z : cZ} {O9 : cO9} {k n : Nat} {N' : cN} {k' n' : Nat} (h : fN_grow N k n = some (N', (k', n'))) (D : Nat) (hD : 1 ≤ D) : am_Call D 40 [.ref 1] (W9 N C E F P Q T G U H B O J V Y Z O9) k n (.inl none, W9 N' C E F P Q T G U H B O J V Y Z O9, k', n') := by
  obtain ⟨D, rfl⟩ : ∃ D', D = D' + 1 := ⟨D - 1, by omega⟩
  obtain ⟨K, L, R, S, Dd, cap, mt, le, en⟩ := N
  unfold fN_grow at h
  dsimp only at h
  split at h
  · rename_i hc
    cases h
    exact ⟨by decide, by decide, rfl, by decide, Or.inl ⟨rfl, cap, K, L, R, S, Dd, mt, le, en, _, _, rfl, hc.1, hc.2, rfl, rfl, rfl, rfl⟩⟩
  · cases h
end
section
def fm_make (T : cT) (G : cG) (U : cU) (p1 p2 p3 : Int32) : Option (Int32 × cT × cU) :=
  if p1 < 0 then
  (some ((-1 : Int32), T, ((0 : Int32))))
  else
  if (5 : Int32) < p1 then
  (some ((-1 : Int32), T, ((0 : Int32))))
  else
  match T with
  | (te, tk, ta, tb, tn, td) =>
  if te ≠ (120 : Int32) then
  (if (2 : Int32) ≤ p1 then
  (if p1 ≠ (5 : Int32) then
  (if p2 < 0 then
  (some ((-1 : Int32), T, ((0 : Int32))))
  else
  if te ≤ p2 then
  (some ((-1 : Int32), T, ((0 : Int32))))
  else
  if p3 < 0 then
  (some ((-1 : Int32), T, ((0 : Int32))))
  else
  if p3 < te then
  (if (p2 < 0 ∨ 120 ≤ (p2).toNatClampNeg) then none else
  if (p3 < 0 ∨ 120 ≤ (p3).toNatClampNeg) then none else
  if (p2 < 0 ∨ 120 ≤ (p2).toNatClampNeg) then none else
  if (p3 < 0 ∨ 120 ≤ (p3).toNatClampNeg) then none else
  if (td (p2).toNatClampNeg) ≤ (td (p3).toNatClampNeg) then
  (if (p3 < 0 ∨ 120 ≤ (p3).toNatClampNeg) then none else
  if (60 : Int32) < (((1 : Int32) + (tn (p2).toNatClampNeg)) + (tn (p3).toNatClampNeg)) then
  (some ((-1 : Int32), T, ((0 : Int32))))
  else
  if ((1 : Int32) + (td (p3).toNatClampNeg)) ≤ (12 : Int32) then
  (if (te < 0 ∨ 120 ≤ (te).toNatClampNeg) then none else
  if (te < 0 ∨ 120 ≤ (te).toNatClampNeg) then none else
  if p1 < (2 : Int32) then
  (if (te < 0 ∨ 120 ≤ (te).toNatClampNeg) then none else
  if (te < 0 ∨ 120 ≤ (te).toNatClampNeg) then none else
  if (te < 0 ∨ 120 ≤ (te).toNatClampNeg) then none else
  some (((te + (1 : Int32)) - (1 : Int32)), ((te + (1 : Int32)), (upd tk (te).toNatClampNeg p1), (upd ta (te).toNatClampNeg p2), (upd tb (te).toNatClampNeg (-1 : Int32)), (upd tn (te).toNatClampNeg (((1 : Int32) + (tn (p2).toNatClampNeg)) + (tn (p3).toNatClampNeg))), (upd td (te).toNatClampNeg ((1 : Int32) + (td (p3).toNatClampNeg)))), ((0 : Int32))))
  else
  if (4 : Int32) < p1 then
  (if (te < 0 ∨ 120 ≤ (te).toNatClampNeg) then none else
  if (te < 0 ∨ 120 ≤ (te).toNatClampNeg) then none else
  if (te < 0 ∨ 120 ≤ (te).toNatClampNeg) then none else
  some (((te + (1 : Int32)) - (1 : Int32)), ((te + (1 : Int32)), (upd tk (te).toNatClampNeg p1), (upd ta (te).toNatClampNeg p2), (upd tb (te).toNatClampNeg (-1 : Int32)), (upd tn (te).toNatClampNeg (((1 : Int32) + (tn (p2).toNatClampNeg)) + (tn (p3).toNatClampNeg))), (upd td (te).toNatClampNeg ((1 : Int32) + (td (p3).toNatClampNeg)))), ((0 : Int32))))
  else
  if (te < 0 ∨ 120 ≤ (te).toNatClampNeg) then none else
  if (te < 0 ∨ 120 ≤ (te).toNatClampNeg) then none else
  if (te < 0 ∨ 120 ≤ (te).toNatClampNeg) then none else
  some (((te + (1 : Int32)) - (1 : Int32)), ((te + (1 : Int32)), (upd tk (te).toNatClampNeg p1), (upd ta (te).toNatClampNeg p2), (upd tb (te).toNatClampNeg p3), (upd tn (te).toNatClampNeg (((1 : Int32) + (tn (p2).toNatClampNeg)) + (tn (p3).toNatClampNeg))), (upd td (te).toNatClampNeg ((1 : Int32) + (td (p3).toNatClampNeg)))), ((0 : Int32))))
  else
  some ((-1 : Int32), T, ((0 : Int32))))
  else
  if (p2 < 0 ∨ 120 ≤ (p2).toNatClampNeg) then none else
  if (60 : Int32) < (((1 : Int32) + (tn (p2).toNatClampNeg)) + (tn (p3).toNatClampNeg)) then
  (some ((-1 : Int32), T, ((0 : Int32))))
  else
  if ((1 : Int32) + (td (p2).toNatClampNeg)) ≤ (12 : Int32) then
  (if (te < 0 ∨ 120 ≤ (te).toNatClampNeg) then none else
  if (te < 0 ∨ 120 ≤ (te).toNatClampNeg) then none else
  if p1 < (2 : Int32) then
  (if (te < 0 ∨ 120 ≤ (te).toNatClampNeg) then none else
  if (te < 0 ∨ 120 ≤ (te).toNatClampNeg) then none else
  if (te < 0 ∨ 120 ≤ (te).toNatClampNeg) then none else
  some (((te + (1 : Int32)) - (1 : Int32)), ((te + (1 : Int32)), (upd tk (te).toNatClampNeg p1), (upd ta (te).toNatClampNeg p2), (upd tb (te).toNatClampNeg (-1 : Int32)), (upd tn (te).toNatClampNeg (((1 : Int32) + (tn (p2).toNatClampNeg)) + (tn (p3).toNatClampNeg))), (upd td (te).toNatClampNeg ((1 : Int32) + (td (p2).toNatClampNeg)))), ((0 : Int32))))
  else
  if (4 : Int32) < p1 then
  (if (te < 0 ∨ 120 ≤ (te).toNatClampNeg) then none else
  if (te < 0 ∨ 120 ≤ (te).toNatClampNeg) then none else
  if (te < 0 ∨ 120 ≤ (te).toNatClampNeg) then none else
  some (((te + (1 : Int32)) - (1 : Int32)), ((te + (1 : Int32)), (upd tk (te).toNatClampNeg p1), (upd ta (te).toNatClampNeg p2), (upd tb (te).toNatClampNeg (-1 : Int32)), (upd tn (te).toNatClampNeg (((1 : Int32) + (tn (p2).toNatClampNeg)) + (tn (p3).toNatClampNeg))), (upd td (te).toNatClampNeg ((1 : Int32) + (td (p2).toNatClampNeg)))), ((0 : Int32))))
  else
  if (te < 0 ∨ 120 ≤ (te).toNatClampNeg) then none else
  if (te < 0 ∨ 120 ≤ (te).toNatClampNeg) then none else
  if (te < 0 ∨ 120 ≤ (te).toNatClampNeg) then none else
  some (((te + (1 : Int32)) - (1 : Int32)), ((te + (1 : Int32)), (upd tk (te).toNatClampNeg p1), (upd ta (te).toNatClampNeg p2), (upd tb (te).toNatClampNeg p3), (upd tn (te).toNatClampNeg (((1 : Int32) + (tn (p2).toNatClampNeg)) + (tn (p3).toNatClampNeg))), (upd td (te).toNatClampNeg ((1 : Int32) + (td (p2).toNatClampNeg)))), ((0 : Int32))))
  else
  some ((-1 : Int32), T, ((0 : Int32))))
  else
  some ((-1 : Int32), T, ((0 : Int32))))
  else
  if p2 < 0 then
  (some ((-1 : Int32), T, ((0 : Int32))))
  else
  match G with
  | (gc, gb) =>
  if p2 < gc then
  (if (60 : Int32) < (1 : Int32) then
  (some ((-1 : Int32), T, ((0 : Int32))))
  else
  if (1 : Int32) ≤ (12 : Int32) then
  (if (te < 0 ∨ 120 ≤ (te).toNatClampNeg) then none else
  if (te < 0 ∨ 120 ≤ (te).toNatClampNeg) then none else
  if p1 < (2 : Int32) then
  (if (te < 0 ∨ 120 ≤ (te).toNatClampNeg) then none else
  if (te < 0 ∨ 120 ≤ (te).toNatClampNeg) then none else
  if (te < 0 ∨ 120 ≤ (te).toNatClampNeg) then none else
  some (((te + (1 : Int32)) - (1 : Int32)), ((te + (1 : Int32)), (upd tk (te).toNatClampNeg p1), (upd ta (te).toNatClampNeg p2), (upd tb (te).toNatClampNeg (-1 : Int32)), (upd tn (te).toNatClampNeg (1 : Int32)), (upd td (te).toNatClampNeg (1 : Int32))), ((0 : Int32))))
  else
  if (4 : Int32) < p1 then
  (if (te < 0 ∨ 120 ≤ (te).toNatClampNeg) then none else
  if (te < 0 ∨ 120 ≤ (te).toNatClampNeg) then none else
  if (te < 0 ∨ 120 ≤ (te).toNatClampNeg) then none else
  some (((te + (1 : Int32)) - (1 : Int32)), ((te + (1 : Int32)), (upd tk (te).toNatClampNeg p1), (upd ta (te).toNatClampNeg p2), (upd tb (te).toNatClampNeg (-1 : Int32)), (upd tn (te).toNatClampNeg (1 : Int32)), (upd td (te).toNatClampNeg (1 : Int32))), ((0 : Int32))))
  else
  if (te < 0 ∨ 120 ≤ (te).toNatClampNeg) then none else
  if (te < 0 ∨ 120 ≤ (te).toNatClampNeg) then none else
  if (te < 0 ∨ 120 ≤ (te).toNatClampNeg) then none else
  some (((te + (1 : Int32)) - (1 : Int32)), ((te + (1 : Int32)), (upd tk (te).toNatClampNeg p1), (upd ta (te).toNatClampNeg p2), (upd tb (te).toNatClampNeg p3), (upd tn (te).toNatClampNeg (1 : Int32)), (upd td (te).toNatClampNeg (1 : Int32))), ((0 : Int32))))
  else
  some ((-1 : Int32), T, ((0 : Int32))))
  else
  some ((-1 : Int32), T, ((0 : Int32))))
  else
  if p2 < 0 then
  (some ((-1 : Int32), T, ((0 : Int32))))
  else
  if p2 ≤ (9 : Int32) then
  (if (60 : Int32) < (1 : Int32) then
  (some ((-1 : Int32), T, ((0 : Int32))))
  else
  if (1 : Int32) ≤ (12 : Int32) then
  (if (te < 0 ∨ 120 ≤ (te).toNatClampNeg) then none else
  if (te < 0 ∨ 120 ≤ (te).toNatClampNeg) then none else
  if p1 < (2 : Int32) then
  (if (te < 0 ∨ 120 ≤ (te).toNatClampNeg) then none else
  if (te < 0 ∨ 120 ≤ (te).toNatClampNeg) then none else
  if (te < 0 ∨ 120 ≤ (te).toNatClampNeg) then none else
  some (((te + (1 : Int32)) - (1 : Int32)), ((te + (1 : Int32)), (upd tk (te).toNatClampNeg p1), (upd ta (te).toNatClampNeg p2), (upd tb (te).toNatClampNeg (-1 : Int32)), (upd tn (te).toNatClampNeg (1 : Int32)), (upd td (te).toNatClampNeg (1 : Int32))), ((0 : Int32))))
  else
  if (4 : Int32) < p1 then
  (if (te < 0 ∨ 120 ≤ (te).toNatClampNeg) then none else
  if (te < 0 ∨ 120 ≤ (te).toNatClampNeg) then none else
  if (te < 0 ∨ 120 ≤ (te).toNatClampNeg) then none else
  some (((te + (1 : Int32)) - (1 : Int32)), ((te + (1 : Int32)), (upd tk (te).toNatClampNeg p1), (upd ta (te).toNatClampNeg p2), (upd tb (te).toNatClampNeg (-1 : Int32)), (upd tn (te).toNatClampNeg (1 : Int32)), (upd td (te).toNatClampNeg (1 : Int32))), ((0 : Int32))))
  else
  if (te < 0 ∨ 120 ≤ (te).toNatClampNeg) then none else
  if (te < 0 ∨ 120 ≤ (te).toNatClampNeg) then none else
  if (te < 0 ∨ 120 ≤ (te).toNatClampNeg) then none else
  some (((te + (1 : Int32)) - (1 : Int32)), ((te + (1 : Int32)), (upd tk (te).toNatClampNeg p1), (upd ta (te).toNatClampNeg p2), (upd tb (te).toNatClampNeg p3), (upd tn (te).toNatClampNeg (1 : Int32)), (upd td (te).toNatClampNeg (1 : Int32))), ((0 : Int32))))
  else
  some ((-1 : Int32), T, ((0 : Int32))))
  else
  some ((-1 : Int32), T, ((0 : Int32))))
  else
  some ((-1 : Int32), T, ((0 : Int32)))
set_option maxHeartbeats 4000000 in
set_option maxRecDepth 100000 in
theorem ok_fm_make  {N : cN} {C : cC} {E : cE} {F : cF} {P : cP} {Q : cQ} {T : cT} {G : cG} {U : cU} {H : cH} {B : cB} {O : cO} {J : cJ} {V : cV} {Y : cY} {Z : cZ} {O9 : cO9} {k n : Nat} {p1 p2 p3 : Int32} {rv : Int32} {T' : cT} {U' : cU} (h : fm_make T G U p1 p2 p3 = some (rv, T', U')) (D : Nat) (hD : 1 ≤ D) : am_Call D 106 [.ref 19, .int p1, .int p2, .int p3] (W9 N C E F P Q T G U H B O J V Y Z O9) k n (.inl (some (.int rv)), W9 N C E F P Q T' G U' H B O J V Y Z O9, k, n) := by
  unfold fm_make at h
  obtain ⟨D, rfl⟩ : ∃ D', D = D' + 1 := ⟨D - 1, by omega⟩
  have hD : 0 ≤ D := by omega
  refine am_call_run (by decide) (by decide) rfl (Nat.le_of_ble_eq_true rfl) (by decide) (L := [(0, .ref 19), (1, .int p1), (2, .int p2), (3, .int p3)]) rfl ?_
  refine am_ev_st 5 (f' := am_br (p1 < 0) 23 6 [(0, .ref 19), (1, .int p1), (2, .int p2), (3, .int p3)] [] (W9 N C E F P Q T G ((0 : Int32)) H B O J V Y Z O9) k n) (g := True ∧ True ∧ True ∧ True ∧ True ∧ True) (by with_unfolding_all rfl) ⟨trivial, trivial, trivial, trivial, trivial, trivial⟩ ?_
  by_cases c1 : p1 < 0
  · rw [if_pos c1] at h
    refine am_ev_pos c1 ?_
    refine am_ev_st 1 (f' := (24, [(0, .ref 19), (1, .int p1), (2, .int p2), (3, .int p3)], [.int (-1 : Int32)], (W9 N C E F P Q T G ((0 : Int32)) H B O J V Y Z O9), k, n)) (g := True ∧ True) (by with_unfolding_all rfl) ⟨trivial, trivial⟩ ?_
    cases h
    exact am_ev_ret 0 0 0 rfl .int rfl rfl rfl
  · rw [if_neg c1] at h
    refine am_ev_neg c1 ?_
    refine am_ev_st 3 (f' := am_br ((5 : Int32) < p1) 23 11 [(0, .ref 19), (1, .int p1), (2, .int p2), (3, .int p3)] [] (W9 N C E F P Q T G ((0 : Int32)) H B O J V Y Z O9) k n) (g := True ∧ True ∧ True ∧ True) (by with_unfolding_all rfl) ⟨trivial, trivial, trivial, trivial⟩ ?_
    by_cases c2 : (5 : Int32) < p1
    · rw [if_pos c2] at h
      refine am_ev_pos c2 ?_
      refine am_ev_st 1 (f' := (24, [(0, .ref 19), (1, .int p1), (2, .int p2), (3, .int p3)], [.int (-1 : Int32)], (W9 N C E F P Q T G ((0 : Int32)) H B O J V Y Z O9), k, n)) (g := True ∧ True) (by with_unfolding_all rfl) ⟨trivial, trivial⟩ ?_
      cases h
      exact am_ev_ret 0 0 0 rfl .int rfl rfl rfl
    · rw [if_neg c2] at h
      refine am_ev_neg c2 ?_
      obtain ⟨te, tk, ta, tb, tn, td⟩ := T
      try dsimp only at h
      refine am_ev_st 4 (f' := am_br (te ≠ (120 : Int32)) 25 20 [(0, .ref 19), (1, .int p1), (2, .int p2), (3, .int p3)] [] (W9 N C E F P Q (te, tk, ta, tb, tn, td) G ((0 : Int32)) H B O J V Y Z O9) k n) (g := True ∧ True ∧ True ∧ True ∧ True) (by with_unfolding_all rfl) ⟨trivial, trivial, trivial, trivial, trivial⟩ ?_
      by_cases c3 : te ≠ (120 : Int32)
      · rw [if_pos c3] at h
        refine am_ev_pos c3 ?_
        refine am_ev_st 7 (f' := am_br ((2 : Int32) ≤ p1) 48 33 [(5, .int (1 : Int32)), (4, .int (1 : Int32)), (0, .ref 19), (1, .int p1), (2, .int p2), (3, .int p3)] [] (W9 N C E F P Q (te, tk, ta, tb, tn, td) G ((0 : Int32)) H B O J V Y Z O9) k n) (g := True ∧ True ∧ True ∧ True ∧ True ∧ True ∧ True ∧ True) (by with_unfolding_all rfl) ⟨trivial, trivial, trivial, trivial, trivial, trivial, trivial, trivial⟩ ?_
        by_cases c4 : (2 : Int32) ≤ p1
        · rw [if_pos c4] at h
          refine am_ev_pos c4 ?_
          refine am_ev_st 3 (f' := am_br (p1 ≠ (5 : Int32)) 67 50 [(5, .int (1 : Int32)), (4, .int (1 : Int32)), (0, .ref 19), (1, .int p1), (2, .int p2), (3, .int p3)] [] (W9 N C E F P Q (te, tk, ta, tb, tn, td) G ((0 : Int32)) H B O J V Y Z O9) k n) (g := True ∧ True ∧ True ∧ True) (by with_unfolding_all rfl) ⟨trivial, trivial, trivial, trivial⟩ ?_
          by_cases c5 : p1 ≠ (5 : Int32)
          · rw [if_pos c5] at h
            refine am_ev_pos c5 ?_
            refine am_ev_st 2 (f' := am_br (p2 < 0) 91 68 [(5, .int (1 : Int32)), (4, .int (1 : Int32)), (0, .ref 19), (1, .int p1), (2, .int p2), (3, .int p3)] [] (W9 N C E F P Q (te, tk, ta, tb, tn, td) G ((0 : Int32)) H B O J V Y Z O9) k n) (g := True ∧ True ∧ True) (by with_unfolding_all rfl) ⟨trivial, trivial, trivial⟩ ?_
            by_cases c6 : p2 < 0
            · rw [if_pos c6] at h
              refine am_ev_pos c6 ?_
              refine am_ev_st 1 (f' := (92, [(5, .int (1 : Int32)), (4, .int (1 : Int32)), (0, .ref 19), (1, .int p1), (2, .int p2), (3, .int p3)], [.int (-1 : Int32)], (W9 N C E F P Q (te, tk, ta, tb, tn, td) G ((0 : Int32)) H B O J V Y Z O9), k, n)) (g := True ∧ True) (by with_unfolding_all rfl) ⟨trivial, trivial⟩ ?_
              cases h
              exact am_ev_ret 0 0 0 rfl .int rfl rfl rfl
            · rw [if_neg c6] at h
              refine am_ev_neg c6 ?_
              refine am_ev_st 4 (f' := am_br (te ≤ p2) 91 76 [(5, .int (1 : Int32)), (4, .int (1 : Int32)), (0, .ref 19), (1, .int p1), (2, .int p2), (3, .int p3)] [] (W9 N C E F P Q (te, tk, ta, tb, tn, td) G ((0 : Int32)) H B O J V Y Z O9) k n) (g := True ∧ True ∧ True ∧ True ∧ True) (by with_unfolding_all rfl) ⟨trivial, trivial, trivial, trivial, trivial⟩ ?_
              by_cases c7 : te ≤ p2
              · rw [if_pos c7] at h
                refine am_ev_pos c7 ?_
                refine am_ev_st 1 (f' := (92, [(5, .int (1 : Int32)), (4, .int (1 : Int32)), (0, .ref 19), (1, .int p1), (2, .int p2), (3, .int p3)], [.int (-1 : Int32)], (W9 N C E F P Q (te, tk, ta, tb, tn, td) G ((0 : Int32)) H B O J V Y Z O9), k, n)) (g := True ∧ True) (by with_unfolding_all rfl) ⟨trivial, trivial⟩ ?_
                cases h
                exact am_ev_ret 0 0 0 rfl .int rfl rfl rfl
              · rw [if_neg c7] at h
                refine am_ev_neg c7 ?_
                refine am_ev_st 2 (f' := am_br (p3 < 0) 91 80 [(5, .int (1 : Int32)), (4, .int (1 : Int32)), (0, .ref 19), (1, .int p1), (2, .int p2), (3, .int p3)] [] (W9 N C E F P Q (te, tk, ta, tb, tn, td) G ((0 : Int32)) H B O J V Y Z O9) k n) (g := True ∧ True ∧ True) (by with_unfolding_all rfl) ⟨trivial, trivial, trivial⟩ ?_
                by_cases c8 : p3 < 0
                · rw [if_pos c8] at h
                  refine am_ev_pos c8 ?_
                  refine am_ev_st 1 (f' := (92, [(5, .int (1 : Int32)), (4, .int (1 : Int32)), (0, .ref 19), (1, .int p1), (2, .int p2), (3, .int p3)], [.int (-1 : Int32)], (W9 N C E F P Q (te, tk, ta, tb, tn, td) G ((0 : Int32)) H B O J V Y Z O9), k, n)) (g := True ∧ True) (by with_unfolding_all rfl) ⟨trivial, trivial⟩ ?_
                  cases h
                  exact am_ev_ret 0 0 0 rfl .int rfl rfl rfl
                · rw [if_neg c8] at h
                  refine am_ev_neg c8 ?_
                  refine am_ev_st 4 (f' := am_br (p3 < te) 93 88 [(5, .int (1 : Int32)), (4, .int (1 : Int32)), (0, .ref 19), (1, .int p1), (2, .int p2), (3, .int p3)] [] (W9 N C E F P Q (te, tk, ta, tb, tn, td) G ((0 : Int32)) H B O J V Y Z O9) k n) (g := True ∧ True ∧ True ∧ True ∧ True) (by with_unfolding_all rfl) ⟨trivial, trivial, trivial, trivial, trivial⟩ ?_
                  by_cases c9 : p3 < te
                  · rw [if_pos c9] at h
                    refine am_ev_pos c9 ?_
                    by_cases g10 : (p2 < 0 ∨ 120 ≤ (p2).toNatClampNeg)
                    · rw [if_pos g10] at h; cases h
                    rw [if_neg g10] at h
                    by_cases g11 : (p3 < 0 ∨ 120 ≤ (p3).toNatClampNeg)
                    · rw [if_pos g11] at h; cases h
                    rw [if_neg g11] at h
                    by_cases g12 : (p2 < 0 ∨ 120 ≤ (p2).toNatClampNeg)
                    · rw [if_pos g12] at h; cases h
                    rw [if_neg g12] at h
                    by_cases g13 : (p3 < 0 ∨ 120 ≤ (p3).toNatClampNeg)
                    · rw [if_pos g13] at h; cases h
                    rw [if_neg g13] at h
                    refine am_ev_st 22 (f' := am_br ((td (p2).toNatClampNeg) ≤ (td (p3).toNatClampNeg)) 135 123 [(4, .int (((1 : Int32) + (tn (p2).toNatClampNeg)) + (tn (p3).toNatClampNeg))), (5, .int (1 : Int32)), (0, .ref 19), (1, .int p1), (2, .int p2), (3, .int p3)] [.int (1 : Int32)] (W9 N C E F P Q (te, tk, ta, tb, tn, td) G ((0 : Int32)) H B O J V Y Z O9) k n) (g := True ∧ True ∧ True ∧ True ∧ vp_in (p2) 120 ∧ True ∧ True ∧ True ∧ True ∧ vp_in (p3) 120 ∧ True ∧ True ∧ True ∧ True ∧ True ∧ True ∧ vp_in (p2) 120 ∧ True ∧ True ∧ True ∧ vp_in (p3) 120 ∧ True ∧ True) (by with_unfolding_all rfl) ⟨trivial, trivial, trivial, trivial, g10, trivial, trivial, trivial, trivial, g11, trivial, trivial, trivial, trivial, trivial, trivial, g12, trivial, trivial, trivial, g13, trivial, trivial⟩ ?_
                    by_cases c14 : (td (p2).toNatClampNeg) ≤ (td (p3).toNatClampNeg)
                    · rw [if_pos c14] at h
                      refine am_ev_pos c14 ?_
                      by_cases g15 : (p3 < 0 ∨ 120 ≤ (p3).toNatClampNeg)
                      · rw [if_pos g15] at h; cases h
                      rw [if_neg g15] at h
                      refine am_ev_st 9 (f' := am_br ((60 : Int32) < (((1 : Int32) + (tn (p2).toNatClampNeg)) + (tn (p3).toNatClampNeg))) 158 148 [(5, .int ((1 : Int32) + (td (p3).toNatClampNeg))), (4, .int (((1 : Int32) + (tn (p2).toNatClampNeg)) + (tn (p3).toNatClampNeg))), (0, .ref 19), (1, .int p1), (2, .int p2), (3, .int p3)] [] (W9 N C E F P Q (te, tk, ta, tb, tn, td) G ((0 : Int32)) H B O J V Y Z O9) k n) (g := True ∧ True ∧ True ∧ vp_in (p3) 120 ∧ True ∧ True ∧ True ∧ True ∧ True ∧ True) (by with_unfolding_all rfl) ⟨trivial, trivial, trivial, g15, trivial, trivial, trivial, trivial, trivial, trivial⟩ ?_
                      by_cases c16 : (60 : Int32) < (((1 : Int32) + (tn (p2).toNatClampNeg)) + (tn (p3).toNatClampNeg))
                      · rw [if_pos c16] at h
                        refine am_ev_pos c16 ?_
                        refine am_ev_st 1 (f' := (159, [(5, .int ((1 : Int32) + (td (p3).toNatClampNeg))), (4, .int (((1 : Int32) + (tn (p2).toNatClampNeg)) + (tn (p3).toNatClampNeg))), (0, .ref 19), (1, .int p1), (2, .int p2), (3, .int p3)], [.int (-1 : Int32)], (W9 N C E F P Q (te, tk, ta, tb, tn, td) G ((0 : Int32)) H B O J V Y Z O9), k, n)) (g := True ∧ True) (by with_unfolding_all rfl) ⟨trivial, trivial⟩ ?_
                        cases h
                        exact am_ev_ret 0 0 0 rfl .int rfl rfl rfl
                      · rw [if_neg c16] at h
                        refine am_ev_neg c16 ?_
                        refine am_ev_st 3 (f' := am_br (((1 : Int32) + (td (p3).toNatClampNeg)) ≤ (12 : Int32)) 160 155 [(5, .int ((1 : Int32) + (td (p3).toNatClampNeg))), (4, .int (((1 : Int32) + (tn (p2).toNatClampNeg)) + (tn (p3).toNatClampNeg))), (0, .ref 19), (1, .int p1), (2, .int p2), (3, .int p3)] [] (W9 N C E F P Q (te, tk, ta, tb, tn, td) G ((0 : Int32)) H B O J V Y Z O9) k n) (g := True ∧ True ∧ True ∧ True) (by with_unfolding_all rfl) ⟨trivial, trivial, trivial, trivial⟩ ?_
                        by_cases c17 : ((1 : Int32) + (td (p3).toNatClampNeg)) ≤ (12 : Int32)
                        · rw [if_pos c17] at h
                          refine am_ev_pos c17 ?_
                          by_cases g18 : (te < 0 ∨ 120 ≤ (te).toNatClampNeg)
                          · rw [if_pos g18] at h; cases h
                          rw [if_neg g18] at h
                          by_cases g19 : (te < 0 ∨ 120 ≤ (te).toNatClampNeg)
                          · rw [if_pos g19] at h; cases h
                          rw [if_neg g19] at h
                          refine am_ev_st 19 (f' := am_br (p1 < (2 : Int32)) 202 190 [(5, .int ((1 : Int32) + (td (p3).toNatClampNeg))), (4, .int (((1 : Int32) + (tn (p2).toNatClampNeg)) + (tn (p3).toNatClampNeg))), (0, .ref 19), (1, .int p1), (2, .int p2), (3, .int p3)] [.int te, .ref 22] (W9 N C E F P Q (te, (upd tk (te).toNatClampNeg p1), (upd ta (te).toNatClampNeg p2), tb, tn, td) G ((0 : Int32)) H B O J V Y Z O9) k n) (g := True ∧ True ∧ True ∧ True ∧ True ∧ vp_in (te) 120 ∧ True ∧ True ∧ True ∧ True ∧ True ∧ vp_in (te) 120 ∧ True ∧ True ∧ True ∧ True ∧ True ∧ True ∧ True ∧ True) (by with_unfolding_all rfl) ⟨trivial, trivial, trivial, trivial, trivial, g18, trivial, trivial, trivial, trivial, trivial, g19, trivial, trivial, trivial, trivial, trivial, trivial, trivial, trivial⟩ ?_
                          by_cases c20 : p1 < (2 : Int32)
                          · rw [if_pos c20] at h
                            refine am_ev_pos c20 ?_
                            by_cases g21 : (te < 0 ∨ 120 ≤ (te).toNatClampNeg)
                            · rw [if_pos g21] at h; cases h
                            rw [if_neg g21] at h
                            by_cases g22 : (te < 0 ∨ 120 ≤ (te).toNatClampNeg)
                            · rw [if_pos g22] at h; cases h
                            rw [if_neg g22] at h
                            by_cases g23 : (te < 0 ∨ 120 ≤ (te).toNatClampNeg)
                            · rw [if_pos g23] at h; cases h
                            rw [if_neg g23] at h
                            refine am_ev_st 24 (f' := (242, [(5, .int ((1 : Int32) + (td (p3).toNatClampNeg))), (4, .int (((1 : Int32) + (tn (p2).toNatClampNeg)) + (tn (p3).toNatClampNeg))), (0, .ref 19), (1, .int p1), (2, .int p2), (3, .int p3)], [.int ((te + (1 : Int32)) - (1 : Int32))], (W9 N C E F P Q ((te + (1 : Int32)), (upd tk (te).toNatClampNeg p1), (upd ta (te).toNatClampNeg p2), (upd tb (te).toNatClampNeg (-1 : Int32)), (upd tn (te).toNatClampNeg (((1 : Int32) + (tn (p2).toNatClampNeg)) + (tn (p3).toNatClampNeg))), (upd td (te).toNatClampNeg ((1 : Int32) + (td (p3).toNatClampNeg)))) G ((0 : Int32)) H B O J V Y Z O9), k, n)) (g := True ∧ vp_in (te) 120 ∧ True ∧ True ∧ True ∧ True ∧ True ∧ vp_in (te) 120 ∧ True ∧ True ∧ True ∧ True ∧ True ∧ vp_in (te) 120 ∧ True ∧ True ∧ True ∧ True ∧ True ∧ True ∧ True ∧ True ∧ True ∧ True ∧ True) (by with_unfolding_all rfl) ⟨trivial, g21, trivial, trivial, trivial, trivial, trivial, g22, trivial, trivial, trivial, trivial, trivial, g23, trivial, trivial, trivial, trivial, trivial, trivial, trivial, trivial, trivial, trivial, trivial⟩ ?_
                            cases h
                            exact am_ev_ret 0 0 0 rfl .int rfl rfl rfl
                          · rw [if_neg c20] at h
                            refine am_ev_neg c20 ?_
                            refine am_ev_st 3 (f' := am_br ((4 : Int32) < p1) 202 195 [(5, .int ((1 : Int32) + (td (p3).toNatClampNeg))), (4, .int (((1 : Int32) + (tn (p2).toNatClampNeg)) + (tn (p3).toNatClampNeg))), (0, .ref 19), (1, .int p1), (2, .int p2), (3, .int p3)] [.int te, .ref 22] (W9 N C E F P Q (te, (upd tk (te).toNatClampNeg p1), (upd ta (te).toNatClampNeg p2), tb, tn, td) G ((0 : Int32)) H B O J V Y Z O9) k n) (g := True ∧ True ∧ True ∧ True) (by with_unfolding_all rfl) ⟨trivial, trivial, trivial, trivial⟩ ?_
                            by_cases c24 : (4 : Int32) < p1
                            · rw [if_pos c24] at h
                              refine am_ev_pos c24 ?_
                              by_cases g25 : (te < 0 ∨ 120 ≤ (te).toNatClampNeg)
                              · rw [if_pos g25] at h; cases h
                              rw [if_neg g25] at h
                              by_cases g26 : (te < 0 ∨ 120 ≤ (te).toNatClampNeg)
                              · rw [if_pos g26] at h; cases h
                              rw [if_neg g26] at h
                              by_cases g27 : (te < 0 ∨ 120 ≤ (te).toNatClampNeg)
                              · rw [if_pos g27] at h; cases h
                              rw [if_neg g27] at h
                              refine am_ev_st 24 (f' := (242, [(5, .int ((1 : Int32) + (td (p3).toNatClampNeg))), (4, .int (((1 : Int32) + (tn (p2).toNatClampNeg)) + (tn (p3).toNatClampNeg))), (0, .ref 19), (1, .int p1), (2, .int p2), (3, .int p3)], [.int ((te + (1 : Int32)) - (1 : Int32))], (W9 N C E F P Q ((te + (1 : Int32)), (upd tk (te).toNatClampNeg p1), (upd ta (te).toNatClampNeg p2), (upd tb (te).toNatClampNeg (-1 : Int32)), (upd tn (te).toNatClampNeg (((1 : Int32) + (tn (p2).toNatClampNeg)) + (tn (p3).toNatClampNeg))), (upd td (te).toNatClampNeg ((1 : Int32) + (td (p3).toNatClampNeg)))) G ((0 : Int32)) H B O J V Y Z O9), k, n)) (g := True ∧ vp_in (te) 120 ∧ True ∧ True ∧ True ∧ True ∧ True ∧ vp_in (te) 120 ∧ True ∧ True ∧ True ∧ True ∧ True ∧ vp_in (te) 120 ∧ True ∧ True ∧ True ∧ True ∧ True ∧ True ∧ True ∧ True ∧ True ∧ True ∧ True) (by with_unfolding_all rfl) ⟨trivial, g25, trivial, trivial, trivial, trivial, trivial, g26, trivial, trivial, trivial, trivial, trivial, g27, trivial, trivial, trivial, trivial, trivial, trivial, trivial, trivial, trivial, trivial, trivial⟩ ?_
                              cases h
                              exact am_ev_ret 0 0 0 rfl .int rfl rfl rfl
                            · rw [if_neg c24] at h
                              refine am_ev_neg c24 ?_
                              by_cases g28 : (te < 0 ∨ 120 ≤ (te).toNatClampNeg)
                              · rw [if_pos g28] at h; cases h
                              rw [if_neg g28] at h
                              by_cases g29 : (te < 0 ∨ 120 ≤ (te).toNatClampNeg)
                              · rw [if_pos g29] at h; cases h
                              rw [if_neg g29] at h
                              by_cases g30 : (te < 0 ∨ 120 ≤ (te).toNatClampNeg)
                              · rw [if_pos g30] at h; cases h
                              rw [if_neg g30] at h
                              refine am_ev_st 25 (f' := (242, [(5, .int ((1 : Int32) + (td (p3).toNatClampNeg))), (4, .int (((1 : Int32) + (tn (p2).toNatClampNeg)) + (tn (p3).toNatClampNeg))), (0, .ref 19), (1, .int p1), (2, .int p2), (3, .int p3)], [.int ((te + (1 : Int32)) - (1 : Int32))], (W9 N C E F P Q ((te + (1 : Int32)), (upd tk (te).toNatClampNeg p1), (upd ta (te).toNatClampNeg p2), (upd tb (te).toNatClampNeg p3), (upd tn (te).toNatClampNeg (((1 : Int32) + (tn (p2).toNatClampNeg)) + (tn (p3).toNatClampNeg))), (upd td (te).toNatClampNeg ((1 : Int32) + (td (p3).toNatClampNeg)))) G ((0 : Int32)) H B O J V Y Z O9), k, n)) (g := True ∧ True ∧ vp_in (te) 120 ∧ True ∧ True ∧ True ∧ True ∧ True ∧ vp_in (te) 120 ∧ True ∧ True ∧ True ∧ True ∧ True ∧ vp_in (te) 120 ∧ True ∧ True ∧ True ∧ True ∧ True ∧ True ∧ True ∧ True ∧ True ∧ True ∧ True) (by with_unfolding_all rfl) ⟨trivial, trivial, g28, trivial, trivial, trivial, trivial, trivial, g29, trivial, trivial, trivial, trivial, trivial, g30, trivial, trivial, trivial, trivial, trivial, trivial, trivial, trivial, trivial, trivial, trivial⟩ ?_
                              cases h
                              exact am_ev_ret 0 0 0 rfl .int rfl rfl rfl
                        · rw [if_neg c17] at h
                          refine am_ev_neg c17 ?_
                          refine am_ev_st 1 (f' := (159, [(5, .int ((1 : Int32) + (td (p3).toNatClampNeg))), (4, .int (((1 : Int32) + (tn (p2).toNatClampNeg)) + (tn (p3).toNatClampNeg))), (0, .ref 19), (1, .int p1), (2, .int p2), (3, .int p3)], [.int (-1 : Int32)], (W9 N C E F P Q (te, tk, ta, tb, tn, td) G ((0 : Int32)) H B O J V Y Z O9), k, n)) (g := True ∧ True) (by with_unfolding_all rfl) ⟨trivial, trivial⟩ ?_
                          cases h
                          exact am_ev_ret 0 0 0 rfl .int rfl rfl rfl
                    · rw [if_neg c14] at h
                      refine am_ev_neg c14 ?_
                      by_cases g31 : (p2 < 0 ∨ 120 ≤ (p2).toNatClampNeg)
                      · rw [if_pos g31] at h; cases h
                      rw [if_neg g31] at h
                      refine am_ev_st 10 (f' := am_br ((60 : Int32) < (((1 : Int32) + (tn (p2).toNatClampNeg)) + (tn (p3).toNatClampNeg))) 158 148 [(5, .int ((1 : Int32) + (td (p2).toNatClampNeg))), (4, .int (((1 : Int32) + (tn (p2).toNatClampNeg)) + (tn (p3).toNatClampNeg))), (0, .ref 19), (1, .int p1), (2, .int p2), (3, .int p3)] [] (W9 N C E F P Q (te, tk, ta, tb, tn, td) G ((0 : Int32)) H B O J V Y Z O9) k n) (g := True ∧ True ∧ True ∧ vp_in (p2) 120 ∧ True ∧ True ∧ True ∧ True ∧ True ∧ True ∧ True) (by with_unfolding_all rfl) ⟨trivial, trivial, trivial, g31, trivial, trivial, trivial, trivial, trivial, trivial, trivial⟩ ?_
                      by_cases c32 : (60 : Int32) < (((1 : Int32) + (tn (p2).toNatClampNeg)) + (tn (p3).toNatClampNeg))
                      · rw [if_pos c32] at h
                        refine am_ev_pos c32 ?_
                        refine am_ev_st 1 (f' := (159, [(5, .int ((1 : Int32) + (td (p2).toNatClampNeg))), (4, .int (((1 : Int32) + (tn (p2).toNatClampNeg)) + (tn (p3).toNatClampNeg))), (0, .ref 19), (1, .int p1), (2, .int p2), (3, .int p3)], [.int (-1 : Int32)], (W9 N C E F P Q (te, tk, ta, tb, tn, td) G ((0 : Int32)) H B O J V Y Z O9), k, n)) (g := True ∧ True) (by with_unfolding_all rfl) ⟨trivial, trivial⟩ ?_
                        cases h
                        exact am_ev_ret 0 0 0 rfl .int rfl rfl rfl
                      · rw [if_neg c32] at h
                        refine am_ev_neg c32 ?_
                        refine am_ev_st 3 (f' := am_br (((1 : Int32) + (td (p2).toNatClampNeg)) ≤ (12 : Int32)) 160 155 [(5, .int ((1 : Int32) + (td (p2).toNatClampNeg))), (4, .int (((1 : Int32) + (tn (p2).toNatClampNeg)) + (tn (p3).toNatClampNeg))), (0, .ref 19), (1, .int p1), (2, .int p2), (3, .int p3)] [] (W9 N C E F P Q (te, tk, ta, tb, tn, td) G ((0 : Int32)) H B O J V Y Z O9) k n) (g := True ∧ True ∧ True ∧ True) (by with_unfolding_all rfl) ⟨trivial, trivial, trivial, trivial⟩ ?_
                        by_cases c33 : ((1 : Int32) + (td (p2).toNatClampNeg)) ≤ (12 : Int32)
                        · rw [if_pos c33] at h
                          refine am_ev_pos c33 ?_
                          by_cases g34 : (te < 0 ∨ 120 ≤ (te).toNatClampNeg)
                          · rw [if_pos g34] at h; cases h
                          rw [if_neg g34] at h
                          by_cases g35 : (te < 0 ∨ 120 ≤ (te).toNatClampNeg)
                          · rw [if_pos g35] at h; cases h
                          rw [if_neg g35] at h
                          refine am_ev_st 19 (f' := am_br (p1 < (2 : Int32)) 202 190 [(5, .int ((1 : Int32) + (td (p2).toNatClampNeg))), (4, .int (((1 : Int32) + (tn (p2).toNatClampNeg)) + (tn (p3).toNatClampNeg))), (0, .ref 19), (1, .int p1), (2, .int p2), (3, .int p3)] [.int te, .ref 22] (W9 N C E F P Q (te, (upd tk (te).toNatClampNeg p1), (upd ta (te).toNatClampNeg p2), tb, tn, td) G ((0 : Int32)) H B O J V Y Z O9) k n) (g := True ∧ True ∧ True ∧ True ∧ True ∧ vp_in (te) 120 ∧ True ∧ True ∧ True ∧ True ∧ True ∧ vp_in (te) 120 ∧ True ∧ True ∧ True ∧ True ∧ True ∧ True ∧ True ∧ True) (by with_unfolding_all rfl) ⟨trivial, trivial, trivial, trivial, trivial, g34, trivial, trivial, trivial, trivial, trivial, g35, trivial, trivial, trivial, trivial, trivial, trivial, trivial, trivial⟩ ?_
                          by_cases c36 : p1 < (2 : Int32)
                          · rw [if_pos c36] at h
                            refine am_ev_pos c36 ?_
                            by_cases g37 : (te < 0 ∨ 120 ≤ (te).toNatClampNeg)
                            · rw [if_pos g37] at h; cases h
                            rw [if_neg g37] at h
                            by_cases g38 : (te < 0 ∨ 120 ≤ (te).toNatClampNeg)
                            · rw [if_pos g38] at h; cases h
                            rw [if_neg g38] at h
                            by_cases g39 : (te < 0 ∨ 120 ≤ (te).toNatClampNeg)
                            · rw [if_pos g39] at h; cases h
                            rw [if_neg g39] at h
                            refine am_ev_st 24 (f' := (242, [(5, .int ((1 : Int32) + (td (p2).toNatClampNeg))), (4, .int (((1 : Int32) + (tn (p2).toNatClampNeg)) + (tn (p3).toNatClampNeg))), (0, .ref 19), (1, .int p1), (2, .int p2), (3, .int p3)], [.int ((te + (1 : Int32)) - (1 : Int32))], (W9 N C E F P Q ((te + (1 : Int32)), (upd tk (te).toNatClampNeg p1), (upd ta (te).toNatClampNeg p2), (upd tb (te).toNatClampNeg (-1 : Int32)), (upd tn (te).toNatClampNeg (((1 : Int32) + (tn (p2).toNatClampNeg)) + (tn (p3).toNatClampNeg))), (upd td (te).toNatClampNeg ((1 : Int32) + (td (p2).toNatClampNeg)))) G ((0 : Int32)) H B O J V Y Z O9), k, n)) (g := True ∧ vp_in (te) 120 ∧ True ∧ True ∧ True ∧ True ∧ True ∧ vp_in (te) 120 ∧ True ∧ True ∧ True ∧ True ∧ True ∧ vp_in (te) 120 ∧ True ∧ True ∧ True ∧ True ∧ True ∧ True ∧ True ∧ True ∧ True ∧ True ∧ True) (by with_unfolding_all rfl) ⟨trivial, g37, trivial, trivial, trivial, trivial, trivial, g38, trivial, trivial, trivial, trivial, trivial, g39, trivial, trivial, trivial, trivial, trivial, trivial, trivial, trivial, trivial, trivial, trivial⟩ ?_
                            cases h
                            exact am_ev_ret 0 0 0 rfl .int rfl rfl rfl
                          · rw [if_neg c36] at h
                            refine am_ev_neg c36 ?_
                            refine am_ev_st 3 (f' := am_br ((4 : Int32) < p1) 202 195 [(5, .int ((1 : Int32) + (td (p2).toNatClampNeg))), (4, .int (((1 : Int32) + (tn (p2).toNatClampNeg)) + (tn (p3).toNatClampNeg))), (0, .ref 19), (1, .int p1), (2, .int p2), (3, .int p3)] [.int te, .ref 22] (W9 N C E F P Q (te, (upd tk (te).toNatClampNeg p1), (upd ta (te).toNatClampNeg p2), tb, tn, td) G ((0 : Int32)) H B O J V Y Z O9) k n) (g := True ∧ True ∧ True ∧ True) (by with_unfolding_all rfl) ⟨trivial, trivial, trivial, trivial⟩ ?_
                            by_cases c40 : (4 : Int32) < p1
                            · rw [if_pos c40] at h
                              refine am_ev_pos c40 ?_
                              by_cases g41 : (te < 0 ∨ 120 ≤ (te).toNatClampNeg)
                              · rw [if_pos g41] at h; cases h
                              rw [if_neg g41] at h
                              by_cases g42 : (te < 0 ∨ 120 ≤ (te).toNatClampNeg)
                              · rw [if_pos g42] at h; cases h
                              rw [if_neg g42] at h
                              by_cases g43 : (te < 0 ∨ 120 ≤ (te).toNatClampNeg)
                              · rw [if_pos g43] at h; cases h
                              rw [if_neg g43] at h
                              refine am_ev_st 24 (f' := (242, [(5, .int ((1 : Int32) + (td (p2).toNatClampNeg))), (4, .int (((1 : Int32) + (tn (p2).toNatClampNeg)) + (tn (p3).toNatClampNeg))), (0, .ref 19), (1, .int p1), (2, .int p2), (3, .int p3)], [.int ((te + (1 : Int32)) - (1 : Int32))], (W9 N C E F P Q ((te + (1 : Int32)), (upd tk (te).toNatClampNeg p1), (upd ta (te).toNatClampNeg p2), (upd tb (te).toNatClampNeg (-1 : Int32)), (upd tn (te).toNatClampNeg (((1 : Int32) + (tn (p2).toNatClampNeg)) + (tn (p3).toNatClampNeg))), (upd td (te).toNatClampNeg ((1 : Int32) + (td (p2).toNatClampNeg)))) G ((0 : Int32)) H B O J V Y Z O9), k, n)) (g := True ∧ vp_in (te) 120 ∧ True ∧ True ∧ True ∧ True ∧ True ∧ vp_in (te) 120 ∧ True ∧ True ∧ True ∧ True ∧ True ∧ vp_in (te) 120 ∧ True ∧ True ∧ True ∧ True ∧ True ∧ True ∧ True ∧ True ∧ True ∧ True ∧ True) (by with_unfolding_all rfl) ⟨trivial, g41, trivial, trivial, trivial, trivial, trivial, g42, trivial, trivial, trivial, trivial, trivial, g43, trivial, trivial, trivial, trivial, trivial, trivial, trivial, trivial, trivial, trivial, trivial⟩ ?_
                              cases h
                              exact am_ev_ret 0 0 0 rfl .int rfl rfl rfl
                            · rw [if_neg c40] at h
                              refine am_ev_neg c40 ?_
                              by_cases g44 : (te < 0 ∨ 120 ≤ (te).toNatClampNeg)
                              · rw [if_pos g44] at h; cases h
                              rw [if_neg g44] at h
                              by_cases g45 : (te < 0 ∨ 120 ≤ (te).toNatClampNeg)
                              · rw [if_pos g45] at h; cases h
                              rw [if_neg g45] at h
                              by_cases g46 : (te < 0 ∨ 120 ≤ (te).toNatClampNeg)
                              · rw [if_pos g46] at h; cases h
                              rw [if_neg g46] at h
                              refine am_ev_st 25 (f' := (242, [(5, .int ((1 : Int32) + (td (p2).toNatClampNeg))), (4, .int (((1 : Int32) + (tn (p2).toNatClampNeg)) + (tn (p3).toNatClampNeg))), (0, .ref 19), (1, .int p1), (2, .int p2), (3, .int p3)], [.int ((te + (1 : Int32)) - (1 : Int32))], (W9 N C E F P Q ((te + (1 : Int32)), (upd tk (te).toNatClampNeg p1), (upd ta (te).toNatClampNeg p2), (upd tb (te).toNatClampNeg p3), (upd tn (te).toNatClampNeg (((1 : Int32) + (tn (p2).toNatClampNeg)) + (tn (p3).toNatClampNeg))), (upd td (te).toNatClampNeg ((1 : Int32) + (td (p2).toNatClampNeg)))) G ((0 : Int32)) H B O J V Y Z O9), k, n)) (g := True ∧ True ∧ vp_in (te) 120 ∧ True ∧ True ∧ True ∧ True ∧ True ∧ vp_in (te) 120 ∧ True ∧ True ∧ True ∧ True ∧ True ∧ vp_in (te) 120 ∧ True ∧ True ∧ True ∧ True ∧ True ∧ True ∧ True ∧ True ∧ True ∧ True ∧ True) (by with_unfolding_all rfl) ⟨trivial, trivial, g44, trivial, trivial, trivial, trivial, trivial, g45, trivial, trivial, trivial, trivial, trivial, g46, trivial, trivial, trivial, trivial, trivial, trivial, trivial, trivial, trivial, trivial, trivial⟩ ?_
                              cases h
                              exact am_ev_ret 0 0 0 rfl .int rfl rfl rfl
                        · rw [if_neg c33] at h
                          refine am_ev_neg c33 ?_
                          refine am_ev_st 1 (f' := (159, [(5, .int ((1 : Int32) + (td (p2).toNatClampNeg))), (4, .int (((1 : Int32) + (tn (p2).toNatClampNeg)) + (tn (p3).toNatClampNeg))), (0, .ref 19), (1, .int p1), (2, .int p2), (3, .int p3)], [.int (-1 : Int32)], (W9 N C E F P Q (te, tk, ta, tb, tn, td) G ((0 : Int32)) H B O J V Y Z O9), k, n)) (g := True ∧ True) (by with_unfolding_all rfl) ⟨trivial, trivial⟩ ?_
                          cases h
                          exact am_ev_ret 0 0 0 rfl .int rfl rfl rfl
                  · rw [if_neg c9] at h
                    refine am_ev_neg c9 ?_
                    refine am_ev_st 1 (f' := (92, [(5, .int (1 : Int32)), (4, .int (1 : Int32)), (0, .ref 19), (1, .int p1), (2, .int p2), (3, .int p3)], [.int (-1 : Int32)], (W9 N C E F P Q (te, tk, ta, tb, tn, td) G ((0 : Int32)) H B O J V Y Z O9), k, n)) (g := True ∧ True) (by with_unfolding_all rfl) ⟨trivial, trivial⟩ ?_
                    cases h
                    exact am_ev_ret 0 0 0 rfl .int rfl rfl rfl
          · rw [if_neg c5] at h
            refine am_ev_neg c5 ?_
            refine am_ev_st 2 (f' := am_br (p2 < 0) 65 54 [(5, .int (1 : Int32)), (4, .int (1 : Int32)), (0, .ref 19), (1, .int p1), (2, .int p2), (3, .int p3)] [] (W9 N C E F P Q (te, tk, ta, tb, tn, td) G ((0 : Int32)) H B O J V Y Z O9) k n) (g := True ∧ True ∧ True) (by with_unfolding_all rfl) ⟨trivial, trivial, trivial⟩ ?_
            by_cases c47 : p2 < 0
            · rw [if_pos c47] at h
              refine am_ev_pos c47 ?_
              refine am_ev_st 1 (f' := (66, [(5, .int (1 : Int32)), (4, .int (1 : Int32)), (0, .ref 19), (1, .int p1), (2, .int p2), (3, .int p3)], [.int (-1 : Int32)], (W9 N C E F P Q (te, tk, ta, tb, tn, td) G ((0 : Int32)) H B O J V Y Z O9), k, n)) (g := True ∧ True) (by with_unfolding_all rfl) ⟨trivial, trivial⟩ ?_
              cases h
              exact am_ev_ret 0 0 0 rfl .int rfl rfl rfl
            · rw [if_neg c47] at h
              refine am_ev_neg c47 ?_
              obtain ⟨gc, gb⟩ := G
              try dsimp only at h
              refine am_ev_st 4 (f' := am_br (p2 < gc) 144 62 [(5, .int (1 : Int32)), (4, .int (1 : Int32)), (0, .ref 19), (1, .int p1), (2, .int p2), (3, .int p3)] [] (W9 N C E F P Q (te, tk, ta, tb, tn, td) (gc, gb) ((0 : Int32)) H B O J V Y Z O9) k n) (g := True ∧ True ∧ True ∧ True ∧ True) (by with_unfolding_all rfl) ⟨trivial, trivial, trivial, trivial, trivial⟩ ?_
              by_cases c48 : p2 < gc
              · rw [if_pos c48] at h
                refine am_ev_pos c48 ?_
                refine am_ev_st 3 (f' := am_br ((60 : Int32) < (1 : Int32)) 158 148 [(5, .int (1 : Int32)), (4, .int (1 : Int32)), (0, .ref 19), (1, .int p1), (2, .int p2), (3, .int p3)] [] (W9 N C E F P Q (te, tk, ta, tb, tn, td) (gc, gb) ((0 : Int32)) H B O J V Y Z O9) k n) (g := True ∧ True ∧ True ∧ True) (by with_unfolding_all rfl) ⟨trivial, trivial, trivial, trivial⟩ ?_
                by_cases c49 : (60 : Int32) < (1 : Int32)
                · rw [if_pos c49] at h
                  refine am_ev_pos c49 ?_
                  refine am_ev_st 1 (f' := (159, [(5, .int (1 : Int32)), (4, .int (1 : Int32)), (0, .ref 19), (1, .int p1), (2, .int p2), (3, .int p3)], [.int (-1 : Int32)], (W9 N C E F P Q (te, tk, ta, tb, tn, td) (gc, gb) ((0 : Int32)) H B O J V Y Z O9), k, n)) (g := True ∧ True) (by with_unfolding_all rfl) ⟨trivial, trivial⟩ ?_
                  cases h
                  exact am_ev_ret 0 0 0 rfl .int rfl rfl rfl
                · rw [if_neg c49] at h
                  refine am_ev_neg c49 ?_
                  refine am_ev_st 3 (f' := am_br ((1 : Int32) ≤ (12 : Int32)) 160 155 [(5, .int (1 : Int32)), (4, .int (1 : Int32)), (0, .ref 19), (1, .int p1), (2, .int p2), (3, .int p3)] [] (W9 N C E F P Q (te, tk, ta, tb, tn, td) (gc, gb) ((0 : Int32)) H B O J V Y Z O9) k n) (g := True ∧ True ∧ True ∧ True) (by with_unfolding_all rfl) ⟨trivial, trivial, trivial, trivial⟩ ?_
                  by_cases c50 : (1 : Int32) ≤ (12 : Int32)
                  · rw [if_pos c50] at h
                    refine am_ev_pos c50 ?_
                    by_cases g51 : (te < 0 ∨ 120 ≤ (te).toNatClampNeg)
                    · rw [if_pos g51] at h; cases h
                    rw [if_neg g51] at h
                    by_cases g52 : (te < 0 ∨ 120 ≤ (te).toNatClampNeg)
                    · rw [if_pos g52] at h; cases h
                    rw [if_neg g52] at h
                    refine am_ev_st 19 (f' := am_br (p1 < (2 : Int32)) 202 190 [(5, .int (1 : Int32)), (4, .int (1 : Int32)), (0, .ref 19), (1, .int p1), (2, .int p2), (3, .int p3)] [.int te, .ref 22] (W9 N C E F P Q (te, (upd tk (te).toNatClampNeg p1), (upd ta (te).toNatClampNeg p2), tb, tn, td) (gc, gb) ((0 : Int32)) H B O J V Y Z O9) k n) (g := True ∧ True ∧ True ∧ True ∧ True ∧ vp_in (te) 120 ∧ True ∧ True ∧ True ∧ True ∧ True ∧ vp_in (te) 120 ∧ True ∧ True ∧ True ∧ True ∧ True ∧ True ∧ True ∧ True) (by with_unfolding_all rfl) ⟨trivial, trivial, trivial, trivial, trivial, g51, trivial, trivial, trivial, trivial, trivial, g52, trivial, trivial, trivial, trivial, trivial, trivial, trivial, trivial⟩ ?_
                    by_cases c53 : p1 < (2 : Int32)
                    · rw [if_pos c53] at h
                      refine am_ev_pos c53 ?_
                      by_cases g54 : (te < 0 ∨ 120 ≤ (te).toNatClampNeg)
                      · rw [if_pos g54] at h; cases h
                      rw [if_neg g54] at h
                      by_cases g55 : (te < 0 ∨ 120 ≤ (te).toNatClampNeg)
                      · rw [if_pos g55] at h; cases h
                      rw [if_neg g55] at h
                      by_cases g56 : (te < 0 ∨ 120 ≤ (te).toNatClampNeg)
                      · rw [if_pos g56] at h; cases h
                      rw [if_neg g56] at h
                      refine am_ev_st 24 (f' := (242, [(5, .int (1 : Int32)), (4, .int (1 : Int32)), (0, .ref 19), (1, .int p1), (2, .int p2), (3, .int p3)], [.int ((te + (1 : Int32)) - (1 : Int32))], (W9 N C E F P Q ((te + (1 : Int32)), (upd tk (te).toNatClampNeg p1), (upd ta (te).toNatClampNeg p2), (upd tb (te).toNatClampNeg (-1 : Int32)), (upd tn (te).toNatClampNeg (1 : Int32)), (upd td (te).toNatClampNeg (1 : Int32))) (gc, gb) ((0 : Int32)) H B O J V Y Z O9), k, n)) (g := True ∧ vp_in (te) 120 ∧ True ∧ True ∧ True ∧ True ∧ True ∧ vp_in (te) 120 ∧ True ∧ True ∧ True ∧ True ∧ True ∧ vp_in (te) 120 ∧ True ∧ True ∧ True ∧ True ∧ True ∧ True ∧ True ∧ True ∧ True ∧ True ∧ True) (by with_unfolding_all rfl) ⟨trivial, g54, trivial, trivial, trivial, trivial, trivial, g55, trivial, trivial, trivial, trivial, trivial, g56, trivial, trivial, trivial, trivial, trivial, trivial, trivial, trivial, trivial, trivial, trivial⟩ ?_
                      cases h
                      exact am_ev_ret 0 0 0 rfl .int rfl rfl rfl
                    · rw [if_neg c53] at h
                      refine am_ev_neg c53 ?_
                      refine am_ev_st 3 (f' := am_br ((4 : Int32) < p1) 202 195 [(5, .int (1 : Int32)), (4, .int (1 : Int32)), (0, .ref 19), (1, .int p1), (2, .int p2), (3, .int p3)] [.int te, .ref 22] (W9 N C E F P Q (te, (upd tk (te).toNatClampNeg p1), (upd ta (te).toNatClampNeg p2), tb, tn, td) (gc, gb) ((0 : Int32)) H B O J V Y Z O9) k n) (g := True ∧ True ∧ True ∧ True) (by with_unfolding_all rfl) ⟨trivial, trivial, trivial, trivial⟩ ?_
                      by_cases c57 : (4 : Int32) < p1
                      · rw [if_pos c57] at h
                        refine am_ev_pos c57 ?_
                        by_cases g58 : (te < 0 ∨ 120 ≤ (te).toNatClampNeg)
                        · rw [if_pos g58] at h; cases h
                        rw [if_neg g58] at h
                        by_cases g59 : (te < 0 ∨ 120 ≤ (te).toNatClampNeg)
                        · rw [if_pos g59] at h; cases h
                        rw [if_neg g59] at h
                        by_cases g60 : (te < 0 ∨ 120 ≤ (te).toNatClampNeg)
                        · rw [if_pos g60] at h; cases h
                        rw [if_neg g60] at h
                        refine am_ev_st 24 (f' := (242, [(5, .int (1 : Int32)), (4, .int (1 : Int32)), (0, .ref 19), (1, .int p1), (2, .int p2), (3, .int p3)], [.int ((te + (1 : Int32)) - (1 : Int32))], (W9 N C E F P Q ((te + (1 : Int32)), (upd tk (te).toNatClampNeg p1), (upd ta (te).toNatClampNeg p2), (upd tb (te).toNatClampNeg (-1 : Int32)), (upd tn (te).toNatClampNeg (1 : Int32)), (upd td (te).toNatClampNeg (1 : Int32))) (gc, gb) ((0 : Int32)) H B O J V Y Z O9), k, n)) (g := True ∧ vp_in (te) 120 ∧ True ∧ True ∧ True ∧ True ∧ True ∧ vp_in (te) 120 ∧ True ∧ True ∧ True ∧ True ∧ True ∧ vp_in (te) 120 ∧ True ∧ True ∧ True ∧ True ∧ True ∧ True ∧ True ∧ True ∧ True ∧ True ∧ True) (by with_unfolding_all rfl) ⟨trivial, g58, trivial, trivial, trivial, trivial, trivial, g59, trivial, trivial, trivial, trivial, trivial, g60, trivial, trivial, trivial, trivial, trivial, trivial, trivial, trivial, trivial, trivial, trivial⟩ ?_
                        cases h
                        exact am_ev_ret 0 0 0 rfl .int rfl rfl rfl
                      · rw [if_neg c57] at h
                        refine am_ev_neg c57 ?_
                        by_cases g61 : (te < 0 ∨ 120 ≤ (te).toNatClampNeg)
                        · rw [if_pos g61] at h; cases h
                        rw [if_neg g61] at h
                        by_cases g62 : (te < 0 ∨ 120 ≤ (te).toNatClampNeg)
                        · rw [if_pos g62] at h; cases h
                        rw [if_neg g62] at h
                        by_cases g63 : (te < 0 ∨ 120 ≤ (te).toNatClampNeg)
                        · rw [if_pos g63] at h; cases h
                        rw [if_neg g63] at h
                        refine am_ev_st 25 (f' := (242, [(5, .int (1 : Int32)), (4, .int (1 : Int32)), (0, .ref 19), (1, .int p1), (2, .int p2), (3, .int p3)], [.int ((te + (1 : Int32)) - (1 : Int32))], (W9 N C E F P Q ((te + (1 : Int32)), (upd tk (te).toNatClampNeg p1), (upd ta (te).toNatClampNeg p2), (upd tb (te).toNatClampNeg p3), (upd tn (te).toNatClampNeg (1 : Int32)), (upd td (te).toNatClampNeg (1 : Int32))) (gc, gb) ((0 : Int32)) H B O J V Y Z O9), k, n)) (g := True ∧ True ∧ vp_in (te) 120 ∧ True ∧ True ∧ True ∧ True ∧ True ∧ vp_in (te) 120 ∧ True ∧ True ∧ True ∧ True ∧ True ∧ vp_in (te) 120 ∧ True ∧ True ∧ True ∧ True ∧ True ∧ True ∧ True ∧ True ∧ True ∧ True ∧ True) (by with_unfolding_all rfl) ⟨trivial, trivial, g61, trivial, trivial, trivial, trivial, trivial, g62, trivial, trivial, trivial, trivial, trivial, g63, trivial, trivial, trivial, trivial, trivial, trivial, trivial, trivial, trivial, trivial, trivial⟩ ?_
                        cases h
                        exact am_ev_ret 0 0 0 rfl .int rfl rfl rfl
                  · rw [if_neg c50] at h
                    refine am_ev_neg c50 ?_
                    refine am_ev_st 1 (f' := (159, [(5, .int (1 : Int32)), (4, .int (1 : Int32)), (0, .ref 19), (1, .int p1), (2, .int p2), (3, .int p3)], [.int (-1 : Int32)], (W9 N C E F P Q (te, tk, ta, tb, tn, td) (gc, gb) ((0 : Int32)) H B O J V Y Z O9), k, n)) (g := True ∧ True) (by with_unfolding_all rfl) ⟨trivial, trivial⟩ ?_
                    cases h
                    exact am_ev_ret 0 0 0 rfl .int rfl rfl rfl
              · rw [if_neg c48] at h
                refine am_ev_neg c48 ?_
                refine am_ev_st 1 (f' := (66, [(5, .int (1 : Int32)), (4, .int (1 : Int32)), (0, .ref 19), (1, .int p1), (2, .int p2), (3, .int p3)], [.int (-1 : Int32)], (W9 N C E F P Q (te, tk, ta, tb, tn, td) (gc, gb) ((0 : Int32)) H B O J V Y Z O9), k, n)) (g := True ∧ True) (by with_unfolding_all rfl) ⟨trivial, trivial⟩ ?_
                cases h
                exact am_ev_ret 0 0 0 rfl .int rfl rfl rfl
        · rw [if_neg c4] at h
          refine am_ev_neg c4 ?_
          refine am_ev_st 2 (f' := am_br (p2 < 0) 46 37 [(5, .int (1 : Int32)), (4, .int (1 : Int32)), (0, .ref 19), (1, .int p1), (2, .int p2), (3, .int p3)] [] (W9 N C E F P Q (te, tk, ta, tb, tn, td) G ((0 : Int32)) H B O J V Y Z O9) k n) (g := True ∧ True ∧ True) (by with_unfolding_all rfl) ⟨trivial, trivial, trivial⟩ ?_
          by_cases c64 : p2 < 0
          · rw [if_pos c64] at h
            refine am_ev_pos c64 ?_
            refine am_ev_st 1 (f' := (47, [(5, .int (1 : Int32)), (4, .int (1 : Int32)), (0, .ref 19), (1, .int p1), (2, .int p2), (3, .int p3)], [.int (-1 : Int32)], (W9 N C E F P Q (te, tk, ta, tb, tn, td) G ((0 : Int32)) H B O J V Y Z O9), k, n)) (g := True ∧ True) (by with_unfolding_all rfl) ⟨trivial, trivial⟩ ?_
            cases h
            exact am_ev_ret 0 0 0 rfl .int rfl rfl rfl
          · rw [if_neg c64] at h
            refine am_ev_neg c64 ?_
            refine am_ev_st 3 (f' := am_br (p2 ≤ (9 : Int32)) 144 43 [(5, .int (1 : Int32)), (4, .int (1 : Int32)), (0, .ref 19), (1, .int p1), (2, .int p2), (3, .int p3)] [] (W9 N C E F P Q (te, tk, ta, tb, tn, td) G ((0 : Int32)) H B O J V Y Z O9) k n) (g := True ∧ True ∧ True ∧ True) (by with_unfolding_all rfl) ⟨trivial, trivial, trivial, trivial⟩ ?_
            by_cases c65 : p2 ≤ (9 : Int32)
            · rw [if_pos c65] at h
              refine am_ev_pos c65 ?_
              refine am_ev_st 3 (f' := am_br ((60 : Int32) < (1 : Int32)) 158 148 [(5, .int (1 : Int32)), (4, .int (1 : Int32)), (0, .ref 19), (1, .int p1), (2, .int p2), (3, .int p3)] [] (W9 N C E F P Q (te, tk, ta, tb, tn, td) G ((0 : Int32)) H B O J V Y Z O9) k n) (g := True ∧ True ∧ True ∧ True) (by with_unfolding_all rfl) ⟨trivial, trivial, trivial, trivial⟩ ?_
              by_cases c66 : (60 : Int32) < (1 : Int32)
              · rw [if_pos c66] at h
                refine am_ev_pos c66 ?_
                refine am_ev_st 1 (f' := (159, [(5, .int (1 : Int32)), (4, .int (1 : Int32)), (0, .ref 19), (1, .int p1), (2, .int p2), (3, .int p3)], [.int (-1 : Int32)], (W9 N C E F P Q (te, tk, ta, tb, tn, td) G ((0 : Int32)) H B O J V Y Z O9), k, n)) (g := True ∧ True) (by with_unfolding_all rfl) ⟨trivial, trivial⟩ ?_
                cases h
                exact am_ev_ret 0 0 0 rfl .int rfl rfl rfl
              · rw [if_neg c66] at h
                refine am_ev_neg c66 ?_
                refine am_ev_st 3 (f' := am_br ((1 : Int32) ≤ (12 : Int32)) 160 155 [(5, .int (1 : Int32)), (4, .int (1 : Int32)), (0, .ref 19), (1, .int p1), (2, .int p2), (3, .int p3)] [] (W9 N C E F P Q (te, tk, ta, tb, tn, td) G ((0 : Int32)) H B O J V Y Z O9) k n) (g := True ∧ True ∧ True ∧ True) (by with_unfolding_all rfl) ⟨trivial, trivial, trivial, trivial⟩ ?_
                by_cases c67 : (1 : Int32) ≤ (12 : Int32)
                · rw [if_pos c67] at h
                  refine am_ev_pos c67 ?_
                  by_cases g68 : (te < 0 ∨ 120 ≤ (te).toNatClampNeg)
                  · rw [if_pos g68] at h; cases h
                  rw [if_neg g68] at h
                  by_cases g69 : (te < 0 ∨ 120 ≤ (te).toNatClampNeg)
                  · rw [if_pos g69] at h; cases h
                  rw [if_neg g69] at h
                  refine am_ev_st 19 (f' := am_br (p1 < (2 : Int32)) 202 190 [(5, .int (1 : Int32)), (4, .int (1 : Int32)), (0, .ref 19), (1, .int p1), (2, .int p2), (3, .int p3)] [.int te, .ref 22] (W9 N C E F P Q (te, (upd tk (te).toNatClampNeg p1), (upd ta (te).toNatClampNeg p2), tb, tn, td) G ((0 : Int32)) H B O J V Y Z O9) k n) (g := True ∧ True ∧ True ∧ True ∧ True ∧ vp_in (te) 120 ∧ True ∧ True ∧ True ∧ True ∧ True ∧ vp_in (te) 120 ∧ True ∧ True ∧ True ∧ True ∧ True ∧ True ∧ True ∧ True) (by with_unfolding_all rfl) ⟨trivial, trivial, trivial, trivial, trivial, g68, trivial, trivial, trivial, trivial, trivial, g69, trivial, trivial, trivial, trivial, trivial, trivial, trivial, trivial⟩ ?_
                  by_cases c70 : p1 < (2 : Int32)
                  · rw [if_pos c70] at h
                    refine am_ev_pos c70 ?_
                    by_cases g71 : (te < 0 ∨ 120 ≤ (te).toNatClampNeg)
                    · rw [if_pos g71] at h; cases h
                    rw [if_neg g71] at h
                    by_cases g72 : (te < 0 ∨ 120 ≤ (te).toNatClampNeg)
                    · rw [if_pos g72] at h; cases h
                    rw [if_neg g72] at h
                    by_cases g73 : (te < 0 ∨ 120 ≤ (te).toNatClampNeg)
                    · rw [if_pos g73] at h; cases h
                    rw [if_neg g73] at h
                    refine am_ev_st 24 (f' := (242, [(5, .int (1 : Int32)), (4, .int (1 : Int32)), (0, .ref 19), (1, .int p1), (2, .int p2), (3, .int p3)], [.int ((te + (1 : Int32)) - (1 : Int32))], (W9 N C E F P Q ((te + (1 : Int32)), (upd tk (te).toNatClampNeg p1), (upd ta (te).toNatClampNeg p2), (upd tb (te).toNatClampNeg (-1 : Int32)), (upd tn (te).toNatClampNeg (1 : Int32)), (upd td (te).toNatClampNeg (1 : Int32))) G ((0 : Int32)) H B O J V Y Z O9), k, n)) (g := True ∧ vp_in (te) 120 ∧ True ∧ True ∧ True ∧ True ∧ True ∧ vp_in (te) 120 ∧ True ∧ True ∧ True ∧ True ∧ True ∧ vp_in (te) 120 ∧ True ∧ True ∧ True ∧ True ∧ True ∧ True ∧ True ∧ True ∧ True ∧ True ∧ True) (by with_unfolding_all rfl) ⟨trivial, g71, trivial, trivial, trivial, trivial, trivial, g72, trivial, trivial, trivial, trivial, trivial, g73, trivial, trivial, trivial, trivial, trivial, trivial, trivial, trivial, trivial, trivial, trivial⟩ ?_
                    cases h
                    exact am_ev_ret 0 0 0 rfl .int rfl rfl rfl
                  · rw [if_neg c70] at h
                    refine am_ev_neg c70 ?_
                    refine am_ev_st 3 (f' := am_br ((4 : Int32) < p1) 202 195 [(5, .int (1 : Int32)), (4, .int (1 : Int32)), (0, .ref 19), (1, .int p1), (2, .int p2), (3, .int p3)] [.int te, .ref 22] (W9 N C E F P Q (te, (upd tk (te).toNatClampNeg p1), (upd ta (te).toNatClampNeg p2), tb, tn, td) G ((0 : Int32)) H B O J V Y Z O9) k n) (g := True ∧ True ∧ True ∧ True) (by with_unfolding_all rfl) ⟨trivial, trivial, trivial, trivial⟩ ?_
                    by_cases c74 : (4 : Int32) < p1
                    · rw [if_pos c74] at h
                      refine am_ev_pos c74 ?_
                      by_cases g75 : (te < 0 ∨ 120 ≤ (te).toNatClampNeg)
                      · rw [if_pos g75] at h; cases h
                      rw [if_neg g75] at h
                      by_cases g76 : (te < 0 ∨ 120 ≤ (te).toNatClampNeg)
                      · rw [if_pos g76] at h; cases h
                      rw [if_neg g76] at h
                      by_cases g77 : (te < 0 ∨ 120 ≤ (te).toNatClampNeg)
                      · rw [if_pos g77] at h; cases h
                      rw [if_neg g77] at h
                      refine am_ev_st 24 (f' := (242, [(5, .int (1 : Int32)), (4, .int (1 : Int32)), (0, .ref 19), (1, .int p1), (2, .int p2), (3, .int p3)], [.int ((te + (1 : Int32)) - (1 : Int32))], (W9 N C E F P Q ((te + (1 : Int32)), (upd tk (te).toNatClampNeg p1), (upd ta (te).toNatClampNeg p2), (upd tb (te).toNatClampNeg (-1 : Int32)), (upd tn (te).toNatClampNeg (1 : Int32)), (upd td (te).toNatClampNeg (1 : Int32))) G ((0 : Int32)) H B O J V Y Z O9), k, n)) (g := True ∧ vp_in (te) 120 ∧ True ∧ True ∧ True ∧ True ∧ True ∧ vp_in (te) 120 ∧ True ∧ True ∧ True ∧ True ∧ True ∧ vp_in (te) 120 ∧ True ∧ True ∧ True ∧ True ∧ True ∧ True ∧ True ∧ True ∧ True ∧ True ∧ True) (by with_unfolding_all rfl) ⟨trivial, g75, trivial, trivial, trivial, trivial, trivial, g76, trivial, trivial, trivial, trivial, trivial, g77, trivial, trivial, trivial, trivial, trivial, trivial, trivial, trivial, trivial, trivial, trivial⟩ ?_
                      cases h
                      exact am_ev_ret 0 0 0 rfl .int rfl rfl rfl
                    · rw [if_neg c74] at h
                      refine am_ev_neg c74 ?_
                      by_cases g78 : (te < 0 ∨ 120 ≤ (te).toNatClampNeg)
                      · rw [if_pos g78] at h; cases h
                      rw [if_neg g78] at h
                      by_cases g79 : (te < 0 ∨ 120 ≤ (te).toNatClampNeg)
                      · rw [if_pos g79] at h; cases h
                      rw [if_neg g79] at h
                      by_cases g80 : (te < 0 ∨ 120 ≤ (te).toNatClampNeg)
                      · rw [if_pos g80] at h; cases h
                      rw [if_neg g80] at h
                      refine am_ev_st 25 (f' := (242, [(5, .int (1 : Int32)), (4, .int (1 : Int32)), (0, .ref 19), (1, .int p1), (2, .int p2), (3, .int p3)], [.int ((te + (1 : Int32)) - (1 : Int32))], (W9 N C E F P Q ((te + (1 : Int32)), (upd tk (te).toNatClampNeg p1), (upd ta (te).toNatClampNeg p2), (upd tb (te).toNatClampNeg p3), (upd tn (te).toNatClampNeg (1 : Int32)), (upd td (te).toNatClampNeg (1 : Int32))) G ((0 : Int32)) H B O J V Y Z O9), k, n)) (g := True ∧ True ∧ vp_in (te) 120 ∧ True ∧ True ∧ True ∧ True ∧ True ∧ vp_in (te) 120 ∧ True ∧ True ∧ True ∧ True ∧ True ∧ vp_in (te) 120 ∧ True ∧ True ∧ True ∧ True ∧ True ∧ True ∧ True ∧ True ∧ True ∧ True ∧ True) (by with_unfolding_all rfl) ⟨trivial, trivial, g78, trivial, trivial, trivial, trivial, trivial, g79, trivial, trivial, trivial, trivial, trivial, g80, trivial, trivial, trivial, trivial, trivial, trivial, trivial, trivial, trivial, trivial, trivial⟩ ?_
                      cases h
                      exact am_ev_ret 0 0 0 rfl .int rfl rfl rfl
                · rw [if_neg c67] at h
                  refine am_ev_neg c67 ?_
                  refine am_ev_st 1 (f' := (159, [(5, .int (1 : Int32)), (4, .int (1 : Int32)), (0, .ref 19), (1, .int p1), (2, .int p2), (3, .int p3)], [.int (-1 : Int32)], (W9 N C E F P Q (te, tk, ta, tb, tn, td) G ((0 : Int32)) H B O J V Y Z O9), k, n)) (g := True ∧ True) (by with_unfolding_all rfl) ⟨trivial, trivial⟩ ?_
                  cases h
                  exact am_ev_ret 0 0 0 rfl .int rfl rfl rfl
            · rw [if_neg c65] at h
              refine am_ev_neg c65 ?_
              refine am_ev_st 1 (f' := (47, [(5, .int (1 : Int32)), (4, .int (1 : Int32)), (0, .ref 19), (1, .int p1), (2, .int p2), (3, .int p3)], [.int (-1 : Int32)], (W9 N C E F P Q (te, tk, ta, tb, tn, td) G ((0 : Int32)) H B O J V Y Z O9), k, n)) (g := True ∧ True) (by with_unfolding_all rfl) ⟨trivial, trivial⟩ ?_
              cases h
              exact am_ev_ret 0 0 0 rfl .int rfl rfl rfl
      · rw [if_neg c3] at h
        refine am_ev_neg c3 ?_
        refine am_ev_st 1 (f' := (24, [(0, .ref 19), (1, .int p1), (2, .int p2), (3, .int p3)], [.int (-1 : Int32)], (W9 N C E F P Q (te, tk, ta, tb, tn, td) G ((0 : Int32)) H B O J V Y Z O9), k, n)) (g := True ∧ True) (by with_unfolding_all rfl) ⟨trivial, trivial⟩ ?_
        cases h
        exact am_ev_ret 0 0 0 rfl .int rfl rfl rfl
def fm_terms (T : cT) (U : cU) : Option (Int32 × cU) :=
  match T with
  | (te, tk, ta, tb, tn, td) =>
  some (te, ((0 : Int32)))
set_option maxHeartbeats 4000000 in
set_option maxRecDepth 100000 in
theorem ok_fm_terms  {N : cN} {C : cC} {E : cE} {F : cF} {P : cP} {Q : cQ} {T : cT} {G : cG} {U : cU} {H : cH} {B : cB} {O : cO} {J : cJ} {V : cV} {Y : cY} {Z : cZ} {O9 : cO9} {k n : Nat} {rv : Int32} {U' : cU} (h : fm_terms T U = some (rv, U')) (D : Nat) (hD : 1 ≤ D) : am_Call D 107 [.ref 19] (W9 N C E F P Q T G U H B O J V Y Z O9) k n (.inl (some (.int rv)), W9 N C E F P Q T G U' H B O J V Y Z O9, k, n) := by
  unfold fm_terms at h
  obtain ⟨D, rfl⟩ : ∃ D', D = D' + 1 := ⟨D - 1, by omega⟩
  have hD : 0 ≤ D := by omega
  refine am_call_run (by decide) (by decide) rfl (Nat.le_of_ble_eq_true rfl) (by decide) (L := [(0, .ref 19)]) rfl ?_
  obtain ⟨te, tk, ta, tb, tn, td⟩ := T
  try dsimp only at h
  refine am_ev_st 5 (f' := (9, [(0, .ref 19)], [.int te], (W9 N C E F P Q (te, tk, ta, tb, tn, td) G ((0 : Int32)) H B O J V Y Z O9), k, n)) (g := True ∧ True ∧ True ∧ True ∧ True ∧ True) (by with_unfolding_all rfl) ⟨trivial, trivial, trivial, trivial, trivial, trivial⟩ ?_
  cases h
  exact am_ev_ret 0 0 0 rfl .int rfl rfl rfl
def fm_isTerm (T : cT) (p1 : Int32) : Option (Bool) :=
  if p1 < 0 then
  (some false)
  else
  match T with
  | (te, tk, ta, tb, tn, td) =>
  if te ≤ p1 then
  (some false)
  else
  some true
set_option maxHeartbeats 4000000 in
set_option maxRecDepth 100000 in
theorem ok_fm_isTerm  {N : cN} {C : cC} {E : cE} {F : cF} {P : cP} {Q : cQ} {T : cT} {G : cG} {U : cU} {H : cH} {B : cB} {O : cO} {J : cJ} {V : cV} {Y : cY} {Z : cZ} {O9 : cO9} {k n : Nat} {p1 : Int32} {rv : Bool} (h : fm_isTerm T p1 = some rv) (D : Nat) (hD : 1 ≤ D) : am_Call D 108 [.ref 19, .int p1] (W9 N C E F P Q T G U H B O J V Y Z O9) k n (.inl (some (.int (am_bz rv))), W9 N C E F P Q T G U H B O J V Y Z O9, k, n) := by
  unfold fm_isTerm at h
  obtain ⟨D, rfl⟩ : ∃ D', D = D' + 1 := ⟨D - 1, by omega⟩
  have hD : 0 ≤ D := by omega
  refine am_call_run (by decide) (by decide) rfl (Nat.le_of_ble_eq_true rfl) (by decide) (L := [(0, .ref 19), (1, .int p1)]) rfl ?_
  refine am_ev_st 2 (f' := am_br (p1 < 0) 16 1 [(0, .ref 19), (1, .int p1)] [] (W9 N C E F P Q T G U H B O J V Y Z O9) k n) (g := True ∧ True ∧ True) (by with_unfolding_all rfl) ⟨trivial, trivial, trivial⟩ ?_
  by_cases c1 : p1 < 0
  · rw [if_pos c1] at h
    refine am_ev_pos c1 ?_
    refine am_ev_st 1 (f' := (17, [(0, .ref 19), (1, .int p1)], [.int (0 : Int32)], (W9 N C E F P Q T G U H B O J V Y Z O9), k, n)) (g := True ∧ True) (by with_unfolding_all rfl) ⟨trivial, trivial⟩ ?_
    cases h
    exact am_ev_ret 0 0 0 rfl .boolean rfl am_n0 rfl
  · rw [if_neg c1] at h
    refine am_ev_neg c1 ?_
    obtain ⟨te, tk, ta, tb, tn, td⟩ := T
    try dsimp only at h
    refine am_ev_st 4 (f' := am_br (te ≤ p1) 16 9 [(0, .ref 19), (1, .int p1)] [] (W9 N C E F P Q (te, tk, ta, tb, tn, td) G U H B O J V Y Z O9) k n) (g := True ∧ True ∧ True ∧ True ∧ True) (by with_unfolding_all rfl) ⟨trivial, trivial, trivial, trivial, trivial⟩ ?_
    by_cases c2 : te ≤ p1
    · rw [if_pos c2] at h
      refine am_ev_pos c2 ?_
      refine am_ev_st 1 (f' := (17, [(0, .ref 19), (1, .int p1)], [.int (0 : Int32)], (W9 N C E F P Q (te, tk, ta, tb, tn, td) G U H B O J V Y Z O9), k, n)) (g := True ∧ True) (by with_unfolding_all rfl) ⟨trivial, trivial⟩ ?_
      cases h
      exact am_ev_ret 0 0 0 rfl .boolean rfl am_n0 rfl
    · rw [if_neg c2] at h
      refine am_ev_neg c2 ?_
      refine am_ev_st 2 (f' := (17, [(0, .ref 19), (1, .int p1)], [.int (1 : Int32)], (W9 N C E F P Q (te, tk, ta, tb, tn, td) G U H B O J V Y Z O9), k, n)) (g := True ∧ True ∧ True) (by with_unfolding_all rfl) ⟨trivial, trivial, trivial⟩ ?_
      cases h
      exact am_ev_ret 0 0 0 rfl .boolean rfl am_n1 rfl
def fm_term (T : cT) (U : cU) (p1 p2 : Int32) : Option (Int32 × cU) :=
  (fm_isTerm T p1).bind fun z1 =>
  match z1 with
  | (r1) =>
  if (am_bz r1) ≠ 0 then
  (if p2 = (0 : Int32) then
  (match T with
  | (te, tk, ta, tb, tn, td) =>
  if (p1 < 0 ∨ 120 ≤ (p1).toNatClampNeg) then none else
  some ((tk (p1).toNatClampNeg), ((0 : Int32))))
  else
  if p2 = (1 : Int32) then
  (match T with
  | (te, tk, ta, tb, tn, td) =>
  if (p1 < 0 ∨ 120 ≤ (p1).toNatClampNeg) then none else
  some ((ta (p1).toNatClampNeg), ((0 : Int32))))
  else
  if p2 = (2 : Int32) then
  (match T with
  | (te, tk, ta, tb, tn, td) =>
  if (p1 < 0 ∨ 120 ≤ (p1).toNatClampNeg) then none else
  some ((tb (p1).toNatClampNeg), ((0 : Int32))))
  else
  if p2 = (3 : Int32) then
  (match T with
  | (te, tk, ta, tb, tn, td) =>
  if (p1 < 0 ∨ 120 ≤ (p1).toNatClampNeg) then none else
  some ((tn (p1).toNatClampNeg), ((0 : Int32))))
  else
  if p2 = (4 : Int32) then
  (match T with
  | (te, tk, ta, tb, tn, td) =>
  if (p1 < 0 ∨ 120 ≤ (p1).toNatClampNeg) then none else
  some ((td (p1).toNatClampNeg), ((0 : Int32))))
  else
  some ((-1 : Int32), ((0 : Int32))))
  else
  some ((-1 : Int32), ((0 : Int32)))
set_option maxHeartbeats 4000000 in
set_option maxRecDepth 100000 in
theorem ok_fm_term  {N : cN} {C : cC} {E : cE} {F : cF} {P : cP} {Q : cQ} {T : cT} {G : cG} {U : cU} {H : cH} {B : cB} {O : cO} {J : cJ} {V : cV} {Y : cY} {Z : cZ} {O9 : cO9} {k n : Nat} {p1 p2 : Int32} {rv : Int32} {U' : cU} (h : fm_term T U p1 p2 = some (rv, U')) (D : Nat) (hD : 2 ≤ D) : am_Call D 109 [.ref 19, .int p1, .int p2] (W9 N C E F P Q T G U H B O J V Y Z O9) k n (.inl (some (.int rv)), W9 N C E F P Q T G U' H B O J V Y Z O9, k, n) := by
  unfold fm_term at h
  obtain ⟨D, rfl⟩ : ∃ D', D = D' + 1 := ⟨D - 1, by omega⟩
  have hD : 1 ≤ D := by omega
  refine am_call_run (by decide) (by decide) rfl (Nat.le_of_ble_eq_true rfl) (by decide) (L := [(0, .ref 19), (1, .int p1), (2, .int p2)]) rfl ?_
  refine am_ev_st 5 (f' := (7, [(0, .ref 19), (1, .int p1), (2, .int p2)], [.int p1, .ref 19], (W9 N C E F P Q T G ((0 : Int32)) H B O J V Y Z O9), k, n)) (g := True ∧ True ∧ True ∧ True ∧ True ∧ True) (by with_unfolding_all rfl) ⟨trivial, trivial, trivial, trivial, trivial, trivial⟩ ?_
  replace h := Option.bind_eq_some_iff.mp h
  obtain ⟨r1, hc1, h⟩ := h
  try dsimp only at h
  refine am_ev_call (.invokevirtual 193) 108 2 796 [.ref 19, .int p1] [] rfl rfl rfl rfl (ok_fm_isTerm hc1 D (by omega)) rfl ?_
  refine am_ev_st 1 (f' := am_br ((am_bz r1) ≠ 0) 15 10 [(0, .ref 19), (1, .int p1), (2, .int p2)] [] (W9 N C E F P Q T G ((0 : Int32)) H B O J V Y Z O9) k n) (g := True ∧ True) (by with_unfolding_all rfl) ⟨trivial, trivial⟩ ?_
  by_cases c2 : (am_bz r1) ≠ 0
  · rw [if_pos c2] at h
    refine am_ev_pos c2 ?_
    refine am_ev_st 2 (f' := ((am_tg [(0, 52), (1, 59), (2, 66), (3, 73), (4, 80)] 87 p2), [(0, .ref 19), (1, .int p1), (2, .int p2)], [], (W9 N C E F P Q T G ((0 : Int32)) H B O J V Y Z O9), k, n)) (g := True ∧ True ∧ True) (by with_unfolding_all rfl) ⟨trivial, trivial, trivial⟩ ?_
    by_cases c3 : p2 = (0 : Int32)
    · rw [if_pos c3] at h
      refine am_ev_sweq c3 ?_
      obtain ⟨te, tk, ta, tb, tn, td⟩ := T
      try dsimp only at h
      by_cases g4 : (p1 < 0 ∨ 120 ≤ (p1).toNatClampNeg)
      · rw [if_pos g4] at h; cases h
      rw [if_neg g4] at h
      refine am_ev_st 4 (f' := (58, [(0, .ref 19), (1, .int p1), (2, .int p2)], [.int (tk (p1).toNatClampNeg)], (W9 N C E F P Q (te, tk, ta, tb, tn, td) G ((0 : Int32)) H B O J V Y Z O9), k, n)) (g := True ∧ True ∧ True ∧ vp_in (p1) 120 ∧ True) (by with_unfolding_all rfl) ⟨trivial, trivial, trivial, g4, trivial⟩ ?_
      cases h
      exact am_ev_ret 0 0 0 rfl .int rfl rfl rfl
    rw [if_neg c3] at h
    refine am_ev_swne c3 ?_
    by_cases c5 : p2 = (1 : Int32)
    · rw [if_pos c5] at h
      refine am_ev_sweq c5 ?_
      obtain ⟨te, tk, ta, tb, tn, td⟩ := T
      try dsimp only at h
      by_cases g6 : (p1 < 0 ∨ 120 ≤ (p1).toNatClampNeg)
      · rw [if_pos g6] at h; cases h
      rw [if_neg g6] at h
      refine am_ev_st 4 (f' := (65, [(0, .ref 19), (1, .int p1), (2, .int p2)], [.int (ta (p1).toNatClampNeg)], (W9 N C E F P Q (te, tk, ta, tb, tn, td) G ((0 : Int32)) H B O J V Y Z O9), k, n)) (g := True ∧ True ∧ True ∧ vp_in (p1) 120 ∧ True) (by with_unfolding_all rfl) ⟨trivial, trivial, trivial, g6, trivial⟩ ?_
      cases h
      exact am_ev_ret 0 0 0 rfl .int rfl rfl rfl
    rw [if_neg c5] at h
    refine am_ev_swne c5 ?_
    by_cases c7 : p2 = (2 : Int32)
    · rw [if_pos c7] at h
      refine am_ev_sweq c7 ?_
      obtain ⟨te, tk, ta, tb, tn, td⟩ := T
      try dsimp only at h
      by_cases g8 : (p1 < 0 ∨ 120 ≤ (p1).toNatClampNeg)
      · rw [if_pos g8] at h; cases h
      rw [if_neg g8] at h
      refine am_ev_st 4 (f' := (72, [(0, .ref 19), (1, .int p1), (2, .int p2)], [.int (tb (p1).toNatClampNeg)], (W9 N C E F P Q (te, tk, ta, tb, tn, td) G ((0 : Int32)) H B O J V Y Z O9), k, n)) (g := True ∧ True ∧ True ∧ vp_in (p1) 120 ∧ True) (by with_unfolding_all rfl) ⟨trivial, trivial, trivial, g8, trivial⟩ ?_
      cases h
      exact am_ev_ret 0 0 0 rfl .int rfl rfl rfl
    rw [if_neg c7] at h
    refine am_ev_swne c7 ?_
    by_cases c9 : p2 = (3 : Int32)
    · rw [if_pos c9] at h
      refine am_ev_sweq c9 ?_
      obtain ⟨te, tk, ta, tb, tn, td⟩ := T
      try dsimp only at h
      by_cases g10 : (p1 < 0 ∨ 120 ≤ (p1).toNatClampNeg)
      · rw [if_pos g10] at h; cases h
      rw [if_neg g10] at h
      refine am_ev_st 4 (f' := (79, [(0, .ref 19), (1, .int p1), (2, .int p2)], [.int (tn (p1).toNatClampNeg)], (W9 N C E F P Q (te, tk, ta, tb, tn, td) G ((0 : Int32)) H B O J V Y Z O9), k, n)) (g := True ∧ True ∧ True ∧ vp_in (p1) 120 ∧ True) (by with_unfolding_all rfl) ⟨trivial, trivial, trivial, g10, trivial⟩ ?_
      cases h
      exact am_ev_ret 0 0 0 rfl .int rfl rfl rfl
    rw [if_neg c9] at h
    refine am_ev_swne c9 ?_
    by_cases c11 : p2 = (4 : Int32)
    · rw [if_pos c11] at h
      refine am_ev_sweq c11 ?_
      obtain ⟨te, tk, ta, tb, tn, td⟩ := T
      try dsimp only at h
      by_cases g12 : (p1 < 0 ∨ 120 ≤ (p1).toNatClampNeg)
      · rw [if_pos g12] at h; cases h
      rw [if_neg g12] at h
      refine am_ev_st 4 (f' := (86, [(0, .ref 19), (1, .int p1), (2, .int p2)], [.int (td (p1).toNatClampNeg)], (W9 N C E F P Q (te, tk, ta, tb, tn, td) G ((0 : Int32)) H B O J V Y Z O9), k, n)) (g := True ∧ True ∧ True ∧ vp_in (p1) 120 ∧ True) (by with_unfolding_all rfl) ⟨trivial, trivial, trivial, g12, trivial⟩ ?_
      cases h
      exact am_ev_ret 0 0 0 rfl .int rfl rfl rfl
    rw [if_neg c11] at h
    refine am_ev_swne c11 ?_
    refine am_ev_sw0 ?_
    refine am_ev_st 1 (f' := (88, [(0, .ref 19), (1, .int p1), (2, .int p2)], [.int (-1 : Int32)], (W9 N C E F P Q T G ((0 : Int32)) H B O J V Y Z O9), k, n)) (g := True ∧ True) (by with_unfolding_all rfl) ⟨trivial, trivial⟩ ?_
    cases h
    exact am_ev_ret 0 0 0 rfl .int rfl rfl rfl
  · rw [if_neg c2] at h
    refine am_ev_neg c2 ?_
    refine am_ev_st 1 (f' := (14, [(0, .ref 19), (1, .int p1), (2, .int p2)], [.int (-1 : Int32)], (W9 N C E F P Q T G ((0 : Int32)) H B O J V Y Z O9), k, n)) (g := True ∧ True) (by with_unfolding_all rfl) ⟨trivial, trivial⟩ ?_
    cases h
    exact am_ev_ret 0 0 0 rfl .int rfl rfl rfl
end
section
def fm_starts (T : cT) (U : cU) (V : cV) (p1 p2 p3 : Int32) : Option (Bool × cU × cV) :=
  (fm_isTerm T p1).bind fun z1 =>
  match z1 with
  | (r1) =>
  if (am_bz r1) = 0 then
  (some (false, ((1 : Int32)), V))
  else
  (fm_isTerm T p2).bind fun z3 =>
  match z3 with
  | (r3) =>
  if (am_bz r3) = 0 then
  (some (false, ((1 : Int32)), V))
  else
  if p3 < 0 then
  (some (false, ((1 : Int32)), V))
  else
  if p3 ≤ (30 : Int32) then
  (match V with
  | (vf, vu, vx) =>
  some (true, ((0 : Int32)), (p3, (0 : Int32), (0 : Int32))))
  else
  some (false, ((1 : Int32)), V)
set_option maxHeartbeats 4000000 in
set_option maxRecDepth 100000 in
theorem ok_fm_starts  {N : cN} {C : cC} {E : cE} {F : cF} {P : cP} {Q : cQ} {T : cT} {G : cG} {U : cU} {H : cH} {B : cB} {O : cO} {J : cJ} {V : cV} {Y : cY} {Z : cZ} {O9 : cO9} {k n : Nat} {p1 p2 p3 : Int32} {rv : Bool} {U' : cU} {V' : cV} (h : fm_starts T U V p1 p2 p3 = some (rv, U', V')) (D : Nat) (hD : 2 ≤ D) : am_Call D 111 [.ref 19, .int p1, .int p2, .int p3] (W9 N C E F P Q T G U H B O J V Y Z O9) k n (.inl (some (.int (am_bz rv))), W9 N C E F P Q T G U' H B O J V' Y Z O9, k, n) := by
  unfold fm_starts at h
  obtain ⟨D, rfl⟩ : ∃ D', D = D' + 1 := ⟨D - 1, by omega⟩
  have hD : 1 ≤ D := by omega
  refine am_call_run (by decide) (by decide) rfl (Nat.le_of_ble_eq_true rfl) (by decide) (L := [(0, .ref 19), (1, .int p1), (2, .int p2), (3, .int p3)]) rfl ?_
  refine am_ev_st 5 (f' := (7, [(0, .ref 19), (1, .int p1), (2, .int p2), (3, .int p3)], [.int p1, .ref 19], (W9 N C E F P Q T G ((0 : Int32)) H B O J V Y Z O9), k, n)) (g := True ∧ True ∧ True ∧ True ∧ True ∧ True) (by with_unfolding_all rfl) ⟨trivial, trivial, trivial, trivial, trivial, trivial⟩ ?_
  replace h := Option.bind_eq_some_iff.mp h
  obtain ⟨r1, hc1, h⟩ := h
  try dsimp only at h
  refine am_ev_call (.invokevirtual 193) 108 2 796 [.ref 19, .int p1] [] rfl rfl rfl rfl (ok_fm_isTerm hc1 D (by omega)) rfl ?_
  refine am_ev_st 1 (f' := am_br ((am_bz r1) = 0) 31 10 [(0, .ref 19), (1, .int p1), (2, .int p2), (3, .int p3)] [] (W9 N C E F P Q T G ((0 : Int32)) H B O J V Y Z O9) k n) (g := True ∧ True) (by with_unfolding_all rfl) ⟨trivial, trivial⟩ ?_
  by_cases c2 : (am_bz r1) = 0
  · rw [if_pos c2] at h
    refine am_ev_pos c2 ?_
    refine am_ev_st 4 (f' := (37, [(0, .ref 19), (1, .int p1), (2, .int p2), (3, .int p3)], [.int (0 : Int32)], (W9 N C E F P Q T G ((1 : Int32)) H B O J V Y Z O9), k, n)) (g := True ∧ True ∧ True ∧ True ∧ True) (by with_unfolding_all rfl) ⟨trivial, trivial, trivial, trivial, trivial⟩ ?_
    cases h
    exact am_ev_ret 0 0 0 rfl .boolean rfl am_n0 rfl
  · rw [if_neg c2] at h
    refine am_ev_neg c2 ?_
    refine am_ev_st 2 (f' := (15, [(0, .ref 19), (1, .int p1), (2, .int p2), (3, .int p3)], [.int p2, .ref 19], (W9 N C E F P Q T G ((0 : Int32)) H B O J V Y Z O9), k, n)) (g := True ∧ True ∧ True) (by with_unfolding_all rfl) ⟨trivial, trivial, trivial⟩ ?_
    replace h := Option.bind_eq_some_iff.mp h
    obtain ⟨r3, hc3, h⟩ := h
    try dsimp only at h
    refine am_ev_call (.invokevirtual 193) 108 2 796 [.ref 19, .int p2] [] rfl rfl rfl rfl (ok_fm_isTerm hc3 D (by omega)) rfl ?_
    refine am_ev_st 1 (f' := am_br ((am_bz r3) = 0) 31 18 [(0, .ref 19), (1, .int p1), (2, .int p2), (3, .int p3)] [] (W9 N C E F P Q T G ((0 : Int32)) H B O J V Y Z O9) k n) (g := True ∧ True) (by with_unfolding_all rfl) ⟨trivial, trivial⟩ ?_
    by_cases c4 : (am_bz r3) = 0
    · rw [if_pos c4] at h
      refine am_ev_pos c4 ?_
      refine am_ev_st 4 (f' := (37, [(0, .ref 19), (1, .int p1), (2, .int p2), (3, .int p3)], [.int (0 : Int32)], (W9 N C E F P Q T G ((1 : Int32)) H B O J V Y Z O9), k, n)) (g := True ∧ True ∧ True ∧ True ∧ True) (by with_unfolding_all rfl) ⟨trivial, trivial, trivial, trivial, trivial⟩ ?_
      cases h
      exact am_ev_ret 0 0 0 rfl .boolean rfl am_n0 rfl
    · rw [if_neg c4] at h
      refine am_ev_neg c4 ?_
      refine am_ev_st 2 (f' := am_br (p3 < 0) 31 22 [(0, .ref 19), (1, .int p1), (2, .int p2), (3, .int p3)] [] (W9 N C E F P Q T G ((0 : Int32)) H B O J V Y Z O9) k n) (g := True ∧ True ∧ True) (by with_unfolding_all rfl) ⟨trivial, trivial, trivial⟩ ?_
      by_cases c5 : p3 < 0
      · rw [if_pos c5] at h
        refine am_ev_pos c5 ?_
        refine am_ev_st 4 (f' := (37, [(0, .ref 19), (1, .int p1), (2, .int p2), (3, .int p3)], [.int (0 : Int32)], (W9 N C E F P Q T G ((1 : Int32)) H B O J V Y Z O9), k, n)) (g := True ∧ True ∧ True ∧ True ∧ True) (by with_unfolding_all rfl) ⟨trivial, trivial, trivial, trivial, trivial⟩ ?_
        cases h
        exact am_ev_ret 0 0 0 rfl .boolean rfl am_n0 rfl
      · rw [if_neg c5] at h
        refine am_ev_neg c5 ?_
        refine am_ev_st 3 (f' := am_br (p3 ≤ (30 : Int32)) 38 28 [(0, .ref 19), (1, .int p1), (2, .int p2), (3, .int p3)] [] (W9 N C E F P Q T G ((0 : Int32)) H B O J V Y Z O9) k n) (g := True ∧ True ∧ True ∧ True) (by with_unfolding_all rfl) ⟨trivial, trivial, trivial, trivial⟩ ?_
        by_cases c6 : p3 ≤ (30 : Int32)
        · rw [if_pos c6] at h
          refine am_ev_pos c6 ?_
          obtain ⟨vf, vu, vx⟩ := V
          try dsimp only at h
          refine am_ev_st 10 (f' := (54, [(0, .ref 19), (1, .int p1), (2, .int p2), (3, .int p3)], [.int (1 : Int32)], (W9 N C E F P Q T G ((0 : Int32)) H B O J (p3, (0 : Int32), (0 : Int32)) Y Z O9), k, n)) (g := True ∧ True ∧ True ∧ True ∧ True ∧ True ∧ True ∧ True ∧ True ∧ True ∧ True) (by with_unfolding_all rfl) ⟨trivial, trivial, trivial, trivial, trivial, trivial, trivial, trivial, trivial, trivial, trivial⟩ ?_
          cases h
          exact am_ev_ret 0 0 0 rfl .boolean rfl am_n1 rfl
        · rw [if_neg c6] at h
          refine am_ev_neg c6 ?_
          refine am_ev_st 4 (f' := (37, [(0, .ref 19), (1, .int p1), (2, .int p2), (3, .int p3)], [.int (0 : Int32)], (W9 N C E F P Q T G ((1 : Int32)) H B O J V Y Z O9), k, n)) (g := True ∧ True ∧ True ∧ True ∧ True) (by with_unfolding_all rfl) ⟨trivial, trivial, trivial, trivial, trivial⟩ ?_
          cases h
          exact am_ev_ret 0 0 0 rfl .boolean rfl am_n0 rfl
def fm_infer (T : cT) (U : cU) (V : cV) (p1 p2 : Int32) : Option (Int32 × cU × cV) :=
  (fm_starts T U V p1 p1 p2).bind fun z1 =>
  match z1 with
  | (r1, U_1, V_1) =>
  if (am_bz r1) ≠ 0 then
  (none)
  else
  some ((0 : Int32), U_1, V_1)
set_option maxHeartbeats 4000000 in
set_option maxRecDepth 100000 in
theorem ok_fm_infer  {N : cN} {C : cC} {E : cE} {F : cF} {P : cP} {Q : cQ} {T : cT} {G : cG} {U : cU} {H : cH} {B : cB} {O : cO} {J : cJ} {V : cV} {Y : cY} {Z : cZ} {O9 : cO9} {k n : Nat} {p1 p2 : Int32} {rv : Int32} {U' : cU} {V' : cV} (h : fm_infer T U V p1 p2 = some (rv, U', V')) (D : Nat) (hD : 3 ≤ D) : am_Call D 113 [.ref 19, .int p1, .int p2] (W9 N C E F P Q T G U H B O J V Y Z O9) k n (.inl (some (.int rv)), W9 N C E F P Q T G U' H B O J V' Y Z O9, k, n) := by
  unfold fm_infer at h
  obtain ⟨D, rfl⟩ : ∃ D', D = D' + 1 := ⟨D - 1, by omega⟩
  have hD : 2 ≤ D := by omega
  refine am_call_run (by decide) (by decide) rfl (Nat.le_of_ble_eq_true rfl) (by decide) (L := [(0, .ref 19), (1, .int p1), (2, .int p2)]) rfl ?_
  refine am_ev_st 4 (f' := (4, [(0, .ref 19), (1, .int p1), (2, .int p2)], [.int p2, .int p1, .int p1, .ref 19], (W9 N C E F P Q T G U H B O J V Y Z O9), k, n)) (g := True ∧ True ∧ True ∧ True ∧ True) (by with_unfolding_all rfl) ⟨trivial, trivial, trivial, trivial, trivial⟩ ?_
  replace h := Option.bind_eq_some_iff.mp h
  obtain ⟨⟨r1, U_1, V_1⟩, hc1, h⟩ := h
  try dsimp only at h
  refine am_ev_call (.invokevirtual 199) 111 6 804 [.ref 19, .int p1, .int p1, .int p2] [] rfl rfl rfl rfl (ok_fm_starts hc1 D (by omega)) rfl ?_
  refine am_ev_st 1 (f' := am_br ((am_bz r1) ≠ 0) 12 7 [(0, .ref 19), (1, .int p1), (2, .int p2)] [] (W9 N C E F P Q T G U_1 H B O J V_1 Y Z O9) k n) (g := True ∧ True) (by with_unfolding_all rfl) ⟨trivial, trivial⟩ ?_
  by_cases c2 : (am_bz r1) ≠ 0
  · rw [if_pos c2] at h
    refine am_ev_pos c2 ?_
    cases h
  · rw [if_neg c2] at h
    refine am_ev_neg c2 ?_
    refine am_ev_st 1 (f' := (11, [(0, .ref 19), (1, .int p1), (2, .int p2)], [.int (0 : Int32)], (W9 N C E F P Q T G U_1 H B O J V_1 Y Z O9), k, n)) (g := True ∧ True) (by with_unfolding_all rfl) ⟨trivial, trivial⟩ ?_
    cases h
    exact am_ev_ret 0 0 0 rfl .int rfl rfl rfl
def fm_reduce (T : cT) (U : cU) (V : cV) (p1 p2 : Int32) : Option (Int32 × cU × cV) :=
  (fm_starts T U V p1 p1 p2).bind fun z1 =>
  match z1 with
  | (r1, U_1, V_1) =>
  if (am_bz r1) ≠ 0 then
  (none)
  else
  some ((0 : Int32), U_1, V_1)
set_option maxHeartbeats 4000000 in
set_option maxRecDepth 100000 in
theorem ok_fm_reduce  {N : cN} {C : cC} {E : cE} {F : cF} {P : cP} {Q : cQ} {T : cT} {G : cG} {U : cU} {H : cH} {B : cB} {O : cO} {J : cJ} {V : cV} {Y : cY} {Z : cZ} {O9 : cO9} {k n : Nat} {p1 p2 : Int32} {rv : Int32} {U' : cU} {V' : cV} (h : fm_reduce T U V p1 p2 = some (rv, U', V')) (D : Nat) (hD : 3 ≤ D) : am_Call D 114 [.ref 19, .int p1, .int p2] (W9 N C E F P Q T G U H B O J V Y Z O9) k n (.inl (some (.int rv)), W9 N C E F P Q T G U' H B O J V' Y Z O9, k, n) := by
  unfold fm_reduce at h
  obtain ⟨D, rfl⟩ : ∃ D', D = D' + 1 := ⟨D - 1, by omega⟩
  have hD : 2 ≤ D := by omega
  refine am_call_run (by decide) (by decide) rfl (Nat.le_of_ble_eq_true rfl) (by decide) (L := [(0, .ref 19), (1, .int p1), (2, .int p2)]) rfl ?_
  refine am_ev_st 4 (f' := (4, [(0, .ref 19), (1, .int p1), (2, .int p2)], [.int p2, .int p1, .int p1, .ref 19], (W9 N C E F P Q T G U H B O J V Y Z O9), k, n)) (g := True ∧ True ∧ True ∧ True ∧ True) (by with_unfolding_all rfl) ⟨trivial, trivial, trivial, trivial, trivial⟩ ?_
  replace h := Option.bind_eq_some_iff.mp h
  obtain ⟨⟨r1, U_1, V_1⟩, hc1, h⟩ := h
  try dsimp only at h
  refine am_ev_call (.invokevirtual 199) 111 6 804 [.ref 19, .int p1, .int p1, .int p2] [] rfl rfl rfl rfl (ok_fm_starts hc1 D (by omega)) rfl ?_
  refine am_ev_st 1 (f' := am_br ((am_bz r1) ≠ 0) 12 7 [(0, .ref 19), (1, .int p1), (2, .int p2)] [] (W9 N C E F P Q T G U_1 H B O J V_1 Y Z O9) k n) (g := True ∧ True) (by with_unfolding_all rfl) ⟨trivial, trivial⟩ ?_
  by_cases c2 : (am_bz r1) ≠ 0
  · rw [if_pos c2] at h
    refine am_ev_pos c2 ?_
    cases h
  · rw [if_neg c2] at h
    refine am_ev_neg c2 ?_
    refine am_ev_st 1 (f' := (11, [(0, .ref 19), (1, .int p1), (2, .int p2)], [.int (0 : Int32)], (W9 N C E F P Q T G U_1 H B O J V_1 Y Z O9), k, n)) (g := True ∧ True) (by with_unfolding_all rfl) ⟨trivial, trivial⟩ ?_
    cases h
    exact am_ev_ret 0 0 0 rfl .int rfl rfl rfl
def fm_same (T : cT) (U : cU) (V : cV) (p1 p2 p3 : Int32) : Option (Bool × cU × cV) :=
  (fm_starts T U V p1 p2 p3).bind fun z1 =>
  match z1 with
  | (r1, U_1, V_1) =>
  if (am_bz r1) ≠ 0 then
  (none)
  else
  some (false, U_1, V_1)
set_option maxHeartbeats 4000000 in
set_option maxRecDepth 100000 in
theorem ok_fm_same  {N : cN} {C : cC} {E : cE} {F : cF} {P : cP} {Q : cQ} {T : cT} {G : cG} {U : cU} {H : cH} {B : cB} {O : cO} {J : cJ} {V : cV} {Y : cY} {Z : cZ} {O9 : cO9} {k n : Nat} {p1 p2 p3 : Int32} {rv : Bool} {U' : cU} {V' : cV} (h : fm_same T U V p1 p2 p3 = some (rv, U', V')) (D : Nat) (hD : 3 ≤ D) : am_Call D 115 [.ref 19, .int p1, .int p2, .int p3] (W9 N C E F P Q T G U H B O J V Y Z O9) k n (.inl (some (.int (am_bz rv))), W9 N C E F P Q T G U' H B O J V' Y Z O9, k, n) := by
  unfold fm_same at h
  obtain ⟨D, rfl⟩ : ∃ D', D = D' + 1 := ⟨D - 1, by omega⟩
  have hD : 2 ≤ D := by omega
  refine am_call_run (by decide) (by decide) rfl (Nat.le_of_ble_eq_true rfl) (by decide) (L := [(0, .ref 19), (1, .int p1), (2, .int p2), (3, .int p3)]) rfl ?_
  refine am_ev_st 4 (f' := (4, [(0, .ref 19), (1, .int p1), (2, .int p2), (3, .int p3)], [.int p3, .int p2, .int p1, .ref 19], (W9 N C E F P Q T G U H B O J V Y Z O9), k, n)) (g := True ∧ True ∧ True ∧ True ∧ True) (by with_unfolding_all rfl) ⟨trivial, trivial, trivial, trivial, trivial⟩ ?_
  replace h := Option.bind_eq_some_iff.mp h
  obtain ⟨⟨r1, U_1, V_1⟩, hc1, h⟩ := h
  try dsimp only at h
  refine am_ev_call (.invokevirtual 199) 111 6 804 [.ref 19, .int p1, .int p2, .int p3] [] rfl rfl rfl rfl (ok_fm_starts hc1 D (by omega)) rfl ?_
  refine am_ev_st 1 (f' := am_br ((am_bz r1) ≠ 0) 12 7 [(0, .ref 19), (1, .int p1), (2, .int p2), (3, .int p3)] [] (W9 N C E F P Q T G U_1 H B O J V_1 Y Z O9) k n) (g := True ∧ True) (by with_unfolding_all rfl) ⟨trivial, trivial⟩ ?_
  by_cases c2 : (am_bz r1) ≠ 0
  · rw [if_pos c2] at h
    refine am_ev_pos c2 ?_
    cases h
  · rw [if_neg c2] at h
    refine am_ev_neg c2 ?_
    refine am_ev_st 1 (f' := (11, [(0, .ref 19), (1, .int p1), (2, .int p2), (3, .int p3)], [.int (0 : Int32)], (W9 N C E F P Q T G U_1 H B O J V_1 Y Z O9), k, n)) (g := True ∧ True) (by with_unfolding_all rfl) ⟨trivial, trivial⟩ ?_
    cases h
    exact am_ev_ret 0 0 0 rfl .boolean rfl am_n0 rfl
def fm_check (T : cT) (U : cU) (V : cV) (p1 p2 p3 : Int32) : Option (Bool × cU × cV) :=
  (fm_starts T U V p1 p2 p3).bind fun z1 =>
  match z1 with
  | (r1, U_1, V_1) =>
  if (am_bz r1) ≠ 0 then
  (none)
  else
  some (false, U_1, V_1)
set_option maxHeartbeats 4000000 in
set_option maxRecDepth 100000 in
theorem ok_fm_check  {N : cN} {C : cC} {E : cE} {F : cF} {P : cP} {Q : cQ} {T : cT} {G : cG} {U : cU} {H : cH} {B : cB} {O : cO} {J : cJ} {V : cV} {Y : cY} {Z : cZ} {O9 : cO9} {k n : Nat} {p1 p2 p3 : Int32} {rv : Bool} {U' : cU} {V' : cV} (h : fm_check T U V p1 p2 p3 = some (rv, U', V')) (D : Nat) (hD : 3 ≤ D) : am_Call D 116 [.ref 19, .int p1, .int p2, .int p3] (W9 N C E F P Q T G U H B O J V Y Z O9) k n (.inl (some (.int (am_bz rv))), W9 N C E F P Q T G U' H B O J V' Y Z O9, k, n) := by
  unfold fm_check at h
  obtain ⟨D, rfl⟩ : ∃ D', D = D' + 1 := ⟨D - 1, by omega⟩
  have hD : 2 ≤ D := by omega
  refine am_call_run (by decide) (by decide) rfl (Nat.le_of_ble_eq_true rfl) (by decide) (L := [(0, .ref 19), (1, .int p1), (2, .int p2), (3, .int p3)]) rfl ?_
  refine am_ev_st 4 (f' := (4, [(0, .ref 19), (1, .int p1), (2, .int p2), (3, .int p3)], [.int p3, .int p2, .int p1, .ref 19], (W9 N C E F P Q T G U H B O J V Y Z O9), k, n)) (g := True ∧ True ∧ True ∧ True ∧ True) (by with_unfolding_all rfl) ⟨trivial, trivial, trivial, trivial, trivial⟩ ?_
  replace h := Option.bind_eq_some_iff.mp h
  obtain ⟨⟨r1, U_1, V_1⟩, hc1, h⟩ := h
  try dsimp only at h
  refine am_ev_call (.invokevirtual 199) 111 6 804 [.ref 19, .int p1, .int p2, .int p3] [] rfl rfl rfl rfl (ok_fm_starts hc1 D (by omega)) rfl ?_
  refine am_ev_st 1 (f' := am_br ((am_bz r1) ≠ 0) 12 7 [(0, .ref 19), (1, .int p1), (2, .int p2), (3, .int p3)] [] (W9 N C E F P Q T G U_1 H B O J V_1 Y Z O9) k n) (g := True ∧ True) (by with_unfolding_all rfl) ⟨trivial, trivial⟩ ?_
  by_cases c2 : (am_bz r1) ≠ 0
  · rw [if_pos c2] at h
    refine am_ev_pos c2 ?_
    cases h
  · rw [if_neg c2] at h
    refine am_ev_neg c2 ?_
    refine am_ev_st 1 (f' := (11, [(0, .ref 19), (1, .int p1), (2, .int p2), (3, .int p3)], [.int (0 : Int32)], (W9 N C E F P Q T G U_1 H B O J V_1 Y Z O9), k, n)) (g := True ∧ True) (by with_unfolding_all rfl) ⟨trivial, trivial⟩ ?_
    cases h
    exact am_ev_ret 0 0 0 rfl .boolean rfl am_n0 rfl
def fm_declare (T : cT) (G : cG) (U : cU) (V : cV) (p1 p2 : Int32) : Option (Int32 × cU × cV) :=
  match G with
  | (gc, gb) =>
  if gc ≠ (16 : Int32) then
  ((fm_starts T ((0 : Int32)) V p1 p1 p2).bind fun z2 =>
  match z2 with
  | (r2, U_2, V_2) =>
  if (am_bz r2) ≠ 0 then
  (none)
  else
  some ((0 : Int32), U_2, V_2))
  else
  some ((-1 : Int32), ((0 : Int32)), V)
set_option maxHeartbeats 4000000 in
set_option maxRecDepth 100000 in
theorem ok_fm_declare  {N : cN} {C : cC} {E : cE} {F : cF} {P : cP} {Q : cQ} {T : cT} {G : cG} {U : cU} {H : cH} {B : cB} {O : cO} {J : cJ} {V : cV} {Y : cY} {Z : cZ} {O9 : cO9} {k n : Nat} {p1 p2 : Int32} {rv : Int32} {U' : cU} {V' : cV} (h : fm_declare T G U V p1 p2 = some (rv, U', V')) (D : Nat) (hD : 3 ≤ D) : am_Call D 117 [.ref 19, .int p1, .int p2] (W9 N C E F P Q T G U H B O J V Y Z O9) k n (.inl (some (.int rv)), W9 N C E F P Q T G U' H B O J V' Y Z O9, k, n) := by
  unfold fm_declare at h
  obtain ⟨D, rfl⟩ : ∃ D', D = D' + 1 := ⟨D - 1, by omega⟩
  have hD : 2 ≤ D := by omega
  refine am_call_run (by decide) (by decide) rfl (Nat.le_of_ble_eq_true rfl) (by decide) (L := [(0, .ref 19), (1, .int p1), (2, .int p2)]) rfl ?_
  obtain ⟨gc, gb⟩ := G
  try dsimp only at h
  refine am_ev_st 7 (f' := am_br (gc ≠ (16 : Int32)) 16 11 [(0, .ref 19), (1, .int p1), (2, .int p2)] [] (W9 N C E F P Q T (gc, gb) ((0 : Int32)) H B O J V Y Z O9) k n) (g := True ∧ True ∧ True ∧ True ∧ True ∧ True ∧ True ∧ True) (by with_unfolding_all rfl) ⟨trivial, trivial, trivial, trivial, trivial, trivial, trivial, trivial⟩ ?_
  by_cases c1 : gc ≠ (16 : Int32)
  · rw [if_pos c1] at h
    refine am_ev_pos c1 ?_
    refine am_ev_st 4 (f' := (20, [(0, .ref 19), (1, .int p1), (2, .int p2)], [.int p2, .int p1, .int p1, .ref 19], (W9 N C E F P Q T (gc, gb) ((0 : Int32)) H B O J V Y Z O9), k, n)) (g := True ∧ True ∧ True ∧ True ∧ True) (by with_unfolding_all rfl) ⟨trivial, trivial, trivial, trivial, trivial⟩ ?_
    replace h := Option.bind_eq_some_iff.mp h
    obtain ⟨⟨r2, U_2, V_2⟩, hc2, h⟩ := h
    try dsimp only at h
    refine am_ev_call (.invokevirtual 199) 111 6 804 [.ref 19, .int p1, .int p1, .int p2] [] rfl rfl rfl rfl (ok_fm_starts hc2 D (by omega)) rfl ?_
    refine am_ev_st 1 (f' := am_br ((am_bz r2) ≠ 0) 28 23 [(0, .ref 19), (1, .int p1), (2, .int p2)] [] (W9 N C E F P Q T (gc, gb) U_2 H B O J V_2 Y Z O9) k n) (g := True ∧ True) (by with_unfolding_all rfl) ⟨trivial, trivial⟩ ?_
    by_cases c3 : (am_bz r2) ≠ 0
    · rw [if_pos c3] at h
      refine am_ev_pos c3 ?_
      cases h
    · rw [if_neg c3] at h
      refine am_ev_neg c3 ?_
      refine am_ev_st 1 (f' := (27, [(0, .ref 19), (1, .int p1), (2, .int p2)], [.int (0 : Int32)], (W9 N C E F P Q T (gc, gb) U_2 H B O J V_2 Y Z O9), k, n)) (g := True ∧ True) (by with_unfolding_all rfl) ⟨trivial, trivial⟩ ?_
      cases h
      exact am_ev_ret 0 0 0 rfl .int rfl rfl rfl
  · rw [if_neg c1] at h
    refine am_ev_neg c1 ?_
    refine am_ev_st 1 (f' := (15, [(0, .ref 19), (1, .int p1), (2, .int p2)], [.int (-1 : Int32)], (W9 N C E F P Q T (gc, gb) ((0 : Int32)) H B O J V Y Z O9), k, n)) (g := True ∧ True) (by with_unfolding_all rfl) ⟨trivial, trivial⟩ ?_
    cases h
    exact am_ev_ret 0 0 0 rfl .int rfl rfl rfl
def fm_define (fl : Nat) (T : cT) (G : cG) (U : cU) (V : cV) (p1 p2 : Int32) : Option (Int32 × cU × cV) :=
  match G with
  | (gc, gb) =>
  if gc ≠ (16 : Int32) then
  ((fm_starts T ((0 : Int32)) V p1 p1 p2).bind fun z2 =>
  match z2 with
  | (r2, U_2, V_2) =>
  if (am_bz r2) ≠ 0 then
  (none)
  else
  some ((0 : Int32), U_2, V_2))
  else
  some ((-1 : Int32), ((0 : Int32)), V)
set_option maxHeartbeats 4000000 in
set_option maxRecDepth 100000 in
theorem ok_fm_define {fl : Nat} {N : cN} {C : cC} {E : cE} {F : cF} {P : cP} {Q : cQ} {T : cT} {G : cG} {U : cU} {H : cH} {B : cB} {O : cO} {J : cJ} {V : cV} {Y : cY} {Z : cZ} {O9 : cO9} {k n : Nat} {p1 p2 : Int32} {rv : Int32} {U' : cU} {V' : cV} (h : fm_define fl T G U V p1 p2 = some (rv, U', V')) (D : Nat) (hD : 3 ≤ D) : am_Call D 118 [.ref 19, .int p1, .int p2] (W9 N C E F P Q T G U H B O J V Y Z O9) k n (.inl (some (.int rv)), W9 N C E F P Q T G U' H B O J V' Y Z O9, k, n) := by
  unfold fm_define at h
  obtain ⟨D, rfl⟩ : ∃ D', D = D' + 1 := ⟨D - 1, by omega⟩
  have hD : 2 ≤ D := by omega
  refine am_call_run (by decide) (by decide) rfl (Nat.le_of_ble_eq_true rfl) (by decide) (L := [(0, .ref 19), (1, .int p1), (2, .int p2)]) rfl ?_
  obtain ⟨gc, gb⟩ := G
  try dsimp only at h
  refine am_ev_st 7 (f' := am_br (gc ≠ (16 : Int32)) 16 11 [(0, .ref 19), (1, .int p1), (2, .int p2)] [] (W9 N C E F P Q T (gc, gb) ((0 : Int32)) H B O J V Y Z O9) k n) (g := True ∧ True ∧ True ∧ True ∧ True ∧ True ∧ True ∧ True) (by with_unfolding_all rfl) ⟨trivial, trivial, trivial, trivial, trivial, trivial, trivial, trivial⟩ ?_
  by_cases c1 : gc ≠ (16 : Int32)
  · rw [if_pos c1] at h
    refine am_ev_pos c1 ?_
    refine am_ev_st 4 (f' := (20, [(0, .ref 19), (1, .int p1), (2, .int p2)], [.int p2, .int p1, .int p1, .ref 19], (W9 N C E F P Q T (gc, gb) ((0 : Int32)) H B O J V Y Z O9), k, n)) (g := True ∧ True ∧ True ∧ True ∧ True) (by with_unfolding_all rfl) ⟨trivial, trivial, trivial, trivial, trivial⟩ ?_
    replace h := Option.bind_eq_some_iff.mp h
    obtain ⟨⟨r2, U_2, V_2⟩, hc2, h⟩ := h
    try dsimp only at h
    refine am_ev_call (.invokevirtual 199) 111 6 804 [.ref 19, .int p1, .int p1, .int p2] [] rfl rfl rfl rfl (ok_fm_starts hc2 D (by omega)) rfl ?_
    refine am_ev_st 1 (f' := am_br ((am_bz r2) ≠ 0) 28 23 [(0, .ref 19), (1, .int p1), (2, .int p2)] [] (W9 N C E F P Q T (gc, gb) U_2 H B O J V_2 Y Z O9) k n) (g := True ∧ True) (by with_unfolding_all rfl) ⟨trivial, trivial⟩ ?_
    by_cases c3 : (am_bz r2) ≠ 0
    · rw [if_pos c3] at h
      refine am_ev_pos c3 ?_
      cases h
    · rw [if_neg c3] at h
      refine am_ev_neg c3 ?_
      refine am_ev_st 1 (f' := (27, [(0, .ref 19), (1, .int p1), (2, .int p2)], [.int (0 : Int32)], (W9 N C E F P Q T (gc, gb) U_2 H B O J V_2 Y Z O9), k, n)) (g := True ∧ True) (by with_unfolding_all rfl) ⟨trivial, trivial⟩ ?_
      cases h
      exact am_ev_ret 0 0 0 rfl .int rfl rfl rfl
  · rw [if_neg c1] at h
    refine am_ev_neg c1 ?_
    refine am_ev_st 1 (f' := (15, [(0, .ref 19), (1, .int p1), (2, .int p2)], [.int (-1 : Int32)], (W9 N C E F P Q T (gc, gb) ((0 : Int32)) H B O J V Y Z O9), k, n)) (g := True ∧ True) (by with_unfolding_all rfl) ⟨trivial, trivial⟩ ?_
    cases h
    exact am_ev_ret 0 0 0 rfl .int rfl rfl rfl
def fm_constants (G : cG) (U : cU) : Option (Int32 × cU) :=
  match G with
  | (gc, gb) =>
  some (gc, ((0 : Int32)))
set_option maxHeartbeats 4000000 in
set_option maxRecDepth 100000 in
theorem ok_fm_constants  {N : cN} {C : cC} {E : cE} {F : cF} {P : cP} {Q : cQ} {T : cT} {G : cG} {U : cU} {H : cH} {B : cB} {O : cO} {J : cJ} {V : cV} {Y : cY} {Z : cZ} {O9 : cO9} {k n : Nat} {rv : Int32} {U' : cU} (h : fm_constants G U = some (rv, U')) (D : Nat) (hD : 1 ≤ D) : am_Call D 119 [.ref 19] (W9 N C E F P Q T G U H B O J V Y Z O9) k n (.inl (some (.int rv)), W9 N C E F P Q T G U' H B O J V Y Z O9, k, n) := by
  unfold fm_constants at h
  obtain ⟨D, rfl⟩ : ∃ D', D = D' + 1 := ⟨D - 1, by omega⟩
  have hD : 0 ≤ D := by omega
  refine am_call_run (by decide) (by decide) rfl (Nat.le_of_ble_eq_true rfl) (by decide) (L := [(0, .ref 19)]) rfl ?_
  obtain ⟨gc, gb⟩ := G
  try dsimp only at h
  refine am_ev_st 5 (f' := (9, [(0, .ref 19)], [.int gc], (W9 N C E F P Q T (gc, gb) ((0 : Int32)) H B O J V Y Z O9), k, n)) (g := True ∧ True ∧ True ∧ True ∧ True ∧ True) (by with_unfolding_all rfl) ⟨trivial, trivial, trivial, trivial, trivial, trivial⟩ ?_
  cases h
  exact am_ev_ret 0 0 0 rfl .int rfl rfl rfl
def fm_hasBody (G : cG) (U : cU) (p1 : Int32) : Option (Bool × cU) :=
  if p1 < 0 then
  (some (false, ((0 : Int32))))
  else
  match G with
  | (gc, gb) =>
  if gc ≤ p1 then
  (some (false, ((0 : Int32))))
  else
  if (p1 < 0 ∨ 16 ≤ (p1).toNatClampNeg) then none else
  if (gb (p1).toNatClampNeg) = 0 then
  (some (false, ((0 : Int32))))
  else
  some (true, ((0 : Int32)))
set_option maxHeartbeats 4000000 in
set_option maxRecDepth 100000 in
theorem ok_fm_hasBody  {N : cN} {C : cC} {E : cE} {F : cF} {P : cP} {Q : cQ} {T : cT} {G : cG} {U : cU} {H : cH} {B : cB} {O : cO} {J : cJ} {V : cV} {Y : cY} {Z : cZ} {O9 : cO9} {k n : Nat} {p1 : Int32} {rv : Bool} {U' : cU} (h : fm_hasBody G U p1 = some (rv, U')) (D : Nat) (hD : 1 ≤ D) : am_Call D 120 [.ref 19, .int p1] (W9 N C E F P Q T G U H B O J V Y Z O9) k n (.inl (some (.int (am_bz rv))), W9 N C E F P Q T G U' H B O J V Y Z O9, k, n) := by
  unfold fm_hasBody at h
  obtain ⟨D, rfl⟩ : ∃ D', D = D' + 1 := ⟨D - 1, by omega⟩
  have hD : 0 ≤ D := by omega
  refine am_call_run (by decide) (by decide) rfl (Nat.le_of_ble_eq_true rfl) (by decide) (L := [(0, .ref 19), (1, .int p1)]) rfl ?_
  refine am_ev_st 5 (f' := am_br (p1 < 0) 30 6 [(0, .ref 19), (1, .int p1)] [] (W9 N C E F P Q T G ((0 : Int32)) H B O J V Y Z O9) k n) (g := True ∧ True ∧ True ∧ True ∧ True ∧ True) (by with_unfolding_all rfl) ⟨trivial, trivial, trivial, trivial, trivial, trivial⟩ ?_
  by_cases c1 : p1 < 0
  · rw [if_pos c1] at h
    refine am_ev_pos c1 ?_
    refine am_ev_st 1 (f' := (31, [(0, .ref 19), (1, .int p1)], [.int (0 : Int32)], (W9 N C E F P Q T G ((0 : Int32)) H B O J V Y Z O9), k, n)) (g := True ∧ True) (by with_unfolding_all rfl) ⟨trivial, trivial⟩ ?_
    cases h
    exact am_ev_ret 0 0 0 rfl .boolean rfl am_n0 rfl
  · rw [if_neg c1] at h
    refine am_ev_neg c1 ?_
    obtain ⟨gc, gb⟩ := G
    try dsimp only at h
    refine am_ev_st 4 (f' := am_br (gc ≤ p1) 30 14 [(0, .ref 19), (1, .int p1)] [] (W9 N C E F P Q T (gc, gb) ((0 : Int32)) H B O J V Y Z O9) k n) (g := True ∧ True ∧ True ∧ True ∧ True) (by with_unfolding_all rfl) ⟨trivial, trivial, trivial, trivial, trivial⟩ ?_
    by_cases c2 : gc ≤ p1
    · rw [if_pos c2] at h
      refine am_ev_pos c2 ?_
      refine am_ev_st 1 (f' := (31, [(0, .ref 19), (1, .int p1)], [.int (0 : Int32)], (W9 N C E F P Q T (gc, gb) ((0 : Int32)) H B O J V Y Z O9), k, n)) (g := True ∧ True) (by with_unfolding_all rfl) ⟨trivial, trivial⟩ ?_
      cases h
      exact am_ev_ret 0 0 0 rfl .boolean rfl am_n0 rfl
    · rw [if_neg c2] at h
      refine am_ev_neg c2 ?_
      by_cases g3 : (p1 < 0 ∨ 16 ≤ (p1).toNatClampNeg)
      · rw [if_pos g3] at h; cases h
      rw [if_neg g3] at h
      refine am_ev_st 5 (f' := am_br ((gb (p1).toNatClampNeg) = 0) 30 23 [(0, .ref 19), (1, .int p1)] [] (W9 N C E F P Q T (gc, gb) ((0 : Int32)) H B O J V Y Z O9) k n) (g := True ∧ True ∧ True ∧ vp_in (p1) 16 ∧ True ∧ True) (by with_unfolding_all rfl) ⟨trivial, trivial, trivial, g3, trivial, trivial⟩ ?_
      by_cases c4 : (gb (p1).toNatClampNeg) = 0
      · rw [if_pos c4] at h
        refine am_ev_pos c4 ?_
        refine am_ev_st 1 (f' := (31, [(0, .ref 19), (1, .int p1)], [.int (0 : Int32)], (W9 N C E F P Q T (gc, gb) ((0 : Int32)) H B O J V Y Z O9), k, n)) (g := True ∧ True) (by with_unfolding_all rfl) ⟨trivial, trivial⟩ ?_
        cases h
        exact am_ev_ret 0 0 0 rfl .boolean rfl am_n0 rfl
      · rw [if_neg c4] at h
        refine am_ev_neg c4 ?_
        refine am_ev_st 2 (f' := (31, [(0, .ref 19), (1, .int p1)], [.int (1 : Int32)], (W9 N C E F P Q T (gc, gb) ((0 : Int32)) H B O J V Y Z O9), k, n)) (g := True ∧ True ∧ True) (by with_unfolding_all rfl) ⟨trivial, trivial, trivial⟩ ?_
        cases h
        exact am_ev_ret 0 0 0 rfl .boolean rfl am_n1 rfl
def fm_typeOf (G : cG) (U : cU) (p1 : Int32) : Option (Int32 × cU) :=
  if p1 < 0 then
  (some ((-1 : Int32), ((0 : Int32))))
  else
  match G with
  | (gc, gb) =>
  if p1 < gc then
  (none)
  else
  some ((-1 : Int32), ((0 : Int32)))
set_option maxHeartbeats 4000000 in
set_option maxRecDepth 100000 in
theorem ok_fm_typeOf  {N : cN} {C : cC} {E : cE} {F : cF} {P : cP} {Q : cQ} {T : cT} {G : cG} {U : cU} {H : cH} {B : cB} {O : cO} {J : cJ} {V : cV} {Y : cY} {Z : cZ} {O9 : cO9} {k n : Nat} {p1 : Int32} {rv : Int32} {U' : cU} (h : fm_typeOf G U p1 = some (rv, U')) (D : Nat) (hD : 1 ≤ D) : am_Call D 121 [.ref 19, .int p1] (W9 N C E F P Q T G U H B O J V Y Z O9) k n (.inl (some (.int rv)), W9 N C E F P Q T G U' H B O J V Y Z O9, k, n) := by
  unfold fm_typeOf at h
  obtain ⟨D, rfl⟩ : ∃ D', D = D' + 1 := ⟨D - 1, by omega⟩
  have hD : 0 ≤ D := by omega
  refine am_call_run (by decide) (by decide) rfl (Nat.le_of_ble_eq_true rfl) (by decide) (L := [(0, .ref 19), (1, .int p1)]) rfl ?_
  refine am_ev_st 5 (f' := am_br (p1 < 0) 17 6 [(0, .ref 19), (1, .int p1)] [] (W9 N C E F P Q T G ((0 : Int32)) H B O J V Y Z O9) k n) (g := True ∧ True ∧ True ∧ True ∧ True ∧ True) (by with_unfolding_all rfl) ⟨trivial, trivial, trivial, trivial, trivial, trivial⟩ ?_
  by_cases c1 : p1 < 0
  · rw [if_pos c1] at h
    refine am_ev_pos c1 ?_
    refine am_ev_st 2 (f' := (29, [(0, .ref 19), (1, .int p1)], [.int (-1 : Int32)], (W9 N C E F P Q T G ((0 : Int32)) H B O J V Y Z O9), k, n)) (g := True ∧ True ∧ True) (by with_unfolding_all rfl) ⟨trivial, trivial, trivial⟩ ?_
    cases h
    exact am_ev_ret 0 0 0 rfl .int rfl rfl rfl
  · rw [if_neg c1] at h
    refine am_ev_neg c1 ?_
    obtain ⟨gc, gb⟩ := G
    try dsimp only at h
    refine am_ev_st 4 (f' := am_br (p1 < gc) 21 14 [(0, .ref 19), (1, .int p1)] [] (W9 N C E F P Q T (gc, gb) ((0 : Int32)) H B O J V Y Z O9) k n) (g := True ∧ True ∧ True ∧ True ∧ True) (by with_unfolding_all rfl) ⟨trivial, trivial, trivial, trivial, trivial⟩ ?_
    by_cases c2 : p1 < gc
    · rw [if_pos c2] at h
      refine am_ev_pos c2 ?_
      cases h
    · rw [if_neg c2] at h
      refine am_ev_neg c2 ?_
      refine am_ev_st 2 (f' := (29, [(0, .ref 19), (1, .int p1)], [.int (-1 : Int32)], (W9 N C E F P Q T (gc, gb) ((0 : Int32)) H B O J V Y Z O9), k, n)) (g := True ∧ True ∧ True) (by with_unfolding_all rfl) ⟨trivial, trivial, trivial⟩ ?_
      cases h
      exact am_ev_ret 0 0 0 rfl .int rfl rfl rfl
def fm_mark (U : cU) (H : cH) (B : cB) (p1 : Int32) : Option (Int32 × cU) :=
  if H = 0 then
  (some ((-1 : Int32), ((0 : Int32))))
  else
  if p1 < 0 then
  (some ((-1 : Int32), ((0 : Int32))))
  else
  match B with
  | (br, bl) =>
  if ((2 : Int32) < 0 ∨ 96 ≤ ((2 : Int32)).toNatClampNeg) then none else
  if p1 < (bl ((2 : Int32)).toNatClampNeg) then
  (none)
  else
  some ((-1 : Int32), ((0 : Int32)))
set_option maxHeartbeats 4000000 in
set_option maxRecDepth 100000 in
theorem ok_fm_mark  {N : cN} {C : cC} {E : cE} {F : cF} {P : cP} {Q : cQ} {T : cT} {G : cG} {U : cU} {H : cH} {B : cB} {O : cO} {J : cJ} {V : cV} {Y : cY} {Z : cZ} {O9 : cO9} {k n : Nat} {p1 : Int32} {rv : Int32} {U' : cU} (h : fm_mark U H B p1 = some (rv, U')) (D : Nat) (hD : 1 ≤ D) : am_Call D 122 [.ref 19, .int p1] (W9 N C E F P Q T G U H B O J V Y Z O9) k n (.inl (some (.int rv)), W9 N C E F P Q T G U' H B O J V Y Z O9, k, n) := by
  unfold fm_mark at h
  obtain ⟨D, rfl⟩ : ∃ D', D = D' + 1 := ⟨D - 1, by omega⟩
  have hD : 0 ≤ D := by omega
  refine am_call_run (by decide) (by decide) rfl (Nat.le_of_ble_eq_true rfl) (by decide) (L := [(0, .ref 19), (1, .int p1)]) rfl ?_
  refine am_ev_st 6 (f' := am_br (H = 0) 26 9 [(0, .ref 19), (1, .int p1)] [] (W9 N C E F P Q T G ((0 : Int32)) H B O J V Y Z O9) k n) (g := True ∧ True ∧ True ∧ True ∧ True ∧ True ∧ True) (by with_unfolding_all rfl) ⟨trivial, trivial, trivial, trivial, trivial, trivial, trivial⟩ ?_
  by_cases c1 : H = 0
  · rw [if_pos c1] at h
    refine am_ev_pos c1 ?_
    refine am_ev_st 2 (f' := (36, [(0, .ref 19), (1, .int p1)], [.int (-1 : Int32)], (W9 N C E F P Q T G ((0 : Int32)) H B O J V Y Z O9), k, n)) (g := True ∧ True ∧ True) (by with_unfolding_all rfl) ⟨trivial, trivial, trivial⟩ ?_
    cases h
    exact am_ev_ret 0 0 0 rfl .int rfl rfl rfl
  · rw [if_neg c1] at h
    refine am_ev_neg c1 ?_
    refine am_ev_st 2 (f' := am_br (p1 < 0) 26 13 [(0, .ref 19), (1, .int p1)] [] (W9 N C E F P Q T G ((0 : Int32)) H B O J V Y Z O9) k n) (g := True ∧ True ∧ True) (by with_unfolding_all rfl) ⟨trivial, trivial, trivial⟩ ?_
    by_cases c2 : p1 < 0
    · rw [if_pos c2] at h
      refine am_ev_pos c2 ?_
      refine am_ev_st 2 (f' := (36, [(0, .ref 19), (1, .int p1)], [.int (-1 : Int32)], (W9 N C E F P Q T G ((0 : Int32)) H B O J V Y Z O9), k, n)) (g := True ∧ True ∧ True) (by with_unfolding_all rfl) ⟨trivial, trivial, trivial⟩ ?_
      cases h
      exact am_ev_ret 0 0 0 rfl .int rfl rfl rfl
    · rw [if_neg c2] at h
      refine am_ev_neg c2 ?_
      obtain ⟨br, bl⟩ := B
      try dsimp only at h
      by_cases g3 : ((2 : Int32) < 0 ∨ 96 ≤ ((2 : Int32)).toNatClampNeg)
      · rw [if_pos g3] at h; cases h
      rw [if_neg g3] at h
      refine am_ev_st 6 (f' := am_br (p1 < (bl ((2 : Int32)).toNatClampNeg)) 30 23 [(0, .ref 19), (1, .int p1)] [] (W9 N C E F P Q T G ((0 : Int32)) H (br, bl) O J V Y Z O9) k n) (g := True ∧ True ∧ True ∧ True ∧ vp_in ((2 : Int32)) 96 ∧ True ∧ True) (by with_unfolding_all rfl) ⟨trivial, trivial, trivial, trivial, g3, trivial, trivial⟩ ?_
      by_cases c4 : p1 < (bl ((2 : Int32)).toNatClampNeg)
      · rw [if_pos c4] at h
        refine am_ev_pos c4 ?_
        cases h
      · rw [if_neg c4] at h
        refine am_ev_neg c4 ?_
        refine am_ev_st 2 (f' := (36, [(0, .ref 19), (1, .int p1)], [.int (-1 : Int32)], (W9 N C E F P Q T G ((0 : Int32)) H (br, bl) O J V Y Z O9), k, n)) (g := True ∧ True ∧ True) (by with_unfolding_all rfl) ⟨trivial, trivial, trivial⟩ ?_
        cases h
        exact am_ev_ret 0 0 0 rfl .int rfl rfl rfl
def lp_fm_keep_26 (fl : Nat) : Nat → cT → cU → cH → cB → Int32 → Int32 → Int32 → Int32 → Option (Int32 × cU)
  | 0, _, _, _, _, _, _, _, _ => none
  | w + 1, T, U, H, B, v1, v2, v3, v4 =>
    match B with
    | (br, bl) =>
    if ((2 : Int32) < 0 ∨ 96 ≤ ((2 : Int32)).toNatClampNeg) then none else
    if (bl ((2 : Int32)).toNatClampNeg) ≤ v4 then
    (some (v3, U))
    else
    none
def fm_keep (fl : Nat) (T : cT) (U : cU) (H : cH) (B : cB) : Option (Int32 × cU) :=
  if H ≠ 0 then
  (match T with
  | (te, tk, ta, tb, tn, td) =>
  lp_fm_keep_26 fl fl T ((0 : Int32)) H B te (0 : Int32) (-1 : Int32) (0 : Int32))
  else
  some ((-1 : Int32), ((0 : Int32)))
set_option maxHeartbeats 4000000 in
set_option maxRecDepth 100000 in
theorem ok_lp_fm_keep_26 {fl : Nat} : ∀ {w : Nat} {N : cN} {C : cC} {E : cE} {F : cF} {P : cP} {Q : cQ} {T : cT} {G : cG} {U : cU} {H : cH} {B : cB} {O : cO} {J : cJ} {V : cV} {Y : cY} {Z : cZ} {O9 : cO9} {k n : Nat} {v1 : Int32} {v2 : Int32} {v3 : Int32} {v4 : Int32} {rv : Int32} {U' : cU} (h : lp_fm_keep_26 fl w T U H B v1 v2 v3 v4 = some (rv, U')) (D : Nat) (hD : 0 ≤ D), am_Ev D 124 0 (fun _ => 0) (26, [(0, .ref 19), (1, .int v1), (2, .int v2), (3, .int v3), (4, .int v4)], [], (W9 N C E F P Q T G U H B O J V Y Z O9), k, n) (.inl (some (.int rv)), W9 N C E F P Q T G U' H B O J V Y Z O9, k, n) := by
  intro w
  induction w with
  | zero => intros; rename_i h _ _; cases h
  | succ w ih0 =>
    intro N C E F P Q T G U H B O J V Y Z O9 k n v1 v2 v3 v4 rv U' h D hD
    have ih := fun {N} {C} {E} {F} {P} {Q} {T} {G} {U} {H} {B} {O} {J} {V} {Y} {Z} {O9} {k} {n} {v1} {v2} {v3} {v4} {rv} {U'} h => @ih0 N C E F P Q T G U H B O J V Y Z O9 k n v1 v2 v3 v4 rv U' h D hD
    unfold lp_fm_keep_26 at h
    obtain ⟨br, bl⟩ := B
    try dsimp only at h
    by_cases g2 : ((2 : Int32) < 0 ∨ 96 ≤ ((2 : Int32)).toNatClampNeg)
    · rw [if_pos g2] at h; cases h
    rw [if_neg g2] at h
    refine am_ev_st 6 (f' := am_br ((bl ((2 : Int32)).toNatClampNeg) ≤ v4) 164 34 [(0, .ref 19), (1, .int v1), (2, .int v2), (3, .int v3), (4, .int v4)] [] (W9 N C E F P Q T G U H (br, bl) O J V Y Z O9) k n) (g := True ∧ True ∧ True ∧ True ∧ vp_in ((2 : Int32)) 96 ∧ True ∧ True) (by with_unfolding_all rfl) ⟨trivial, trivial, trivial, trivial, g2, trivial, trivial⟩ ?_
    by_cases c3 : (bl ((2 : Int32)).toNatClampNeg) ≤ v4
    · rw [if_pos c3] at h
      refine am_ev_pos c3 ?_
      refine am_ev_st 1 (f' := (165, [(0, .ref 19), (1, .int v1), (2, .int v2), (3, .int v3), (4, .int v4)], [.int v3], (W9 N C E F P Q T G U H (br, bl) O J V Y Z O9), k, n)) (g := True ∧ True) (by with_unfolding_all rfl) ⟨trivial, trivial⟩ ?_
      cases h
      exact am_ev_ret 0 0 0 rfl .int rfl rfl rfl
    · rw [if_neg c3] at h
      refine am_ev_neg c3 ?_
      cases h
set_option maxHeartbeats 4000000 in
set_option maxRecDepth 100000 in
theorem ok_fm_keep {fl : Nat} {N : cN} {C : cC} {E : cE} {F : cF} {P : cP} {Q : cQ} {T : cT} {G : cG} {U : cU} {H : cH} {B : cB} {O : cO} {J : cJ} {V : cV} {Y : cY} {Z : cZ} {O9 : cO9} {k n : Nat} {rv : Int32} {U' : cU} (h : fm_keep fl T U H B = some (rv, U')) (D : Nat) (hD : 1 ≤ D) : am_Call D 124 [.ref 19] (W9 N C E F P Q T G U H B O J V Y Z O9) k n (.inl (some (.int rv)), W9 N C E F P Q T G U' H B O J V Y Z O9, k, n) := by
  unfold fm_keep at h
  obtain ⟨D, rfl⟩ : ∃ D', D = D' + 1 := ⟨D - 1, by omega⟩
  have hD : 0 ≤ D := by omega
  refine am_call_run (by decide) (by decide) rfl (Nat.le_of_ble_eq_true rfl) (by decide) (L := [(0, .ref 19)]) rfl ?_
  refine am_ev_st 6 (f' := am_br (H ≠ 0) 14 9 [(0, .ref 19)] [] (W9 N C E F P Q T G ((0 : Int32)) H B O J V Y Z O9) k n) (g := True ∧ True ∧ True ∧ True ∧ True ∧ True ∧ True) (by with_unfolding_all rfl) ⟨trivial, trivial, trivial, trivial, trivial, trivial, trivial⟩ ?_
  by_cases c1 : H ≠ 0
  · rw [if_pos c1] at h
    refine am_ev_pos c1 ?_
    obtain ⟨te, tk, ta, tb, tn, td⟩ := T
    try dsimp only at h
    refine am_ev_st 9 (f' := (26, [(4, .int (0 : Int32)), (3, .int (-1 : Int32)), (2, .int (0 : Int32)), (1, .int te), (0, .ref 19)], [], (W9 N C E F P Q (te, tk, ta, tb, tn, td) G ((0 : Int32)) H B O J V Y Z O9), k, n)) (g := True ∧ True ∧ True ∧ True ∧ True ∧ True ∧ True ∧ True ∧ True ∧ True) (by with_unfolding_all rfl) ⟨trivial, trivial, trivial, trivial, trivial, trivial, trivial, trivial, trivial, trivial⟩ ?_
    refine am_ev_drop [4, 3, 2, 1, 0] rfl rfl ?_
    exact ok_lp_fm_keep_26 h D hD
  · rw [if_neg c1] at h
    refine am_ev_neg c1 ?_
    refine am_ev_st 1 (f' := (13, [(0, .ref 19)], [.int (-1 : Int32)], (W9 N C E F P Q T G ((0 : Int32)) H B O J V Y Z O9), k, n)) (g := True ∧ True) (by with_unfolding_all rfl) ⟨trivial, trivial⟩ ?_
    cases h
    exact am_ev_ret 0 0 0 rfl .int rfl rfl rfl
def fm_reduced (U : cU) (V : cV) : Option (Int32 × cU) :=
  match V with
  | (vf, vu, vx) =>
  some (vu, ((0 : Int32)))
set_option maxHeartbeats 4000000 in
set_option maxRecDepth 100000 in
theorem ok_fm_reduced  {N : cN} {C : cC} {E : cE} {F : cF} {P : cP} {Q : cQ} {T : cT} {G : cG} {U : cU} {H : cH} {B : cB} {O : cO} {J : cJ} {V : cV} {Y : cY} {Z : cZ} {O9 : cO9} {k n : Nat} {rv : Int32} {U' : cU} (h : fm_reduced U V = some (rv, U')) (D : Nat) (hD : 1 ≤ D) : am_Call D 125 [.ref 19] (W9 N C E F P Q T G U H B O J V Y Z O9) k n (.inl (some (.int rv)), W9 N C E F P Q T G U' H B O J V Y Z O9, k, n) := by
  unfold fm_reduced at h
  obtain ⟨D, rfl⟩ : ∃ D', D = D' + 1 := ⟨D - 1, by omega⟩
  have hD : 0 ≤ D := by omega
  refine am_call_run (by decide) (by decide) rfl (Nat.le_of_ble_eq_true rfl) (by decide) (L := [(0, .ref 19)]) rfl ?_
  obtain ⟨vf, vu, vx⟩ := V
  try dsimp only at h
  refine am_ev_st 5 (f' := (9, [(0, .ref 19)], [.int vu], (W9 N C E F P Q T G ((0 : Int32)) H B O J (vf, vu, vx) Y Z O9), k, n)) (g := True ∧ True ∧ True ∧ True ∧ True ∧ True) (by with_unfolding_all rfl) ⟨trivial, trivial, trivial, trivial, trivial, trivial⟩ ?_
  cases h
  exact am_ev_ret 0 0 0 rfl .int rfl rfl rfl
def fN_isTerm (N : cN) (p1 : Int32) : Option (Bool) :=
  if p1 < 0 then
  (some false)
  else
  match N with
  | (nK, nL, nR, nS, nD, cap, mt, le, en) =>
  if mt ≤ p1 then
  (some false)
  else
  some true
set_option maxHeartbeats 4000000 in
set_option maxRecDepth 100000 in
theorem ok_fN_isTerm  {N : cN} {C : cC} {E : cE} {F : cF} {P : cP} {Q : cQ} {T : cT} {G : cG} {U : cU} {H : cH} {B : cB} {O : cO} {J : cJ} {V : cV} {Y : cY} {Z : cZ} {O9 : cO9} {k n : Nat} {p1 : Int32} {rv : Bool} (h : fN_isTerm N p1 = some rv) (D : Nat) (hD : 1 ≤ D) : am_Call D 27 [.ref 1, .int p1] (W9 N C E F P Q T G U H B O J V Y Z O9) k n (.inl (some (.int (am_bz rv))), W9 N C E F P Q T G U H B O J V Y Z O9, k, n) := by
  unfold fN_isTerm at h
  obtain ⟨D, rfl⟩ : ∃ D', D = D' + 1 := ⟨D - 1, by omega⟩
  have hD : 0 ≤ D := by omega
  refine am_call_run (by decide) (by decide) rfl (Nat.le_of_ble_eq_true rfl) (by decide) (L := [(0, .ref 1), (1, .int p1)]) rfl ?_
  refine am_ev_st 2 (f' := am_br (p1 < 0) 16 1 [(0, .ref 1), (1, .int p1)] [] (W9 N C E F P Q T G U H B O J V Y Z O9) k n) (g := True ∧ True ∧ True) (by with_unfolding_all rfl) ⟨trivial, trivial, trivial⟩ ?_
  by_cases c1 : p1 < 0
  · rw [if_pos c1] at h
    refine am_ev_pos c1 ?_
    refine am_ev_st 1 (f' := (17, [(0, .ref 1), (1, .int p1)], [.int (0 : Int32)], (W9 N C E F P Q T G U H B O J V Y Z O9), k, n)) (g := True ∧ True) (by with_unfolding_all rfl) ⟨trivial, trivial⟩ ?_
    cases h
    exact am_ev_ret 0 0 0 rfl .boolean rfl am_n0 rfl
  · rw [if_neg c1] at h
    refine am_ev_neg c1 ?_
    obtain ⟨nK, nL, nR, nS, nD, cap, mt, le, en⟩ := N
    try dsimp only at h
    refine am_ev_st 4 (f' := am_br (mt ≤ p1) 16 9 [(0, .ref 1), (1, .int p1)] [] (W9 (nK, nL, nR, nS, nD, cap, mt, le, en) C E F P Q T G U H B O J V Y Z O9) k n) (g := True ∧ True ∧ True ∧ True ∧ True) (by with_unfolding_all rfl) ⟨trivial, trivial, trivial, trivial, trivial⟩ ?_
    by_cases c2 : mt ≤ p1
    · rw [if_pos c2] at h
      refine am_ev_pos c2 ?_
      refine am_ev_st 1 (f' := (17, [(0, .ref 1), (1, .int p1)], [.int (0 : Int32)], (W9 (nK, nL, nR, nS, nD, cap, mt, le, en) C E F P Q T G U H B O J V Y Z O9), k, n)) (g := True ∧ True) (by with_unfolding_all rfl) ⟨trivial, trivial⟩ ?_
      cases h
      exact am_ev_ret 0 0 0 rfl .boolean rfl am_n0 rfl
    · rw [if_neg c2] at h
      refine am_ev_neg c2 ?_
      refine am_ev_st 2 (f' := (17, [(0, .ref 1), (1, .int p1)], [.int (1 : Int32)], (W9 (nK, nL, nR, nS, nD, cap, mt, le, en) C E F P Q T G U H B O J V Y Z O9), k, n)) (g := True ∧ True ∧ True) (by with_unfolding_all rfl) ⟨trivial, trivial, trivial⟩ ?_
      cases h
      exact am_ev_ret 0 0 0 rfl .boolean rfl am_n1 rfl
def fN_dropPassing (N : cN) : Option (cN) :=
  match N with
  | (nK, nL, nR, nS, nD, cap, mt, le, en) =>
  some (nK, nL, nR, nS, nD, cap, mt, le, le)
set_option maxHeartbeats 4000000 in
set_option maxRecDepth 100000 in
theorem ok_fN_dropPassing  {N : cN} {C : cC} {E : cE} {F : cF} {P : cP} {Q : cQ} {T : cT} {G : cG} {U : cU} {H : cH} {B : cB} {O : cO} {J : cJ} {V : cV} {Y : cY} {Z : cZ} {O9 : cO9} {k n : Nat} {N' : cN} (h : fN_dropPassing N = some N') (D : Nat) (hD : 1 ≤ D) : am_Call D 41 [.ref 1] (W9 N C E F P Q T G U H B O J V Y Z O9) k n (.inl none, W9 N' C E F P Q T G U H B O J V Y Z O9, k, n) := by
  unfold fN_dropPassing at h
  obtain ⟨D, rfl⟩ : ∃ D', D = D' + 1 := ⟨D - 1, by omega⟩
  have hD : 0 ≤ D := by omega
  refine am_call_run (by decide) (by decide) rfl (Nat.le_of_ble_eq_true rfl) (by decide) (L := [(0, .ref 1)]) rfl ?_
  obtain ⟨nK, nL, nR, nS, nD, cap, mt, le, en⟩ := N
  try dsimp only at h
  refine am_ev_st 4 (f' := (8, [(0, .ref 1)], [], (W9 (nK, nL, nR, nS, nD, cap, mt, le, le) C E F P Q T G U H B O J V Y Z O9), k, n)) (g := True ∧ True ∧ True ∧ True ∧ True) (by with_unfolding_all rfl) ⟨trivial, trivial, trivial, trivial, trivial⟩ ?_
  cases h
  exact am_ev_vret 0 0 0 rfl rfl rfl
def fE_refuel (E : cE) (p1 : Int32) : Option (cE) :=
  match E with
  | (fi, se, op, fu, ma) =>
  some (fi, se, op, p1, (0 : Int32))
set_option maxHeartbeats 4000000 in
set_option maxRecDepth 100000 in
theorem ok_fE_refuel  {N : cN} {C : cC} {E : cE} {F : cF} {P : cP} {Q : cQ} {T : cT} {G : cG} {U : cU} {H : cH} {B : cB} {O : cO} {J : cJ} {V : cV} {Y : cY} {Z : cZ} {O9 : cO9} {k n : Nat} {p1 : Int32} {E' : cE} (h : fE_refuel E p1 = some E') (D : Nat) (hD : 1 ≤ D) : am_Call D 46 [.ref 10, .int p1] (W9 N C E F P Q T G U H B O J V Y Z O9) k n (.inl none, W9 N C E' F P Q T G U H B O J V Y Z O9, k, n) := by
  unfold fE_refuel at h
  obtain ⟨D, rfl⟩ : ∃ D', D = D' + 1 := ⟨D - 1, by omega⟩
  have hD : 0 ≤ D := by omega
  refine am_call_run (by decide) (by decide) rfl (Nat.le_of_ble_eq_true rfl) (by decide) (L := [(0, .ref 10), (1, .int p1)]) rfl ?_
  obtain ⟨fi, se, op, fu, ma⟩ := E
  try dsimp only at h
  refine am_ev_st 6 (f' := (10, [(0, .ref 10), (1, .int p1)], [], (W9 N C (fi, se, op, p1, (0 : Int32)) F P Q T G U H B O J V Y Z O9), k, n)) (g := True ∧ True ∧ True ∧ True ∧ True ∧ True ∧ True) (by with_unfolding_all rfl) ⟨trivial, trivial, trivial, trivial, trivial, trivial, trivial⟩ ?_
  cases h
  exact am_ev_vret 0 0 0 rfl rfl rfl
def fF_forgetTypes (F : cF) : Option (cF) :=
  match F with
  | (tt, tc) =>
  some (tt, (0 : Int32))
set_option maxHeartbeats 4000000 in
set_option maxRecDepth 100000 in
theorem ok_fF_forgetTypes  {N : cN} {C : cC} {E : cE} {F : cF} {P : cP} {Q : cQ} {T : cT} {G : cG} {U : cU} {H : cH} {B : cB} {O : cO} {J : cJ} {V : cV} {Y : cY} {Z : cZ} {O9 : cO9} {k n : Nat} {F' : cF} (h : fF_forgetTypes F = some F') (D : Nat) (hD : 1 ≤ D) : am_Call D 8 [.ref 13] (W9 N C E F P Q T G U H B O J V Y Z O9) k n (.inl none, W9 N C E F' P Q T G U H B O J V Y Z O9, k, n) := by
  unfold fF_forgetTypes at h
  obtain ⟨D, rfl⟩ : ∃ D', D = D' + 1 := ⟨D - 1, by omega⟩
  have hD : 0 ≤ D := by omega
  refine am_call_run (by decide) (by decide) rfl (Nat.le_of_ble_eq_true rfl) (by decide) (L := [(0, .ref 13)]) rfl ?_
  obtain ⟨tt, tc⟩ := F
  try dsimp only at h
  refine am_ev_st 3 (f' := (5, [(0, .ref 13)], [], (W9 N C E (tt, (0 : Int32)) P Q T G U H B O J V Y Z O9), k, n)) (g := True ∧ True ∧ True ∧ True) (by with_unfolding_all rfl) ⟨trivial, trivial, trivial, trivial⟩ ?_
  cases h
  exact am_ev_vret 0 0 0 rfl rfl rfl
def fJ_begin (N : cN) (E : cE) (F : cF) (k n : Nat) (p1 p2 p3 : Int32) : Option (((Unit) ⊕ Nat) × cN × cE × cF × (Nat × Nat)) :=
  (fN_isTerm N p1).bind fun z1 =>
  match z1 with
  | (r1) =>
  if (am_bz r1) = 0 then
  (some (.inr 0, N, E, F, ((k + 1), (n + 6))))
  else
  (fN_isTerm N p2).bind fun z3 =>
  match z3 with
  | (r3) =>
  if (am_bz r3) = 0 then
  (some (.inr 0, N, E, F, ((k + 1), (n + 6))))
  else
  if p3 < 0 then
  (some (.inr 0, N, E, F, ((k + 1), (n + 6))))
  else
  if p3 ≤ (30 : Int32) then
  ((fN_dropPassing N).bind fun z7 =>
  match z7 with
  | (N_7) =>
  (fE_refuel E p3).bind fun z8 =>
  match z8 with
  | (E_8) =>
  (fF_forgetTypes F).bind fun z9 =>
  match z9 with
  | (F_9) =>
  some (.inl (), N_7, E_8, F_9, (k, n)))
  else
  some (.inr 0, N, E, F, ((k + 1), (n + 6)))
set_option maxHeartbeats 4000000 in
set_option maxRecDepth 100000 in
theorem ok_fJ_begin  {N : cN} {C : cC} {E : cE} {F : cF} {P : cP} {Q : cQ} {T : cT} {G : cG} {U : cU} {H : cH} {B : cB} {O : cO} {J : cJ} {V : cV} {Y : cY} {Z : cZ} {O9 : cO9} {k n : Nat} {p1 p2 p3 : Int32} {rv : (Unit) ⊕ Nat} {N' : cN} {E' : cE} {F' : cF} {k' n' : Nat} (h : fJ_begin N E F k n p1 p2 p3 = some (rv, N', E', F', (k', n'))) (D : Nat) (hD : 2 ≤ D) : am_Call D 73 [.ref 0, .int p1, .int p2, .int p3] (W9 N C E F P Q T G U H B O J V Y Z O9) k n (am_oV rv, W9 N' C E' F' P Q T G U H B O J V Y Z O9, k', n') := by
  unfold fJ_begin at h
  obtain ⟨D, rfl⟩ : ∃ D', D = D' + 1 := ⟨D - 1, by omega⟩
  have hD : 1 ≤ D := by omega
  refine am_call_run (by decide) (by decide) rfl (Nat.le_of_ble_eq_true rfl) (by decide) (L := [(0, .ref 0), (1, .int p1), (2, .int p2), (3, .int p3)]) rfl ?_
  refine am_ev_st 3 (f' := (5, [(0, .ref 0), (1, .int p1), (2, .int p2), (3, .int p3)], [.int p1, .ref 1], (W9 N C E F P Q T G U H B O J V Y Z O9), k, n)) (g := True ∧ True ∧ True ∧ True) (by with_unfolding_all rfl) ⟨trivial, trivial, trivial, trivial⟩ ?_
  replace h := Option.bind_eq_some_iff.mp h
  obtain ⟨r1, hc1, h⟩ := h
  try dsimp only at h
  refine am_ev_call (.invokevirtual 67) 27 2 223 [.ref 1, .int p1] [] rfl rfl rfl rfl (ok_fN_isTerm hc1 D (by omega)) rfl ?_
  refine am_ev_st 1 (f' := am_br ((am_bz r1) = 0) 32 8 [(0, .ref 0), (1, .int p1), (2, .int p2), (3, .int p3)] [] (W9 N C E F P Q T G U H B O J V Y Z O9) k n) (g := True ∧ True) (by with_unfolding_all rfl) ⟨trivial, trivial⟩ ?_
  by_cases c2 : (am_bz r1) = 0
  · rw [if_pos c2] at h
    refine am_ev_pos c2 ?_
    cases h
    exact am_ev_throw (.new 157) 11 0 469 rfl _ rfl rfl rfl rfl rfl rfl rfl
  · rw [if_neg c2] at h
    refine am_ev_neg c2 ?_
    refine am_ev_st 3 (f' := (16, [(0, .ref 0), (1, .int p1), (2, .int p2), (3, .int p3)], [.int p2, .ref 1], (W9 N C E F P Q T G U H B O J V Y Z O9), k, n)) (g := True ∧ True ∧ True ∧ True) (by with_unfolding_all rfl) ⟨trivial, trivial, trivial, trivial⟩ ?_
    replace h := Option.bind_eq_some_iff.mp h
    obtain ⟨r3, hc3, h⟩ := h
    try dsimp only at h
    refine am_ev_call (.invokevirtual 67) 27 2 223 [.ref 1, .int p2] [] rfl rfl rfl rfl (ok_fN_isTerm hc3 D (by omega)) rfl ?_
    refine am_ev_st 1 (f' := am_br ((am_bz r3) = 0) 32 19 [(0, .ref 0), (1, .int p1), (2, .int p2), (3, .int p3)] [] (W9 N C E F P Q T G U H B O J V Y Z O9) k n) (g := True ∧ True) (by with_unfolding_all rfl) ⟨trivial, trivial⟩ ?_
    by_cases c4 : (am_bz r3) = 0
    · rw [if_pos c4] at h
      refine am_ev_pos c4 ?_
      cases h
      exact am_ev_throw (.new 157) 11 0 469 rfl _ rfl rfl rfl rfl rfl rfl rfl
    · rw [if_neg c4] at h
      refine am_ev_neg c4 ?_
      refine am_ev_st 2 (f' := am_br (p3 < 0) 32 23 [(0, .ref 0), (1, .int p1), (2, .int p2), (3, .int p3)] [] (W9 N C E F P Q T G U H B O J V Y Z O9) k n) (g := True ∧ True ∧ True) (by with_unfolding_all rfl) ⟨trivial, trivial, trivial⟩ ?_
      by_cases c5 : p3 < 0
      · rw [if_pos c5] at h
        refine am_ev_pos c5 ?_
        cases h
        exact am_ev_throw (.new 157) 11 0 469 rfl _ rfl rfl rfl rfl rfl rfl rfl
      · rw [if_neg c5] at h
        refine am_ev_neg c5 ?_
        refine am_ev_st 3 (f' := am_br (p3 ≤ (30 : Int32)) 42 29 [(0, .ref 0), (1, .int p1), (2, .int p2), (3, .int p3)] [] (W9 N C E F P Q T G U H B O J V Y Z O9) k n) (g := True ∧ True ∧ True ∧ True) (by with_unfolding_all rfl) ⟨trivial, trivial, trivial, trivial⟩ ?_
        by_cases c6 : p3 ≤ (30 : Int32)
        · rw [if_pos c6] at h
          refine am_ev_pos c6 ?_
          refine am_ev_st 2 (f' := (46, [(0, .ref 0), (1, .int p1), (2, .int p2), (3, .int p3)], [.ref 1], (W9 N C E F P Q T G U H B O J V Y Z O9), k, n)) (g := True ∧ True ∧ True) (by with_unfolding_all rfl) ⟨trivial, trivial, trivial⟩ ?_
          replace h := Option.bind_eq_some_iff.mp h
          obtain ⟨N_7, hc7, h⟩ := h
          try dsimp only at h
          refine am_ev_call (.invokevirtual 164) 41 0 485 [.ref 1] [] rfl rfl rfl rfl (ok_fN_dropPassing hc7 D (by omega)) rfl ?_
          refine am_ev_st 3 (f' := (54, [(0, .ref 0), (1, .int p1), (2, .int p2), (3, .int p3)], [.int p3, .ref 10], (W9 N_7 C E F P Q T G U H B O J V Y Z O9), k, n)) (g := True ∧ True ∧ True ∧ True) (by with_unfolding_all rfl) ⟨trivial, trivial, trivial, trivial⟩ ?_
          replace h := Option.bind_eq_some_iff.mp h
          obtain ⟨E_8, hc8, h⟩ := h
          try dsimp only at h
          refine am_ev_call (.invokevirtual 167) 46 2 489 [.ref 10, .int p3] [] rfl rfl rfl rfl (ok_fE_refuel hc8 D (by omega)) rfl ?_
          refine am_ev_st 2 (f' := (61, [(0, .ref 0), (1, .int p1), (2, .int p2), (3, .int p3)], [.ref 13], (W9 N_7 C E_8 F P Q T G U H B O J V Y Z O9), k, n)) (g := True ∧ True ∧ True) (by with_unfolding_all rfl) ⟨trivial, trivial, trivial⟩ ?_
          replace h := Option.bind_eq_some_iff.mp h
          obtain ⟨F_9, hc9, h⟩ := h
          try dsimp only at h
          refine am_ev_call (.invokevirtual 170) 8 0 493 [.ref 13] [] rfl rfl rfl rfl (ok_fF_forgetTypes hc9 D (by omega)) rfl ?_
          cases h
          exact am_ev_vret 0 0 0 rfl rfl rfl
        · rw [if_neg c6] at h
          refine am_ev_neg c6 ?_
          cases h
          exact am_ev_throw (.new 157) 11 0 469 rfl _ rfl rfl rfl rfl rfl rfl rfl
def fJ_infer (N : cN) (E : cE) (F : cF) (k n : Nat) (p1 p2 : Int32) : Option (((Int32) ⊕ Nat) × cN × cE × cF × (Nat × Nat)) :=
  (fJ_begin N E F k n p1 p1 p2).bind fun z1 =>
  match z1 with
  | (.inl (), N_1, E_1, F_1, (k_1, n_1)) =>
  (none)
  | (.inr e1, N_1, E_1, F_1, (k_1, n_1)) =>
  (some (.inr e1, N_1, E_1, F_1, (k_1, n_1)))
set_option maxHeartbeats 4000000 in
set_option maxRecDepth 100000 in
theorem ok_fJ_infer  {N : cN} {C : cC} {E : cE} {F : cF} {P : cP} {Q : cQ} {T : cT} {G : cG} {U : cU} {H : cH} {B : cB} {O : cO} {J : cJ} {V : cV} {Y : cY} {Z : cZ} {O9 : cO9} {k n : Nat} {p1 p2 : Int32} {rv : (Int32) ⊕ Nat} {N' : cN} {E' : cE} {F' : cF} {k' n' : Nat} (h : fJ_infer N E F k n p1 p2 = some (rv, N', E', F', (k', n'))) (D : Nat) (hD : 3 ≤ D) : am_Call D 59 [.ref 0, .int p1, .int p2] (W9 N C E F P Q T G U H B O J V Y Z O9) k n (am_oI rv, W9 N' C E' F' P Q T G U H B O J V Y Z O9, k', n') := by
  unfold fJ_infer at h
  obtain ⟨D, rfl⟩ : ∃ D', D = D' + 1 := ⟨D - 1, by omega⟩
  have hD : 2 ≤ D := by omega
  refine am_call_run (by decide) (by decide) rfl (Nat.le_of_ble_eq_true rfl) (by decide) (L := [(0, .ref 0), (1, .int p1), (2, .int p2)]) rfl ?_
  refine am_ev_st 4 (f' := (4, [(0, .ref 0), (1, .int p1), (2, .int p2)], [.int p2, .int p1, .int p1, .ref 0], (W9 N C E F P Q T G U H B O J V Y Z O9), k, n)) (g := True ∧ True ∧ True ∧ True ∧ True) (by with_unfolding_all rfl) ⟨trivial, trivial, trivial, trivial, trivial⟩ ?_
  replace h := Option.bind_eq_some_iff.mp h
  obtain ⟨⟨⟨⟩ | e1, N_1, E_1, F_1, ⟨k_1, n_1⟩⟩, hc1, h⟩ := h
  · dsimp only at h
    refine am_ev_call (.invokevirtual 86) 73 6 465 [.ref 0, .int p1, .int p1, .int p2] [] rfl rfl rfl rfl (ok_fJ_begin hc1 D (by omega)) rfl ?_
    cases h
  · dsimp only at h
    cases h
    exact am_ev_callx (.invokevirtual 86) 73 6 465 [.ref 0, .int p1, .int p1, .int p2] [] rfl rfl rfl rfl (ok_fJ_begin hc1 D (by omega)) rfl rfl rfl
end
section
def fL_infer (N : cN) (E : cE) (F : cF) (O9 : cO9) (k n : Nat) (p2 p3 : Int32) : Option (Int32 × cN × cE × cF × cO9 × (Nat × Nat)) :=
  (fJ_infer N E F k n p2 p3).bind fun z1 =>
  match z1 with
  | (.inl r1, N_1, E_1, F_1, (k_1, n_1)) =>
  (if ((0 : Int32) < 0 ∨ 1 ≤ ((0 : Int32)).toNatClampNeg) then none else
  some ((0 : Int32), N_1, E_1, F_1, ((vp_updL O9 ((0 : Int32)).toNatClampNeg r1.toInt64)), (k_1, n_1)))
  | (.inr e1, N_1, E_1, F_1, (k_1, n_1)) =>
  (if e1 = 0 then
  (some ((1 : Int32), N_1, E_1, F_1, O9, (k_1, n_1)))
  else
  if e1 = 1 then
  (some ((2 : Int32), N_1, E_1, F_1, O9, (k_1, n_1)))
  else
  if e1 = 2 then
  (some ((3 : Int32), N_1, E_1, F_1, O9, (k_1, n_1)))
  else
  none)
set_option maxHeartbeats 4000000 in
set_option maxRecDepth 100000 in
theorem ok_fL_infer  {N : cN} {C : cC} {E : cE} {F : cF} {P : cP} {Q : cQ} {T : cT} {G : cG} {U : cU} {H : cH} {B : cB} {O : cO} {J : cJ} {V : cV} {Y : cY} {Z : cZ} {O9 : cO9} {k n : Nat} {p2 p3 : Int32} {rv : Int32} {N' : cN} {E' : cE} {F' : cF} {O9' : cO9} {k' n' : Nat} (h : fL_infer N E F O9 k n p2 p3 = some (rv, N', E', F', O9', (k', n'))) (D : Nat) (hD : 4 ≤ D) : am_Call D 126 [.ref 0, .int p2, .int p3, .ref 38] (W9 N C E F P Q T G U H B O J V Y Z O9) k n (.inl (some (.int rv)), W9 N' C E' F' P Q T G U H B O J V Y Z O9', k', n') := by
  unfold fL_infer at h
  obtain ⟨D, rfl⟩ : ∃ D', D = D' + 1 := ⟨D - 1, by omega⟩
  have hD : 3 ≤ D := by omega
  refine am_call_run (by decide) (by decide) rfl (Nat.le_of_ble_eq_true rfl) (by decide) (L := [(0, .ref 0), (1, .int p2), (2, .int p3), (3, .ref 38)]) rfl ?_
  refine am_ev_st 5 (f' := (5, [(0, .ref 0), (1, .int p2), (2, .int p3), (3, .ref 38)], [.int p3, .int p2, .ref 0, .int (0 : Int32), .ref 38], (W9 N C E F P Q T G U H B O J V Y Z O9), k, n)) (g := True ∧ True ∧ True ∧ True ∧ True ∧ True) (by with_unfolding_all rfl) ⟨trivial, trivial, trivial, trivial, trivial, trivial⟩ ?_
  replace h := Option.bind_eq_some_iff.mp h
  obtain ⟨⟨r1 | e1, N_1, E_1, F_1, ⟨k_1, n_1⟩⟩, hc1, h⟩ := h
  · dsimp only at h
    refine am_ev_call (.invokevirtual 7) 59 4 461 [.ref 0, .int p2, .int p3] [.int (0 : Int32), .ref 38] rfl rfl rfl rfl (ok_fJ_infer hc1 D (by omega)) rfl ?_
    by_cases g2 : ((0 : Int32) < 0 ∨ 1 ≤ ((0 : Int32)).toNatClampNeg)
    · rw [if_pos g2] at h; cases h
    rw [if_neg g2] at h
    refine am_ev_st 4 (f' := (26, [(0, .ref 0), (1, .int p2), (2, .int p3), (3, .ref 38)], [.int (0 : Int32)], (W9 N_1 C E_1 F_1 P Q T G U H B O J V Y Z ((vp_updL O9 ((0 : Int32)).toNatClampNeg r1.toInt64))), k_1, n_1)) (g := True ∧ vp_in ((0 : Int32)) 1 ∧ True ∧ True ∧ True) (by with_unfolding_all rfl) ⟨trivial, g2, trivial, trivial, trivial⟩ ?_
    cases h
    exact am_ev_ret 0 0 0 rfl .int rfl rfl rfl
  · dsimp only at h
    by_cases c3 : e1 = 0
    · rw [if_pos c3] at h
      subst c3
      refine am_ev_catch (.invokevirtual 7) 59 4 461 [.ref 0, .int p2, .int p3] [.int (0 : Int32), .ref 38] rfl rfl rfl rfl (ok_fJ_infer hc1 D (by omega)) rfl 13 rfl rfl ?_
      refine am_ev_st 2 (f' := (16, [(4, .retAddr 1), (0, .ref 0), (1, .int p2), (2, .int p3), (3, .ref 38)], [.int (1 : Int32)], (W9 N_1 C E_1 F_1 P Q T G U H B O J V Y Z O9), k_1, n_1)) (g := True ∧ True ∧ True) (by with_unfolding_all rfl) ⟨trivial, trivial, trivial⟩ ?_
      cases h
      exact am_ev_ret 0 0 0 rfl .int rfl rfl rfl
    rw [if_neg c3] at h
    by_cases c4 : e1 = 1
    · rw [if_pos c4] at h
      subst c4
      refine am_ev_catch (.invokevirtual 7) 59 4 461 [.ref 0, .int p2, .int p3] [.int (0 : Int32), .ref 38] rfl rfl rfl rfl (ok_fJ_infer hc1 D (by omega)) rfl 17 rfl rfl ?_
      refine am_ev_st 2 (f' := (20, [(4, .retAddr 1), (0, .ref 0), (1, .int p2), (2, .int p3), (3, .ref 38)], [.int (2 : Int32)], (W9 N_1 C E_1 F_1 P Q T G U H B O J V Y Z O9), k_1, n_1)) (g := True ∧ True ∧ True) (by with_unfolding_all rfl) ⟨trivial, trivial, trivial⟩ ?_
      cases h
      exact am_ev_ret 0 0 0 rfl .int rfl rfl rfl
    rw [if_neg c4] at h
    by_cases c5 : e1 = 2
    · rw [if_pos c5] at h
      subst c5
      refine am_ev_catch (.invokevirtual 7) 59 4 461 [.ref 0, .int p2, .int p3] [.int (0 : Int32), .ref 38] rfl rfl rfl rfl (ok_fJ_infer hc1 D (by omega)) rfl 21 rfl rfl ?_
      refine am_ev_st 2 (f' := (24, [(4, .retAddr 1), (0, .ref 0), (1, .int p2), (2, .int p3), (3, .ref 38)], [.int (3 : Int32)], (W9 N_1 C E_1 F_1 P Q T G U H B O J V Y Z O9), k_1, n_1)) (g := True ∧ True ∧ True) (by with_unfolding_all rfl) ⟨trivial, trivial, trivial⟩ ?_
      cases h
      exact am_ev_ret 0 0 0 rfl .int rfl rfl rfl
    rw [if_neg c5] at h
    cases h
def fJ_reduce (N : cN) (E : cE) (F : cF) (k n : Nat) (p1 p2 : Int32) : Option (((Int32) ⊕ Nat) × cN × cE × cF × (Nat × Nat)) :=
  (fJ_begin N E F k n p1 p1 p2).bind fun z1 =>
  match z1 with
  | (.inl (), N_1, E_1, F_1, (k_1, n_1)) =>
  (none)
  | (.inr e1, N_1, E_1, F_1, (k_1, n_1)) =>
  (some (.inr e1, N_1, E_1, F_1, (k_1, n_1)))
set_option maxHeartbeats 4000000 in
set_option maxRecDepth 100000 in
theorem ok_fJ_reduce  {N : cN} {C : cC} {E : cE} {F : cF} {P : cP} {Q : cQ} {T : cT} {G : cG} {U : cU} {H : cH} {B : cB} {O : cO} {J : cJ} {V : cV} {Y : cY} {Z : cZ} {O9 : cO9} {k n : Nat} {p1 p2 : Int32} {rv : (Int32) ⊕ Nat} {N' : cN} {E' : cE} {F' : cF} {k' n' : Nat} (h : fJ_reduce N E F k n p1 p2 = some (rv, N', E', F', (k', n'))) (D : Nat) (hD : 3 ≤ D) : am_Call D 60 [.ref 0, .int p1, .int p2] (W9 N C E F P Q T G U H B O J V Y Z O9) k n (am_oI rv, W9 N' C E' F' P Q T G U H B O J V Y Z O9, k', n') := by
  unfold fJ_reduce at h
  obtain ⟨D, rfl⟩ : ∃ D', D = D' + 1 := ⟨D - 1, by omega⟩
  have hD : 2 ≤ D := by omega
  refine am_call_run (by decide) (by decide) rfl (Nat.le_of_ble_eq_true rfl) (by decide) (L := [(0, .ref 0), (1, .int p1), (2, .int p2)]) rfl ?_
  refine am_ev_st 4 (f' := (4, [(0, .ref 0), (1, .int p1), (2, .int p2)], [.int p2, .int p1, .int p1, .ref 0], (W9 N C E F P Q T G U H B O J V Y Z O9), k, n)) (g := True ∧ True ∧ True ∧ True ∧ True) (by with_unfolding_all rfl) ⟨trivial, trivial, trivial, trivial, trivial⟩ ?_
  replace h := Option.bind_eq_some_iff.mp h
  obtain ⟨⟨⟨⟩ | e1, N_1, E_1, F_1, ⟨k_1, n_1⟩⟩, hc1, h⟩ := h
  · dsimp only at h
    refine am_ev_call (.invokevirtual 86) 73 6 465 [.ref 0, .int p1, .int p1, .int p2] [] rfl rfl rfl rfl (ok_fJ_begin hc1 D (by omega)) rfl ?_
    cases h
  · dsimp only at h
    cases h
    exact am_ev_callx (.invokevirtual 86) 73 6 465 [.ref 0, .int p1, .int p1, .int p2] [] rfl rfl rfl rfl (ok_fJ_begin hc1 D (by omega)) rfl rfl rfl
def fL_reduce (N : cN) (E : cE) (F : cF) (O9 : cO9) (k n : Nat) (p2 p3 : Int32) : Option (Int32 × cN × cE × cF × cO9 × (Nat × Nat)) :=
  (fJ_reduce N E F k n p2 p3).bind fun z1 =>
  match z1 with
  | (.inl r1, N_1, E_1, F_1, (k_1, n_1)) =>
  (if ((0 : Int32) < 0 ∨ 1 ≤ ((0 : Int32)).toNatClampNeg) then none else
  some ((0 : Int32), N_1, E_1, F_1, ((vp_updL O9 ((0 : Int32)).toNatClampNeg r1.toInt64)), (k_1, n_1)))
  | (.inr e1, N_1, E_1, F_1, (k_1, n_1)) =>
  (if e1 = 0 then
  (some ((1 : Int32), N_1, E_1, F_1, O9, (k_1, n_1)))
  else
  if e1 = 2 then
  (some ((2 : Int32), N_1, E_1, F_1, O9, (k_1, n_1)))
  else
  none)
set_option maxHeartbeats 4000000 in
set_option maxRecDepth 100000 in
theorem ok_fL_reduce  {N : cN} {C : cC} {E : cE} {F : cF} {P : cP} {Q : cQ} {T : cT} {G : cG} {U : cU} {H : cH} {B : cB} {O : cO} {J : cJ} {V : cV} {Y : cY} {Z : cZ} {O9 : cO9} {k n : Nat} {p2 p3 : Int32} {rv : Int32} {N' : cN} {E' : cE} {F' : cF} {O9' : cO9} {k' n' : Nat} (h : fL_reduce N E F O9 k n p2 p3 = some (rv, N', E', F', O9', (k', n'))) (D : Nat) (hD : 4 ≤ D) : am_Call D 127 [.ref 0, .int p2, .int p3, .ref 38] (W9 N C E F P Q T G U H B O J V Y Z O9) k n (.inl (some (.int rv)), W9 N' C E' F' P Q T G U H B O J V Y Z O9', k', n') := by
  unfold fL_reduce at h
  obtain ⟨D, rfl⟩ : ∃ D', D = D' + 1 := ⟨D - 1, by omega⟩
  have hD : 3 ≤ D := by omega
  refine am_call_run (by decide) (by decide) rfl (Nat.le_of_ble_eq_true rfl) (by decide) (L := [(0, .ref 0), (1, .int p2), (2, .int p3), (3, .ref 38)]) rfl ?_
  refine am_ev_st 5 (f' := (5, [(0, .ref 0), (1, .int p2), (2, .int p3), (3, .ref 38)], [.int p3, .int p2, .ref 0, .int (0 : Int32), .ref 38], (W9 N C E F P Q T G U H B O J V Y Z O9), k, n)) (g := True ∧ True ∧ True ∧ True ∧ True ∧ True) (by with_unfolding_all rfl) ⟨trivial, trivial, trivial, trivial, trivial, trivial⟩ ?_
  replace h := Option.bind_eq_some_iff.mp h
  obtain ⟨⟨r1 | e1, N_1, E_1, F_1, ⟨k_1, n_1⟩⟩, hc1, h⟩ := h
  · dsimp only at h
    refine am_ev_call (.invokevirtual 19) 60 4 621 [.ref 0, .int p2, .int p3] [.int (0 : Int32), .ref 38] rfl rfl rfl rfl (ok_fJ_reduce hc1 D (by omega)) rfl ?_
    by_cases g2 : ((0 : Int32) < 0 ∨ 1 ≤ ((0 : Int32)).toNatClampNeg)
    · rw [if_pos g2] at h; cases h
    rw [if_neg g2] at h
    refine am_ev_st 4 (f' := (22, [(0, .ref 0), (1, .int p2), (2, .int p3), (3, .ref 38)], [.int (0 : Int32)], (W9 N_1 C E_1 F_1 P Q T G U H B O J V Y Z ((vp_updL O9 ((0 : Int32)).toNatClampNeg r1.toInt64))), k_1, n_1)) (g := True ∧ vp_in ((0 : Int32)) 1 ∧ True ∧ True ∧ True) (by with_unfolding_all rfl) ⟨trivial, g2, trivial, trivial, trivial⟩ ?_
    cases h
    exact am_ev_ret 0 0 0 rfl .int rfl rfl rfl
  · dsimp only at h
    by_cases c3 : e1 = 0
    · rw [if_pos c3] at h
      subst c3
      refine am_ev_catch (.invokevirtual 19) 60 4 621 [.ref 0, .int p2, .int p3] [.int (0 : Int32), .ref 38] rfl rfl rfl rfl (ok_fJ_reduce hc1 D (by omega)) rfl 13 rfl rfl ?_
      refine am_ev_st 2 (f' := (16, [(4, .retAddr 1), (0, .ref 0), (1, .int p2), (2, .int p3), (3, .ref 38)], [.int (1 : Int32)], (W9 N_1 C E_1 F_1 P Q T G U H B O J V Y Z O9), k_1, n_1)) (g := True ∧ True ∧ True) (by with_unfolding_all rfl) ⟨trivial, trivial, trivial⟩ ?_
      cases h
      exact am_ev_ret 0 0 0 rfl .int rfl rfl rfl
    rw [if_neg c3] at h
    by_cases c4 : e1 = 2
    · rw [if_pos c4] at h
      subst c4
      refine am_ev_catch (.invokevirtual 19) 60 4 621 [.ref 0, .int p2, .int p3] [.int (0 : Int32), .ref 38] rfl rfl rfl rfl (ok_fJ_reduce hc1 D (by omega)) rfl 17 rfl rfl ?_
      refine am_ev_st 2 (f' := (20, [(4, .retAddr 1), (0, .ref 0), (1, .int p2), (2, .int p3), (3, .ref 38)], [.int (2 : Int32)], (W9 N_1 C E_1 F_1 P Q T G U H B O J V Y Z O9), k_1, n_1)) (g := True ∧ True ∧ True) (by with_unfolding_all rfl) ⟨trivial, trivial, trivial⟩ ?_
      cases h
      exact am_ev_ret 0 0 0 rfl .int rfl rfl rfl
    rw [if_neg c4] at h
    cases h
def fJ_same (N : cN) (E : cE) (F : cF) (k n : Nat) (p1 p2 p3 : Int32) : Option (((Bool) ⊕ Nat) × cN × cE × cF × (Nat × Nat)) :=
  (fJ_begin N E F k n p1 p2 p3).bind fun z1 =>
  match z1 with
  | (.inl (), N_1, E_1, F_1, (k_1, n_1)) =>
  (none)
  | (.inr e1, N_1, E_1, F_1, (k_1, n_1)) =>
  (some (.inr e1, N_1, E_1, F_1, (k_1, n_1)))
set_option maxHeartbeats 4000000 in
set_option maxRecDepth 100000 in
theorem ok_fJ_same  {N : cN} {C : cC} {E : cE} {F : cF} {P : cP} {Q : cQ} {T : cT} {G : cG} {U : cU} {H : cH} {B : cB} {O : cO} {J : cJ} {V : cV} {Y : cY} {Z : cZ} {O9 : cO9} {k n : Nat} {p1 p2 p3 : Int32} {rv : (Bool) ⊕ Nat} {N' : cN} {E' : cE} {F' : cF} {k' n' : Nat} (h : fJ_same N E F k n p1 p2 p3 = some (rv, N', E', F', (k', n'))) (D : Nat) (hD : 3 ≤ D) : am_Call D 61 [.ref 0, .int p1, .int p2, .int p3] (W9 N C E F P Q T G U H B O J V Y Z O9) k n (am_oB rv, W9 N' C E' F' P Q T G U H B O J V Y Z O9, k', n') := by
  unfold fJ_same at h
  obtain ⟨D, rfl⟩ : ∃ D', D = D' + 1 := ⟨D - 1, by omega⟩
  have hD : 2 ≤ D := by omega
  refine am_call_run (by decide) (by decide) rfl (Nat.le_of_ble_eq_true rfl) (by decide) (L := [(0, .ref 0), (1, .int p1), (2, .int p2), (3, .int p3)]) rfl ?_
  refine am_ev_st 4 (f' := (4, [(0, .ref 0), (1, .int p1), (2, .int p2), (3, .int p3)], [.int p3, .int p2, .int p1, .ref 0], (W9 N C E F P Q T G U H B O J V Y Z O9), k, n)) (g := True ∧ True ∧ True ∧ True ∧ True) (by with_unfolding_all rfl) ⟨trivial, trivial, trivial, trivial, trivial⟩ ?_
  replace h := Option.bind_eq_some_iff.mp h
  obtain ⟨⟨⟨⟩ | e1, N_1, E_1, F_1, ⟨k_1, n_1⟩⟩, hc1, h⟩ := h
  · dsimp only at h
    refine am_ev_call (.invokevirtual 86) 73 6 465 [.ref 0, .int p1, .int p2, .int p3] [] rfl rfl rfl rfl (ok_fJ_begin hc1 D (by omega)) rfl ?_
    cases h
  · dsimp only at h
    cases h
    exact am_ev_callx (.invokevirtual 86) 73 6 465 [.ref 0, .int p1, .int p2, .int p3] [] rfl rfl rfl rfl (ok_fJ_begin hc1 D (by omega)) rfl rfl rfl
def fL_same (N : cN) (E : cE) (F : cF) (O9 : cO9) (k n : Nat) (p2 p3 p4 : Int32) : Option (Int32 × cN × cE × cF × cO9 × (Nat × Nat)) :=
  (fJ_same N E F k n p2 p3 p4).bind fun z1 =>
  match z1 with
  | (.inl r1, N_1, E_1, F_1, (k_1, n_1)) =>
  (if (am_bz r1) = 0 then
  (if ((0 : Int32) < 0 ∨ 1 ≤ ((0 : Int32)).toNatClampNeg) then none else
  some ((0 : Int32), N_1, E_1, F_1, ((vp_updL O9 ((0 : Int32)).toNatClampNeg 0)), (k_1, n_1)))
  else
  if ((0 : Int32) < 0 ∨ 1 ≤ ((0 : Int32)).toNatClampNeg) then none else
  some ((0 : Int32), N_1, E_1, F_1, ((vp_updL O9 ((0 : Int32)).toNatClampNeg 1)), (k_1, n_1)))
  | (.inr e1, N_1, E_1, F_1, (k_1, n_1)) =>
  (if e1 = 0 then
  (some ((1 : Int32), N_1, E_1, F_1, O9, (k_1, n_1)))
  else
  if e1 = 2 then
  (some ((2 : Int32), N_1, E_1, F_1, O9, (k_1, n_1)))
  else
  none)
set_option maxHeartbeats 4000000 in
set_option maxRecDepth 100000 in
theorem ok_fL_same  {N : cN} {C : cC} {E : cE} {F : cF} {P : cP} {Q : cQ} {T : cT} {G : cG} {U : cU} {H : cH} {B : cB} {O : cO} {J : cJ} {V : cV} {Y : cY} {Z : cZ} {O9 : cO9} {k n : Nat} {p2 p3 p4 : Int32} {rv : Int32} {N' : cN} {E' : cE} {F' : cF} {O9' : cO9} {k' n' : Nat} (h : fL_same N E F O9 k n p2 p3 p4 = some (rv, N', E', F', O9', (k', n'))) (D : Nat) (hD : 4 ≤ D) : am_Call D 128 [.ref 0, .int p2, .int p3, .int p4, .ref 38] (W9 N C E F P Q T G U H B O J V Y Z O9) k n (.inl (some (.int rv)), W9 N' C E' F' P Q T G U H B O J V Y Z O9', k', n') := by
  unfold fL_same at h
  obtain ⟨D, rfl⟩ : ∃ D', D = D' + 1 := ⟨D - 1, by omega⟩
  have hD : 3 ≤ D := by omega
  refine am_call_run (by decide) (by decide) rfl (Nat.le_of_ble_eq_true rfl) (by decide) (L := [(0, .ref 0), (1, .int p2), (2, .int p3), (3, .int p4), (4, .ref 38)]) rfl ?_
  refine am_ev_st 6 (f' := (7, [(0, .ref 0), (1, .int p2), (2, .int p3), (3, .int p4), (4, .ref 38)], [.int p4, .int p3, .int p2, .ref 0, .int (0 : Int32), .ref 38], (W9 N C E F P Q T G U H B O J V Y Z O9), k, n)) (g := True ∧ True ∧ True ∧ True ∧ True ∧ True ∧ True) (by with_unfolding_all rfl) ⟨trivial, trivial, trivial, trivial, trivial, trivial, trivial⟩ ?_
  replace h := Option.bind_eq_some_iff.mp h
  obtain ⟨⟨r1 | e1, N_1, E_1, F_1, ⟨k_1, n_1⟩⟩, hc1, h⟩ := h
  · dsimp only at h
    refine am_ev_call (.invokevirtual 22) 61 6 629 [.ref 0, .int p2, .int p3, .int p4] [.int (0 : Int32), .ref 38] rfl rfl rfl rfl (ok_fJ_same hc1 D (by omega)) rfl ?_
    refine am_ev_st 1 (f' := am_br ((am_bz r1) = 0) 17 10 [(0, .ref 0), (1, .int p2), (2, .int p3), (3, .int p4), (4, .ref 38)] [.int (0 : Int32), .ref 38] (W9 N_1 C E_1 F_1 P Q T G U H B O J V Y Z O9) k_1 n_1) (g := True ∧ True) (by with_unfolding_all rfl) ⟨trivial, trivial⟩ ?_
    by_cases c2 : (am_bz r1) = 0
    · rw [if_pos c2] at h
      refine am_ev_pos c2 ?_
      by_cases g3 : ((0 : Int32) < 0 ∨ 1 ≤ ((0 : Int32)).toNatClampNeg)
      · rw [if_pos g3] at h; cases h
      rw [if_neg g3] at h
      refine am_ev_st 4 (f' := (31, [(0, .ref 0), (1, .int p2), (2, .int p3), (3, .int p4), (4, .ref 38)], [.int (0 : Int32)], (W9 N_1 C E_1 F_1 P Q T G U H B O J V Y Z ((vp_updL O9 ((0 : Int32)).toNatClampNeg 0))), k_1, n_1)) (g := True ∧ vp_in ((0 : Int32)) 1 ∧ True ∧ True ∧ True) (by with_unfolding_all rfl) ⟨trivial, g3, trivial, trivial, trivial⟩ ?_
      cases h
      exact am_ev_ret 0 0 0 rfl .int rfl rfl rfl
    · rw [if_neg c2] at h
      refine am_ev_neg c2 ?_
      by_cases g4 : ((0 : Int32) < 0 ∨ 1 ≤ ((0 : Int32)).toNatClampNeg)
      · rw [if_pos g4] at h; cases h
      rw [if_neg g4] at h
      refine am_ev_st 5 (f' := (31, [(0, .ref 0), (1, .int p2), (2, .int p3), (3, .int p4), (4, .ref 38)], [.int (0 : Int32)], (W9 N_1 C E_1 F_1 P Q T G U H B O J V Y Z ((vp_updL O9 ((0 : Int32)).toNatClampNeg 1))), k_1, n_1)) (g := True ∧ True ∧ vp_in ((0 : Int32)) 1 ∧ True ∧ True ∧ True) (by with_unfolding_all rfl) ⟨trivial, trivial, g4, trivial, trivial, trivial⟩ ?_
      cases h
      exact am_ev_ret 0 0 0 rfl .int rfl rfl rfl
  · dsimp only at h
    by_cases c5 : e1 = 0
    · rw [if_pos c5] at h
      subst c5
      refine am_ev_catch (.invokevirtual 22) 61 6 629 [.ref 0, .int p2, .int p3, .int p4] [.int (0 : Int32), .ref 38] rfl rfl rfl rfl (ok_fJ_same hc1 D (by omega)) rfl 22 rfl rfl ?_
      refine am_ev_st 2 (f' := (25, [(5, .retAddr 1), (0, .ref 0), (1, .int p2), (2, .int p3), (3, .int p4), (4, .ref 38)], [.int (1 : Int32)], (W9 N_1 C E_1 F_1 P Q T G U H B O J V Y Z O9), k_1, n_1)) (g := True ∧ True ∧ True) (by with_unfolding_all rfl) ⟨trivial, trivial, trivial⟩ ?_
      cases h
      exact am_ev_ret 0 0 0 rfl .int rfl rfl rfl
    rw [if_neg c5] at h
    by_cases c6 : e1 = 2
    · rw [if_pos c6] at h
      subst c6
      refine am_ev_catch (.invokevirtual 22) 61 6 629 [.ref 0, .int p2, .int p3, .int p4] [.int (0 : Int32), .ref 38] rfl rfl rfl rfl (ok_fJ_same hc1 D (by omega)) rfl 26 rfl rfl ?_
      refine am_ev_st 2 (f' := (29, [(5, .retAddr 1), (0, .ref 0), (1, .int p2), (2, .int p3), (3, .int p4), (4, .ref 38)], [.int (2 : Int32)], (W9 N_1 C E_1 F_1 P Q T G U H B O J V Y Z O9), k_1, n_1)) (g := True ∧ True ∧ True) (by with_unfolding_all rfl) ⟨trivial, trivial, trivial⟩ ?_
      cases h
      exact am_ev_ret 0 0 0 rfl .int rfl rfl rfl
    rw [if_neg c6] at h
    cases h
def fJ_check (N : cN) (E : cE) (F : cF) (k n : Nat) (p1 p2 p3 : Int32) : Option (((Bool) ⊕ Nat) × cN × cE × cF × (Nat × Nat)) :=
  (fJ_begin N E F k n p1 p2 p3).bind fun z1 =>
  match z1 with
  | (.inl (), N_1, E_1, F_1, (k_1, n_1)) =>
  (none)
  | (.inr e1, N_1, E_1, F_1, (k_1, n_1)) =>
  (some (.inr e1, N_1, E_1, F_1, (k_1, n_1)))
set_option maxHeartbeats 4000000 in
set_option maxRecDepth 100000 in
theorem ok_fJ_check  {N : cN} {C : cC} {E : cE} {F : cF} {P : cP} {Q : cQ} {T : cT} {G : cG} {U : cU} {H : cH} {B : cB} {O : cO} {J : cJ} {V : cV} {Y : cY} {Z : cZ} {O9 : cO9} {k n : Nat} {p1 p2 p3 : Int32} {rv : (Bool) ⊕ Nat} {N' : cN} {E' : cE} {F' : cF} {k' n' : Nat} (h : fJ_check N E F k n p1 p2 p3 = some (rv, N', E', F', (k', n'))) (D : Nat) (hD : 3 ≤ D) : am_Call D 62 [.ref 0, .int p1, .int p2, .int p3] (W9 N C E F P Q T G U H B O J V Y Z O9) k n (am_oB rv, W9 N' C E' F' P Q T G U H B O J V Y Z O9, k', n') := by
  unfold fJ_check at h
  obtain ⟨D, rfl⟩ : ∃ D', D = D' + 1 := ⟨D - 1, by omega⟩
  have hD : 2 ≤ D := by omega
  refine am_call_run (by decide) (by decide) rfl (Nat.le_of_ble_eq_true rfl) (by decide) (L := [(0, .ref 0), (1, .int p1), (2, .int p2), (3, .int p3)]) rfl ?_
  refine am_ev_st 4 (f' := (4, [(0, .ref 0), (1, .int p1), (2, .int p2), (3, .int p3)], [.int p3, .int p2, .int p1, .ref 0], (W9 N C E F P Q T G U H B O J V Y Z O9), k, n)) (g := True ∧ True ∧ True ∧ True ∧ True) (by with_unfolding_all rfl) ⟨trivial, trivial, trivial, trivial, trivial⟩ ?_
  replace h := Option.bind_eq_some_iff.mp h
  obtain ⟨⟨⟨⟩ | e1, N_1, E_1, F_1, ⟨k_1, n_1⟩⟩, hc1, h⟩ := h
  · dsimp only at h
    refine am_ev_call (.invokevirtual 86) 73 6 465 [.ref 0, .int p1, .int p2, .int p3] [] rfl rfl rfl rfl (ok_fJ_begin hc1 D (by omega)) rfl ?_
    cases h
  · dsimp only at h
    cases h
    exact am_ev_callx (.invokevirtual 86) 73 6 465 [.ref 0, .int p1, .int p2, .int p3] [] rfl rfl rfl rfl (ok_fJ_begin hc1 D (by omega)) rfl rfl rfl
def fL_check (N : cN) (E : cE) (F : cF) (O9 : cO9) (k n : Nat) (p2 p3 p4 : Int32) : Option (Int32 × cN × cE × cF × cO9 × (Nat × Nat)) :=
  (fJ_check N E F k n p2 p3 p4).bind fun z1 =>
  match z1 with
  | (.inl r1, N_1, E_1, F_1, (k_1, n_1)) =>
  (if (am_bz r1) = 0 then
  (if ((0 : Int32) < 0 ∨ 1 ≤ ((0 : Int32)).toNatClampNeg) then none else
  some ((0 : Int32), N_1, E_1, F_1, ((vp_updL O9 ((0 : Int32)).toNatClampNeg 0)), (k_1, n_1)))
  else
  if ((0 : Int32) < 0 ∨ 1 ≤ ((0 : Int32)).toNatClampNeg) then none else
  some ((0 : Int32), N_1, E_1, F_1, ((vp_updL O9 ((0 : Int32)).toNatClampNeg 1)), (k_1, n_1)))
  | (.inr e1, N_1, E_1, F_1, (k_1, n_1)) =>
  (if e1 = 0 then
  (some ((1 : Int32), N_1, E_1, F_1, O9, (k_1, n_1)))
  else
  if e1 = 1 then
  (some ((2 : Int32), N_1, E_1, F_1, O9, (k_1, n_1)))
  else
  if e1 = 2 then
  (some ((3 : Int32), N_1, E_1, F_1, O9, (k_1, n_1)))
  else
  none)
set_option maxHeartbeats 4000000 in
set_option maxRecDepth 100000 in
theorem ok_fL_check  {N : cN} {C : cC} {E : cE} {F : cF} {P : cP} {Q : cQ} {T : cT} {G : cG} {U : cU} {H : cH} {B : cB} {O : cO} {J : cJ} {V : cV} {Y : cY} {Z : cZ} {O9 : cO9} {k n : Nat} {p2 p3 p4 : Int32} {rv : Int32} {N' : cN} {E' : cE} {F' : cF} {O9' : cO9} {k' n' : Nat} (h : fL_check N E F O9 k n p2 p3 p4 = some (rv, N', E', F', O9', (k', n'))) (D : Nat) (hD : 4 ≤ D) : am_Call D 129 [.ref 0, .int p2, .int p3, .int p4, .ref 38] (W9 N C E F P Q T G U H B O J V Y Z O9) k n (.inl (some (.int rv)), W9 N' C E' F' P Q T G U H B O J V Y Z O9', k', n') := by
  unfold fL_check at h
  obtain ⟨D, rfl⟩ : ∃ D', D = D' + 1 := ⟨D - 1, by omega⟩
  have hD : 3 ≤ D := by omega
  refine am_call_run (by decide) (by decide) rfl (Nat.le_of_ble_eq_true rfl) (by decide) (L := [(0, .ref 0), (1, .int p2), (2, .int p3), (3, .int p4), (4, .ref 38)]) rfl ?_
  refine am_ev_st 6 (f' := (7, [(0, .ref 0), (1, .int p2), (2, .int p3), (3, .int p4), (4, .ref 38)], [.int p4, .int p3, .int p2, .ref 0, .int (0 : Int32), .ref 38], (W9 N C E F P Q T G U H B O J V Y Z O9), k, n)) (g := True ∧ True ∧ True ∧ True ∧ True ∧ True ∧ True) (by with_unfolding_all rfl) ⟨trivial, trivial, trivial, trivial, trivial, trivial, trivial⟩ ?_
  replace h := Option.bind_eq_some_iff.mp h
  obtain ⟨⟨r1 | e1, N_1, E_1, F_1, ⟨k_1, n_1⟩⟩, hc1, h⟩ := h
  · dsimp only at h
    refine am_ev_call (.invokevirtual 26) 62 6 637 [.ref 0, .int p2, .int p3, .int p4] [.int (0 : Int32), .ref 38] rfl rfl rfl rfl (ok_fJ_check hc1 D (by omega)) rfl ?_
    refine am_ev_st 1 (f' := am_br ((am_bz r1) = 0) 17 10 [(0, .ref 0), (1, .int p2), (2, .int p3), (3, .int p4), (4, .ref 38)] [.int (0 : Int32), .ref 38] (W9 N_1 C E_1 F_1 P Q T G U H B O J V Y Z O9) k_1 n_1) (g := True ∧ True) (by with_unfolding_all rfl) ⟨trivial, trivial⟩ ?_
    by_cases c2 : (am_bz r1) = 0
    · rw [if_pos c2] at h
      refine am_ev_pos c2 ?_
      by_cases g3 : ((0 : Int32) < 0 ∨ 1 ≤ ((0 : Int32)).toNatClampNeg)
      · rw [if_pos g3] at h; cases h
      rw [if_neg g3] at h
      refine am_ev_st 4 (f' := (35, [(0, .ref 0), (1, .int p2), (2, .int p3), (3, .int p4), (4, .ref 38)], [.int (0 : Int32)], (W9 N_1 C E_1 F_1 P Q T G U H B O J V Y Z ((vp_updL O9 ((0 : Int32)).toNatClampNeg 0))), k_1, n_1)) (g := True ∧ vp_in ((0 : Int32)) 1 ∧ True ∧ True ∧ True) (by with_unfolding_all rfl) ⟨trivial, g3, trivial, trivial, trivial⟩ ?_
      cases h
      exact am_ev_ret 0 0 0 rfl .int rfl rfl rfl
    · rw [if_neg c2] at h
      refine am_ev_neg c2 ?_
      by_cases g4 : ((0 : Int32) < 0 ∨ 1 ≤ ((0 : Int32)).toNatClampNeg)
      · rw [if_pos g4] at h; cases h
      rw [if_neg g4] at h
      refine am_ev_st 5 (f' := (35, [(0, .ref 0), (1, .int p2), (2, .int p3), (3, .int p4), (4, .ref 38)], [.int (0 : Int32)], (W9 N_1 C E_1 F_1 P Q T G U H B O J V Y Z ((vp_updL O9 ((0 : Int32)).toNatClampNeg 1))), k_1, n_1)) (g := True ∧ True ∧ vp_in ((0 : Int32)) 1 ∧ True ∧ True ∧ True) (by with_unfolding_all rfl) ⟨trivial, trivial, g4, trivial, trivial, trivial⟩ ?_
      cases h
      exact am_ev_ret 0 0 0 rfl .int rfl rfl rfl
  · dsimp only at h
    by_cases c5 : e1 = 0
    · rw [if_pos c5] at h
      subst c5
      refine am_ev_catch (.invokevirtual 26) 62 6 637 [.ref 0, .int p2, .int p3, .int p4] [.int (0 : Int32), .ref 38] rfl rfl rfl rfl (ok_fJ_check hc1 D (by omega)) rfl 22 rfl rfl ?_
      refine am_ev_st 2 (f' := (25, [(5, .retAddr 1), (0, .ref 0), (1, .int p2), (2, .int p3), (3, .int p4), (4, .ref 38)], [.int (1 : Int32)], (W9 N_1 C E_1 F_1 P Q T G U H B O J V Y Z O9), k_1, n_1)) (g := True ∧ True ∧ True) (by with_unfolding_all rfl) ⟨trivial, trivial, trivial⟩ ?_
      cases h
      exact am_ev_ret 0 0 0 rfl .int rfl rfl rfl
    rw [if_neg c5] at h
    by_cases c6 : e1 = 1
    · rw [if_pos c6] at h
      subst c6
      refine am_ev_catch (.invokevirtual 26) 62 6 637 [.ref 0, .int p2, .int p3, .int p4] [.int (0 : Int32), .ref 38] rfl rfl rfl rfl (ok_fJ_check hc1 D (by omega)) rfl 26 rfl rfl ?_
      refine am_ev_st 2 (f' := (29, [(5, .retAddr 1), (0, .ref 0), (1, .int p2), (2, .int p3), (3, .int p4), (4, .ref 38)], [.int (2 : Int32)], (W9 N_1 C E_1 F_1 P Q T G U H B O J V Y Z O9), k_1, n_1)) (g := True ∧ True ∧ True) (by with_unfolding_all rfl) ⟨trivial, trivial, trivial⟩ ?_
      cases h
      exact am_ev_ret 0 0 0 rfl .int rfl rfl rfl
    rw [if_neg c6] at h
    by_cases c7 : e1 = 2
    · rw [if_pos c7] at h
      subst c7
      refine am_ev_catch (.invokevirtual 26) 62 6 637 [.ref 0, .int p2, .int p3, .int p4] [.int (0 : Int32), .ref 38] rfl rfl rfl rfl (ok_fJ_check hc1 D (by omega)) rfl 30 rfl rfl ?_
      refine am_ev_st 2 (f' := (33, [(5, .retAddr 1), (0, .ref 0), (1, .int p2), (2, .int p3), (3, .int p4), (4, .ref 38)], [.int (3 : Int32)], (W9 N_1 C E_1 F_1 P Q T G U H B O J V Y Z O9), k_1, n_1)) (g := True ∧ True ∧ True) (by with_unfolding_all rfl) ⟨trivial, trivial, trivial⟩ ?_
      cases h
      exact am_ev_ret 0 0 0 rfl .int rfl rfl rfl
    rw [if_neg c7] at h
    cases h
def fC_isFull (C : cC) : Option (Bool) :=
  match C with
  | (ct, cb, cm) =>
  if cm < (16 : Int32) then
  (some false)
  else
  some true
set_option maxHeartbeats 4000000 in
set_option maxRecDepth 100000 in
theorem ok_fC_isFull  {N : cN} {C : cC} {E : cE} {F : cF} {P : cP} {Q : cQ} {T : cT} {G : cG} {U : cU} {H : cH} {B : cB} {O : cO} {J : cJ} {V : cV} {Y : cY} {Z : cZ} {O9 : cO9} {k n : Nat} {rv : Bool} (h : fC_isFull C = some rv) (D : Nat) (hD : 1 ≤ D) : am_Call D 2 [.ref 7] (W9 N C E F P Q T G U H B O J V Y Z O9) k n (.inl (some (.int (am_bz rv))), W9 N C E F P Q T G U H B O J V Y Z O9, k, n) := by
  unfold fC_isFull at h
  obtain ⟨D, rfl⟩ : ∃ D', D = D' + 1 := ⟨D - 1, by omega⟩
  have hD : 0 ≤ D := by omega
  refine am_call_run (by decide) (by decide) rfl (Nat.le_of_ble_eq_true rfl) (by decide) (L := [(0, .ref 7)]) rfl ?_
  obtain ⟨ct, cb, cm⟩ := C
  try dsimp only at h
  refine am_ev_st 4 (f' := am_br (cm < (16 : Int32)) 13 6 [(0, .ref 7)] [] (W9 N (ct, cb, cm) E F P Q T G U H B O J V Y Z O9) k n) (g := True ∧ True ∧ True ∧ True ∧ True) (by with_unfolding_all rfl) ⟨trivial, trivial, trivial, trivial, trivial⟩ ?_
  by_cases c1 : cm < (16 : Int32)
  · rw [if_pos c1] at h
    refine am_ev_pos c1 ?_
    refine am_ev_st 1 (f' := (14, [(0, .ref 7)], [.int (0 : Int32)], (W9 N (ct, cb, cm) E F P Q T G U H B O J V Y Z O9), k, n)) (g := True ∧ True) (by with_unfolding_all rfl) ⟨trivial, trivial⟩ ?_
    cases h
    exact am_ev_ret 0 0 0 rfl .boolean rfl am_n0 rfl
  · rw [if_neg c1] at h
    refine am_ev_neg c1 ?_
    refine am_ev_st 2 (f' := (14, [(0, .ref 7)], [.int (1 : Int32)], (W9 N (ct, cb, cm) E F P Q T G U H B O J V Y Z O9), k, n)) (g := True ∧ True ∧ True) (by with_unfolding_all rfl) ⟨trivial, trivial, trivial⟩ ?_
    cases h
    exact am_ev_ret 0 0 0 rfl .boolean rfl am_n1 rfl
def fJ_refuseUnlooked (E : cE) : Option (Int32 × cE) :=
  (fE_refuel E (0 : Int32)).bind fun z1 =>
  match z1 with
  | (E_1) =>
  some ((-1 : Int32), E_1)
set_option maxHeartbeats 4000000 in
set_option maxRecDepth 100000 in
theorem ok_fJ_refuseUnlooked  {N : cN} {C : cC} {E : cE} {F : cF} {P : cP} {Q : cQ} {T : cT} {G : cG} {U : cU} {H : cH} {B : cB} {O : cO} {J : cJ} {V : cV} {Y : cY} {Z : cZ} {O9 : cO9} {k n : Nat} {rv : Int32} {E' : cE} (h : fJ_refuseUnlooked E = some (rv, E')) (D : Nat) (hD : 2 ≤ D) : am_Call D 74 [.ref 0] (W9 N C E F P Q T G U H B O J V Y Z O9) k n (.inl (some (.int rv)), W9 N C E' F P Q T G U H B O J V Y Z O9, k, n) := by
  unfold fJ_refuseUnlooked at h
  obtain ⟨D, rfl⟩ : ∃ D', D = D' + 1 := ⟨D - 1, by omega⟩
  have hD : 1 ≤ D := by omega
  refine am_call_run (by decide) (by decide) rfl (Nat.le_of_ble_eq_true rfl) (by decide) (L := [(0, .ref 0)]) rfl ?_
  refine am_ev_st 3 (f' := (5, [(0, .ref 0)], [.int (0 : Int32), .ref 10], (W9 N C E F P Q T G U H B O J V Y Z O9), k, n)) (g := True ∧ True ∧ True ∧ True) (by with_unfolding_all rfl) ⟨trivial, trivial, trivial, trivial⟩ ?_
  replace h := Option.bind_eq_some_iff.mp h
  obtain ⟨E_1, hc1, h⟩ := h
  try dsimp only at h
  refine am_ev_call (.invokevirtual 167) 46 2 489 [.ref 10, .int (0 : Int32)] [] rfl rfl rfl rfl (ok_fE_refuel hc1 D (by omega)) rfl ?_
  refine am_ev_st 1 (f' := (9, [(0, .ref 0)], [.int (-1 : Int32)], (W9 N C E_1 F P Q T G U H B O J V Y Z O9), k, n)) (g := True ∧ True) (by with_unfolding_all rfl) ⟨trivial, trivial⟩ ?_
  cases h
  exact am_ev_ret 0 0 0 rfl .int rfl rfl rfl
def fJ_declare (N : cN) (C : cC) (E : cE) (F : cF) (k n : Nat) (p1 p2 : Int32) : Option (((Int32) ⊕ Nat) × cN × cE × cF × (Nat × Nat)) :=
  (fC_isFull C).bind fun z1 =>
  match z1 with
  | (r1) =>
  if (am_bz r1) = 0 then
  ((fJ_begin N E F k n p1 p1 p2).bind fun z3 =>
  match z3 with
  | (.inl (), N_3, E_3, F_3, (k_3, n_3)) =>
  (none)
  | (.inr e3, N_3, E_3, F_3, (k_3, n_3)) =>
  (some (.inr e3, N_3, E_3, F_3, (k_3, n_3))))
  else
  (fJ_refuseUnlooked E).bind fun z4 =>
  match z4 with
  | (r4, E_4) =>
  some (.inl r4, N, E_4, F, (k, n))
set_option maxHeartbeats 4000000 in
set_option maxRecDepth 100000 in
theorem ok_fJ_declare  {N : cN} {C : cC} {E : cE} {F : cF} {P : cP} {Q : cQ} {T : cT} {G : cG} {U : cU} {H : cH} {B : cB} {O : cO} {J : cJ} {V : cV} {Y : cY} {Z : cZ} {O9 : cO9} {k n : Nat} {p1 p2 : Int32} {rv : (Int32) ⊕ Nat} {N' : cN} {E' : cE} {F' : cF} {k' n' : Nat} (h : fJ_declare N C E F k n p1 p2 = some (rv, N', E', F', (k', n'))) (D : Nat) (hD : 3 ≤ D) : am_Call D 63 [.ref 0, .int p1, .int p2] (W9 N C E F P Q T G U H B O J V Y Z O9) k n (am_oI rv, W9 N' C E' F' P Q T G U H B O J V Y Z O9, k', n') := by
  unfold fJ_declare at h
  obtain ⟨D, rfl⟩ : ∃ D', D = D' + 1 := ⟨D - 1, by omega⟩
  have hD : 2 ≤ D := by omega
  refine am_call_run (by decide) (by decide) rfl (Nat.le_of_ble_eq_true rfl) (by decide) (L := [(0, .ref 0), (1, .int p1), (2, .int p2)]) rfl ?_
  refine am_ev_st 2 (f' := (4, [(0, .ref 0), (1, .int p1), (2, .int p2)], [.ref 7], (W9 N C E F P Q T G U H B O J V Y Z O9), k, n)) (g := True ∧ True ∧ True) (by with_unfolding_all rfl) ⟨trivial, trivial, trivial⟩ ?_
  replace h := Option.bind_eq_some_iff.mp h
  obtain ⟨r1, hc1, h⟩ := h
  try dsimp only at h
  refine am_ev_call (.invokevirtual 107) 2 0 649 [.ref 7] [] rfl rfl rfl rfl (ok_fC_isFull hc1 D (by omega)) rfl ?_
  refine am_ev_st 1 (f' := am_br ((am_bz r1) = 0) 15 7 [(0, .ref 0), (1, .int p1), (2, .int p2)] [] (W9 N C E F P Q T G U H B O J V Y Z O9) k n) (g := True ∧ True) (by with_unfolding_all rfl) ⟨trivial, trivial⟩ ?_
  by_cases c2 : (am_bz r1) = 0
  · rw [if_pos c2] at h
    refine am_ev_pos c2 ?_
    refine am_ev_st 4 (f' := (19, [(0, .ref 0), (1, .int p1), (2, .int p2)], [.int p2, .int p1, .int p1, .ref 0], (W9 N C E F P Q T G U H B O J V Y Z O9), k, n)) (g := True ∧ True ∧ True ∧ True ∧ True) (by with_unfolding_all rfl) ⟨trivial, trivial, trivial, trivial, trivial⟩ ?_
    replace h := Option.bind_eq_some_iff.mp h
    obtain ⟨⟨⟨⟩ | e3, N_3, E_3, F_3, ⟨k_3, n_3⟩⟩, hc3, h⟩ := h
    · dsimp only at h
      refine am_ev_call (.invokevirtual 86) 73 6 465 [.ref 0, .int p1, .int p1, .int p2] [] rfl rfl rfl rfl (ok_fJ_begin hc3 D (by omega)) rfl ?_
      cases h
    · dsimp only at h
      cases h
      exact am_ev_callx (.invokevirtual 86) 73 6 465 [.ref 0, .int p1, .int p1, .int p2] [] rfl rfl rfl rfl (ok_fJ_begin hc3 D (by omega)) rfl rfl rfl
  · rw [if_neg c2] at h
    refine am_ev_neg c2 ?_
    refine am_ev_st 1 (f' := (11, [(0, .ref 0), (1, .int p1), (2, .int p2)], [.ref 0], (W9 N C E F P Q T G U H B O J V Y Z O9), k, n)) (g := True ∧ True) (by with_unfolding_all rfl) ⟨trivial, trivial⟩ ?_
    replace h := Option.bind_eq_some_iff.mp h
    obtain ⟨⟨r4, E_4⟩, hc4, h⟩ := h
    try dsimp only at h
    refine am_ev_call (.invokevirtual 111) 74 0 653 [.ref 0] [] rfl rfl rfl rfl (ok_fJ_refuseUnlooked hc4 D (by omega)) rfl ?_
    cases h
    exact am_ev_ret 0 0 0 rfl .int rfl rfl rfl
def fL_declare (N : cN) (C : cC) (E : cE) (F : cF) (O9 : cO9) (k n : Nat) (p2 p3 : Int32) : Option (Int32 × cN × cE × cF × cO9 × (Nat × Nat)) :=
  (fJ_declare N C E F k n p2 p3).bind fun z1 =>
  match z1 with
  | (.inl r1, N_1, E_1, F_1, (k_1, n_1)) =>
  (if ((0 : Int32) < 0 ∨ 1 ≤ ((0 : Int32)).toNatClampNeg) then none else
  some ((0 : Int32), N_1, E_1, F_1, ((vp_updL O9 ((0 : Int32)).toNatClampNeg r1.toInt64)), (k_1, n_1)))
  | (.inr e1, N_1, E_1, F_1, (k_1, n_1)) =>
  (if e1 = 0 then
  (some ((1 : Int32), N_1, E_1, F_1, O9, (k_1, n_1)))
  else
  if e1 = 1 then
  (some ((2 : Int32), N_1, E_1, F_1, O9, (k_1, n_1)))
  else
  if e1 = 2 then
  (some ((3 : Int32), N_1, E_1, F_1, O9, (k_1, n_1)))
  else
  none)
set_option maxHeartbeats 4000000 in
set_option maxRecDepth 100000 in
theorem ok_fL_declare  {N : cN} {C : cC} {E : cE} {F : cF} {P : cP} {Q : cQ} {T : cT} {G : cG} {U : cU} {H : cH} {B : cB} {O : cO} {J : cJ} {V : cV} {Y : cY} {Z : cZ} {O9 : cO9} {k n : Nat} {p2 p3 : Int32} {rv : Int32} {N' : cN} {E' : cE} {F' : cF} {O9' : cO9} {k' n' : Nat} (h : fL_declare N C E F O9 k n p2 p3 = some (rv, N', E', F', O9', (k', n'))) (D : Nat) (hD : 4 ≤ D) : am_Call D 130 [.ref 0, .int p2, .int p3, .ref 38] (W9 N C E F P Q T G U H B O J V Y Z O9) k n (.inl (some (.int rv)), W9 N' C E' F' P Q T G U H B O J V Y Z O9', k', n') := by
  unfold fL_declare at h
  obtain ⟨D, rfl⟩ : ∃ D', D = D' + 1 := ⟨D - 1, by omega⟩
  have hD : 3 ≤ D := by omega
  refine am_call_run (by decide) (by decide) rfl (Nat.le_of_ble_eq_true rfl) (by decide) (L := [(0, .ref 0), (1, .int p2), (2, .int p3), (3, .ref 38)]) rfl ?_
  refine am_ev_st 5 (f' := (5, [(0, .ref 0), (1, .int p2), (2, .int p3), (3, .ref 38)], [.int p3, .int p2, .ref 0, .int (0 : Int32), .ref 38], (W9 N C E F P Q T G U H B O J V Y Z O9), k, n)) (g := True ∧ True ∧ True ∧ True ∧ True ∧ True) (by with_unfolding_all rfl) ⟨trivial, trivial, trivial, trivial, trivial, trivial⟩ ?_
  replace h := Option.bind_eq_some_iff.mp h
  obtain ⟨⟨r1 | e1, N_1, E_1, F_1, ⟨k_1, n_1⟩⟩, hc1, h⟩ := h
  · dsimp only at h
    refine am_ev_call (.invokevirtual 29) 63 4 645 [.ref 0, .int p2, .int p3] [.int (0 : Int32), .ref 38] rfl rfl rfl rfl (ok_fJ_declare hc1 D (by omega)) rfl ?_
    by_cases g2 : ((0 : Int32) < 0 ∨ 1 ≤ ((0 : Int32)).toNatClampNeg)
    · rw [if_pos g2] at h; cases h
    rw [if_neg g2] at h
    refine am_ev_st 4 (f' := (26, [(0, .ref 0), (1, .int p2), (2, .int p3), (3, .ref 38)], [.int (0 : Int32)], (W9 N_1 C E_1 F_1 P Q T G U H B O J V Y Z ((vp_updL O9 ((0 : Int32)).toNatClampNeg r1.toInt64))), k_1, n_1)) (g := True ∧ vp_in ((0 : Int32)) 1 ∧ True ∧ True ∧ True) (by with_unfolding_all rfl) ⟨trivial, g2, trivial, trivial, trivial⟩ ?_
    cases h
    exact am_ev_ret 0 0 0 rfl .int rfl rfl rfl
  · dsimp only at h
    by_cases c3 : e1 = 0
    · rw [if_pos c3] at h
      subst c3
      refine am_ev_catch (.invokevirtual 29) 63 4 645 [.ref 0, .int p2, .int p3] [.int (0 : Int32), .ref 38] rfl rfl rfl rfl (ok_fJ_declare hc1 D (by omega)) rfl 13 rfl rfl ?_
      refine am_ev_st 2 (f' := (16, [(4, .retAddr 1), (0, .ref 0), (1, .int p2), (2, .int p3), (3, .ref 38)], [.int (1 : Int32)], (W9 N_1 C E_1 F_1 P Q T G U H B O J V Y Z O9), k_1, n_1)) (g := True ∧ True ∧ True) (by with_unfolding_all rfl) ⟨trivial, trivial, trivial⟩ ?_
      cases h
      exact am_ev_ret 0 0 0 rfl .int rfl rfl rfl
    rw [if_neg c3] at h
    by_cases c4 : e1 = 1
    · rw [if_pos c4] at h
      subst c4
      refine am_ev_catch (.invokevirtual 29) 63 4 645 [.ref 0, .int p2, .int p3] [.int (0 : Int32), .ref 38] rfl rfl rfl rfl (ok_fJ_declare hc1 D (by omega)) rfl 17 rfl rfl ?_
      refine am_ev_st 2 (f' := (20, [(4, .retAddr 1), (0, .ref 0), (1, .int p2), (2, .int p3), (3, .ref 38)], [.int (2 : Int32)], (W9 N_1 C E_1 F_1 P Q T G U H B O J V Y Z O9), k_1, n_1)) (g := True ∧ True ∧ True) (by with_unfolding_all rfl) ⟨trivial, trivial, trivial⟩ ?_
      cases h
      exact am_ev_ret 0 0 0 rfl .int rfl rfl rfl
    rw [if_neg c4] at h
    by_cases c5 : e1 = 2
    · rw [if_pos c5] at h
      subst c5
      refine am_ev_catch (.invokevirtual 29) 63 4 645 [.ref 0, .int p2, .int p3] [.int (0 : Int32), .ref 38] rfl rfl rfl rfl (ok_fJ_declare hc1 D (by omega)) rfl 21 rfl rfl ?_
      refine am_ev_st 2 (f' := (24, [(4, .retAddr 1), (0, .ref 0), (1, .int p2), (2, .int p3), (3, .ref 38)], [.int (3 : Int32)], (W9 N_1 C E_1 F_1 P Q T G U H B O J V Y Z O9), k_1, n_1)) (g := True ∧ True ∧ True) (by with_unfolding_all rfl) ⟨trivial, trivial, trivial⟩ ?_
      cases h
      exact am_ev_ret 0 0 0 rfl .int rfl rfl rfl
    rw [if_neg c5] at h
    cases h
def fJ_define (N : cN) (C : cC) (E : cE) (F : cF) (k n : Nat) (p1 p2 : Int32) : Option (((Int32) ⊕ Nat) × cN × cE × cF × (Nat × Nat)) :=
  (fC_isFull C).bind fun z1 =>
  match z1 with
  | (r1) =>
  if (am_bz r1) = 0 then
  ((fJ_begin N E F k n p1 p1 p2).bind fun z3 =>
  match z3 with
  | (.inl (), N_3, E_3, F_3, (k_3, n_3)) =>
  (none)
  | (.inr e3, N_3, E_3, F_3, (k_3, n_3)) =>
  (some (.inr e3, N_3, E_3, F_3, (k_3, n_3))))
  else
  (fJ_refuseUnlooked E).bind fun z4 =>
  match z4 with
  | (r4, E_4) =>
  some (.inl r4, N, E_4, F, (k, n))
set_option maxHeartbeats 4000000 in
set_option maxRecDepth 100000 in
theorem ok_fJ_define  {N : cN} {C : cC} {E : cE} {F : cF} {P : cP} {Q : cQ} {T : cT} {G : cG} {U : cU} {H : cH} {B : cB} {O : cO} {J : cJ} {V : cV} {Y : cY} {Z : cZ} {O9 : cO9} {k n : Nat} {p1 p2 : Int32} {rv : (Int32) ⊕ Nat} {N' : cN} {E' : cE} {F' : cF} {k' n' : Nat} (h : fJ_define N C E F k n p1 p2 = some (rv, N', E', F', (k', n'))) (D : Nat) (hD : 3 ≤ D) : am_Call D 64 [.ref 0, .int p1, .int p2] (W9 N C E F P Q T G U H B O J V Y Z O9) k n (am_oI rv, W9 N' C E' F' P Q T G U H B O J V Y Z O9, k', n') := by
  unfold fJ_define at h
  obtain ⟨D, rfl⟩ : ∃ D', D = D' + 1 := ⟨D - 1, by omega⟩
  have hD : 2 ≤ D := by omega
  refine am_call_run (by decide) (by decide) rfl (Nat.le_of_ble_eq_true rfl) (by decide) (L := [(0, .ref 0), (1, .int p1), (2, .int p2)]) rfl ?_
  refine am_ev_st 2 (f' := (4, [(0, .ref 0), (1, .int p1), (2, .int p2)], [.ref 7], (W9 N C E F P Q T G U H B O J V Y Z O9), k, n)) (g := True ∧ True ∧ True) (by with_unfolding_all rfl) ⟨trivial, trivial, trivial⟩ ?_
  replace h := Option.bind_eq_some_iff.mp h
  obtain ⟨r1, hc1, h⟩ := h
  try dsimp only at h
  refine am_ev_call (.invokevirtual 107) 2 0 649 [.ref 7] [] rfl rfl rfl rfl (ok_fC_isFull hc1 D (by omega)) rfl ?_
  refine am_ev_st 1 (f' := am_br ((am_bz r1) = 0) 15 7 [(0, .ref 0), (1, .int p1), (2, .int p2)] [] (W9 N C E F P Q T G U H B O J V Y Z O9) k n) (g := True ∧ True) (by with_unfolding_all rfl) ⟨trivial, trivial⟩ ?_
  by_cases c2 : (am_bz r1) = 0
  · rw [if_pos c2] at h
    refine am_ev_pos c2 ?_
    refine am_ev_st 4 (f' := (19, [(0, .ref 0), (1, .int p1), (2, .int p2)], [.int p2, .int p1, .int p1, .ref 0], (W9 N C E F P Q T G U H B O J V Y Z O9), k, n)) (g := True ∧ True ∧ True ∧ True ∧ True) (by with_unfolding_all rfl) ⟨trivial, trivial, trivial, trivial, trivial⟩ ?_
    replace h := Option.bind_eq_some_iff.mp h
    obtain ⟨⟨⟨⟩ | e3, N_3, E_3, F_3, ⟨k_3, n_3⟩⟩, hc3, h⟩ := h
    · dsimp only at h
      refine am_ev_call (.invokevirtual 86) 73 6 465 [.ref 0, .int p1, .int p1, .int p2] [] rfl rfl rfl rfl (ok_fJ_begin hc3 D (by omega)) rfl ?_
      cases h
    · dsimp only at h
      cases h
      exact am_ev_callx (.invokevirtual 86) 73 6 465 [.ref 0, .int p1, .int p1, .int p2] [] rfl rfl rfl rfl (ok_fJ_begin hc3 D (by omega)) rfl rfl rfl
  · rw [if_neg c2] at h
    refine am_ev_neg c2 ?_
    refine am_ev_st 1 (f' := (11, [(0, .ref 0), (1, .int p1), (2, .int p2)], [.ref 0], (W9 N C E F P Q T G U H B O J V Y Z O9), k, n)) (g := True ∧ True) (by with_unfolding_all rfl) ⟨trivial, trivial⟩ ?_
    replace h := Option.bind_eq_some_iff.mp h
    obtain ⟨⟨r4, E_4⟩, hc4, h⟩ := h
    try dsimp only at h
    refine am_ev_call (.invokevirtual 111) 74 0 653 [.ref 0] [] rfl rfl rfl rfl (ok_fJ_refuseUnlooked hc4 D (by omega)) rfl ?_
    cases h
    exact am_ev_ret 0 0 0 rfl .int rfl rfl rfl
def fL_define (N : cN) (C : cC) (E : cE) (F : cF) (O9 : cO9) (k n : Nat) (p2 p3 : Int32) : Option (Int32 × cN × cE × cF × cO9 × (Nat × Nat)) :=
  (fJ_define N C E F k n p2 p3).bind fun z1 =>
  match z1 with
  | (.inl r1, N_1, E_1, F_1, (k_1, n_1)) =>
  (if ((0 : Int32) < 0 ∨ 1 ≤ ((0 : Int32)).toNatClampNeg) then none else
  some ((0 : Int32), N_1, E_1, F_1, ((vp_updL O9 ((0 : Int32)).toNatClampNeg r1.toInt64)), (k_1, n_1)))
  | (.inr e1, N_1, E_1, F_1, (k_1, n_1)) =>
  (if e1 = 0 then
  (some ((1 : Int32), N_1, E_1, F_1, O9, (k_1, n_1)))
  else
  if e1 = 1 then
  (some ((2 : Int32), N_1, E_1, F_1, O9, (k_1, n_1)))
  else
  if e1 = 2 then
  (some ((3 : Int32), N_1, E_1, F_1, O9, (k_1, n_1)))
  else
  none)
set_option maxHeartbeats 4000000 in
set_option maxRecDepth 100000 in
theorem ok_fL_define  {N : cN} {C : cC} {E : cE} {F : cF} {P : cP} {Q : cQ} {T : cT} {G : cG} {U : cU} {H : cH} {B : cB} {O : cO} {J : cJ} {V : cV} {Y : cY} {Z : cZ} {O9 : cO9} {k n : Nat} {p2 p3 : Int32} {rv : Int32} {N' : cN} {E' : cE} {F' : cF} {O9' : cO9} {k' n' : Nat} (h : fL_define N C E F O9 k n p2 p3 = some (rv, N', E', F', O9', (k', n'))) (D : Nat) (hD : 4 ≤ D) : am_Call D 131 [.ref 0, .int p2, .int p3, .ref 38] (W9 N C E F P Q T G U H B O J V Y Z O9) k n (.inl (some (.int rv)), W9 N' C E' F' P Q T G U H B O J V Y Z O9', k', n') := by
  unfold fL_define at h
  obtain ⟨D, rfl⟩ : ∃ D', D = D' + 1 := ⟨D - 1, by omega⟩
  have hD : 3 ≤ D := by omega
  refine am_call_run (by decide) (by decide) rfl (Nat.le_of_ble_eq_true rfl) (by decide) (L := [(0, .ref 0), (1, .int p2), (2, .int p3), (3, .ref 38)]) rfl ?_
  refine am_ev_st 5 (f' := (5, [(0, .ref 0), (1, .int p2), (2, .int p3), (3, .ref 38)], [.int p3, .int p2, .ref 0, .int (0 : Int32), .ref 38], (W9 N C E F P Q T G U H B O J V Y Z O9), k, n)) (g := True ∧ True ∧ True ∧ True ∧ True ∧ True) (by with_unfolding_all rfl) ⟨trivial, trivial, trivial, trivial, trivial, trivial⟩ ?_
  replace h := Option.bind_eq_some_iff.mp h
  obtain ⟨⟨r1 | e1, N_1, E_1, F_1, ⟨k_1, n_1⟩⟩, hc1, h⟩ := h
  · dsimp only at h
    refine am_ev_call (.invokevirtual 32) 64 4 664 [.ref 0, .int p2, .int p3] [.int (0 : Int32), .ref 38] rfl rfl rfl rfl (ok_fJ_define hc1 D (by omega)) rfl ?_
    by_cases g2 : ((0 : Int32) < 0 ∨ 1 ≤ ((0 : Int32)).toNatClampNeg)
    · rw [if_pos g2] at h; cases h
    rw [if_neg g2] at h
    refine am_ev_st 4 (f' := (26, [(0, .ref 0), (1, .int p2), (2, .int p3), (3, .ref 38)], [.int (0 : Int32)], (W9 N_1 C E_1 F_1 P Q T G U H B O J V Y Z ((vp_updL O9 ((0 : Int32)).toNatClampNeg r1.toInt64))), k_1, n_1)) (g := True ∧ vp_in ((0 : Int32)) 1 ∧ True ∧ True ∧ True) (by with_unfolding_all rfl) ⟨trivial, g2, trivial, trivial, trivial⟩ ?_
    cases h
    exact am_ev_ret 0 0 0 rfl .int rfl rfl rfl
  · dsimp only at h
    by_cases c3 : e1 = 0
    · rw [if_pos c3] at h
      subst c3
      refine am_ev_catch (.invokevirtual 32) 64 4 664 [.ref 0, .int p2, .int p3] [.int (0 : Int32), .ref 38] rfl rfl rfl rfl (ok_fJ_define hc1 D (by omega)) rfl 13 rfl rfl ?_
      refine am_ev_st 2 (f' := (16, [(4, .retAddr 1), (0, .ref 0), (1, .int p2), (2, .int p3), (3, .ref 38)], [.int (1 : Int32)], (W9 N_1 C E_1 F_1 P Q T G U H B O J V Y Z O9), k_1, n_1)) (g := True ∧ True ∧ True) (by with_unfolding_all rfl) ⟨trivial, trivial, trivial⟩ ?_
      cases h
      exact am_ev_ret 0 0 0 rfl .int rfl rfl rfl
    rw [if_neg c3] at h
    by_cases c4 : e1 = 1
    · rw [if_pos c4] at h
      subst c4
      refine am_ev_catch (.invokevirtual 32) 64 4 664 [.ref 0, .int p2, .int p3] [.int (0 : Int32), .ref 38] rfl rfl rfl rfl (ok_fJ_define hc1 D (by omega)) rfl 17 rfl rfl ?_
      refine am_ev_st 2 (f' := (20, [(4, .retAddr 1), (0, .ref 0), (1, .int p2), (2, .int p3), (3, .ref 38)], [.int (2 : Int32)], (W9 N_1 C E_1 F_1 P Q T G U H B O J V Y Z O9), k_1, n_1)) (g := True ∧ True ∧ True) (by with_unfolding_all rfl) ⟨trivial, trivial, trivial⟩ ?_
      cases h
      exact am_ev_ret 0 0 0 rfl .int rfl rfl rfl
    rw [if_neg c4] at h
    by_cases c5 : e1 = 2
    · rw [if_pos c5] at h
      subst c5
      refine am_ev_catch (.invokevirtual 32) 64 4 664 [.ref 0, .int p2, .int p3] [.int (0 : Int32), .ref 38] rfl rfl rfl rfl (ok_fJ_define hc1 D (by omega)) rfl 21 rfl rfl ?_
      refine am_ev_st 2 (f' := (24, [(4, .retAddr 1), (0, .ref 0), (1, .int p2), (2, .int p3), (3, .ref 38)], [.int (3 : Int32)], (W9 N_1 C E_1 F_1 P Q T G U H B O J V Y Z O9), k_1, n_1)) (g := True ∧ True ∧ True) (by with_unfolding_all rfl) ⟨trivial, trivial, trivial⟩ ?_
      cases h
      exact am_ev_ret 0 0 0 rfl .int rfl rfl rfl
    rw [if_neg c5] at h
    cases h
def fN_fill (N : cN) (p1 p2 p3 p4 : Int32) : Option (cN) :=
  match N with
  | (nK, nL, nR, nS, nD, cap, mt, le, en) =>
  if p1 < 0 then
  (some N)
  else
  if p1 < (Int32.ofNat cap) then
  (if (p1 < 0 ∨ cap ≤ (p1).toNatClampNeg) then none else
  if (p1 < 0 ∨ cap ≤ (p1).toNatClampNeg) then none else
  if (p1 < 0 ∨ cap ≤ (p1).toNatClampNeg) then none else
  if (p1 < 0 ∨ cap ≤ (p1).toNatClampNeg) then none else
  if (p1 < 0 ∨ cap ≤ (p1).toNatClampNeg) then none else
  if p4 = (-1 : Int32) then
  (some ((upd nK (p1).toNatClampNeg p2), (upd nL (p1).toNatClampNeg p3), (upd nR (p1).toNatClampNeg p4), (upd nS (p1).toNatClampNeg (1 : Int32)), (upd nD (p1).toNatClampNeg (1 : Int32)), cap, mt, le, en))
  else
  if p3 < 0 then
  (some ((upd nK (p1).toNatClampNeg p2), (upd nL (p1).toNatClampNeg p3), (upd nR (p1).toNatClampNeg p4), (upd nS (p1).toNatClampNeg (1 : Int32)), (upd nD (p1).toNatClampNeg (1 : Int32)), cap, mt, le, en))
  else
  if (Int32.ofNat cap) ≤ p3 then
  (some ((upd nK (p1).toNatClampNeg p2), (upd nL (p1).toNatClampNeg p3), (upd nR (p1).toNatClampNeg p4), (upd nS (p1).toNatClampNeg (1 : Int32)), (upd nD (p1).toNatClampNeg (1 : Int32)), cap, mt, le, en))
  else
  if p4 < 0 then
  (some ((upd nK (p1).toNatClampNeg p2), (upd nL (p1).toNatClampNeg p3), (upd nR (p1).toNatClampNeg p4), (upd nS (p1).toNatClampNeg (1 : Int32)), (upd nD (p1).toNatClampNeg (1 : Int32)), cap, mt, le, en))
  else
  if (Int32.ofNat cap) ≤ p4 then
  (some ((upd nK (p1).toNatClampNeg p2), (upd nL (p1).toNatClampNeg p3), (upd nR (p1).toNatClampNeg p4), (upd nS (p1).toNatClampNeg (1 : Int32)), (upd nD (p1).toNatClampNeg (1 : Int32)), cap, mt, le, en))
  else
  if (p3 < 0 ∨ cap ≤ (p3).toNatClampNeg) then none else
  if (p4 < 0 ∨ cap ≤ (p4).toNatClampNeg) then none else
  if (p1 < 0 ∨ cap ≤ (p1).toNatClampNeg) then none else
  if (p3 < 0 ∨ cap ≤ (p3).toNatClampNeg) then none else
  if (p4 < 0 ∨ cap ≤ (p4).toNatClampNeg) then none else
  if (p1 < 0 ∨ cap ≤ (p1).toNatClampNeg) then none else
  some ((upd nK (p1).toNatClampNeg p2), (upd nL (p1).toNatClampNeg p3), (upd nR (p1).toNatClampNeg p4), (upd (upd nS (p1).toNatClampNeg (1 : Int32)) (p1).toNatClampNeg (((1 : Int32) + (((upd nS (p1).toNatClampNeg (1 : Int32))) (p3).toNatClampNeg)) + (((upd nS (p1).toNatClampNeg (1 : Int32))) (p4).toNatClampNeg))), (upd (upd nD (p1).toNatClampNeg (1 : Int32)) (p1).toNatClampNeg ((1 : Int32) + (if (((upd nD (p1).toNatClampNeg (1 : Int32))) (p3).toNatClampNeg) < (((upd nD (p1).toNatClampNeg (1 : Int32))) (p4).toNatClampNeg) then (((upd nD (p1).toNatClampNeg (1 : Int32))) (p4).toNatClampNeg) else (((upd nD (p1).toNatClampNeg (1 : Int32))) (p3).toNatClampNeg)))), cap, mt, le, en))
  else
  some N
set_option maxHeartbeats 4000000 in
set_option maxRecDepth 100000 in
theorem ok_fN_fill  {N : cN} {C : cC} {E : cE} {F : cF} {P : cP} {Q : cQ} {T : cT} {G : cG} {U : cU} {H : cH} {B : cB} {O : cO} {J : cJ} {V : cV} {Y : cY} {Z : cZ} {O9 : cO9} {k n : Nat} {p1 p2 p3 p4 : Int32} {N' : cN} (h : fN_fill N p1 p2 p3 p4 = some N') (D : Nat) (hD : 1 ≤ D) : am_Call D 39 [.ref 1, .int p1, .int p2, .int p3, .int p4] (W9 N C E F P Q T G U H B O J V Y Z O9) k n (.inl none, W9 N' C E F P Q T G U H B O J V Y Z O9, k, n) := by
  unfold fN_fill at h
  obtain ⟨D, rfl⟩ : ∃ D', D = D' + 1 := ⟨D - 1, by omega⟩
  have hD : 0 ≤ D := by omega
  refine am_call_run (by decide) (by decide) rfl (Nat.le_of_ble_eq_true rfl) (by decide) (L := [(0, .ref 1), (1, .int p1), (2, .int p2), (3, .int p3), (4, .int p4)]) rfl ?_
  obtain ⟨nK, nL, nR, nS, nD, cap, mt, le, en⟩ := N
  try dsimp only at h
  refine am_ev_st 6 (f' := am_br (p1 < 0) 17 8 [(5, .int (Int32.ofNat cap)), (0, .ref 1), (1, .int p1), (2, .int p2), (3, .int p3), (4, .int p4)] [] (W9 (nK, nL, nR, nS, nD, cap, mt, le, en) C E F P Q T G U H B O J V Y Z O9) k n) (g := True ∧ True ∧ True ∧ True ∧ True ∧ True ∧ True) (by with_unfolding_all rfl) ⟨trivial, trivial, trivial, trivial, trivial, trivial, trivial⟩ ?_
  by_cases c1 : p1 < 0
  · rw [if_pos c1] at h
    refine am_ev_pos c1 ?_
    cases h
    exact am_ev_vret 0 0 0 rfl rfl rfl
  · rw [if_neg c1] at h
    refine am_ev_neg c1 ?_
    refine am_ev_st 3 (f' := am_br (p1 < (Int32.ofNat cap)) 18 14 [(5, .int (Int32.ofNat cap)), (0, .ref 1), (1, .int p1), (2, .int p2), (3, .int p3), (4, .int p4)] [] (W9 (nK, nL, nR, nS, nD, cap, mt, le, en) C E F P Q T G U H B O J V Y Z O9) k n) (g := True ∧ True ∧ True ∧ True) (by with_unfolding_all rfl) ⟨trivial, trivial, trivial, trivial⟩ ?_
    by_cases c2 : p1 < (Int32.ofNat cap)
    · rw [if_pos c2] at h
      refine am_ev_pos c2 ?_
      by_cases g3 : (p1 < 0 ∨ cap ≤ (p1).toNatClampNeg)
      · rw [if_pos g3] at h; cases h
      rw [if_neg g3] at h
      by_cases g4 : (p1 < 0 ∨ cap ≤ (p1).toNatClampNeg)
      · rw [if_pos g4] at h; cases h
      rw [if_neg g4] at h
      by_cases g5 : (p1 < 0 ∨ cap ≤ (p1).toNatClampNeg)
      · rw [if_pos g5] at h; cases h
      rw [if_neg g5] at h
      by_cases g6 : (p1 < 0 ∨ cap ≤ (p1).toNatClampNeg)
      · rw [if_pos g6] at h; cases h
      rw [if_neg g6] at h
      by_cases g7 : (p1 < 0 ∨ cap ≤ (p1).toNatClampNeg)
      · rw [if_pos g7] at h; cases h
      rw [if_neg g7] at h
      refine am_ev_st 28 (f' := am_br (p4 = (-1 : Int32)) 128 57 [(5, .int (Int32.ofNat cap)), (0, .ref 1), (1, .int p1), (2, .int p2), (3, .int p3), (4, .int p4)] [] (W9 ((upd nK (p1).toNatClampNeg p2), (upd nL (p1).toNatClampNeg p3), (upd nR (p1).toNatClampNeg p4), (upd nS (p1).toNatClampNeg (1 : Int32)), (upd nD (p1).toNatClampNeg (1 : Int32)), cap, mt, le, en) C E F P Q T G U H B O J V Y Z O9) k n) (g := True ∧ True ∧ True ∧ True ∧ vp_in (p1) cap ∧ True ∧ True ∧ True ∧ True ∧ vp_in (p1) cap ∧ True ∧ True ∧ True ∧ True ∧ vp_in (p1) cap ∧ True ∧ True ∧ True ∧ True ∧ vp_in (p1) cap ∧ True ∧ True ∧ True ∧ True ∧ vp_in (p1) cap ∧ True ∧ True ∧ True ∧ True) (by with_unfolding_all rfl) ⟨trivial, trivial, trivial, trivial, g3, trivial, trivial, trivial, trivial, g4, trivial, trivial, trivial, trivial, g5, trivial, trivial, trivial, trivial, g6, trivial, trivial, trivial, trivial, g7, trivial, trivial, trivial, trivial⟩ ?_
      by_cases c8 : p4 = (-1 : Int32)
      · rw [if_pos c8] at h
        refine am_ev_pos c8 ?_
        cases h
        exact am_ev_vret 0 0 0 rfl rfl rfl
      · rw [if_neg c8] at h
        refine am_ev_neg c8 ?_
        refine am_ev_st 2 (f' := am_br (p3 < 0) 128 61 [(5, .int (Int32.ofNat cap)), (0, .ref 1), (1, .int p1), (2, .int p2), (3, .int p3), (4, .int p4)] [] (W9 ((upd nK (p1).toNatClampNeg p2), (upd nL (p1).toNatClampNeg p3), (upd nR (p1).toNatClampNeg p4), (upd nS (p1).toNatClampNeg (1 : Int32)), (upd nD (p1).toNatClampNeg (1 : Int32)), cap, mt, le, en) C E F P Q T G U H B O J V Y Z O9) k n) (g := True ∧ True ∧ True) (by with_unfolding_all rfl) ⟨trivial, trivial, trivial⟩ ?_
        by_cases c9 : p3 < 0
        · rw [if_pos c9] at h
          refine am_ev_pos c9 ?_
          cases h
          exact am_ev_vret 0 0 0 rfl rfl rfl
        · rw [if_neg c9] at h
          refine am_ev_neg c9 ?_
          refine am_ev_st 3 (f' := am_br ((Int32.ofNat cap) ≤ p3) 128 67 [(5, .int (Int32.ofNat cap)), (0, .ref 1), (1, .int p1), (2, .int p2), (3, .int p3), (4, .int p4)] [] (W9 ((upd nK (p1).toNatClampNeg p2), (upd nL (p1).toNatClampNeg p3), (upd nR (p1).toNatClampNeg p4), (upd nS (p1).toNatClampNeg (1 : Int32)), (upd nD (p1).toNatClampNeg (1 : Int32)), cap, mt, le, en) C E F P Q T G U H B O J V Y Z O9) k n) (g := True ∧ True ∧ True ∧ True) (by with_unfolding_all rfl) ⟨trivial, trivial, trivial, trivial⟩ ?_
          by_cases c10 : (Int32.ofNat cap) ≤ p3
          · rw [if_pos c10] at h
            refine am_ev_pos c10 ?_
            cases h
            exact am_ev_vret 0 0 0 rfl rfl rfl
          · rw [if_neg c10] at h
            refine am_ev_neg c10 ?_
            refine am_ev_st 2 (f' := am_br (p4 < 0) 128 72 [(5, .int (Int32.ofNat cap)), (0, .ref 1), (1, .int p1), (2, .int p2), (3, .int p3), (4, .int p4)] [] (W9 ((upd nK (p1).toNatClampNeg p2), (upd nL (p1).toNatClampNeg p3), (upd nR (p1).toNatClampNeg p4), (upd nS (p1).toNatClampNeg (1 : Int32)), (upd nD (p1).toNatClampNeg (1 : Int32)), cap, mt, le, en) C E F P Q T G U H B O J V Y Z O9) k n) (g := True ∧ True ∧ True) (by with_unfolding_all rfl) ⟨trivial, trivial, trivial⟩ ?_
            by_cases c11 : p4 < 0
            · rw [if_pos c11] at h
              refine am_ev_pos c11 ?_
              cases h
              exact am_ev_vret 0 0 0 rfl rfl rfl
            · rw [if_neg c11] at h
              refine am_ev_neg c11 ?_
              refine am_ev_st 3 (f' := am_br ((Int32.ofNat cap) ≤ p4) 128 79 [(5, .int (Int32.ofNat cap)), (0, .ref 1), (1, .int p1), (2, .int p2), (3, .int p3), (4, .int p4)] [] (W9 ((upd nK (p1).toNatClampNeg p2), (upd nL (p1).toNatClampNeg p3), (upd nR (p1).toNatClampNeg p4), (upd nS (p1).toNatClampNeg (1 : Int32)), (upd nD (p1).toNatClampNeg (1 : Int32)), cap, mt, le, en) C E F P Q T G U H B O J V Y Z O9) k n) (g := True ∧ True ∧ True ∧ True) (by with_unfolding_all rfl) ⟨trivial, trivial, trivial, trivial⟩ ?_
              by_cases c12 : (Int32.ofNat cap) ≤ p4
              · rw [if_pos c12] at h
                refine am_ev_pos c12 ?_
                cases h
                exact am_ev_vret 0 0 0 rfl rfl rfl
              · rw [if_neg c12] at h
                refine am_ev_neg c12 ?_
                by_cases g13 : (p3 < 0 ∨ cap ≤ (p3).toNatClampNeg)
                · rw [if_pos g13] at h; cases h
                rw [if_neg g13] at h
                by_cases g14 : (p4 < 0 ∨ cap ≤ (p4).toNatClampNeg)
                · rw [if_pos g14] at h; cases h
                rw [if_neg g14] at h
                by_cases g15 : (p1 < 0 ∨ cap ≤ (p1).toNatClampNeg)
                · rw [if_pos g15] at h; cases h
                rw [if_neg g15] at h
                by_cases g16 : (p3 < 0 ∨ cap ≤ (p3).toNatClampNeg)
                · rw [if_pos g16] at h; cases h
                rw [if_neg g16] at h
                by_cases g17 : (p4 < 0 ∨ cap ≤ (p4).toNatClampNeg)
                · rw [if_pos g17] at h; cases h
                rw [if_neg g17] at h
                by_cases g18 : (p1 < 0 ∨ cap ≤ (p1).toNatClampNeg)
                · rw [if_pos g18] at h; cases h
                rw [if_neg g18] at h
                refine am_ev_st 30 (f' := (128, [(5, .int (Int32.ofNat cap)), (0, .ref 1), (1, .int p1), (2, .int p2), (3, .int p3), (4, .int p4)], [], (W9 ((upd nK (p1).toNatClampNeg p2), (upd nL (p1).toNatClampNeg p3), (upd nR (p1).toNatClampNeg p4), (upd (upd nS (p1).toNatClampNeg (1 : Int32)) (p1).toNatClampNeg (((1 : Int32) + (((upd nS (p1).toNatClampNeg (1 : Int32))) (p3).toNatClampNeg)) + (((upd nS (p1).toNatClampNeg (1 : Int32))) (p4).toNatClampNeg))), (upd (upd nD (p1).toNatClampNeg (1 : Int32)) (p1).toNatClampNeg ((1 : Int32) + (if (((upd nD (p1).toNatClampNeg (1 : Int32))) (p3).toNatClampNeg) < (((upd nD (p1).toNatClampNeg (1 : Int32))) (p4).toNatClampNeg) then (((upd nD (p1).toNatClampNeg (1 : Int32))) (p4).toNatClampNeg) else (((upd nD (p1).toNatClampNeg (1 : Int32))) (p3).toNatClampNeg)))), cap, mt, le, en) C E F P Q T G U H B O J V Y Z O9), k, n)) (g := True ∧ True ∧ True ∧ True ∧ True ∧ True ∧ True ∧ vp_in (p3) cap ∧ True ∧ True ∧ True ∧ True ∧ vp_in (p4) cap ∧ True ∧ vp_in (p1) cap ∧ True ∧ True ∧ True ∧ True ∧ True ∧ True ∧ True ∧ vp_in (p3) cap ∧ True ∧ True ∧ True ∧ vp_in (p4) cap ∧ True ∧ True ∧ vp_in (p1) cap ∧ True) (by with_unfolding_all rfl) ⟨trivial, trivial, trivial, trivial, trivial, trivial, trivial, g13, trivial, trivial, trivial, trivial, g14, trivial, g15, trivial, trivial, trivial, trivial, trivial, trivial, trivial, g16, trivial, trivial, trivial, g17, trivial, trivial, g18, trivial⟩ ?_
                cases h
                exact am_ev_vret 0 0 0 rfl rfl rfl
    · rw [if_neg c2] at h
      refine am_ev_neg c2 ?_
      cases h
      exact am_ev_vret 0 0 0 rfl rfl rfl
end
section
def fN_addTerm (N : cN) (p1 p2 p3 : Int32) : Option (Int32 × cN) :=
  match N with
  | (nK, nL, nR, nS, nD, cap, mt, le, en) =>
  if mt < (120 : Int32) then
  ((fN_fill N mt p1 p2 p3).bind fun z2 =>
  match z2 with
  | (N_2) =>
  match N_2 with
  | (nK_2, nL_2, nR_2, nS_2, nD_2, cap_2, mt_2, le_2, en_2) =>
  some (((mt_2 + (1 : Int32)) - (1 : Int32)), (nK_2, nL_2, nR_2, nS_2, nD_2, cap_2, (mt_2 + (1 : Int32)), le_2, en_2)))
  else
  some ((-1 : Int32), N)
set_option maxHeartbeats 4000000 in
set_option maxRecDepth 100000 in
theorem ok_fN_addTerm  {N : cN} {C : cC} {E : cE} {F : cF} {P : cP} {Q : cQ} {T : cT} {G : cG} {U : cU} {H : cH} {B : cB} {O : cO} {J : cJ} {V : cV} {Y : cY} {Z : cZ} {O9 : cO9} {k n : Nat} {p1 p2 p3 : Int32} {rv : Int32} {N' : cN} (h : fN_addTerm N p1 p2 p3 = some (rv, N')) (D : Nat) (hD : 2 ≤ D) : am_Call D 35 [.ref 1, .int p1, .int p2, .int p3] (W9 N C E F P Q T G U H B O J V Y Z O9) k n (.inl (some (.int rv)), W9 N' C E F P Q T G U H B O J V Y Z O9, k, n) := by
  unfold fN_addTerm at h
  obtain ⟨D, rfl⟩ : ∃ D', D = D' + 1 := ⟨D - 1, by omega⟩
  have hD : 1 ≤ D := by omega
  refine am_call_run (by decide) (by decide) rfl (Nat.le_of_ble_eq_true rfl) (by decide) (L := [(0, .ref 1), (1, .int p1), (2, .int p2), (3, .int p3)]) rfl ?_
  obtain ⟨nK, nL, nR, nS, nD, cap, mt, le, en⟩ := N
  try dsimp only at h
  refine am_ev_st 4 (f' := am_br (mt < (120 : Int32)) 11 6 [(0, .ref 1), (1, .int p1), (2, .int p2), (3, .int p3)] [] (W9 (nK, nL, nR, nS, nD, cap, mt, le, en) C E F P Q T G U H B O J V Y Z O9) k n) (g := True ∧ True ∧ True ∧ True ∧ True) (by with_unfolding_all rfl) ⟨trivial, trivial, trivial, trivial, trivial⟩ ?_
  by_cases c1 : mt < (120 : Int32)
  · rw [if_pos c1] at h
    refine am_ev_pos c1 ?_
    refine am_ev_st 6 (f' := (19, [(0, .ref 1), (1, .int p1), (2, .int p2), (3, .int p3)], [.int p3, .int p2, .int p1, .int mt, .ref 1], (W9 (nK, nL, nR, nS, nD, cap, mt, le, en) C E F P Q T G U H B O J V Y Z O9), k, n)) (g := True ∧ True ∧ True ∧ True ∧ True ∧ True ∧ True) (by with_unfolding_all rfl) ⟨trivial, trivial, trivial, trivial, trivial, trivial, trivial⟩ ?_
    replace h := Option.bind_eq_some_iff.mp h
    obtain ⟨N_2, hc2, h⟩ := h
    try dsimp only at h
    refine am_ev_call (.invokevirtual 50) 39 8 246 [.ref 1, .int mt, .int p1, .int p2, .int p3] [] rfl rfl rfl rfl (ok_fN_fill hc2 D (by omega)) rfl ?_
    obtain ⟨nK_2, nL_2, nR_2, nS_2, nD_2, cap_2, mt_2, le_2, en_2⟩ := N_2
    try dsimp only at h
    refine am_ev_st 10 (f' := (38, [(0, .ref 1), (1, .int p1), (2, .int p2), (3, .int p3)], [.int ((mt_2 + (1 : Int32)) - (1 : Int32))], (W9 (nK_2, nL_2, nR_2, nS_2, nD_2, cap_2, (mt_2 + (1 : Int32)), le_2, en_2) C E F P Q T G U H B O J V Y Z O9), k, n)) (g := True ∧ True ∧ True ∧ True ∧ True ∧ True ∧ True ∧ True ∧ True ∧ True ∧ True) (by with_unfolding_all rfl) ⟨trivial, trivial, trivial, trivial, trivial, trivial, trivial, trivial, trivial, trivial, trivial⟩ ?_
    cases h
    exact am_ev_ret 0 0 0 rfl .int rfl rfl rfl
  · rw [if_neg c1] at h
    refine am_ev_neg c1 ?_
    refine am_ev_st 1 (f' := (10, [(0, .ref 1), (1, .int p1), (2, .int p2), (3, .int p3)], [.int (-1 : Int32)], (W9 (nK, nL, nR, nS, nD, cap, mt, le, en) C E F P Q T G U H B O J V Y Z O9), k, n)) (g := True ∧ True) (by with_unfolding_all rfl) ⟨trivial, trivial⟩ ?_
    cases h
    exact am_ev_ret 0 0 0 rfl .int rfl rfl rfl
def fJ_hasParts (p1 : Int32) : Option (Bool) :=
  if p1 = (2 : Int32) then
  (some true)
  else
  if p1 = (3 : Int32) then
  (some true)
  else
  if p1 ≠ (4 : Int32) then
  (some false)
  else
  some true
set_option maxHeartbeats 4000000 in
set_option maxRecDepth 100000 in
theorem ok_fJ_hasParts  {N : cN} {C : cC} {E : cE} {F : cF} {P : cP} {Q : cQ} {T : cT} {G : cG} {U : cU} {H : cH} {B : cB} {O : cO} {J : cJ} {V : cV} {Y : cY} {Z : cZ} {O9 : cO9} {k n : Nat} {p1 : Int32} {rv : Bool} (h : fJ_hasParts p1 = some rv) (D : Nat) (hD : 1 ≤ D) : am_Call D 71 [.int p1] (W9 N C E F P Q T G U H B O J V Y Z O9) k n (.inl (some (.int (am_bz rv))), W9 N C E F P Q T G U H B O J V Y Z O9, k, n) := by
  unfold fJ_hasParts at h
  obtain ⟨D, rfl⟩ : ∃ D', D = D' + 1 := ⟨D - 1, by omega⟩
  have hD : 0 ≤ D := by omega
  refine am_call_run (by decide) (by decide) rfl (Nat.le_of_ble_eq_true rfl) (by decide) (L := [(0, .int p1)]) rfl ?_
  refine am_ev_st 3 (f' := am_br (p1 = (2 : Int32)) 15 2 [(0, .int p1)] [] (W9 N C E F P Q T G U H B O J V Y Z O9) k n) (g := True ∧ True ∧ True ∧ True) (by with_unfolding_all rfl) ⟨trivial, trivial, trivial, trivial⟩ ?_
  by_cases c1 : p1 = (2 : Int32)
  · rw [if_pos c1] at h
    refine am_ev_pos c1 ?_
    refine am_ev_st 2 (f' := (20, [(0, .int p1)], [.int (1 : Int32)], (W9 N C E F P Q T G U H B O J V Y Z O9), k, n)) (g := True ∧ True ∧ True) (by with_unfolding_all rfl) ⟨trivial, trivial, trivial⟩ ?_
    cases h
    exact am_ev_ret 0 0 0 rfl .boolean rfl am_n1 rfl
  · rw [if_neg c1] at h
    refine am_ev_neg c1 ?_
    refine am_ev_st 3 (f' := am_br (p1 = (3 : Int32)) 15 7 [(0, .int p1)] [] (W9 N C E F P Q T G U H B O J V Y Z O9) k n) (g := True ∧ True ∧ True ∧ True) (by with_unfolding_all rfl) ⟨trivial, trivial, trivial, trivial⟩ ?_
    by_cases c2 : p1 = (3 : Int32)
    · rw [if_pos c2] at h
      refine am_ev_pos c2 ?_
      refine am_ev_st 2 (f' := (20, [(0, .int p1)], [.int (1 : Int32)], (W9 N C E F P Q T G U H B O J V Y Z O9), k, n)) (g := True ∧ True ∧ True) (by with_unfolding_all rfl) ⟨trivial, trivial, trivial⟩ ?_
      cases h
      exact am_ev_ret 0 0 0 rfl .boolean rfl am_n1 rfl
    · rw [if_neg c2] at h
      refine am_ev_neg c2 ?_
      refine am_ev_st 3 (f' := am_br (p1 ≠ (4 : Int32)) 19 12 [(0, .int p1)] [] (W9 N C E F P Q T G U H B O J V Y Z O9) k n) (g := True ∧ True ∧ True ∧ True) (by with_unfolding_all rfl) ⟨trivial, trivial, trivial, trivial⟩ ?_
      by_cases c3 : p1 ≠ (4 : Int32)
      · rw [if_pos c3] at h
        refine am_ev_pos c3 ?_
        refine am_ev_st 1 (f' := (20, [(0, .int p1)], [.int (0 : Int32)], (W9 N C E F P Q T G U H B O J V Y Z O9), k, n)) (g := True ∧ True) (by with_unfolding_all rfl) ⟨trivial, trivial⟩ ?_
        cases h
        exact am_ev_ret 0 0 0 rfl .boolean rfl am_n0 rfl
      · rw [if_neg c3] at h
        refine am_ev_neg c3 ?_
        refine am_ev_st 2 (f' := (20, [(0, .int p1)], [.int (1 : Int32)], (W9 N C E F P Q T G U H B O J V Y Z O9), k, n)) (g := True ∧ True ∧ True) (by with_unfolding_all rfl) ⟨trivial, trivial, trivial⟩ ?_
        cases h
        exact am_ev_ret 0 0 0 rfl .boolean rfl am_n1 rfl
def fC_isThere (C : cC) (p1 : Int32) : Option (Bool) :=
  if p1 < 0 then
  (some false)
  else
  match C with
  | (ct, cb, cm) =>
  if cm ≤ p1 then
  (some false)
  else
  if (16 : Int32) ≤ p1 then
  (some false)
  else
  some true
set_option maxHeartbeats 4000000 in
set_option maxRecDepth 100000 in
theorem ok_fC_isThere  {N : cN} {C : cC} {E : cE} {F : cF} {P : cP} {Q : cQ} {T : cT} {G : cG} {U : cU} {H : cH} {B : cB} {O : cO} {J : cJ} {V : cV} {Y : cY} {Z : cZ} {O9 : cO9} {k n : Nat} {p1 : Int32} {rv : Bool} (h : fC_isThere C p1 = some rv) (D : Nat) (hD : 1 ≤ D) : am_Call D 3 [.ref 7, .int p1] (W9 N C E F P Q T G U H B O J V Y Z O9) k n (.inl (some (.int (am_bz rv))), W9 N C E F P Q T G U H B O J V Y Z O9, k, n) := by
  unfold fC_isThere at h
  obtain ⟨D, rfl⟩ : ∃ D', D = D' + 1 := ⟨D - 1, by omega⟩
  have hD : 0 ≤ D := by omega
  refine am_call_run (by decide) (by decide) rfl (Nat.le_of_ble_eq_true rfl) (by decide) (L := [(0, .ref 7), (1, .int p1)]) rfl ?_
  refine am_ev_st 2 (f' := am_br (p1 < 0) 22 1 [(0, .ref 7), (1, .int p1)] [] (W9 N C E F P Q T G U H B O J V Y Z O9) k n) (g := True ∧ True ∧ True) (by with_unfolding_all rfl) ⟨trivial, trivial, trivial⟩ ?_
  by_cases c1 : p1 < 0
  · rw [if_pos c1] at h
    refine am_ev_pos c1 ?_
    refine am_ev_st 1 (f' := (23, [(0, .ref 7), (1, .int p1)], [.int (0 : Int32)], (W9 N C E F P Q T G U H B O J V Y Z O9), k, n)) (g := True ∧ True) (by with_unfolding_all rfl) ⟨trivial, trivial⟩ ?_
    cases h
    exact am_ev_ret 0 0 0 rfl .boolean rfl am_n0 rfl
  · rw [if_neg c1] at h
    refine am_ev_neg c1 ?_
    obtain ⟨ct, cb, cm⟩ := C
    try dsimp only at h
    refine am_ev_st 4 (f' := am_br (cm ≤ p1) 22 9 [(0, .ref 7), (1, .int p1)] [] (W9 N (ct, cb, cm) E F P Q T G U H B O J V Y Z O9) k n) (g := True ∧ True ∧ True ∧ True ∧ True) (by with_unfolding_all rfl) ⟨trivial, trivial, trivial, trivial, trivial⟩ ?_
    by_cases c2 : cm ≤ p1
    · rw [if_pos c2] at h
      refine am_ev_pos c2 ?_
      refine am_ev_st 1 (f' := (23, [(0, .ref 7), (1, .int p1)], [.int (0 : Int32)], (W9 N (ct, cb, cm) E F P Q T G U H B O J V Y Z O9), k, n)) (g := True ∧ True) (by with_unfolding_all rfl) ⟨trivial, trivial⟩ ?_
      cases h
      exact am_ev_ret 0 0 0 rfl .boolean rfl am_n0 rfl
    · rw [if_neg c2] at h
      refine am_ev_neg c2 ?_
      refine am_ev_st 3 (f' := am_br ((16 : Int32) ≤ p1) 22 15 [(0, .ref 7), (1, .int p1)] [] (W9 N (ct, cb, cm) E F P Q T G U H B O J V Y Z O9) k n) (g := True ∧ True ∧ True ∧ True) (by with_unfolding_all rfl) ⟨trivial, trivial, trivial, trivial⟩ ?_
      by_cases c3 : (16 : Int32) ≤ p1
      · rw [if_pos c3] at h
        refine am_ev_pos c3 ?_
        refine am_ev_st 1 (f' := (23, [(0, .ref 7), (1, .int p1)], [.int (0 : Int32)], (W9 N (ct, cb, cm) E F P Q T G U H B O J V Y Z O9), k, n)) (g := True ∧ True) (by with_unfolding_all rfl) ⟨trivial, trivial⟩ ?_
        cases h
        exact am_ev_ret 0 0 0 rfl .boolean rfl am_n0 rfl
      · rw [if_neg c3] at h
        refine am_ev_neg c3 ?_
        refine am_ev_st 2 (f' := (23, [(0, .ref 7), (1, .int p1)], [.int (1 : Int32)], (W9 N (ct, cb, cm) E F P Q T G U H B O J V Y Z O9), k, n)) (g := True ∧ True ∧ True) (by with_unfolding_all rfl) ⟨trivial, trivial, trivial⟩ ?_
        cases h
        exact am_ev_ret 0 0 0 rfl .boolean rfl am_n1 rfl
def fJ_mayBeMade (N : cN) (C : cC) (p1 p2 p3 : Int32) : Option (Bool) :=
  if p1 = 0 then
  (if p2 < 0 then
  (some false)
  else
  if (9 : Int32) < p2 then
  (some false)
  else
  some true)
  else
  if p1 ≠ (1 : Int32) then
  (if p1 ≠ (5 : Int32) then
  ((fJ_hasParts p1).bind fun z6 =>
  match z6 with
  | (r6) =>
  if (am_bz r6) = 0 then
  (some false)
  else
  (fN_isTerm N p2).bind fun z8 =>
  match z8 with
  | (r8) =>
  if (am_bz r8) = 0 then
  (some false)
  else
  (fN_isTerm N p3).bind fun z10 =>
  match z10 with
  | (r10) =>
  if (am_bz r10) = 0 then
  (some false)
  else
  none)
  else
  (fC_isThere C p2).bind fun z12 =>
  match z12 with
  | (r12) =>
  some r12)
  else
  if p2 < 0 then
  (some false)
  else
  if (9 : Int32) < p2 then
  (some false)
  else
  some true
set_option maxHeartbeats 4000000 in
set_option maxRecDepth 100000 in
theorem ok_fJ_mayBeMade  {N : cN} {C : cC} {E : cE} {F : cF} {P : cP} {Q : cQ} {T : cT} {G : cG} {U : cU} {H : cH} {B : cB} {O : cO} {J : cJ} {V : cV} {Y : cY} {Z : cZ} {O9 : cO9} {k n : Nat} {p1 p2 p3 : Int32} {rv : Bool} (h : fJ_mayBeMade N C p1 p2 p3 = some rv) (D : Nat) (hD : 2 ≤ D) : am_Call D 72 [.ref 0, .int p1, .int p2, .int p3] (W9 N C E F P Q T G U H B O J V Y Z O9) k n (.inl (some (.int (am_bz rv))), W9 N C E F P Q T G U H B O J V Y Z O9, k, n) := by
  unfold fJ_mayBeMade at h
  obtain ⟨D, rfl⟩ : ∃ D', D = D' + 1 := ⟨D - 1, by omega⟩
  have hD : 1 ≤ D := by omega
  refine am_call_run (by decide) (by decide) rfl (Nat.le_of_ble_eq_true rfl) (by decide) (L := [(0, .ref 0), (1, .int p1), (2, .int p2), (3, .int p3)]) rfl ?_
  refine am_ev_st 2 (f' := am_br (p1 = 0) 9 1 [(0, .ref 0), (1, .int p1), (2, .int p2), (3, .int p3)] [] (W9 N C E F P Q T G U H B O J V Y Z O9) k n) (g := True ∧ True ∧ True) (by with_unfolding_all rfl) ⟨trivial, trivial, trivial⟩ ?_
  by_cases c1 : p1 = 0
  · rw [if_pos c1] at h
    refine am_ev_pos c1 ?_
    refine am_ev_st 2 (f' := am_br (p2 < 0) 23 10 [(0, .ref 0), (1, .int p1), (2, .int p2), (3, .int p3)] [] (W9 N C E F P Q T G U H B O J V Y Z O9) k n) (g := True ∧ True ∧ True) (by with_unfolding_all rfl) ⟨trivial, trivial, trivial⟩ ?_
    by_cases c2 : p2 < 0
    · rw [if_pos c2] at h
      refine am_ev_pos c2 ?_
      refine am_ev_st 1 (f' := (24, [(0, .ref 0), (1, .int p1), (2, .int p2), (3, .int p3)], [.int (0 : Int32)], (W9 N C E F P Q T G U H B O J V Y Z O9), k, n)) (g := True ∧ True) (by with_unfolding_all rfl) ⟨trivial, trivial⟩ ?_
      cases h
      exact am_ev_ret 0 0 0 rfl .boolean rfl am_n0 rfl
    · rw [if_neg c2] at h
      refine am_ev_neg c2 ?_
      refine am_ev_st 3 (f' := am_br ((9 : Int32) < p2) 23 16 [(0, .ref 0), (1, .int p1), (2, .int p2), (3, .int p3)] [] (W9 N C E F P Q T G U H B O J V Y Z O9) k n) (g := True ∧ True ∧ True ∧ True) (by with_unfolding_all rfl) ⟨trivial, trivial, trivial, trivial⟩ ?_
      by_cases c3 : (9 : Int32) < p2
      · rw [if_pos c3] at h
        refine am_ev_pos c3 ?_
        refine am_ev_st 1 (f' := (24, [(0, .ref 0), (1, .int p1), (2, .int p2), (3, .int p3)], [.int (0 : Int32)], (W9 N C E F P Q T G U H B O J V Y Z O9), k, n)) (g := True ∧ True) (by with_unfolding_all rfl) ⟨trivial, trivial⟩ ?_
        cases h
        exact am_ev_ret 0 0 0 rfl .boolean rfl am_n0 rfl
      · rw [if_neg c3] at h
        refine am_ev_neg c3 ?_
        refine am_ev_st 2 (f' := (24, [(0, .ref 0), (1, .int p1), (2, .int p2), (3, .int p3)], [.int (1 : Int32)], (W9 N C E F P Q T G U H B O J V Y Z O9), k, n)) (g := True ∧ True ∧ True) (by with_unfolding_all rfl) ⟨trivial, trivial, trivial⟩ ?_
        cases h
        exact am_ev_ret 0 0 0 rfl .boolean rfl am_n1 rfl
  · rw [if_neg c1] at h
    refine am_ev_neg c1 ?_
    refine am_ev_st 3 (f' := am_br (p1 ≠ (1 : Int32)) 25 6 [(0, .ref 0), (1, .int p1), (2, .int p2), (3, .int p3)] [] (W9 N C E F P Q T G U H B O J V Y Z O9) k n) (g := True ∧ True ∧ True ∧ True) (by with_unfolding_all rfl) ⟨trivial, trivial, trivial, trivial⟩ ?_
    by_cases c4 : p1 ≠ (1 : Int32)
    · rw [if_pos c4] at h
      refine am_ev_pos c4 ?_
      refine am_ev_st 3 (f' := am_br (p1 ≠ (5 : Int32)) 39 27 [(0, .ref 0), (1, .int p1), (2, .int p2), (3, .int p3)] [] (W9 N C E F P Q T G U H B O J V Y Z O9) k n) (g := True ∧ True ∧ True ∧ True) (by with_unfolding_all rfl) ⟨trivial, trivial, trivial, trivial⟩ ?_
      by_cases c5 : p1 ≠ (5 : Int32)
      · rw [if_pos c5] at h
        refine am_ev_pos c5 ?_
        refine am_ev_st 1 (f' := (40, [(0, .ref 0), (1, .int p1), (2, .int p2), (3, .int p3)], [.int p1], (W9 N C E F P Q T G U H B O J V Y Z O9), k, n)) (g := True ∧ True) (by with_unfolding_all rfl) ⟨trivial, trivial⟩ ?_
        replace h := Option.bind_eq_some_iff.mp h
        obtain ⟨r6, hc6, h⟩ := h
        try dsimp only at h
        refine am_ev_call (.invokestatic 55) 71 2 220 [.int p1] [] rfl rfl rfl rfl (ok_fJ_hasParts hc6 D (by omega)) rfl ?_
        refine am_ev_st 1 (f' := am_br ((am_bz r6) = 0) 84 43 [(0, .ref 0), (1, .int p1), (2, .int p2), (3, .int p3)] [] (W9 N C E F P Q T G U H B O J V Y Z O9) k n) (g := True ∧ True) (by with_unfolding_all rfl) ⟨trivial, trivial⟩ ?_
        by_cases c7 : (am_bz r6) = 0
        · rw [if_pos c7] at h
          refine am_ev_pos c7 ?_
          refine am_ev_st 1 (f' := (85, [(0, .ref 0), (1, .int p1), (2, .int p2), (3, .int p3)], [.int (0 : Int32)], (W9 N C E F P Q T G U H B O J V Y Z O9), k, n)) (g := True ∧ True) (by with_unfolding_all rfl) ⟨trivial, trivial⟩ ?_
          cases h
          exact am_ev_ret 0 0 0 rfl .boolean rfl am_n0 rfl
        · rw [if_neg c7] at h
          refine am_ev_neg c7 ?_
          refine am_ev_st 3 (f' := (51, [(0, .ref 0), (1, .int p1), (2, .int p2), (3, .int p3)], [.int p2, .ref 1], (W9 N C E F P Q T G U H B O J V Y Z O9), k, n)) (g := True ∧ True ∧ True ∧ True) (by with_unfolding_all rfl) ⟨trivial, trivial, trivial, trivial⟩ ?_
          replace h := Option.bind_eq_some_iff.mp h
          obtain ⟨r8, hc8, h⟩ := h
          try dsimp only at h
          refine am_ev_call (.invokevirtual 67) 27 2 223 [.ref 1, .int p2] [] rfl rfl rfl rfl (ok_fN_isTerm hc8 D (by omega)) rfl ?_
          refine am_ev_st 1 (f' := am_br ((am_bz r8) = 0) 84 54 [(0, .ref 0), (1, .int p1), (2, .int p2), (3, .int p3)] [] (W9 N C E F P Q T G U H B O J V Y Z O9) k n) (g := True ∧ True) (by with_unfolding_all rfl) ⟨trivial, trivial⟩ ?_
          by_cases c9 : (am_bz r8) = 0
          · rw [if_pos c9] at h
            refine am_ev_pos c9 ?_
            refine am_ev_st 1 (f' := (85, [(0, .ref 0), (1, .int p1), (2, .int p2), (3, .int p3)], [.int (0 : Int32)], (W9 N C E F P Q T G U H B O J V Y Z O9), k, n)) (g := True ∧ True) (by with_unfolding_all rfl) ⟨trivial, trivial⟩ ?_
            cases h
            exact am_ev_ret 0 0 0 rfl .boolean rfl am_n0 rfl
          · rw [if_neg c9] at h
            refine am_ev_neg c9 ?_
            refine am_ev_st 3 (f' := (62, [(0, .ref 0), (1, .int p1), (2, .int p2), (3, .int p3)], [.int p3, .ref 1], (W9 N C E F P Q T G U H B O J V Y Z O9), k, n)) (g := True ∧ True ∧ True ∧ True) (by with_unfolding_all rfl) ⟨trivial, trivial, trivial, trivial⟩ ?_
            replace h := Option.bind_eq_some_iff.mp h
            obtain ⟨r10, hc10, h⟩ := h
            try dsimp only at h
            refine am_ev_call (.invokevirtual 67) 27 2 223 [.ref 1, .int p3] [] rfl rfl rfl rfl (ok_fN_isTerm hc10 D (by omega)) rfl ?_
            refine am_ev_st 1 (f' := am_br ((am_bz r10) = 0) 84 65 [(0, .ref 0), (1, .int p1), (2, .int p2), (3, .int p3)] [] (W9 N C E F P Q T G U H B O J V Y Z O9) k n) (g := True ∧ True) (by with_unfolding_all rfl) ⟨trivial, trivial⟩ ?_
            by_cases c11 : (am_bz r10) = 0
            · rw [if_pos c11] at h
              refine am_ev_pos c11 ?_
              refine am_ev_st 1 (f' := (85, [(0, .ref 0), (1, .int p1), (2, .int p2), (3, .int p3)], [.int (0 : Int32)], (W9 N C E F P Q T G U H B O J V Y Z O9), k, n)) (g := True ∧ True) (by with_unfolding_all rfl) ⟨trivial, trivial⟩ ?_
              cases h
              exact am_ev_ret 0 0 0 rfl .boolean rfl am_n0 rfl
            · rw [if_neg c11] at h
              refine am_ev_neg c11 ?_
              cases h
      · rw [if_neg c5] at h
        refine am_ev_neg c5 ?_
        refine am_ev_st 3 (f' := (35, [(0, .ref 0), (1, .int p1), (2, .int p2), (3, .int p3)], [.int p2, .ref 7], (W9 N C E F P Q T G U H B O J V Y Z O9), k, n)) (g := True ∧ True ∧ True ∧ True) (by with_unfolding_all rfl) ⟨trivial, trivial, trivial, trivial⟩ ?_
        replace h := Option.bind_eq_some_iff.mp h
        obtain ⟨r12, hc12, h⟩ := h
        try dsimp only at h
        refine am_ev_call (.invokevirtual 131) 3 2 216 [.ref 7, .int p2] [] rfl rfl rfl rfl (ok_fC_isThere hc12 D (by omega)) rfl ?_
        cases h
        exact am_ev_ret 0 0 0 rfl .boolean rfl (am_bz_nar _) rfl
    · rw [if_neg c4] at h
      refine am_ev_neg c4 ?_
      refine am_ev_st 2 (f' := am_br (p2 < 0) 23 10 [(0, .ref 0), (1, .int p1), (2, .int p2), (3, .int p3)] [] (W9 N C E F P Q T G U H B O J V Y Z O9) k n) (g := True ∧ True ∧ True) (by with_unfolding_all rfl) ⟨trivial, trivial, trivial⟩ ?_
      by_cases c13 : p2 < 0
      · rw [if_pos c13] at h
        refine am_ev_pos c13 ?_
        refine am_ev_st 1 (f' := (24, [(0, .ref 0), (1, .int p1), (2, .int p2), (3, .int p3)], [.int (0 : Int32)], (W9 N C E F P Q T G U H B O J V Y Z O9), k, n)) (g := True ∧ True) (by with_unfolding_all rfl) ⟨trivial, trivial⟩ ?_
        cases h
        exact am_ev_ret 0 0 0 rfl .boolean rfl am_n0 rfl
      · rw [if_neg c13] at h
        refine am_ev_neg c13 ?_
        refine am_ev_st 3 (f' := am_br ((9 : Int32) < p2) 23 16 [(0, .ref 0), (1, .int p1), (2, .int p2), (3, .int p3)] [] (W9 N C E F P Q T G U H B O J V Y Z O9) k n) (g := True ∧ True ∧ True ∧ True) (by with_unfolding_all rfl) ⟨trivial, trivial, trivial, trivial⟩ ?_
        by_cases c14 : (9 : Int32) < p2
        · rw [if_pos c14] at h
          refine am_ev_pos c14 ?_
          refine am_ev_st 1 (f' := (24, [(0, .ref 0), (1, .int p1), (2, .int p2), (3, .int p3)], [.int (0 : Int32)], (W9 N C E F P Q T G U H B O J V Y Z O9), k, n)) (g := True ∧ True) (by with_unfolding_all rfl) ⟨trivial, trivial⟩ ?_
          cases h
          exact am_ev_ret 0 0 0 rfl .boolean rfl am_n0 rfl
        · rw [if_neg c14] at h
          refine am_ev_neg c14 ?_
          refine am_ev_st 2 (f' := (24, [(0, .ref 0), (1, .int p1), (2, .int p2), (3, .int p3)], [.int (1 : Int32)], (W9 N C E F P Q T G U H B O J V Y Z O9), k, n)) (g := True ∧ True ∧ True) (by with_unfolding_all rfl) ⟨trivial, trivial, trivial⟩ ?_
          cases h
          exact am_ev_ret 0 0 0 rfl .boolean rfl am_n1 rfl
def fJ_make (N : cN) (C : cC) (p1 p2 p3 : Int32) : Option (Int32 × cN) :=
  (fJ_mayBeMade N C p1 p2 p3).bind fun z1 =>
  match z1 with
  | (r1) =>
  if (am_bz r1) ≠ 0 then
  ((fJ_hasParts p1).bind fun z3 =>
  match z3 with
  | (r3) =>
  if (am_bz r3) = 0 then
  ((fN_addTerm N p1 p2 (-1 : Int32)).bind fun z5 =>
  match z5 with
  | (r5, N_5) =>
  some (r5, N_5))
  else
  (fN_addTerm N p1 p2 p3).bind fun z6 =>
  match z6 with
  | (r6, N_6) =>
  some (r6, N_6))
  else
  some ((-1 : Int32), N)
set_option maxHeartbeats 4000000 in
set_option maxRecDepth 100000 in
theorem ok_fJ_make  {N : cN} {C : cC} {E : cE} {F : cF} {P : cP} {Q : cQ} {T : cT} {G : cG} {U : cU} {H : cH} {B : cB} {O : cO} {J : cJ} {V : cV} {Y : cY} {Z : cZ} {O9 : cO9} {k n : Nat} {p1 p2 p3 : Int32} {rv : Int32} {N' : cN} (h : fJ_make N C p1 p2 p3 = some (rv, N')) (D : Nat) (hD : 3 ≤ D) : am_Call D 56 [.ref 0, .int p1, .int p2, .int p3] (W9 N C E F P Q T G U H B O J V Y Z O9) k n (.inl (some (.int rv)), W9 N' C E F P Q T G U H B O J V Y Z O9, k, n) := by
  unfold fJ_make at h
  obtain ⟨D, rfl⟩ : ∃ D', D = D' + 1 := ⟨D - 1, by omega⟩
  have hD : 2 ≤ D := by omega
  refine am_call_run (by decide) (by decide) rfl (Nat.le_of_ble_eq_true rfl) (by decide) (L := [(0, .ref 0), (1, .int p1), (2, .int p2), (3, .int p3)]) rfl ?_
  refine am_ev_st 4 (f' := (4, [(0, .ref 0), (1, .int p1), (2, .int p2), (3, .int p3)], [.int p3, .int p2, .int p1, .ref 0], (W9 N C E F P Q T G U H B O J V Y Z O9), k, n)) (g := True ∧ True ∧ True ∧ True ∧ True) (by with_unfolding_all rfl) ⟨trivial, trivial, trivial, trivial, trivial⟩ ?_
  replace h := Option.bind_eq_some_iff.mp h
  obtain ⟨r1, hc1, h⟩ := h
  try dsimp only at h
  refine am_ev_call (.invokevirtual 51) 72 6 212 [.ref 0, .int p1, .int p2, .int p3] [] rfl rfl rfl rfl (ok_fJ_mayBeMade hc1 D (by omega)) rfl ?_
  refine am_ev_st 1 (f' := am_br ((am_bz r1) ≠ 0) 12 7 [(0, .ref 0), (1, .int p1), (2, .int p2), (3, .int p3)] [] (W9 N C E F P Q T G U H B O J V Y Z O9) k n) (g := True ∧ True) (by with_unfolding_all rfl) ⟨trivial, trivial⟩ ?_
  by_cases c2 : (am_bz r1) ≠ 0
  · rw [if_pos c2] at h
    refine am_ev_pos c2 ?_
    refine am_ev_st 5 (f' := (19, [(0, .ref 0), (1, .int p1), (2, .int p2), (3, .int p3)], [.int p1, .int p2, .int p1, .ref 1], (W9 N C E F P Q T G U H B O J V Y Z O9), k, n)) (g := True ∧ True ∧ True ∧ True ∧ True ∧ True) (by with_unfolding_all rfl) ⟨trivial, trivial, trivial, trivial, trivial, trivial⟩ ?_
    replace h := Option.bind_eq_some_iff.mp h
    obtain ⟨r3, hc3, h⟩ := h
    try dsimp only at h
    refine am_ev_call (.invokestatic 55) 71 2 220 [.int p1] [.int p2, .int p1, .ref 1] rfl rfl rfl rfl (ok_fJ_hasParts hc3 D (by omega)) rfl ?_
    refine am_ev_st 1 (f' := am_br ((am_bz r3) = 0) 29 22 [(0, .ref 0), (1, .int p1), (2, .int p2), (3, .int p3)] [.int p2, .int p1, .ref 1] (W9 N C E F P Q T G U H B O J V Y Z O9) k n) (g := True ∧ True) (by with_unfolding_all rfl) ⟨trivial, trivial⟩ ?_
    by_cases c4 : (am_bz r3) = 0
    · rw [if_pos c4] at h
      refine am_ev_pos c4 ?_
      refine am_ev_st 1 (f' := (30, [(0, .ref 0), (1, .int p1), (2, .int p2), (3, .int p3)], [.int (-1 : Int32), .int p2, .int p1, .ref 1], (W9 N C E F P Q T G U H B O J V Y Z O9), k, n)) (g := True ∧ True) (by with_unfolding_all rfl) ⟨trivial, trivial⟩ ?_
      replace h := Option.bind_eq_some_iff.mp h
      obtain ⟨⟨r5, N_5⟩, hc5, h⟩ := h
      try dsimp only at h
      refine am_ev_call (.invokevirtual 59) 35 6 242 [.ref 1, .int p1, .int p2, .int (-1 : Int32)] [] rfl rfl rfl rfl (ok_fN_addTerm hc5 D (by omega)) rfl ?_
      cases h
      exact am_ev_ret 0 0 0 rfl .int rfl rfl rfl
    · rw [if_neg c4] at h
      refine am_ev_neg c4 ?_
      refine am_ev_st 2 (f' := (30, [(0, .ref 0), (1, .int p1), (2, .int p2), (3, .int p3)], [.int p3, .int p2, .int p1, .ref 1], (W9 N C E F P Q T G U H B O J V Y Z O9), k, n)) (g := True ∧ True ∧ True) (by with_unfolding_all rfl) ⟨trivial, trivial, trivial⟩ ?_
      replace h := Option.bind_eq_some_iff.mp h
      obtain ⟨⟨r6, N_6⟩, hc6, h⟩ := h
      try dsimp only at h
      refine am_ev_call (.invokevirtual 59) 35 6 242 [.ref 1, .int p1, .int p2, .int p3] [] rfl rfl rfl rfl (ok_fN_addTerm hc6 D (by omega)) rfl ?_
      cases h
      exact am_ev_ret 0 0 0 rfl .int rfl rfl rfl
  · rw [if_neg c2] at h
    refine am_ev_neg c2 ?_
    refine am_ev_st 1 (f' := (11, [(0, .ref 0), (1, .int p1), (2, .int p2), (3, .int p3)], [.int (-1 : Int32)], (W9 N C E F P Q T G U H B O J V Y Z O9), k, n)) (g := True ∧ True) (by with_unfolding_all rfl) ⟨trivial, trivial⟩ ?_
    cases h
    exact am_ev_ret 0 0 0 rfl .int rfl rfl rfl
def fN_termCount (N : cN) : Option (Int32) :=
  match N with
  | (nK, nL, nR, nS, nD, cap, mt, le, en) =>
  some mt
set_option maxHeartbeats 4000000 in
set_option maxRecDepth 100000 in
theorem ok_fN_termCount  {N : cN} {C : cC} {E : cE} {F : cF} {P : cP} {Q : cQ} {T : cT} {G : cG} {U : cU} {H : cH} {B : cB} {O : cO} {J : cJ} {V : cV} {Y : cY} {Z : cZ} {O9 : cO9} {k n : Nat} {rv : Int32} (h : fN_termCount N = some rv) (D : Nat) (hD : 1 ≤ D) : am_Call D 26 [.ref 1] (W9 N C E F P Q T G U H B O J V Y Z O9) k n (.inl (some (.int rv)), W9 N C E F P Q T G U H B O J V Y Z O9, k, n) := by
  unfold fN_termCount at h
  obtain ⟨D, rfl⟩ : ∃ D', D = D' + 1 := ⟨D - 1, by omega⟩
  have hD : 0 ≤ D := by omega
  refine am_call_run (by decide) (by decide) rfl (Nat.le_of_ble_eq_true rfl) (by decide) (L := [(0, .ref 1)]) rfl ?_
  obtain ⟨nK, nL, nR, nS, nD, cap, mt, le, en⟩ := N
  try dsimp only at h
  refine am_ev_st 2 (f' := (4, [(0, .ref 1)], [.int mt], (W9 (nK, nL, nR, nS, nD, cap, mt, le, en) C E F P Q T G U H B O J V Y Z O9), k, n)) (g := True ∧ True ∧ True) (by with_unfolding_all rfl) ⟨trivial, trivial, trivial⟩ ?_
  cases h
  exact am_ev_ret 0 0 0 rfl .int rfl rfl rfl
def fJ_terms (N : cN) : Option (Int32) :=
  (fN_termCount N).bind fun z1 =>
  match z1 with
  | (r1) =>
  some r1
set_option maxHeartbeats 4000000 in
set_option maxRecDepth 100000 in
theorem ok_fJ_terms  {N : cN} {C : cC} {E : cE} {F : cF} {P : cP} {Q : cQ} {T : cT} {G : cG} {U : cU} {H : cH} {B : cB} {O : cO} {J : cJ} {V : cV} {Y : cY} {Z : cZ} {O9 : cO9} {k n : Nat} {rv : Int32} (h : fJ_terms N = some rv) (D : Nat) (hD : 2 ≤ D) : am_Call D 57 [.ref 0] (W9 N C E F P Q T G U H B O J V Y Z O9) k n (.inl (some (.int rv)), W9 N C E F P Q T G U H B O J V Y Z O9, k, n) := by
  unfold fJ_terms at h
  obtain ⟨D, rfl⟩ : ∃ D', D = D' + 1 := ⟨D - 1, by omega⟩
  have hD : 1 ≤ D := by omega
  refine am_call_run (by decide) (by decide) rfl (Nat.le_of_ble_eq_true rfl) (by decide) (L := [(0, .ref 0)]) rfl ?_
  refine am_ev_st 2 (f' := (4, [(0, .ref 0)], [.ref 1], (W9 N C E F P Q T G U H B O J V Y Z O9), k, n)) (g := True ∧ True ∧ True) (by with_unfolding_all rfl) ⟨trivial, trivial, trivial⟩ ?_
  replace h := Option.bind_eq_some_iff.mp h
  obtain ⟨r1, hc1, h⟩ := h
  try dsimp only at h
  refine am_ev_call (.invokevirtual 63) 26 0 254 [.ref 1] [] rfl rfl rfl rfl (ok_fN_termCount hc1 D (by omega)) rfl ?_
  cases h
  exact am_ev_ret 0 0 0 rfl .int rfl rfl rfl
def fN_kindOf (N : cN) (p1 : Int32) : Option (Int32) :=
  if p1 < 0 then
  (some (-1 : Int32))
  else
  match N with
  | (nK, nL, nR, nS, nD, cap, mt, le, en) =>
  if (Int32.ofNat cap) ≤ p1 then
  (some (-1 : Int32))
  else
  if (p1 < 0 ∨ cap ≤ (p1).toNatClampNeg) then none else
  some (nK (p1).toNatClampNeg)
set_option maxHeartbeats 4000000 in
set_option maxRecDepth 100000 in
theorem ok_fN_kindOf  {N : cN} {C : cC} {E : cE} {F : cF} {P : cP} {Q : cQ} {T : cT} {G : cG} {U : cU} {H : cH} {B : cB} {O : cO} {J : cJ} {V : cV} {Y : cY} {Z : cZ} {O9 : cO9} {k n : Nat} {p1 : Int32} {rv : Int32} (h : fN_kindOf N p1 = some rv) (D : Nat) (hD : 1 ≤ D) : am_Call D 28 [.ref 1, .int p1] (W9 N C E F P Q T G U H B O J V Y Z O9) k n (.inl (some (.int rv)), W9 N C E F P Q T G U H B O J V Y Z O9, k, n) := by
  unfold fN_kindOf at h
  obtain ⟨D, rfl⟩ : ∃ D', D = D' + 1 := ⟨D - 1, by omega⟩
  have hD : 0 ≤ D := by omega
  refine am_call_run (by decide) (by decide) rfl (Nat.le_of_ble_eq_true rfl) (by decide) (L := [(0, .ref 1), (1, .int p1)]) rfl ?_
  refine am_ev_st 2 (f' := am_br (p1 < 0) 22 1 [(0, .ref 1), (1, .int p1)] [] (W9 N C E F P Q T G U H B O J V Y Z O9) k n) (g := True ∧ True ∧ True) (by with_unfolding_all rfl) ⟨trivial, trivial, trivial⟩ ?_
  by_cases c1 : p1 < 0
  · rw [if_pos c1] at h
    refine am_ev_pos c1 ?_
    refine am_ev_st 1 (f' := (23, [(0, .ref 1), (1, .int p1)], [.int (-1 : Int32)], (W9 N C E F P Q T G U H B O J V Y Z O9), k, n)) (g := True ∧ True) (by with_unfolding_all rfl) ⟨trivial, trivial⟩ ?_
    cases h
    exact am_ev_ret 0 0 0 rfl .int rfl rfl rfl
  · rw [if_neg c1] at h
    refine am_ev_neg c1 ?_
    obtain ⟨nK, nL, nR, nS, nD, cap, mt, le, en⟩ := N
    try dsimp only at h
    refine am_ev_st 5 (f' := am_br ((Int32.ofNat cap) ≤ p1) 22 10 [(0, .ref 1), (1, .int p1)] [] (W9 (nK, nL, nR, nS, nD, cap, mt, le, en) C E F P Q T G U H B O J V Y Z O9) k n) (g := True ∧ True ∧ True ∧ True ∧ True ∧ True) (by with_unfolding_all rfl) ⟨trivial, trivial, trivial, trivial, trivial, trivial⟩ ?_
    by_cases c2 : (Int32.ofNat cap) ≤ p1
    · rw [if_pos c2] at h
      refine am_ev_pos c2 ?_
      refine am_ev_st 1 (f' := (23, [(0, .ref 1), (1, .int p1)], [.int (-1 : Int32)], (W9 (nK, nL, nR, nS, nD, cap, mt, le, en) C E F P Q T G U H B O J V Y Z O9), k, n)) (g := True ∧ True) (by with_unfolding_all rfl) ⟨trivial, trivial⟩ ?_
      cases h
      exact am_ev_ret 0 0 0 rfl .int rfl rfl rfl
    · rw [if_neg c2] at h
      refine am_ev_neg c2 ?_
      by_cases g3 : (p1 < 0 ∨ cap ≤ (p1).toNatClampNeg)
      · rw [if_pos g3] at h; cases h
      rw [if_neg g3] at h
      refine am_ev_st 5 (f' := (23, [(0, .ref 1), (1, .int p1)], [.int (nK (p1).toNatClampNeg)], (W9 (nK, nL, nR, nS, nD, cap, mt, le, en) C E F P Q T G U H B O J V Y Z O9), k, n)) (g := True ∧ True ∧ True ∧ vp_in (p1) cap ∧ True ∧ True) (by with_unfolding_all rfl) ⟨trivial, trivial, trivial, g3, trivial, trivial⟩ ?_
      cases h
      exact am_ev_ret 0 0 0 rfl .int rfl rfl rfl
def fN_leftOf (N : cN) (p1 : Int32) : Option (Int32) :=
  if p1 < 0 then
  (some (-1 : Int32))
  else
  match N with
  | (nK, nL, nR, nS, nD, cap, mt, le, en) =>
  if (Int32.ofNat cap) ≤ p1 then
  (some (-1 : Int32))
  else
  if (p1 < 0 ∨ cap ≤ (p1).toNatClampNeg) then none else
  some (nL (p1).toNatClampNeg)
set_option maxHeartbeats 4000000 in
set_option maxRecDepth 100000 in
theorem ok_fN_leftOf  {N : cN} {C : cC} {E : cE} {F : cF} {P : cP} {Q : cQ} {T : cT} {G : cG} {U : cU} {H : cH} {B : cB} {O : cO} {J : cJ} {V : cV} {Y : cY} {Z : cZ} {O9 : cO9} {k n : Nat} {p1 : Int32} {rv : Int32} (h : fN_leftOf N p1 = some rv) (D : Nat) (hD : 1 ≤ D) : am_Call D 29 [.ref 1, .int p1] (W9 N C E F P Q T G U H B O J V Y Z O9) k n (.inl (some (.int rv)), W9 N C E F P Q T G U H B O J V Y Z O9, k, n) := by
  unfold fN_leftOf at h
  obtain ⟨D, rfl⟩ : ∃ D', D = D' + 1 := ⟨D - 1, by omega⟩
  have hD : 0 ≤ D := by omega
  refine am_call_run (by decide) (by decide) rfl (Nat.le_of_ble_eq_true rfl) (by decide) (L := [(0, .ref 1), (1, .int p1)]) rfl ?_
  refine am_ev_st 2 (f' := am_br (p1 < 0) 22 1 [(0, .ref 1), (1, .int p1)] [] (W9 N C E F P Q T G U H B O J V Y Z O9) k n) (g := True ∧ True ∧ True) (by with_unfolding_all rfl) ⟨trivial, trivial, trivial⟩ ?_
  by_cases c1 : p1 < 0
  · rw [if_pos c1] at h
    refine am_ev_pos c1 ?_
    refine am_ev_st 1 (f' := (23, [(0, .ref 1), (1, .int p1)], [.int (-1 : Int32)], (W9 N C E F P Q T G U H B O J V Y Z O9), k, n)) (g := True ∧ True) (by with_unfolding_all rfl) ⟨trivial, trivial⟩ ?_
    cases h
    exact am_ev_ret 0 0 0 rfl .int rfl rfl rfl
  · rw [if_neg c1] at h
    refine am_ev_neg c1 ?_
    obtain ⟨nK, nL, nR, nS, nD, cap, mt, le, en⟩ := N
    try dsimp only at h
    refine am_ev_st 5 (f' := am_br ((Int32.ofNat cap) ≤ p1) 22 10 [(0, .ref 1), (1, .int p1)] [] (W9 (nK, nL, nR, nS, nD, cap, mt, le, en) C E F P Q T G U H B O J V Y Z O9) k n) (g := True ∧ True ∧ True ∧ True ∧ True ∧ True) (by with_unfolding_all rfl) ⟨trivial, trivial, trivial, trivial, trivial, trivial⟩ ?_
    by_cases c2 : (Int32.ofNat cap) ≤ p1
    · rw [if_pos c2] at h
      refine am_ev_pos c2 ?_
      refine am_ev_st 1 (f' := (23, [(0, .ref 1), (1, .int p1)], [.int (-1 : Int32)], (W9 (nK, nL, nR, nS, nD, cap, mt, le, en) C E F P Q T G U H B O J V Y Z O9), k, n)) (g := True ∧ True) (by with_unfolding_all rfl) ⟨trivial, trivial⟩ ?_
      cases h
      exact am_ev_ret 0 0 0 rfl .int rfl rfl rfl
    · rw [if_neg c2] at h
      refine am_ev_neg c2 ?_
      by_cases g3 : (p1 < 0 ∨ cap ≤ (p1).toNatClampNeg)
      · rw [if_pos g3] at h; cases h
      rw [if_neg g3] at h
      refine am_ev_st 5 (f' := (23, [(0, .ref 1), (1, .int p1)], [.int (nL (p1).toNatClampNeg)], (W9 (nK, nL, nR, nS, nD, cap, mt, le, en) C E F P Q T G U H B O J V Y Z O9), k, n)) (g := True ∧ True ∧ True ∧ vp_in (p1) cap ∧ True ∧ True) (by with_unfolding_all rfl) ⟨trivial, trivial, trivial, g3, trivial, trivial⟩ ?_
      cases h
      exact am_ev_ret 0 0 0 rfl .int rfl rfl rfl
def fN_rightOf (N : cN) (p1 : Int32) : Option (Int32) :=
  if p1 < 0 then
  (some (-1 : Int32))
  else
  match N with
  | (nK, nL, nR, nS, nD, cap, mt, le, en) =>
  if (Int32.ofNat cap) ≤ p1 then
  (some (-1 : Int32))
  else
  if (p1 < 0 ∨ cap ≤ (p1).toNatClampNeg) then none else
  some (nR (p1).toNatClampNeg)
set_option maxHeartbeats 4000000 in
set_option maxRecDepth 100000 in
theorem ok_fN_rightOf  {N : cN} {C : cC} {E : cE} {F : cF} {P : cP} {Q : cQ} {T : cT} {G : cG} {U : cU} {H : cH} {B : cB} {O : cO} {J : cJ} {V : cV} {Y : cY} {Z : cZ} {O9 : cO9} {k n : Nat} {p1 : Int32} {rv : Int32} (h : fN_rightOf N p1 = some rv) (D : Nat) (hD : 1 ≤ D) : am_Call D 30 [.ref 1, .int p1] (W9 N C E F P Q T G U H B O J V Y Z O9) k n (.inl (some (.int rv)), W9 N C E F P Q T G U H B O J V Y Z O9, k, n) := by
  unfold fN_rightOf at h
  obtain ⟨D, rfl⟩ : ∃ D', D = D' + 1 := ⟨D - 1, by omega⟩
  have hD : 0 ≤ D := by omega
  refine am_call_run (by decide) (by decide) rfl (Nat.le_of_ble_eq_true rfl) (by decide) (L := [(0, .ref 1), (1, .int p1)]) rfl ?_
  refine am_ev_st 2 (f' := am_br (p1 < 0) 22 1 [(0, .ref 1), (1, .int p1)] [] (W9 N C E F P Q T G U H B O J V Y Z O9) k n) (g := True ∧ True ∧ True) (by with_unfolding_all rfl) ⟨trivial, trivial, trivial⟩ ?_
  by_cases c1 : p1 < 0
  · rw [if_pos c1] at h
    refine am_ev_pos c1 ?_
    refine am_ev_st 1 (f' := (23, [(0, .ref 1), (1, .int p1)], [.int (-1 : Int32)], (W9 N C E F P Q T G U H B O J V Y Z O9), k, n)) (g := True ∧ True) (by with_unfolding_all rfl) ⟨trivial, trivial⟩ ?_
    cases h
    exact am_ev_ret 0 0 0 rfl .int rfl rfl rfl
  · rw [if_neg c1] at h
    refine am_ev_neg c1 ?_
    obtain ⟨nK, nL, nR, nS, nD, cap, mt, le, en⟩ := N
    try dsimp only at h
    refine am_ev_st 5 (f' := am_br ((Int32.ofNat cap) ≤ p1) 22 10 [(0, .ref 1), (1, .int p1)] [] (W9 (nK, nL, nR, nS, nD, cap, mt, le, en) C E F P Q T G U H B O J V Y Z O9) k n) (g := True ∧ True ∧ True ∧ True ∧ True ∧ True) (by with_unfolding_all rfl) ⟨trivial, trivial, trivial, trivial, trivial, trivial⟩ ?_
    by_cases c2 : (Int32.ofNat cap) ≤ p1
    · rw [if_pos c2] at h
      refine am_ev_pos c2 ?_
      refine am_ev_st 1 (f' := (23, [(0, .ref 1), (1, .int p1)], [.int (-1 : Int32)], (W9 (nK, nL, nR, nS, nD, cap, mt, le, en) C E F P Q T G U H B O J V Y Z O9), k, n)) (g := True ∧ True) (by with_unfolding_all rfl) ⟨trivial, trivial⟩ ?_
      cases h
      exact am_ev_ret 0 0 0 rfl .int rfl rfl rfl
    · rw [if_neg c2] at h
      refine am_ev_neg c2 ?_
      by_cases g3 : (p1 < 0 ∨ cap ≤ (p1).toNatClampNeg)
      · rw [if_pos g3] at h; cases h
      rw [if_neg g3] at h
      refine am_ev_st 5 (f' := (23, [(0, .ref 1), (1, .int p1)], [.int (nR (p1).toNatClampNeg)], (W9 (nK, nL, nR, nS, nD, cap, mt, le, en) C E F P Q T G U H B O J V Y Z O9), k, n)) (g := True ∧ True ∧ True ∧ vp_in (p1) cap ∧ True ∧ True) (by with_unfolding_all rfl) ⟨trivial, trivial, trivial, g3, trivial, trivial⟩ ?_
      cases h
      exact am_ev_ret 0 0 0 rfl .int rfl rfl rfl
def fN_sizeOf (N : cN) (p1 : Int32) : Option (Int32) :=
  if p1 < 0 then
  (some (-1 : Int32))
  else
  match N with
  | (nK, nL, nR, nS, nD, cap, mt, le, en) =>
  if (Int32.ofNat cap) ≤ p1 then
  (some (-1 : Int32))
  else
  if (p1 < 0 ∨ cap ≤ (p1).toNatClampNeg) then none else
  some (nS (p1).toNatClampNeg)
set_option maxHeartbeats 4000000 in
set_option maxRecDepth 100000 in
theorem ok_fN_sizeOf  {N : cN} {C : cC} {E : cE} {F : cF} {P : cP} {Q : cQ} {T : cT} {G : cG} {U : cU} {H : cH} {B : cB} {O : cO} {J : cJ} {V : cV} {Y : cY} {Z : cZ} {O9 : cO9} {k n : Nat} {p1 : Int32} {rv : Int32} (h : fN_sizeOf N p1 = some rv) (D : Nat) (hD : 1 ≤ D) : am_Call D 31 [.ref 1, .int p1] (W9 N C E F P Q T G U H B O J V Y Z O9) k n (.inl (some (.int rv)), W9 N C E F P Q T G U H B O J V Y Z O9, k, n) := by
  unfold fN_sizeOf at h
  obtain ⟨D, rfl⟩ : ∃ D', D = D' + 1 := ⟨D - 1, by omega⟩
  have hD : 0 ≤ D := by omega
  refine am_call_run (by decide) (by decide) rfl (Nat.le_of_ble_eq_true rfl) (by decide) (L := [(0, .ref 1), (1, .int p1)]) rfl ?_
  refine am_ev_st 2 (f' := am_br (p1 < 0) 22 1 [(0, .ref 1), (1, .int p1)] [] (W9 N C E F P Q T G U H B O J V Y Z O9) k n) (g := True ∧ True ∧ True) (by with_unfolding_all rfl) ⟨trivial, trivial, trivial⟩ ?_
  by_cases c1 : p1 < 0
  · rw [if_pos c1] at h
    refine am_ev_pos c1 ?_
    refine am_ev_st 1 (f' := (23, [(0, .ref 1), (1, .int p1)], [.int (-1 : Int32)], (W9 N C E F P Q T G U H B O J V Y Z O9), k, n)) (g := True ∧ True) (by with_unfolding_all rfl) ⟨trivial, trivial⟩ ?_
    cases h
    exact am_ev_ret 0 0 0 rfl .int rfl rfl rfl
  · rw [if_neg c1] at h
    refine am_ev_neg c1 ?_
    obtain ⟨nK, nL, nR, nS, nD, cap, mt, le, en⟩ := N
    try dsimp only at h
    refine am_ev_st 5 (f' := am_br ((Int32.ofNat cap) ≤ p1) 22 10 [(0, .ref 1), (1, .int p1)] [] (W9 (nK, nL, nR, nS, nD, cap, mt, le, en) C E F P Q T G U H B O J V Y Z O9) k n) (g := True ∧ True ∧ True ∧ True ∧ True ∧ True) (by with_unfolding_all rfl) ⟨trivial, trivial, trivial, trivial, trivial, trivial⟩ ?_
    by_cases c2 : (Int32.ofNat cap) ≤ p1
    · rw [if_pos c2] at h
      refine am_ev_pos c2 ?_
      refine am_ev_st 1 (f' := (23, [(0, .ref 1), (1, .int p1)], [.int (-1 : Int32)], (W9 (nK, nL, nR, nS, nD, cap, mt, le, en) C E F P Q T G U H B O J V Y Z O9), k, n)) (g := True ∧ True) (by with_unfolding_all rfl) ⟨trivial, trivial⟩ ?_
      cases h
      exact am_ev_ret 0 0 0 rfl .int rfl rfl rfl
    · rw [if_neg c2] at h
      refine am_ev_neg c2 ?_
      by_cases g3 : (p1 < 0 ∨ cap ≤ (p1).toNatClampNeg)
      · rw [if_pos g3] at h; cases h
      rw [if_neg g3] at h
      refine am_ev_st 5 (f' := (23, [(0, .ref 1), (1, .int p1)], [.int (nS (p1).toNatClampNeg)], (W9 (nK, nL, nR, nS, nD, cap, mt, le, en) C E F P Q T G U H B O J V Y Z O9), k, n)) (g := True ∧ True ∧ True ∧ vp_in (p1) cap ∧ True ∧ True) (by with_unfolding_all rfl) ⟨trivial, trivial, trivial, g3, trivial, trivial⟩ ?_
      cases h
      exact am_ev_ret 0 0 0 rfl .int rfl rfl rfl
def fN_depthOf (N : cN) (p1 : Int32) : Option (Int32) :=
  if p1 < 0 then
  (some (-1 : Int32))
  else
  match N with
  | (nK, nL, nR, nS, nD, cap, mt, le, en) =>
  if (Int32.ofNat cap) ≤ p1 then
  (some (-1 : Int32))
  else
  if (p1 < 0 ∨ cap ≤ (p1).toNatClampNeg) then none else
  some (nD (p1).toNatClampNeg)
set_option maxHeartbeats 4000000 in
set_option maxRecDepth 100000 in
theorem ok_fN_depthOf  {N : cN} {C : cC} {E : cE} {F : cF} {P : cP} {Q : cQ} {T : cT} {G : cG} {U : cU} {H : cH} {B : cB} {O : cO} {J : cJ} {V : cV} {Y : cY} {Z : cZ} {O9 : cO9} {k n : Nat} {p1 : Int32} {rv : Int32} (h : fN_depthOf N p1 = some rv) (D : Nat) (hD : 1 ≤ D) : am_Call D 32 [.ref 1, .int p1] (W9 N C E F P Q T G U H B O J V Y Z O9) k n (.inl (some (.int rv)), W9 N C E F P Q T G U H B O J V Y Z O9, k, n) := by
  unfold fN_depthOf at h
  obtain ⟨D, rfl⟩ : ∃ D', D = D' + 1 := ⟨D - 1, by omega⟩
  have hD : 0 ≤ D := by omega
  refine am_call_run (by decide) (by decide) rfl (Nat.le_of_ble_eq_true rfl) (by decide) (L := [(0, .ref 1), (1, .int p1)]) rfl ?_
  refine am_ev_st 2 (f' := am_br (p1 < 0) 22 1 [(0, .ref 1), (1, .int p1)] [] (W9 N C E F P Q T G U H B O J V Y Z O9) k n) (g := True ∧ True ∧ True) (by with_unfolding_all rfl) ⟨trivial, trivial, trivial⟩ ?_
  by_cases c1 : p1 < 0
  · rw [if_pos c1] at h
    refine am_ev_pos c1 ?_
    refine am_ev_st 1 (f' := (23, [(0, .ref 1), (1, .int p1)], [.int (-1 : Int32)], (W9 N C E F P Q T G U H B O J V Y Z O9), k, n)) (g := True ∧ True) (by with_unfolding_all rfl) ⟨trivial, trivial⟩ ?_
    cases h
    exact am_ev_ret 0 0 0 rfl .int rfl rfl rfl
  · rw [if_neg c1] at h
    refine am_ev_neg c1 ?_
    obtain ⟨nK, nL, nR, nS, nD, cap, mt, le, en⟩ := N
    try dsimp only at h
    refine am_ev_st 5 (f' := am_br ((Int32.ofNat cap) ≤ p1) 22 10 [(0, .ref 1), (1, .int p1)] [] (W9 (nK, nL, nR, nS, nD, cap, mt, le, en) C E F P Q T G U H B O J V Y Z O9) k n) (g := True ∧ True ∧ True ∧ True ∧ True ∧ True) (by with_unfolding_all rfl) ⟨trivial, trivial, trivial, trivial, trivial, trivial⟩ ?_
    by_cases c2 : (Int32.ofNat cap) ≤ p1
    · rw [if_pos c2] at h
      refine am_ev_pos c2 ?_
      refine am_ev_st 1 (f' := (23, [(0, .ref 1), (1, .int p1)], [.int (-1 : Int32)], (W9 (nK, nL, nR, nS, nD, cap, mt, le, en) C E F P Q T G U H B O J V Y Z O9), k, n)) (g := True ∧ True) (by with_unfolding_all rfl) ⟨trivial, trivial⟩ ?_
      cases h
      exact am_ev_ret 0 0 0 rfl .int rfl rfl rfl
    · rw [if_neg c2] at h
      refine am_ev_neg c2 ?_
      by_cases g3 : (p1 < 0 ∨ cap ≤ (p1).toNatClampNeg)
      · rw [if_pos g3] at h; cases h
      rw [if_neg g3] at h
      refine am_ev_st 5 (f' := (23, [(0, .ref 1), (1, .int p1)], [.int (nD (p1).toNatClampNeg)], (W9 (nK, nL, nR, nS, nD, cap, mt, le, en) C E F P Q T G U H B O J V Y Z O9), k, n)) (g := True ∧ True ∧ True ∧ vp_in (p1) cap ∧ True ∧ True) (by with_unfolding_all rfl) ⟨trivial, trivial, trivial, g3, trivial, trivial⟩ ?_
      cases h
      exact am_ev_ret 0 0 0 rfl .int rfl rfl rfl
def fJ_term (N : cN) (p1 p2 : Int32) : Option (Int32) :=
  (fN_isTerm N p1).bind fun z1 =>
  match z1 with
  | (r1) =>
  if (am_bz r1) ≠ 0 then
  (if p2 = (0 : Int32) then
  ((fN_kindOf N p1).bind fun z4 =>
  match z4 with
  | (r4) =>
  some r4)
  else
  if p2 = (1 : Int32) then
  ((fN_leftOf N p1).bind fun z6 =>
  match z6 with
  | (r6) =>
  some r6)
  else
  if p2 = (2 : Int32) then
  ((fN_rightOf N p1).bind fun z8 =>
  match z8 with
  | (r8) =>
  some r8)
  else
  if p2 = (3 : Int32) then
  ((fN_sizeOf N p1).bind fun z10 =>
  match z10 with
  | (r10) =>
  some r10)
  else
  if p2 = (4 : Int32) then
  ((fN_depthOf N p1).bind fun z12 =>
  match z12 with
  | (r12) =>
  some r12)
  else
  some (-1 : Int32))
  else
  some (-1 : Int32)
set_option maxHeartbeats 4000000 in
set_option maxRecDepth 100000 in
theorem ok_fJ_term  {N : cN} {C : cC} {E : cE} {F : cF} {P : cP} {Q : cQ} {T : cT} {G : cG} {U : cU} {H : cH} {B : cB} {O : cO} {J : cJ} {V : cV} {Y : cY} {Z : cZ} {O9 : cO9} {k n : Nat} {p1 p2 : Int32} {rv : Int32} (h : fJ_term N p1 p2 = some rv) (D : Nat) (hD : 2 ≤ D) : am_Call D 58 [.ref 0, .int p1, .int p2] (W9 N C E F P Q T G U H B O J V Y Z O9) k n (.inl (some (.int rv)), W9 N C E F P Q T G U H B O J V Y Z O9, k, n) := by
  unfold fJ_term at h
  obtain ⟨D, rfl⟩ : ∃ D', D = D' + 1 := ⟨D - 1, by omega⟩
  have hD : 1 ≤ D := by omega
  refine am_call_run (by decide) (by decide) rfl (Nat.le_of_ble_eq_true rfl) (by decide) (L := [(0, .ref 0), (1, .int p1), (2, .int p2)]) rfl ?_
  refine am_ev_st 3 (f' := (5, [(0, .ref 0), (1, .int p1), (2, .int p2)], [.int p1, .ref 1], (W9 N C E F P Q T G U H B O J V Y Z O9), k, n)) (g := True ∧ True ∧ True ∧ True) (by with_unfolding_all rfl) ⟨trivial, trivial, trivial, trivial⟩ ?_
  replace h := Option.bind_eq_some_iff.mp h
  obtain ⟨r1, hc1, h⟩ := h
  try dsimp only at h
  refine am_ev_call (.invokevirtual 67) 27 2 223 [.ref 1, .int p1] [] rfl rfl rfl rfl (ok_fN_isTerm hc1 D (by omega)) rfl ?_
  refine am_ev_st 1 (f' := am_br ((am_bz r1) ≠ 0) 13 8 [(0, .ref 0), (1, .int p1), (2, .int p2)] [] (W9 N C E F P Q T G U H B O J V Y Z O9) k n) (g := True ∧ True) (by with_unfolding_all rfl) ⟨trivial, trivial⟩ ?_
  by_cases c2 : (am_bz r1) ≠ 0
  · rw [if_pos c2] at h
    refine am_ev_pos c2 ?_
    refine am_ev_st 2 (f' := ((am_tg [(0, 48), (1, 57), (2, 66), (3, 75), (4, 84)] 93 p2), [(0, .ref 0), (1, .int p1), (2, .int p2)], [], (W9 N C E F P Q T G U H B O J V Y Z O9), k, n)) (g := True ∧ True ∧ True) (by with_unfolding_all rfl) ⟨trivial, trivial, trivial⟩ ?_
    by_cases c3 : p2 = (0 : Int32)
    · rw [if_pos c3] at h
      refine am_ev_sweq c3 ?_
      refine am_ev_st 3 (f' := (53, [(0, .ref 0), (1, .int p1), (2, .int p2)], [.int p1, .ref 1], (W9 N C E F P Q T G U H B O J V Y Z O9), k, n)) (g := True ∧ True ∧ True ∧ True) (by with_unfolding_all rfl) ⟨trivial, trivial, trivial, trivial⟩ ?_
      replace h := Option.bind_eq_some_iff.mp h
      obtain ⟨r4, hc4, h⟩ := h
      try dsimp only at h
      refine am_ev_call (.invokevirtual 70) 28 2 262 [.ref 1, .int p1] [] rfl rfl rfl rfl (ok_fN_kindOf hc4 D (by omega)) rfl ?_
      cases h
      exact am_ev_ret 0 0 0 rfl .int rfl rfl rfl
    rw [if_neg c3] at h
    refine am_ev_swne c3 ?_
    by_cases c5 : p2 = (1 : Int32)
    · rw [if_pos c5] at h
      refine am_ev_sweq c5 ?_
      refine am_ev_st 3 (f' := (62, [(0, .ref 0), (1, .int p1), (2, .int p2)], [.int p1, .ref 1], (W9 N C E F P Q T G U H B O J V Y Z O9), k, n)) (g := True ∧ True ∧ True ∧ True) (by with_unfolding_all rfl) ⟨trivial, trivial, trivial, trivial⟩ ?_
      replace h := Option.bind_eq_some_iff.mp h
      obtain ⟨r6, hc6, h⟩ := h
      try dsimp only at h
      refine am_ev_call (.invokevirtual 74) 29 2 266 [.ref 1, .int p1] [] rfl rfl rfl rfl (ok_fN_leftOf hc6 D (by omega)) rfl ?_
      cases h
      exact am_ev_ret 0 0 0 rfl .int rfl rfl rfl
    rw [if_neg c5] at h
    refine am_ev_swne c5 ?_
    by_cases c7 : p2 = (2 : Int32)
    · rw [if_pos c7] at h
      refine am_ev_sweq c7 ?_
      refine am_ev_st 3 (f' := (71, [(0, .ref 0), (1, .int p1), (2, .int p2)], [.int p1, .ref 1], (W9 N C E F P Q T G U H B O J V Y Z O9), k, n)) (g := True ∧ True ∧ True ∧ True) (by with_unfolding_all rfl) ⟨trivial, trivial, trivial, trivial⟩ ?_
      replace h := Option.bind_eq_some_iff.mp h
      obtain ⟨r8, hc8, h⟩ := h
      try dsimp only at h
      refine am_ev_call (.invokevirtual 77) 30 2 270 [.ref 1, .int p1] [] rfl rfl rfl rfl (ok_fN_rightOf hc8 D (by omega)) rfl ?_
      cases h
      exact am_ev_ret 0 0 0 rfl .int rfl rfl rfl
    rw [if_neg c7] at h
    refine am_ev_swne c7 ?_
    by_cases c9 : p2 = (3 : Int32)
    · rw [if_pos c9] at h
      refine am_ev_sweq c9 ?_
      refine am_ev_st 3 (f' := (80, [(0, .ref 0), (1, .int p1), (2, .int p2)], [.int p1, .ref 1], (W9 N C E F P Q T G U H B O J V Y Z O9), k, n)) (g := True ∧ True ∧ True ∧ True) (by with_unfolding_all rfl) ⟨trivial, trivial, trivial, trivial⟩ ?_
      replace h := Option.bind_eq_some_iff.mp h
      obtain ⟨r10, hc10, h⟩ := h
      try dsimp only at h
      refine am_ev_call (.invokevirtual 80) 31 2 274 [.ref 1, .int p1] [] rfl rfl rfl rfl (ok_fN_sizeOf hc10 D (by omega)) rfl ?_
      cases h
      exact am_ev_ret 0 0 0 rfl .int rfl rfl rfl
    rw [if_neg c9] at h
    refine am_ev_swne c9 ?_
    by_cases c11 : p2 = (4 : Int32)
    · rw [if_pos c11] at h
      refine am_ev_sweq c11 ?_
      refine am_ev_st 3 (f' := (89, [(0, .ref 0), (1, .int p1), (2, .int p2)], [.int p1, .ref 1], (W9 N C E F P Q T G U H B O J V Y Z O9), k, n)) (g := True ∧ True ∧ True ∧ True) (by with_unfolding_all rfl) ⟨trivial, trivial, trivial, trivial⟩ ?_
      replace h := Option.bind_eq_some_iff.mp h
      obtain ⟨r12, hc12, h⟩ := h
      try dsimp only at h
      refine am_ev_call (.invokevirtual 83) 32 2 275 [.ref 1, .int p1] [] rfl rfl rfl rfl (ok_fN_depthOf hc12 D (by omega)) rfl ?_
      cases h
      exact am_ev_ret 0 0 0 rfl .int rfl rfl rfl
    rw [if_neg c11] at h
    refine am_ev_swne c11 ?_
    refine am_ev_sw0 ?_
    refine am_ev_st 1 (f' := (94, [(0, .ref 0), (1, .int p1), (2, .int p2)], [.int (-1 : Int32)], (W9 N C E F P Q T G U H B O J V Y Z O9), k, n)) (g := True ∧ True) (by with_unfolding_all rfl) ⟨trivial, trivial⟩ ?_
    cases h
    exact am_ev_ret 0 0 0 rfl .int rfl rfl rfl
  · rw [if_neg c2] at h
    refine am_ev_neg c2 ?_
    refine am_ev_st 1 (f' := (12, [(0, .ref 0), (1, .int p1), (2, .int p2)], [.int (-1 : Int32)], (W9 N C E F P Q T G U H B O J V Y Z O9), k, n)) (g := True ∧ True) (by with_unfolding_all rfl) ⟨trivial, trivial⟩ ?_
    cases h
    exact am_ev_ret 0 0 0 rfl .int rfl rfl rfl
end
section
def fC_count (C : cC) : Option (Int32) :=
  match C with
  | (ct, cb, cm) =>
  some cm
set_option maxHeartbeats 4000000 in
set_option maxRecDepth 100000 in
theorem ok_fC_count  {N : cN} {C : cC} {E : cE} {F : cF} {P : cP} {Q : cQ} {T : cT} {G : cG} {U : cU} {H : cH} {B : cB} {O : cO} {J : cJ} {V : cV} {Y : cY} {Z : cZ} {O9 : cO9} {k n : Nat} {rv : Int32} (h : fC_count C = some rv) (D : Nat) (hD : 1 ≤ D) : am_Call D 1 [.ref 7] (W9 N C E F P Q T G U H B O J V Y Z O9) k n (.inl (some (.int rv)), W9 N C E F P Q T G U H B O J V Y Z O9, k, n) := by
  unfold fC_count at h
  obtain ⟨D, rfl⟩ : ∃ D', D = D' + 1 := ⟨D - 1, by omega⟩
  have hD : 0 ≤ D := by omega
  refine am_call_run (by decide) (by decide) rfl (Nat.le_of_ble_eq_true rfl) (by decide) (L := [(0, .ref 7)]) rfl ?_
  obtain ⟨ct, cb, cm⟩ := C
  try dsimp only at h
  refine am_ev_st 2 (f' := (4, [(0, .ref 7)], [.int cm], (W9 N (ct, cb, cm) E F P Q T G U H B O J V Y Z O9), k, n)) (g := True ∧ True ∧ True) (by with_unfolding_all rfl) ⟨trivial, trivial, trivial⟩ ?_
  cases h
  exact am_ev_ret 0 0 0 rfl .int rfl rfl rfl
def fJ_constants (C : cC) : Option (Int32) :=
  (fC_count C).bind fun z1 =>
  match z1 with
  | (r1) =>
  some r1
set_option maxHeartbeats 4000000 in
set_option maxRecDepth 100000 in
theorem ok_fJ_constants  {N : cN} {C : cC} {E : cE} {F : cF} {P : cP} {Q : cQ} {T : cT} {G : cG} {U : cU} {H : cH} {B : cB} {O : cO} {J : cJ} {V : cV} {Y : cY} {Z : cZ} {O9 : cO9} {k n : Nat} {rv : Int32} (h : fJ_constants C = some rv) (D : Nat) (hD : 2 ≤ D) : am_Call D 65 [.ref 0] (W9 N C E F P Q T G U H B O J V Y Z O9) k n (.inl (some (.int rv)), W9 N C E F P Q T G U H B O J V Y Z O9, k, n) := by
  unfold fJ_constants at h
  obtain ⟨D, rfl⟩ : ∃ D', D = D' + 1 := ⟨D - 1, by omega⟩
  have hD : 1 ≤ D := by omega
  refine am_call_run (by decide) (by decide) rfl (Nat.le_of_ble_eq_true rfl) (by decide) (L := [(0, .ref 0)]) rfl ?_
  refine am_ev_st 2 (f' := (4, [(0, .ref 0)], [.ref 7], (W9 N C E F P Q T G U H B O J V Y Z O9), k, n)) (g := True ∧ True ∧ True) (by with_unfolding_all rfl) ⟨trivial, trivial, trivial⟩ ?_
  replace h := Option.bind_eq_some_iff.mp h
  obtain ⟨r1, hc1, h⟩ := h
  try dsimp only at h
  refine am_ev_call (.invokevirtual 125) 1 0 280 [.ref 7] [] rfl rfl rfl rfl (ok_fC_count hc1 D (by omega)) rfl ?_
  cases h
  exact am_ev_ret 0 0 0 rfl .int rfl rfl rfl
def fC_bodyAt (C : cC) (p1 : Int32) : Option (Int32) :=
  (fC_isThere C p1).bind fun z1 =>
  match z1 with
  | (r1) =>
  if (am_bz r1) = 0 then
  (some (-1 : Int32))
  else
  match C with
  | (ct, cb, cm) =>
  if (p1 < 0 ∨ 16 ≤ (p1).toNatClampNeg) then none else
  some (cb (p1).toNatClampNeg)
set_option maxHeartbeats 4000000 in
set_option maxRecDepth 100000 in
theorem ok_fC_bodyAt  {N : cN} {C : cC} {E : cE} {F : cF} {P : cP} {Q : cQ} {T : cT} {G : cG} {U : cU} {H : cH} {B : cB} {O : cO} {J : cJ} {V : cV} {Y : cY} {Z : cZ} {O9 : cO9} {k n : Nat} {p1 : Int32} {rv : Int32} (h : fC_bodyAt C p1 = some rv) (D : Nat) (hD : 2 ≤ D) : am_Call D 5 [.ref 7, .int p1] (W9 N C E F P Q T G U H B O J V Y Z O9) k n (.inl (some (.int rv)), W9 N C E F P Q T G U H B O J V Y Z O9, k, n) := by
  unfold fC_bodyAt at h
  obtain ⟨D, rfl⟩ : ∃ D', D = D' + 1 := ⟨D - 1, by omega⟩
  have hD : 1 ≤ D := by omega
  refine am_call_run (by decide) (by decide) rfl (Nat.le_of_ble_eq_true rfl) (by decide) (L := [(0, .ref 7), (1, .int p1)]) rfl ?_
  refine am_ev_st 2 (f' := (2, [(0, .ref 7), (1, .int p1)], [.int p1, .ref 7], (W9 N C E F P Q T G U H B O J V Y Z O9), k, n)) (g := True ∧ True ∧ True) (by with_unfolding_all rfl) ⟨trivial, trivial, trivial⟩ ?_
  replace h := Option.bind_eq_some_iff.mp h
  obtain ⟨r1, hc1, h⟩ := h
  try dsimp only at h
  refine am_ev_call (.invokevirtual 22) 3 2 292 [.ref 7, .int p1] [] rfl rfl rfl rfl (ok_fC_isThere hc1 D (by omega)) rfl ?_
  refine am_ev_st 1 (f' := am_br ((am_bz r1) = 0) 17 5 [(0, .ref 7), (1, .int p1)] [] (W9 N C E F P Q T G U H B O J V Y Z O9) k n) (g := True ∧ True) (by with_unfolding_all rfl) ⟨trivial, trivial⟩ ?_
  by_cases c2 : (am_bz r1) = 0
  · rw [if_pos c2] at h
    refine am_ev_pos c2 ?_
    refine am_ev_st 1 (f' := (18, [(0, .ref 7), (1, .int p1)], [.int (-1 : Int32)], (W9 N C E F P Q T G U H B O J V Y Z O9), k, n)) (g := True ∧ True) (by with_unfolding_all rfl) ⟨trivial, trivial⟩ ?_
    cases h
    exact am_ev_ret 0 0 0 rfl .int rfl rfl rfl
  · rw [if_neg c2] at h
    refine am_ev_neg c2 ?_
    obtain ⟨ct, cb, cm⟩ := C
    try dsimp only at h
    by_cases g3 : (p1 < 0 ∨ 16 ≤ (p1).toNatClampNeg)
    · rw [if_pos g3] at h; cases h
    rw [if_neg g3] at h
    refine am_ev_st 5 (f' := (18, [(0, .ref 7), (1, .int p1)], [.int (cb (p1).toNatClampNeg)], (W9 N (ct, cb, cm) E F P Q T G U H B O J V Y Z O9), k, n)) (g := True ∧ True ∧ True ∧ vp_in (p1) 16 ∧ True ∧ True) (by with_unfolding_all rfl) ⟨trivial, trivial, trivial, g3, trivial, trivial⟩ ?_
    cases h
    exact am_ev_ret 0 0 0 rfl .int rfl rfl rfl
def fJ_hasBody (C : cC) (p1 : Int32) : Option (Bool) :=
  (fC_bodyAt C p1).bind fun z1 =>
  match z1 with
  | (r1) =>
  if r1 = (-1 : Int32) then
  (some false)
  else
  some true
set_option maxHeartbeats 4000000 in
set_option maxRecDepth 100000 in
theorem ok_fJ_hasBody  {N : cN} {C : cC} {E : cE} {F : cF} {P : cP} {Q : cQ} {T : cT} {G : cG} {U : cU} {H : cH} {B : cB} {O : cO} {J : cJ} {V : cV} {Y : cY} {Z : cZ} {O9 : cO9} {k n : Nat} {p1 : Int32} {rv : Bool} (h : fJ_hasBody C p1 = some rv) (D : Nat) (hD : 3 ≤ D) : am_Call D 66 [.ref 0, .int p1] (W9 N C E F P Q T G U H B O J V Y Z O9) k n (.inl (some (.int (am_bz rv))), W9 N C E F P Q T G U H B O J V Y Z O9, k, n) := by
  unfold fJ_hasBody at h
  obtain ⟨D, rfl⟩ : ∃ D', D = D' + 1 := ⟨D - 1, by omega⟩
  have hD : 2 ≤ D := by omega
  refine am_call_run (by decide) (by decide) rfl (Nat.le_of_ble_eq_true rfl) (by decide) (L := [(0, .ref 0), (1, .int p1)]) rfl ?_
  refine am_ev_st 3 (f' := (5, [(0, .ref 0), (1, .int p1)], [.int p1, .ref 7], (W9 N C E F P Q T G U H B O J V Y Z O9), k, n)) (g := True ∧ True ∧ True ∧ True) (by with_unfolding_all rfl) ⟨trivial, trivial, trivial, trivial⟩ ?_
  replace h := Option.bind_eq_some_iff.mp h
  obtain ⟨r1, hc1, h⟩ := h
  try dsimp only at h
  refine am_ev_call (.invokevirtual 128) 5 2 288 [.ref 7, .int p1] [] rfl rfl rfl rfl (ok_fC_bodyAt hc1 D (by omega)) rfl ?_
  refine am_ev_st 2 (f' := am_br (r1 = (-1 : Int32)) 16 9 [(0, .ref 0), (1, .int p1)] [] (W9 N C E F P Q T G U H B O J V Y Z O9) k n) (g := True ∧ True ∧ True) (by with_unfolding_all rfl) ⟨trivial, trivial, trivial⟩ ?_
  by_cases c2 : r1 = (-1 : Int32)
  · rw [if_pos c2] at h
    refine am_ev_pos c2 ?_
    refine am_ev_st 1 (f' := (17, [(0, .ref 0), (1, .int p1)], [.int (0 : Int32)], (W9 N C E F P Q T G U H B O J V Y Z O9), k, n)) (g := True ∧ True) (by with_unfolding_all rfl) ⟨trivial, trivial⟩ ?_
    cases h
    exact am_ev_ret 0 0 0 rfl .boolean rfl am_n0 rfl
  · rw [if_neg c2] at h
    refine am_ev_neg c2 ?_
    refine am_ev_st 2 (f' := (17, [(0, .ref 0), (1, .int p1)], [.int (1 : Int32)], (W9 N C E F P Q T G U H B O J V Y Z O9), k, n)) (g := True ∧ True ∧ True) (by with_unfolding_all rfl) ⟨trivial, trivial, trivial⟩ ?_
    cases h
    exact am_ev_ret 0 0 0 rfl .boolean rfl am_n1 rfl
def fC_typeAt (C : cC) (p1 : Int32) : Option (Int32) :=
  (fC_isThere C p1).bind fun z1 =>
  match z1 with
  | (r1) =>
  if (am_bz r1) = 0 then
  (some (-1 : Int32))
  else
  match C with
  | (ct, cb, cm) =>
  if (p1 < 0 ∨ 16 ≤ (p1).toNatClampNeg) then none else
  some (ct (p1).toNatClampNeg)
set_option maxHeartbeats 4000000 in
set_option maxRecDepth 100000 in
theorem ok_fC_typeAt  {N : cN} {C : cC} {E : cE} {F : cF} {P : cP} {Q : cQ} {T : cT} {G : cG} {U : cU} {H : cH} {B : cB} {O : cO} {J : cJ} {V : cV} {Y : cY} {Z : cZ} {O9 : cO9} {k n : Nat} {p1 : Int32} {rv : Int32} (h : fC_typeAt C p1 = some rv) (D : Nat) (hD : 2 ≤ D) : am_Call D 4 [.ref 7, .int p1] (W9 N C E F P Q T G U H B O J V Y Z O9) k n (.inl (some (.int rv)), W9 N C E F P Q T G U H B O J V Y Z O9, k, n) := by
  unfold fC_typeAt at h
  obtain ⟨D, rfl⟩ : ∃ D', D = D' + 1 := ⟨D - 1, by omega⟩
  have hD : 1 ≤ D := by omega
  refine am_call_run (by decide) (by decide) rfl (Nat.le_of_ble_eq_true rfl) (by decide) (L := [(0, .ref 7), (1, .int p1)]) rfl ?_
  refine am_ev_st 2 (f' := (2, [(0, .ref 7), (1, .int p1)], [.int p1, .ref 7], (W9 N C E F P Q T G U H B O J V Y Z O9), k, n)) (g := True ∧ True ∧ True) (by with_unfolding_all rfl) ⟨trivial, trivial, trivial⟩ ?_
  replace h := Option.bind_eq_some_iff.mp h
  obtain ⟨r1, hc1, h⟩ := h
  try dsimp only at h
  refine am_ev_call (.invokevirtual 22) 3 2 292 [.ref 7, .int p1] [] rfl rfl rfl rfl (ok_fC_isThere hc1 D (by omega)) rfl ?_
  refine am_ev_st 1 (f' := am_br ((am_bz r1) = 0) 17 5 [(0, .ref 7), (1, .int p1)] [] (W9 N C E F P Q T G U H B O J V Y Z O9) k n) (g := True ∧ True) (by with_unfolding_all rfl) ⟨trivial, trivial⟩ ?_
  by_cases c2 : (am_bz r1) = 0
  · rw [if_pos c2] at h
    refine am_ev_pos c2 ?_
    refine am_ev_st 1 (f' := (18, [(0, .ref 7), (1, .int p1)], [.int (-1 : Int32)], (W9 N C E F P Q T G U H B O J V Y Z O9), k, n)) (g := True ∧ True) (by with_unfolding_all rfl) ⟨trivial, trivial⟩ ?_
    cases h
    exact am_ev_ret 0 0 0 rfl .int rfl rfl rfl
  · rw [if_neg c2] at h
    refine am_ev_neg c2 ?_
    obtain ⟨ct, cb, cm⟩ := C
    try dsimp only at h
    by_cases g3 : (p1 < 0 ∨ 16 ≤ (p1).toNatClampNeg)
    · rw [if_pos g3] at h; cases h
    rw [if_neg g3] at h
    refine am_ev_st 5 (f' := (18, [(0, .ref 7), (1, .int p1)], [.int (ct (p1).toNatClampNeg)], (W9 N (ct, cb, cm) E F P Q T G U H B O J V Y Z O9), k, n)) (g := True ∧ True ∧ True ∧ vp_in (p1) 16 ∧ True ∧ True) (by with_unfolding_all rfl) ⟨trivial, trivial, trivial, g3, trivial, trivial⟩ ?_
    cases h
    exact am_ev_ret 0 0 0 rfl .int rfl rfl rfl
def fJ_typeOf (C : cC) (p1 : Int32) : Option (Int32) :=
  (fC_isThere C p1).bind fun z1 =>
  match z1 with
  | (r1) =>
  if (am_bz r1) ≠ 0 then
  ((fC_typeAt C p1).bind fun z3 =>
  match z3 with
  | (r3) =>
  none)
  else
  some (-1 : Int32)
set_option maxHeartbeats 4000000 in
set_option maxRecDepth 100000 in
theorem ok_fJ_typeOf  {N : cN} {C : cC} {E : cE} {F : cF} {P : cP} {Q : cQ} {T : cT} {G : cG} {U : cU} {H : cH} {B : cB} {O : cO} {J : cJ} {V : cV} {Y : cY} {Z : cZ} {O9 : cO9} {k n : Nat} {p1 : Int32} {rv : Int32} (h : fJ_typeOf C p1 = some rv) (D : Nat) (hD : 3 ≤ D) : am_Call D 67 [.ref 0, .int p1] (W9 N C E F P Q T G U H B O J V Y Z O9) k n (.inl (some (.int rv)), W9 N C E F P Q T G U H B O J V Y Z O9, k, n) := by
  unfold fJ_typeOf at h
  obtain ⟨D, rfl⟩ : ∃ D', D = D' + 1 := ⟨D - 1, by omega⟩
  have hD : 2 ≤ D := by omega
  refine am_call_run (by decide) (by decide) rfl (Nat.le_of_ble_eq_true rfl) (by decide) (L := [(0, .ref 0), (1, .int p1)]) rfl ?_
  refine am_ev_st 3 (f' := (5, [(0, .ref 0), (1, .int p1)], [.int p1, .ref 7], (W9 N C E F P Q T G U H B O J V Y Z O9), k, n)) (g := True ∧ True ∧ True ∧ True) (by with_unfolding_all rfl) ⟨trivial, trivial, trivial, trivial⟩ ?_
  replace h := Option.bind_eq_some_iff.mp h
  obtain ⟨r1, hc1, h⟩ := h
  try dsimp only at h
  refine am_ev_call (.invokevirtual 131) 3 2 216 [.ref 7, .int p1] [] rfl rfl rfl rfl (ok_fC_isThere hc1 D (by omega)) rfl ?_
  refine am_ev_st 1 (f' := am_br ((am_bz r1) ≠ 0) 13 8 [(0, .ref 0), (1, .int p1)] [] (W9 N C E F P Q T G U H B O J V Y Z O9) k n) (g := True ∧ True) (by with_unfolding_all rfl) ⟨trivial, trivial⟩ ?_
  by_cases c2 : (am_bz r1) ≠ 0
  · rw [if_pos c2] at h
    refine am_ev_pos c2 ?_
    refine am_ev_st 7 (f' := (26, [(0, .ref 0), (1, .int p1)], [.int p1, .ref 7, .ref 1, .ref 15], (W9 N C E F P Q T G U H B O J V Y Z O9), k, n)) (g := True ∧ True ∧ True ∧ True ∧ True ∧ True ∧ True ∧ True) (by with_unfolding_all rfl) ⟨trivial, trivial, trivial, trivial, trivial, trivial, trivial, trivial⟩ ?_
    replace h := Option.bind_eq_some_iff.mp h
    obtain ⟨r3, hc3, h⟩ := h
    try dsimp only at h
    refine am_ev_call (.invokevirtual 134) 4 2 297 [.ref 7, .int p1] [.ref 1, .ref 15] rfl rfl rfl rfl (ok_fC_typeAt hc3 D (by omega)) rfl ?_
    cases h
  · rw [if_neg c2] at h
    refine am_ev_neg c2 ?_
    refine am_ev_st 1 (f' := (12, [(0, .ref 0), (1, .int p1)], [.int (-1 : Int32)], (W9 N C E F P Q T G U H B O J V Y Z O9), k, n)) (g := True ∧ True) (by with_unfolding_all rfl) ⟨trivial, trivial⟩ ?_
    cases h
    exact am_ev_ret 0 0 0 rfl .int rfl rfl rfl
def fM_at_P (P : cP) (p1 : Int32) : Option (Int32) :=
  if p1 < 0 then
  (some (-1 : Int32))
  else
  match P with
  | (pr, pl, px) =>
  if pl ≤ p1 then
  (some (-1 : Int32))
  else
  if (60 : Int32) ≤ p1 then
  (some (-1 : Int32))
  else
  if (p1 < 0 ∨ 60 ≤ (p1).toNatClampNeg) then none else
  some (pr (p1).toNatClampNeg)
set_option maxHeartbeats 4000000 in
set_option maxRecDepth 100000 in
theorem ok_fM_at_P  {N : cN} {C : cC} {E : cE} {F : cF} {P : cP} {Q : cQ} {T : cT} {G : cG} {U : cU} {H : cH} {B : cB} {O : cO} {J : cJ} {V : cV} {Y : cY} {Z : cZ} {O9 : cO9} {k n : Nat} {p1 : Int32} {rv : Int32} (h : fM_at_P P p1 = some rv) (D : Nat) (hD : 1 ≤ D) : am_Call D 19 [.ref 15, .int p1] (W9 N C E F P Q T G U H B O J V Y Z O9) k n (.inl (some (.int rv)), W9 N C E F P Q T G U H B O J V Y Z O9, k, n) := by
  unfold fM_at_P at h
  obtain ⟨D, rfl⟩ : ∃ D', D = D' + 1 := ⟨D - 1, by omega⟩
  have hD : 0 ≤ D := by omega
  refine am_call_run (by decide) (by decide) rfl (Nat.le_of_ble_eq_true rfl) (by decide) (L := [(0, .ref 15), (1, .int p1)]) rfl ?_
  refine am_ev_st 2 (f' := am_br (p1 < 0) 27 1 [(0, .ref 15), (1, .int p1)] [] (W9 N C E F P Q T G U H B O J V Y Z O9) k n) (g := True ∧ True ∧ True) (by with_unfolding_all rfl) ⟨trivial, trivial, trivial⟩ ?_
  by_cases c1 : p1 < 0
  · rw [if_pos c1] at h
    refine am_ev_pos c1 ?_
    refine am_ev_st 1 (f' := (28, [(0, .ref 15), (1, .int p1)], [.int (-1 : Int32)], (W9 N C E F P Q T G U H B O J V Y Z O9), k, n)) (g := True ∧ True) (by with_unfolding_all rfl) ⟨trivial, trivial⟩ ?_
    cases h
    exact am_ev_ret 0 0 0 rfl .int rfl rfl rfl
  · rw [if_neg c1] at h
    refine am_ev_neg c1 ?_
    obtain ⟨pr, pl, px⟩ := P
    try dsimp only at h
    refine am_ev_st 4 (f' := am_br (pl ≤ p1) 27 9 [(0, .ref 15), (1, .int p1)] [] (W9 N C E F (pr, pl, px) Q T G U H B O J V Y Z O9) k n) (g := True ∧ True ∧ True ∧ True ∧ True) (by with_unfolding_all rfl) ⟨trivial, trivial, trivial, trivial, trivial⟩ ?_
    by_cases c2 : pl ≤ p1
    · rw [if_pos c2] at h
      refine am_ev_pos c2 ?_
      refine am_ev_st 1 (f' := (28, [(0, .ref 15), (1, .int p1)], [.int (-1 : Int32)], (W9 N C E F (pr, pl, px) Q T G U H B O J V Y Z O9), k, n)) (g := True ∧ True) (by with_unfolding_all rfl) ⟨trivial, trivial⟩ ?_
      cases h
      exact am_ev_ret 0 0 0 rfl .int rfl rfl rfl
    · rw [if_neg c2] at h
      refine am_ev_neg c2 ?_
      refine am_ev_st 3 (f' := am_br ((60 : Int32) ≤ p1) 27 15 [(0, .ref 15), (1, .int p1)] [] (W9 N C E F (pr, pl, px) Q T G U H B O J V Y Z O9) k n) (g := True ∧ True ∧ True ∧ True) (by with_unfolding_all rfl) ⟨trivial, trivial, trivial, trivial⟩ ?_
      by_cases c3 : (60 : Int32) ≤ p1
      · rw [if_pos c3] at h
        refine am_ev_pos c3 ?_
        refine am_ev_st 1 (f' := (28, [(0, .ref 15), (1, .int p1)], [.int (-1 : Int32)], (W9 N C E F (pr, pl, px) Q T G U H B O J V Y Z O9), k, n)) (g := True ∧ True) (by with_unfolding_all rfl) ⟨trivial, trivial⟩ ?_
        cases h
        exact am_ev_ret 0 0 0 rfl .int rfl rfl rfl
      · rw [if_neg c3] at h
        refine am_ev_neg c3 ?_
        by_cases g4 : (p1 < 0 ∨ 60 ≤ (p1).toNatClampNeg)
        · rw [if_pos g4] at h; cases h
        rw [if_neg g4] at h
        refine am_ev_st 5 (f' := (28, [(0, .ref 15), (1, .int p1)], [.int (pr (p1).toNatClampNeg)], (W9 N C E F (pr, pl, px) Q T G U H B O J V Y Z O9), k, n)) (g := True ∧ True ∧ True ∧ vp_in (p1) 60 ∧ True ∧ True) (by with_unfolding_all rfl) ⟨trivial, trivial, trivial, g4, trivial, trivial⟩ ?_
        cases h
        exact am_ev_ret 0 0 0 rfl .int rfl rfl rfl
def fJ_mark (P : cP) (p1 : Int32) : Option (Int32) :=
  (fM_at_P P p1).bind fun z1 =>
  match z1 with
  | (r1) =>
  some r1
set_option maxHeartbeats 4000000 in
set_option maxRecDepth 100000 in
theorem ok_fJ_mark  {N : cN} {C : cC} {E : cE} {F : cF} {P : cP} {Q : cQ} {T : cT} {G : cG} {U : cU} {H : cH} {B : cB} {O : cO} {J : cJ} {V : cV} {Y : cY} {Z : cZ} {O9 : cO9} {k n : Nat} {p1 : Int32} {rv : Int32} (h : fJ_mark P p1 = some rv) (D : Nat) (hD : 2 ≤ D) : am_Call D 68 [.ref 0, .int p1] (W9 N C E F P Q T G U H B O J V Y Z O9) k n (.inl (some (.int rv)), W9 N C E F P Q T G U H B O J V Y Z O9, k, n) := by
  unfold fJ_mark at h
  obtain ⟨D, rfl⟩ : ∃ D', D = D' + 1 := ⟨D - 1, by omega⟩
  have hD : 1 ≤ D := by omega
  refine am_call_run (by decide) (by decide) rfl (Nat.le_of_ble_eq_true rfl) (by decide) (L := [(0, .ref 0), (1, .int p1)]) rfl ?_
  refine am_ev_st 3 (f' := (5, [(0, .ref 0), (1, .int p1)], [.int p1, .ref 15], (W9 N C E F P Q T G U H B O J V Y Z O9), k, n)) (g := True ∧ True ∧ True ∧ True) (by with_unfolding_all rfl) ⟨trivial, trivial, trivial, trivial⟩ ?_
  replace h := Option.bind_eq_some_iff.mp h
  obtain ⟨r1, hc1, h⟩ := h
  try dsimp only at h
  refine am_ev_call (.invokevirtual 137) 19 2 317 [.ref 15, .int p1] [] rfl rfl rfl rfl (ok_fM_at_P hc1 D (by omega)) rfl ?_
  cases h
  exact am_ev_ret 0 0 0 rfl .int rfl rfl rfl
def fM_isEmpty_P (P : cP) : Option (Bool) :=
  match P with
  | (pr, pl, px) =>
  if pl ≠ 0 then
  (some false)
  else
  some true
set_option maxHeartbeats 4000000 in
set_option maxRecDepth 100000 in
theorem ok_fM_isEmpty_P  {N : cN} {C : cC} {E : cE} {F : cF} {P : cP} {Q : cQ} {T : cT} {G : cG} {U : cU} {H : cH} {B : cB} {O : cO} {J : cJ} {V : cV} {Y : cY} {Z : cZ} {O9 : cO9} {k n : Nat} {rv : Bool} (h : fM_isEmpty_P P = some rv) (D : Nat) (hD : 1 ≤ D) : am_Call D 18 [.ref 15] (W9 N C E F P Q T G U H B O J V Y Z O9) k n (.inl (some (.int (am_bz rv))), W9 N C E F P Q T G U H B O J V Y Z O9, k, n) := by
  unfold fM_isEmpty_P at h
  obtain ⟨D, rfl⟩ : ∃ D', D = D' + 1 := ⟨D - 1, by omega⟩
  have hD : 0 ≤ D := by omega
  refine am_call_run (by decide) (by decide) rfl (Nat.le_of_ble_eq_true rfl) (by decide) (L := [(0, .ref 15)]) rfl ?_
  obtain ⟨pr, pl, px⟩ := P
  try dsimp only at h
  refine am_ev_st 3 (f' := am_br (pl ≠ 0) 11 4 [(0, .ref 15)] [] (W9 N C E F (pr, pl, px) Q T G U H B O J V Y Z O9) k n) (g := True ∧ True ∧ True ∧ True) (by with_unfolding_all rfl) ⟨trivial, trivial, trivial, trivial⟩ ?_
  by_cases c1 : pl ≠ 0
  · rw [if_pos c1] at h
    refine am_ev_pos c1 ?_
    refine am_ev_st 1 (f' := (12, [(0, .ref 15)], [.int (0 : Int32)], (W9 N C E F (pr, pl, px) Q T G U H B O J V Y Z O9), k, n)) (g := True ∧ True) (by with_unfolding_all rfl) ⟨trivial, trivial⟩ ?_
    cases h
    exact am_ev_ret 0 0 0 rfl .boolean rfl am_n0 rfl
  · rw [if_neg c1] at h
    refine am_ev_neg c1 ?_
    refine am_ev_st 2 (f' := (12, [(0, .ref 15)], [.int (1 : Int32)], (W9 N C E F (pr, pl, px) Q T G U H B O J V Y Z O9), k, n)) (g := True ∧ True ∧ True) (by with_unfolding_all rfl) ⟨trivial, trivial, trivial⟩ ?_
    cases h
    exact am_ev_ret 0 0 0 rfl .boolean rfl am_n1 rfl
def fJ_keep (P : cP) : Option (Int32) :=
  (fM_isEmpty_P P).bind fun z1 =>
  match z1 with
  | (r1) =>
  if (am_bz r1) ≠ 0 then
  (some (-1 : Int32))
  else
  none
set_option maxHeartbeats 4000000 in
set_option maxRecDepth 100000 in
theorem ok_fJ_keep  {N : cN} {C : cC} {E : cE} {F : cF} {P : cP} {Q : cQ} {T : cT} {G : cG} {U : cU} {H : cH} {B : cB} {O : cO} {J : cJ} {V : cV} {Y : cY} {Z : cZ} {O9 : cO9} {k n : Nat} {rv : Int32} (h : fJ_keep P = some rv) (D : Nat) (hD : 2 ≤ D) : am_Call D 69 [.ref 0] (W9 N C E F P Q T G U H B O J V Y Z O9) k n (.inl (some (.int rv)), W9 N C E F P Q T G U H B O J V Y Z O9, k, n) := by
  unfold fJ_keep at h
  obtain ⟨D, rfl⟩ : ∃ D', D = D' + 1 := ⟨D - 1, by omega⟩
  have hD : 1 ≤ D := by omega
  refine am_call_run (by decide) (by decide) rfl (Nat.le_of_ble_eq_true rfl) (by decide) (L := [(0, .ref 0)]) rfl ?_
  refine am_ev_st 2 (f' := (4, [(0, .ref 0)], [.ref 15], (W9 N C E F P Q T G U H B O J V Y Z O9), k, n)) (g := True ∧ True ∧ True) (by with_unfolding_all rfl) ⟨trivial, trivial, trivial⟩ ?_
  replace h := Option.bind_eq_some_iff.mp h
  obtain ⟨r1, hc1, h⟩ := h
  try dsimp only at h
  refine am_ev_call (.invokevirtual 140) 18 0 325 [.ref 15] [] rfl rfl rfl rfl (ok_fM_isEmpty_P hc1 D (by omega)) rfl ?_
  refine am_ev_st 1 (f' := am_br ((am_bz r1) ≠ 0) 32 7 [(0, .ref 0)] [] (W9 N C E F P Q T G U H B O J V Y Z O9) k n) (g := True ∧ True) (by with_unfolding_all rfl) ⟨trivial, trivial⟩ ?_
  by_cases c2 : (am_bz r1) ≠ 0
  · rw [if_pos c2] at h
    refine am_ev_pos c2 ?_
    refine am_ev_st 1 (f' := (33, [(0, .ref 0)], [.int (-1 : Int32)], (W9 N C E F P Q T G U H B O J V Y Z O9), k, n)) (g := True ∧ True) (by with_unfolding_all rfl) ⟨trivial, trivial⟩ ?_
    cases h
    exact am_ev_ret 0 0 0 rfl .int rfl rfl rfl
  · rw [if_neg c2] at h
    refine am_ev_neg c2 ?_
    cases h
def fE_madeCount (E : cE) : Option (Int32) :=
  match E with
  | (fi, se, op, fu, ma) =>
  some ma
set_option maxHeartbeats 4000000 in
set_option maxRecDepth 100000 in
theorem ok_fE_madeCount  {N : cN} {C : cC} {E : cE} {F : cF} {P : cP} {Q : cQ} {T : cT} {G : cG} {U : cU} {H : cH} {B : cB} {O : cO} {J : cJ} {V : cV} {Y : cY} {Z : cZ} {O9 : cO9} {k n : Nat} {rv : Int32} (h : fE_madeCount E = some rv) (D : Nat) (hD : 1 ≤ D) : am_Call D 47 [.ref 10] (W9 N C E F P Q T G U H B O J V Y Z O9) k n (.inl (some (.int rv)), W9 N C E F P Q T G U H B O J V Y Z O9, k, n) := by
  unfold fE_madeCount at h
  obtain ⟨D, rfl⟩ : ∃ D', D = D' + 1 := ⟨D - 1, by omega⟩
  have hD : 0 ≤ D := by omega
  refine am_call_run (by decide) (by decide) rfl (Nat.le_of_ble_eq_true rfl) (by decide) (L := [(0, .ref 10)]) rfl ?_
  obtain ⟨fi, se, op, fu, ma⟩ := E
  try dsimp only at h
  refine am_ev_st 2 (f' := (4, [(0, .ref 10)], [.int ma], (W9 N C (fi, se, op, fu, ma) F P Q T G U H B O J V Y Z O9), k, n)) (g := True ∧ True ∧ True) (by with_unfolding_all rfl) ⟨trivial, trivial, trivial⟩ ?_
  cases h
  exact am_ev_ret 0 0 0 rfl .int rfl rfl rfl
def fJ_reduced (E : cE) : Option (Int32) :=
  (fE_madeCount E).bind fun z1 =>
  match z1 with
  | (r1) =>
  some r1
set_option maxHeartbeats 4000000 in
set_option maxRecDepth 100000 in
theorem ok_fJ_reduced  {N : cN} {C : cC} {E : cE} {F : cF} {P : cP} {Q : cQ} {T : cT} {G : cG} {U : cU} {H : cH} {B : cB} {O : cO} {J : cJ} {V : cV} {Y : cY} {Z : cZ} {O9 : cO9} {k n : Nat} {rv : Int32} (h : fJ_reduced E = some rv) (D : Nat) (hD : 2 ≤ D) : am_Call D 70 [.ref 0] (W9 N C E F P Q T G U H B O J V Y Z O9) k n (.inl (some (.int rv)), W9 N C E F P Q T G U H B O J V Y Z O9, k, n) := by
  unfold fJ_reduced at h
  obtain ⟨D, rfl⟩ : ∃ D', D = D' + 1 := ⟨D - 1, by omega⟩
  have hD : 1 ≤ D := by omega
  refine am_call_run (by decide) (by decide) rfl (Nat.le_of_ble_eq_true rfl) (by decide) (L := [(0, .ref 0)]) rfl ?_
  refine am_ev_st 2 (f' := (4, [(0, .ref 0)], [.ref 10], (W9 N C E F P Q T G U H B O J V Y Z O9), k, n)) (g := True ∧ True ∧ True) (by with_unfolding_all rfl) ⟨trivial, trivial, trivial⟩ ?_
  replace h := Option.bind_eq_some_iff.mp h
  obtain ⟨r1, hc1, h⟩ := h
  try dsimp only at h
  refine am_ev_call (.invokevirtual 151) 47 0 451 [.ref 10] [] rfl rfl rfl rfl (ok_fE_madeCount hc1 D (by omega)) rfl ?_
  cases h
  exact am_ev_ret 0 0 0 rfl .int rfl rfl rfl
def fm_thrown (U : cU) : Option (Int32) :=
  some U
set_option maxHeartbeats 4000000 in
set_option maxRecDepth 100000 in
theorem ok_fm_thrown  {N : cN} {C : cC} {E : cE} {F : cF} {P : cP} {Q : cQ} {T : cT} {G : cG} {U : cU} {H : cH} {B : cB} {O : cO} {J : cJ} {V : cV} {Y : cY} {Z : cZ} {O9 : cO9} {k n : Nat} {rv : Int32} (h : fm_thrown U = some rv) (D : Nat) (hD : 1 ≤ D) : am_Call D 77 [.ref 19] (W9 N C E F P Q T G U H B O J V Y Z O9) k n (.inl (some (.int rv)), W9 N C E F P Q T G U H B O J V Y Z O9, k, n) := by
  unfold fm_thrown at h
  obtain ⟨D, rfl⟩ : ∃ D', D = D' + 1 := ⟨D - 1, by omega⟩
  have hD : 0 ≤ D := by omega
  refine am_call_run (by decide) (by decide) rfl (Nat.le_of_ble_eq_true rfl) (by decide) (L := [(0, .ref 19)]) rfl ?_
  refine am_ev_st 2 (f' := (4, [(0, .ref 19)], [.int U], (W9 N C E F P Q T G U H B O J V Y Z O9), k, n)) (g := True ∧ True ∧ True) (by with_unfolding_all rfl) ⟨trivial, trivial, trivial⟩ ?_
  cases h
  exact am_ev_ret 0 0 0 rfl .int rfl rfl rfl
end
section
/-- numbers -/
def jn (n : Nat) : Int32 := Int32.ofNat n
theorem jl0 : (0 : Int32) = jn 0 := rfl
theorem jl1 : (1 : Int32) = jn 1 := rfl
theorem jl2 : (2 : Int32) = jn 2 := rfl
theorem jl3 : (3 : Int32) = jn 3 := rfl
theorem jl4 : (4 : Int32) = jn 4 := rfl
theorem jl5 : (5 : Int32) = jn 5 := rfl
theorem jl9 : (9 : Int32) = jn 9 := rfl
theorem jl10 : (10 : Int32) = jn 10 := rfl
theorem jl12 : (12 : Int32) = jn 12 := rfl
theorem jl16 : (16 : Int32) = jn 16 := rfl
theorem jl30 : (30 : Int32) = jn 30 := rfl
theorem jl60 : (60 : Int32) = jn 60 := rfl
theorem jl63 : (63 : Int32) = jn 63 := rfl
theorem jl64 : (64 : Int32) = jn 64 := rfl
theorem jl80 : (80 : Int32) = jn 80 := rfl
theorem jl100 : (100 : Int32) = jn 100 := rfl
theorem jl120 : (120 : Int32) = jn 120 := rfl
theorem jl512 : (512 : Int32) = jn 512 := rfl
theorem jlM : (1000000 : Int32) = jn 1000000 := rfl
def jng : Int32 := -1
theorem jlm : -jn 1 = jng := rfl
theorem j_int {n : Nat} (h : n < 2147483648) : (jn n).toInt = n := Int32.toInt_ofNat_of_lt h
theorem j_nat {n : Nat} (h : n < 2147483648) : (jn n).toNatClampNeg = n := Int32.toNatClampNeg_ofNat_of_lt h
theorem j_lt {a b : Nat} (ha : a < 2147483648) (hb : b < 2147483648) : (jn a < jn b) = (a < b) := propext (Int32.ofNat_lt_iff_lt ha hb)
theorem j_le {a b : Nat} (ha : a < 2147483648) (hb : b < 2147483648) : (jn a ≤ jn b) = (a ≤ b) := propext (Int32.ofNat_le_iff_le ha hb)
theorem j_eq {a b : Nat} (ha : a < 2147483648) (hb : b < 2147483648) : (jn a = jn b) = (a = b) := propext ⟨fun h => by
  have := congrArg Int32.toNatClampNeg h
  rwa [j_nat ha, j_nat hb] at this, fun h => h ▸ rfl⟩
theorem j_add (a b : Nat) : jn a + jn b = jn (a + b) := (Int32.ofNat_add a b).symm
theorem j_mul (a b : Nat) : jn a * jn b = jn (a * b) := (Int32.ofNat_mul a b).symm
theorem j_div {a b : Nat} (ha : a < 2147483648) (hb : b < 2147483648) : jn a / jn b = jn (a / b) := (Int32.ofNat_div ha hb).symm
theorem j_mod {a b : Nat} (ha : a < 2147483648) (hb : b < 2147483648) : jn a % jn b = jn (a % b) := (Int32.ofNat_mod ha hb).symm
theorem j_sub {a b : Nat} (h : b ≤ a) : jn a - jn b = jn (a - b) := (Int32.ofNat_sub a b h).symm
theorem j_m1 {a : Nat} (h : 1 ≤ a) : jn a + jng = jn (a - 1) := by
  rw [← j_sub h, Int32.sub_eq_add_neg]
  rfl
theorem j_m1i : jng.toInt = -1 := by decide
theorem j_nelt {a : Nat} (ha : a < 2147483648) : (jn a < jng) = False := by
  rw [Int32.lt_iff_toInt_lt, j_int ha, j_m1i]
  exact eq_false (by omega)
theorem j_melt {a : Nat} (ha : a < 2147483648) : (jng < jn a) = True := by
  rw [Int32.lt_iff_toInt_lt, j_int ha, j_m1i]
  exact eq_true (by omega)
theorem j_nele {a : Nat} (ha : a < 2147483648) : (jn a ≤ jng) = False := by
  rw [Int32.le_iff_toInt_le, j_int ha, j_m1i]
  exact eq_false (by omega)
theorem j_mele {a : Nat} (ha : a < 2147483648) : (jng ≤ jn a) = True := by
  rw [Int32.le_iff_toInt_le, j_int ha, j_m1i]
  exact eq_true (by omega)
theorem j_neeq {a : Nat} (ha : a < 2147483648) : (jn a = jng) = False := by
  rw [← Int32.toInt_inj, j_int ha, j_m1i]
  exact eq_false (by omega)
theorem j_meeq {a : Nat} (ha : a < 2147483648) : (jng = jn a) = False := by
  rw [← Int32.toInt_inj, j_int ha, j_m1i]
  exact eq_false (by omega)
theorem j_any (x : Int32) : x < jn 0 ∨ ∃ n, n < 2147483648 ∧ x = jn n := by
  by_cases h : x < jn 0
  · exact .inl h
  · refine .inr ⟨x.toNatClampNeg, Int32.toNatClampNeg_lt x, (Int32.ofNat_toNatClampNeg x ?_).symm⟩
    rw [Int32.lt_iff_toInt_lt] at h
    rw [Int32.le_iff_toInt_le]
    exact Int.not_lt.mp h
theorem j_upd (f : Nat → Int32) (a b : Nat) (x : Int32) : upd f a x b = if b = a then x else f b := rfl
theorem j_bz0 (b : Bool) : (am_bz b = jn 0) = (b = false) := by cases b <;> decide
theorem j_bz1 (b : Bool) : (am_bz b = jn 1) = (b = true) := by cases b <;> decide
theorem jc_le0 {a b : Nat} (h : b < a) : (a ≤ b) = False := eq_false (Nat.not_le.mpr h)
theorem jc_le1 {a b : Nat} (h : a ≤ b) : (a ≤ b) = True := eq_true h
theorem jc_lt0 {a b : Nat} (h : b ≤ a) : (a < b) = False := eq_false (Nat.not_lt.mpr h)
theorem jc_lt1 {a b : Nat} (h : a < b) : (a < b) = True := eq_true h
theorem jc_eq0 {a b : Nat} (h : a ≠ b) : (a = b) = False := eq_false h
theorem jc_eq1 {a b : Nat} (h : a = b) : (a = b) = True := eq_true h
theorem bnd {α β : Type} {x : Option α} {a : α} {f : α → Option β} {r : Option β} (h : x = some a) (hk : f a = r) : x.bind f = r := by
  rw [h]
  exact hk
theorem bnd1 {α β : Type} {x y : Option α} {f : α → Option β} {r : Option β} (h : x = y) (hk : y.bind f = r) : x.bind f = r := by
  rw [h]
  exact hk
theorem ifp {α : Type} {c : Prop} {hd : Decidable c} {a b r : α} (h : c) (hk : a = r) : (@ite α c hd a b) = r := by
  rw [if_pos h]
  exact hk
theorem ifn {α : Type} {c : Prop} {hd : Decidable c} {a b r : α} (h : ¬ c) (hk : b = r) : (@ite α c hd a b) = r := by
  rw [if_neg h]
  exact hk
theorem jlo (n : Nat) : Int32.ofNat n = jn n := rfl
end
section
def lp_f_law_23 (sl : Nat) (xs : Nat → Int32) (fl : Nat) : Nat → cN → cC → cE → cF → cP → cT → cG → cU → cH → cB → cV → cO9 → Nat → Nat → Int32 → Option (Bool × cN × cE × cF × cT × cU × cV × cO9 × (Nat × Nat))
  | 0, _, _, _, _, _, _, _, _, _, _, _, _, _, _, _ => none
  | w + 1, N, C, E, F, P, T, G, U, H, B, V, O9, k, n, v4 =>
    if ((Int32.ofNat sl) - (4 : Int32)) < v4 then
    (some (true, N, E, F, T, U, V, O9, (k, n)))
    else
    if (v4 < 0 ∨ sl ≤ (v4).toNatClampNeg) then none else
    if ((xs (v4).toNatClampNeg) &&& (15 : Int32)) = (0 : Int32) then
    (if ((v4 + (1 : Int32)) < 0 ∨ sl ≤ ((v4 + (1 : Int32))).toNatClampNeg) then none else
    if ((v4 + (2 : Int32)) < 0 ∨ sl ≤ ((v4 + (2 : Int32))).toNatClampNeg) then none else
    if ((v4 + (3 : Int32)) < 0 ∨ sl ≤ ((v4 + (3 : Int32))).toNatClampNeg) then none else
    (fJ_make N C (xs ((v4 + (1 : Int32))).toNatClampNeg) (xs ((v4 + (2 : Int32))).toNatClampNeg) (xs ((v4 + (3 : Int32))).toNatClampNeg)).bind fun z7 =>
    match z7 with
    | (r7, N_7) =>
    if ((v4 + (1 : Int32)) < 0 ∨ sl ≤ ((v4 + (1 : Int32))).toNatClampNeg) then none else
    if ((v4 + (2 : Int32)) < 0 ∨ sl ≤ ((v4 + (2 : Int32))).toNatClampNeg) then none else
    if ((v4 + (3 : Int32)) < 0 ∨ sl ≤ ((v4 + (3 : Int32))).toNatClampNeg) then none else
    (fm_make T G U (xs ((v4 + (1 : Int32))).toNatClampNeg) (xs ((v4 + (2 : Int32))).toNatClampNeg) (xs ((v4 + (3 : Int32))).toNatClampNeg)).bind fun z11 =>
    match z11 with
    | (r11, T_11, U_11) =>
    if r7 = r11 then
    (lp_f_law_23 sl xs fl w N_7 C E F P T_11 G U_11 H B V O9 k n (v4 + (4 : Int32)))
    else
    some (false, N_7, E, F, T_11, U_11, V, O9, (k, n)))
    else
    if ((xs (v4).toNatClampNeg) &&& (15 : Int32)) = (1 : Int32) then
    ((fJ_terms N).bind fun z14 =>
    match z14 with
    | (r14) =>
    (fm_terms T U).bind fun z15 =>
    match z15 with
    | (r15, U_15) =>
    if r14 = r15 then
    (lp_f_law_23 sl xs fl w N C E F P T G U_15 H B V O9 k n (v4 + (4 : Int32)))
    else
    some (false, N, E, F, T, U_15, V, O9, (k, n)))
    else
    if ((xs (v4).toNatClampNeg) &&& (15 : Int32)) = (2 : Int32) then
    (if ((v4 + (1 : Int32)) < 0 ∨ sl ≤ ((v4 + (1 : Int32))).toNatClampNeg) then none else
    if ((v4 + (2 : Int32)) < 0 ∨ sl ≤ ((v4 + (2 : Int32))).toNatClampNeg) then none else
    (fJ_term N (xs ((v4 + (1 : Int32))).toNatClampNeg) (xs ((v4 + (2 : Int32))).toNatClampNeg)).bind fun z20 =>
    match z20 with
    | (r20) =>
    if ((v4 + (1 : Int32)) < 0 ∨ sl ≤ ((v4 + (1 : Int32))).toNatClampNeg) then none else
    if ((v4 + (2 : Int32)) < 0 ∨ sl ≤ ((v4 + (2 : Int32))).toNatClampNeg) then none else
    (fm_term T U (xs ((v4 + (1 : Int32))).toNatClampNeg) (xs ((v4 + (2 : Int32))).toNatClampNeg)).bind fun z23 =>
    match z23 with
    | (r23, U_23) =>
    if r20 = r23 then
    (lp_f_law_23 sl xs fl w N C E F P T G U_23 H B V O9 k n (v4 + (4 : Int32)))
    else
    some (false, N, E, F, T, U_23, V, O9, (k, n)))
    else
    if ((xs (v4).toNatClampNeg) &&& (15 : Int32)) = (3 : Int32) then
    (if ((v4 + (1 : Int32)) < 0 ∨ sl ≤ ((v4 + (1 : Int32))).toNatClampNeg) then none else
    if ((v4 + (2 : Int32)) < 0 ∨ sl ≤ ((v4 + (2 : Int32))).toNatClampNeg) then none else
    (fL_infer N E F O9 k n (xs ((v4 + (1 : Int32))).toNatClampNeg) (xs ((v4 + (2 : Int32))).toNatClampNeg)).bind fun z28 =>
    match z28 with
    | (r28, N_28, E_28, F_28, O9_28, (k_28, n_28)) =>
    if ((v4 + (1 : Int32)) < 0 ∨ sl ≤ ((v4 + (1 : Int32))).toNatClampNeg) then none else
    if ((v4 + (2 : Int32)) < 0 ∨ sl ≤ ((v4 + (2 : Int32))).toNatClampNeg) then none else
    (fm_infer T U V (xs ((v4 + (1 : Int32))).toNatClampNeg) (xs ((v4 + (2 : Int32))).toNatClampNeg)).bind fun z31 =>
    match z31 with
    | (r31, U_31, V_31) =>
    (fm_thrown U_31).bind fun z32 =>
    match z32 with
    | (r32) =>
    if r32 = r28 then
    (if r28 ≠ 0 then
    (lp_f_law_23 sl xs fl w N_28 C E_28 F_28 P T G U_31 H B V_31 O9_28 k_28 n_28 (v4 + (4 : Int32)))
    else
    none)
    else
    some (false, N_28, E_28, F_28, T, U_31, V_31, O9_28, (k_28, n_28)))
    else
    if ((xs (v4).toNatClampNeg) &&& (15 : Int32)) = (4 : Int32) then
    (if ((v4 + (1 : Int32)) < 0 ∨ sl ≤ ((v4 + (1 : Int32))).toNatClampNeg) then none else
    if ((v4 + (2 : Int32)) < 0 ∨ sl ≤ ((v4 + (2 : Int32))).toNatClampNeg) then none else
    (fL_reduce N E F O9 k n (xs ((v4 + (1 : Int32))).toNatClampNeg) (xs ((v4 + (2 : Int32))).toNatClampNeg)).bind fun z38 =>
    match z38 with
    | (r38, N_38, E_38, F_38, O9_38, (k_38, n_38)) =>
    if ((v4 + (1 : Int32)) < 0 ∨ sl ≤ ((v4 + (1 : Int32))).toNatClampNeg) then none else
    if ((v4 + (2 : Int32)) < 0 ∨ sl ≤ ((v4 + (2 : Int32))).toNatClampNeg) then none else
    (fm_reduce T U V (xs ((v4 + (1 : Int32))).toNatClampNeg) (xs ((v4 + (2 : Int32))).toNatClampNeg)).bind fun z41 =>
    match z41 with
    | (r41, U_41, V_41) =>
    (fm_thrown U_41).bind fun z42 =>
    match z42 with
    | (r42) =>
    if r42 = r38 then
    (if r38 ≠ 0 then
    (lp_f_law_23 sl xs fl w N_38 C E_38 F_38 P T G U_41 H B V_41 O9_38 k_38 n_38 (v4 + (4 : Int32)))
    else
    none)
    else
    some (false, N_38, E_38, F_38, T, U_41, V_41, O9_38, (k_38, n_38)))
    else
    if ((xs (v4).toNatClampNeg) &&& (15 : Int32)) = (5 : Int32) then
    (if ((v4 + (1 : Int32)) < 0 ∨ sl ≤ ((v4 + (1 : Int32))).toNatClampNeg) then none else
    if ((v4 + (2 : Int32)) < 0 ∨ sl ≤ ((v4 + (2 : Int32))).toNatClampNeg) then none else
    if ((v4 + (3 : Int32)) < 0 ∨ sl ≤ ((v4 + (3 : Int32))).toNatClampNeg) then none else
    (fL_same N E F O9 k n (xs ((v4 + (1 : Int32))).toNatClampNeg) (xs ((v4 + (2 : Int32))).toNatClampNeg) (xs ((v4 + (3 : Int32))).toNatClampNeg)).bind fun z49 =>
    match z49 with
    | (r49, N_49, E_49, F_49, O9_49, (k_49, n_49)) =>
    if ((v4 + (1 : Int32)) < 0 ∨ sl ≤ ((v4 + (1 : Int32))).toNatClampNeg) then none else
    if ((v4 + (2 : Int32)) < 0 ∨ sl ≤ ((v4 + (2 : Int32))).toNatClampNeg) then none else
    if ((v4 + (3 : Int32)) < 0 ∨ sl ≤ ((v4 + (3 : Int32))).toNatClampNeg) then none else
    (fm_same T U V (xs ((v4 + (1 : Int32))).toNatClampNeg) (xs ((v4 + (2 : Int32))).toNatClampNeg) (xs ((v4 + (3 : Int32))).toNatClampNeg)).bind fun z53 =>
    match z53 with
    | (r53, U_53, V_53) =>
    (fm_thrown U_53).bind fun z54 =>
    match z54 with
    | (r54) =>
    if r54 = r49 then
    (if r49 ≠ 0 then
    (lp_f_law_23 sl xs fl w N_49 C E_49 F_49 P T G U_53 H B V_53 O9_49 k_49 n_49 (v4 + (4 : Int32)))
    else
    none)
    else
    some (false, N_49, E_49, F_49, T, U_53, V_53, O9_49, (k_49, n_49)))
    else
    if ((xs (v4).toNatClampNeg) &&& (15 : Int32)) = (6 : Int32) then
    (if ((v4 + (1 : Int32)) < 0 ∨ sl ≤ ((v4 + (1 : Int32))).toNatClampNeg) then none else
    if ((v4 + (2 : Int32)) < 0 ∨ sl ≤ ((v4 + (2 : Int32))).toNatClampNeg) then none else
    if ((v4 + (3 : Int32)) < 0 ∨ sl ≤ ((v4 + (3 : Int32))).toNatClampNeg) then none else
    (fL_check N E F O9 k n (xs ((v4 + (1 : Int32))).toNatClampNeg) (xs ((v4 + (2 : Int32))).toNatClampNeg) (xs ((v4 + (3 : Int32))).toNatClampNeg)).bind fun z61 =>
    match z61 with
    | (r61, N_61, E_61, F_61, O9_61, (k_61, n_61)) =>
    if ((v4 + (1 : Int32)) < 0 ∨ sl ≤ ((v4 + (1 : Int32))).toNatClampNeg) then none else
    if ((v4 + (2 : Int32)) < 0 ∨ sl ≤ ((v4 + (2 : Int32))).toNatClampNeg) then none else
    if ((v4 + (3 : Int32)) < 0 ∨ sl ≤ ((v4 + (3 : Int32))).toNatClampNeg) then none else
    (fm_check T U V (xs ((v4 + (1 : Int32))).toNatClampNeg) (xs ((v4 + (2 : Int32))).toNatClampNeg) (xs ((v4 + (3 : Int32))).toNatClampNeg)).bind fun z65 =>
    match z65 with
    | (r65, U_65, V_65) =>
    (fm_thrown U_65).bind fun z66 =>
    match z66 with
    | (r66) =>
    if r66 = r61 then
    (if r61 ≠ 0 then
    (lp_f_law_23 sl xs fl w N_61 C E_61 F_61 P T G U_65 H B V_65 O9_61 k_61 n_61 (v4 + (4 : Int32)))
    else
    none)
    else
    some (false, N_61, E_61, F_61, T, U_65, V_65, O9_61, (k_61, n_61)))
    else
    if ((xs (v4).toNatClampNeg) &&& (15 : Int32)) = (7 : Int32) then
    (if ((v4 + (1 : Int32)) < 0 ∨ sl ≤ ((v4 + (1 : Int32))).toNatClampNeg) then none else
    if ((v4 + (2 : Int32)) < 0 ∨ sl ≤ ((v4 + (2 : Int32))).toNatClampNeg) then none else
    (fL_declare N C E F O9 k n (xs ((v4 + (1 : Int32))).toNatClampNeg) (xs ((v4 + (2 : Int32))).toNatClampNeg)).bind fun z72 =>
    match z72 with
    | (r72, N_72, E_72, F_72, O9_72, (k_72, n_72)) =>
    if ((v4 + (1 : Int32)) < 0 ∨ sl ≤ ((v4 + (1 : Int32))).toNatClampNeg) then none else
    if ((v4 + (2 : Int32)) < 0 ∨ sl ≤ ((v4 + (2 : Int32))).toNatClampNeg) then none else
    (fm_declare T G U V (xs ((v4 + (1 : Int32))).toNatClampNeg) (xs ((v4 + (2 : Int32))).toNatClampNeg)).bind fun z75 =>
    match z75 with
    | (r75, U_75, V_75) =>
    (fm_thrown U_75).bind fun z76 =>
    match z76 with
    | (r76) =>
    if r76 = r72 then
    (if r72 ≠ 0 then
    (lp_f_law_23 sl xs fl w N_72 C E_72 F_72 P T G U_75 H B V_75 O9_72 k_72 n_72 (v4 + (4 : Int32)))
    else
    none)
    else
    some (false, N_72, E_72, F_72, T, U_75, V_75, O9_72, (k_72, n_72)))
    else
    if ((xs (v4).toNatClampNeg) &&& (15 : Int32)) = (8 : Int32) then
    (if ((v4 + (1 : Int32)) < 0 ∨ sl ≤ ((v4 + (1 : Int32))).toNatClampNeg) then none else
    if ((v4 + (2 : Int32)) < 0 ∨ sl ≤ ((v4 + (2 : Int32))).toNatClampNeg) then none else
    (fL_define N C E F O9 k n (xs ((v4 + (1 : Int32))).toNatClampNeg) (xs ((v4 + (2 : Int32))).toNatClampNeg)).bind fun z82 =>
    match z82 with
    | (r82, N_82, E_82, F_82, O9_82, (k_82, n_82)) =>
    if ((v4 + (1 : Int32)) < 0 ∨ sl ≤ ((v4 + (1 : Int32))).toNatClampNeg) then none else
    if ((v4 + (2 : Int32)) < 0 ∨ sl ≤ ((v4 + (2 : Int32))).toNatClampNeg) then none else
    (fm_define fl T G U V (xs ((v4 + (1 : Int32))).toNatClampNeg) (xs ((v4 + (2 : Int32))).toNatClampNeg)).bind fun z85 =>
    match z85 with
    | (r85, U_85, V_85) =>
    (fm_thrown U_85).bind fun z86 =>
    match z86 with
    | (r86) =>
    if r86 = r82 then
    (if r82 ≠ 0 then
    (lp_f_law_23 sl xs fl w N_82 C E_82 F_82 P T G U_85 H B V_85 O9_82 k_82 n_82 (v4 + (4 : Int32)))
    else
    none)
    else
    some (false, N_82, E_82, F_82, T, U_85, V_85, O9_82, (k_82, n_82)))
    else
    if ((xs (v4).toNatClampNeg) &&& (15 : Int32)) = (9 : Int32) then
    ((fJ_constants C).bind fun z90 =>
    match z90 with
    | (r90) =>
    (fm_constants G U).bind fun z91 =>
    match z91 with
    | (r91, U_91) =>
    if r90 = r91 then
    (lp_f_law_23 sl xs fl w N C E F P T G U_91 H B V O9 k n (v4 + (4 : Int32)))
    else
    some (false, N, E, F, T, U_91, V, O9, (k, n)))
    else
    if ((xs (v4).toNatClampNeg) &&& (15 : Int32)) = (10 : Int32) then
    (if ((v4 + (1 : Int32)) < 0 ∨ sl ≤ ((v4 + (1 : Int32))).toNatClampNeg) then none else
    (fJ_hasBody C (xs ((v4 + (1 : Int32))).toNatClampNeg)).bind fun z95 =>
    match z95 with
    | (r95) =>
    if ((v4 + (1 : Int32)) < 0 ∨ sl ≤ ((v4 + (1 : Int32))).toNatClampNeg) then none else
    (fm_hasBody G U (xs ((v4 + (1 : Int32))).toNatClampNeg)).bind fun z97 =>
    match z97 with
    | (r97, U_97) =>
    if (am_bz r95) = (am_bz r97) then
    (lp_f_law_23 sl xs fl w N C E F P T G U_97 H B V O9 k n (v4 + (4 : Int32)))
    else
    some (false, N, E, F, T, U_97, V, O9, (k, n)))
    else
    if ((xs (v4).toNatClampNeg) &&& (15 : Int32)) = (11 : Int32) then
    (if ((v4 + (1 : Int32)) < 0 ∨ sl ≤ ((v4 + (1 : Int32))).toNatClampNeg) then none else
    (fJ_typeOf C (xs ((v4 + (1 : Int32))).toNatClampNeg)).bind fun z101 =>
    match z101 with
    | (r101) =>
    if ((v4 + (1 : Int32)) < 0 ∨ sl ≤ ((v4 + (1 : Int32))).toNatClampNeg) then none else
    (fm_typeOf G U (xs ((v4 + (1 : Int32))).toNatClampNeg)).bind fun z103 =>
    match z103 with
    | (r103, U_103) =>
    if r101 = r103 then
    (lp_f_law_23 sl xs fl w N C E F P T G U_103 H B V O9 k n (v4 + (4 : Int32)))
    else
    some (false, N, E, F, T, U_103, V, O9, (k, n)))
    else
    if ((xs (v4).toNatClampNeg) &&& (15 : Int32)) = (12 : Int32) then
    (if ((v4 + (1 : Int32)) < 0 ∨ sl ≤ ((v4 + (1 : Int32))).toNatClampNeg) then none else
    (fJ_mark P (xs ((v4 + (1 : Int32))).toNatClampNeg)).bind fun z107 =>
    match z107 with
    | (r107) =>
    if ((v4 + (1 : Int32)) < 0 ∨ sl ≤ ((v4 + (1 : Int32))).toNatClampNeg) then none else
    (fm_mark U H B (xs ((v4 + (1 : Int32))).toNatClampNeg)).bind fun z109 =>
    match z109 with
    | (r109, U_109) =>
    if r107 = r109 then
    (lp_f_law_23 sl xs fl w N C E F P T G U_109 H B V O9 k n (v4 + (4 : Int32)))
    else
    some (false, N, E, F, T, U_109, V, O9, (k, n)))
    else
    if ((xs (v4).toNatClampNeg) &&& (15 : Int32)) = (13 : Int32) then
    ((fJ_keep P).bind fun z112 =>
    match z112 with
    | (r112) =>
    (fm_keep fl T U H B).bind fun z113 =>
    match z113 with
    | (r113, U_113) =>
    if r112 = r113 then
    (lp_f_law_23 sl xs fl w N C E F P T G U_113 H B V O9 k n (v4 + (4 : Int32)))
    else
    some (false, N, E, F, T, U_113, V, O9, (k, n)))
    else
    if ((xs (v4).toNatClampNeg) &&& (15 : Int32)) = (14 : Int32) then
    ((fJ_reduced E).bind fun z116 =>
    match z116 with
    | (r116) =>
    (fm_reduced U V).bind fun z117 =>
    match z117 with
    | (r117, U_117) =>
    if r116 = r117 then
    (lp_f_law_23 sl xs fl w N C E F P T G U_117 H B V O9 k n (v4 + (4 : Int32)))
    else
    some (false, N, E, F, T, U_117, V, O9, (k, n)))
    else
    lp_f_law_23 sl xs fl w N C E F P T G U H B V O9 k n (v4 + (4 : Int32))
set_option maxHeartbeats 4000000 in
set_option maxRecDepth 100000 in
theorem ok_lp_f_law_23 {sl : Nat} {xs : Nat → Int32} {fl : Nat} : ∀ {w : Nat} {N : cN} {C : cC} {E : cE} {F : cF} {P : cP} {Q : cQ} {T : cT} {G : cG} {U : cU} {H : cH} {B : cB} {O : cO} {J : cJ} {V : cV} {Y : cY} {Z : cZ} {O9 : cO9} {k n : Nat} {v4 : Int32} {rv : Bool} {N' : cN} {E' : cE} {F' : cF} {T' : cT} {U' : cU} {V' : cV} {O9' : cO9} {k' n' : Nat} (h : lp_f_law_23 sl xs fl w N C E F P T G U H B V O9 k n v4 = some (rv, N', E', F', T', U', V', O9', (k', n'))) (D : Nat) (hD : 4 ≤ D), am_Ev D 132 (sl + 1) xs (23, [(0, .retAddr 0), (1, .ref 0), (2, .ref 19), (3, .ref 38), (4, .int v4)], [], (W9 N C E F P Q T G U H B O J V Y Z O9), k, n) (.inl (some (.int (am_bz rv))), W9 N' C E' F' P Q T' G U' H B O J V' Y Z O9', k', n') := by
  intro w
  induction w with
  | zero => intros; rename_i h _ _; cases h
  | succ w ih0 =>
    intro N C E F P Q T G U H B O J V Y Z O9 k n v4 rv N' E' F' T' U' V' O9' k' n' h D hD
    have ih := fun {N} {C} {E} {F} {P} {Q} {T} {G} {U} {H} {B} {O} {J} {V} {Y} {Z} {O9} {k} {n} {v4} {rv} {N'} {E'} {F'} {T'} {U'} {V'} {O9'} {k'} {n'} h => @ih0 N C E F P Q T G U H B O J V Y Z O9 k n v4 rv N' E' F' T' U' V' O9' k' n' h D hD
    unfold lp_f_law_23 at h
    refine am_ev_st 6 (f' := am_br (((Int32.ofNat sl) - (4 : Int32)) < v4) 777 29 [(0, .retAddr 0), (1, .ref 0), (2, .ref 19), (3, .ref 38), (4, .int v4)] [] (W9 N C E F P Q T G U H B O J V Y Z O9) k n) (g := True ∧ True ∧ 0 < sl + 1 ∧ True ∧ True ∧ True ∧ True) (by with_unfolding_all rfl) ⟨trivial, trivial, Nat.succ_pos _, trivial, trivial, trivial, trivial⟩ ?_
    by_cases c1 : ((Int32.ofNat sl) - (4 : Int32)) < v4
    · rw [if_pos c1] at h
      refine am_ev_pos c1 ?_
      refine am_ev_st 1 (f' := (778, [(0, .retAddr 0), (1, .ref 0), (2, .ref 19), (3, .ref 38), (4, .int v4)], [.int (1 : Int32)], (W9 N C E F P Q T G U H B O J V Y Z O9), k, n)) (g := True ∧ True) (by with_unfolding_all rfl) ⟨trivial, trivial⟩ ?_
      cases h
      exact am_ev_ret 0 0 0 rfl .boolean rfl am_n1 rfl
    · rw [if_neg c1] at h
      refine am_ev_neg c1 ?_
      by_cases g2 : (v4 < 0 ∨ sl ≤ (v4).toNatClampNeg)
      · rw [if_pos g2] at h; cases h
      rw [if_neg g2] at h
      refine am_ev_st 6 (f' := ((am_tg [(0, 112), (1, 161), (2, 174), (3, 211), (4, 279), (5, 347), (6, 434), (7, 521), (8, 589), (9, 657), (10, 670), (11, 695), (12, 720), (13, 745), (14, 758)] 771 ((xs (v4).toNatClampNeg) &&& (15 : Int32))), [(0, .retAddr 0), (1, .ref 0), (2, .ref 19), (3, .ref 38), (4, .int v4)], [], (W9 N C E F P Q T G U H B O J V Y Z O9), k, n)) (g := True ∧ True ∧ (0 < sl + 1 ∧ vp_in (v4) sl) ∧ True ∧ True ∧ True ∧ True) (by with_unfolding_all rfl) ⟨trivial, trivial, ⟨Nat.succ_pos _, g2⟩, trivial, trivial, trivial, trivial⟩ ?_
      by_cases c3 : ((xs (v4).toNatClampNeg) &&& (15 : Int32)) = (0 : Int32)
      · rw [if_pos c3] at h
        refine am_ev_sweq c3 ?_
        by_cases g4 : ((v4 + (1 : Int32)) < 0 ∨ sl ≤ ((v4 + (1 : Int32))).toNatClampNeg)
        · rw [if_pos g4] at h; cases h
        rw [if_neg g4] at h
        by_cases g5 : ((v4 + (2 : Int32)) < 0 ∨ sl ≤ ((v4 + (2 : Int32))).toNatClampNeg)
        · rw [if_pos g5] at h; cases h
        rw [if_neg g5] at h
        by_cases g6 : ((v4 + (3 : Int32)) < 0 ∨ sl ≤ ((v4 + (3 : Int32))).toNatClampNeg)
        · rw [if_pos g6] at h; cases h
        rw [if_neg g6] at h
        refine am_ev_st 16 (f' := (131, [(0, .retAddr 0), (1, .ref 0), (2, .ref 19), (3, .ref 38), (4, .int v4)], [.int (xs ((v4 + (3 : Int32))).toNatClampNeg), .int (xs ((v4 + (2 : Int32))).toNatClampNeg), .int (xs ((v4 + (1 : Int32))).toNatClampNeg), .ref 0], (W9 N C E F P Q T G U H B O J V Y Z O9), k, n)) (g := True ∧ True ∧ True ∧ True ∧ True ∧ (0 < sl + 1 ∧ vp_in ((v4 + (1 : Int32))) sl) ∧ True ∧ True ∧ True ∧ True ∧ (0 < sl + 1 ∧ vp_in ((v4 + (2 : Int32))) sl) ∧ True ∧ True ∧ True ∧ True ∧ (0 < sl + 1 ∧ vp_in ((v4 + (3 : Int32))) sl) ∧ True) (by with_unfolding_all rfl) ⟨trivial, trivial, trivial, trivial, trivial, ⟨Nat.succ_pos _, g4⟩, trivial, trivial, trivial, trivial, ⟨Nat.succ_pos _, g5⟩, trivial, trivial, trivial, trivial, ⟨Nat.succ_pos _, g6⟩, trivial⟩ ?_
        replace h := Option.bind_eq_some_iff.mp h
        obtain ⟨⟨r7, N_7⟩, hc7, h⟩ := h
        try dsimp only at h
        refine am_ev_call (.invokevirtual 39) 56 6 208 [.ref 0, .int (xs ((v4 + (1 : Int32))).toNatClampNeg), .int (xs ((v4 + (2 : Int32))).toNatClampNeg), .int (xs ((v4 + (3 : Int32))).toNatClampNeg)] [] rfl rfl rfl rfl (ok_fJ_make hc7 D (by omega)) rfl ?_
        by_cases g8 : ((v4 + (1 : Int32)) < 0 ∨ sl ≤ ((v4 + (1 : Int32))).toNatClampNeg)
        · rw [if_pos g8] at h; cases h
        rw [if_neg g8] at h
        by_cases g9 : ((v4 + (2 : Int32)) < 0 ∨ sl ≤ ((v4 + (2 : Int32))).toNatClampNeg)
        · rw [if_pos g9] at h; cases h
        rw [if_neg g9] at h
        by_cases g10 : ((v4 + (3 : Int32)) < 0 ∨ sl ≤ ((v4 + (3 : Int32))).toNatClampNeg)
        · rw [if_pos g10] at h; cases h
        rw [if_neg g10] at h
        refine am_ev_st 16 (f' := (153, [(0, .retAddr 0), (1, .ref 0), (2, .ref 19), (3, .ref 38), (4, .int v4)], [.int (xs ((v4 + (3 : Int32))).toNatClampNeg), .int (xs ((v4 + (2 : Int32))).toNatClampNeg), .int (xs ((v4 + (1 : Int32))).toNatClampNeg), .ref 19, .int r7], (W9 N_7 C E F P Q T G U H B O J V Y Z O9), k, n)) (g := True ∧ True ∧ True ∧ True ∧ True ∧ (0 < sl + 1 ∧ vp_in ((v4 + (1 : Int32))) sl) ∧ True ∧ True ∧ True ∧ True ∧ (0 < sl + 1 ∧ vp_in ((v4 + (2 : Int32))) sl) ∧ True ∧ True ∧ True ∧ True ∧ (0 < sl + 1 ∧ vp_in ((v4 + (3 : Int32))) sl) ∧ True) (by with_unfolding_all rfl) ⟨trivial, trivial, trivial, trivial, trivial, ⟨Nat.succ_pos _, g8⟩, trivial, trivial, trivial, trivial, ⟨Nat.succ_pos _, g9⟩, trivial, trivial, trivial, trivial, ⟨Nat.succ_pos _, g10⟩, trivial⟩ ?_
        replace h := Option.bind_eq_some_iff.mp h
        obtain ⟨⟨r11, T_11, U_11⟩, hc11, h⟩ := h
        try dsimp only at h
        refine am_ev_call (.invokevirtual 43) 106 6 784 [.ref 19, .int (xs ((v4 + (1 : Int32))).toNatClampNeg), .int (xs ((v4 + (2 : Int32))).toNatClampNeg), .int (xs ((v4 + (3 : Int32))).toNatClampNeg)] [.int r7] rfl rfl rfl rfl (ok_fm_make hc11 D (by omega)) rfl ?_
        refine am_ev_st 1 (f' := am_br (r7 = r11) 771 156 [(0, .retAddr 0), (1, .ref 0), (2, .ref 19), (3, .ref 38), (4, .int v4)] [] (W9 N_7 C E F P Q T_11 G U_11 H B O J V Y Z O9) k n) (g := True ∧ True) (by with_unfolding_all rfl) ⟨trivial, trivial⟩ ?_
        by_cases c12 : r7 = r11
        · rw [if_pos c12] at h
          refine am_ev_pos c12 ?_
          refine am_ev_st 2 (f' := (23, [(4, .int (v4 + (4 : Int32))), (0, .retAddr 0), (1, .ref 0), (2, .ref 19), (3, .ref 38)], [], (W9 N_7 C E F P Q T_11 G U_11 H B O J V Y Z O9), k, n)) (g := True ∧ True ∧ True) (by with_unfolding_all rfl) ⟨trivial, trivial, trivial⟩ ?_
          refine am_ev_drop [1, 2, 3, 4, 0] rfl rfl ?_
          exact ih h
        · rw [if_neg c12] at h
          refine am_ev_neg c12 ?_
          refine am_ev_st 1 (f' := (160, [(0, .retAddr 0), (1, .ref 0), (2, .ref 19), (3, .ref 38), (4, .int v4)], [.int (0 : Int32)], (W9 N_7 C E F P Q T_11 G U_11 H B O J V Y Z O9), k, n)) (g := True ∧ True) (by with_unfolding_all rfl) ⟨trivial, trivial⟩ ?_
          cases h
          exact am_ev_ret 0 0 0 rfl .boolean rfl am_n0 rfl
      rw [if_neg c3] at h
      refine am_ev_swne c3 ?_
      by_cases c13 : ((xs (v4).toNatClampNeg) &&& (15 : Int32)) = (1 : Int32)
      · rw [if_pos c13] at h
        refine am_ev_sweq c13 ?_
        refine am_ev_st 1 (f' := (162, [(0, .retAddr 0), (1, .ref 0), (2, .ref 19), (3, .ref 38), (4, .int v4)], [.ref 0], (W9 N C E F P Q T G U H B O J V Y Z O9), k, n)) (g := True ∧ True) (by with_unfolding_all rfl) ⟨trivial, trivial⟩ ?_
        replace h := Option.bind_eq_some_iff.mp h
        obtain ⟨r14, hc14, h⟩ := h
        try dsimp only at h
        refine am_ev_call (.invokevirtual 44) 57 0 250 [.ref 0] [] rfl rfl rfl rfl (ok_fJ_terms hc14 D (by omega)) rfl ?_
        refine am_ev_st 1 (f' := (166, [(0, .retAddr 0), (1, .ref 0), (2, .ref 19), (3, .ref 38), (4, .int v4)], [.ref 19, .int r14], (W9 N C E F P Q T G U H B O J V Y Z O9), k, n)) (g := True ∧ True) (by with_unfolding_all rfl) ⟨trivial, trivial⟩ ?_
        replace h := Option.bind_eq_some_iff.mp h
        obtain ⟨⟨r15, U_15⟩, hc15, h⟩ := h
        try dsimp only at h
        refine am_ev_call (.invokevirtual 48) 107 0 788 [.ref 19] [.int r14] rfl rfl rfl rfl (ok_fm_terms hc15 D (by omega)) rfl ?_
        refine am_ev_st 1 (f' := am_br (r14 = r15) 771 169 [(0, .retAddr 0), (1, .ref 0), (2, .ref 19), (3, .ref 38), (4, .int v4)] [] (W9 N C E F P Q T G U_15 H B O J V Y Z O9) k n) (g := True ∧ True) (by with_unfolding_all rfl) ⟨trivial, trivial⟩ ?_
        by_cases c16 : r14 = r15
        · rw [if_pos c16] at h
          refine am_ev_pos c16 ?_
          refine am_ev_st 2 (f' := (23, [(4, .int (v4 + (4 : Int32))), (0, .retAddr 0), (1, .ref 0), (2, .ref 19), (3, .ref 38)], [], (W9 N C E F P Q T G U_15 H B O J V Y Z O9), k, n)) (g := True ∧ True ∧ True) (by with_unfolding_all rfl) ⟨trivial, trivial, trivial⟩ ?_
          refine am_ev_drop [1, 2, 3, 4, 0] rfl rfl ?_
          exact ih h
        · rw [if_neg c16] at h
          refine am_ev_neg c16 ?_
          refine am_ev_st 1 (f' := (173, [(0, .retAddr 0), (1, .ref 0), (2, .ref 19), (3, .ref 38), (4, .int v4)], [.int (0 : Int32)], (W9 N C E F P Q T G U_15 H B O J V Y Z O9), k, n)) (g := True ∧ True) (by with_unfolding_all rfl) ⟨trivial, trivial⟩ ?_
          cases h
          exact am_ev_ret 0 0 0 rfl .boolean rfl am_n0 rfl
      rw [if_neg c13] at h
      refine am_ev_swne c13 ?_
      by_cases c17 : ((xs (v4).toNatClampNeg) &&& (15 : Int32)) = (2 : Int32)
      · rw [if_pos c17] at h
        refine am_ev_sweq c17 ?_
        by_cases g18 : ((v4 + (1 : Int32)) < 0 ∨ sl ≤ ((v4 + (1 : Int32))).toNatClampNeg)
        · rw [if_pos g18] at h; cases h
        rw [if_neg g18] at h
        by_cases g19 : ((v4 + (2 : Int32)) < 0 ∨ sl ≤ ((v4 + (2 : Int32))).toNatClampNeg)
        · rw [if_pos g19] at h; cases h
        rw [if_neg g19] at h
        refine am_ev_st 11 (f' := (187, [(0, .retAddr 0), (1, .ref 0), (2, .ref 19), (3, .ref 38), (4, .int v4)], [.int (xs ((v4 + (2 : Int32))).toNatClampNeg), .int (xs ((v4 + (1 : Int32))).toNatClampNeg), .ref 0], (W9 N C E F P Q T G U H B O J V Y Z O9), k, n)) (g := True ∧ True ∧ True ∧ True ∧ True ∧ (0 < sl + 1 ∧ vp_in ((v4 + (1 : Int32))) sl) ∧ True ∧ True ∧ True ∧ True ∧ (0 < sl + 1 ∧ vp_in ((v4 + (2 : Int32))) sl) ∧ True) (by with_unfolding_all rfl) ⟨trivial, trivial, trivial, trivial, trivial, ⟨Nat.succ_pos _, g18⟩, trivial, trivial, trivial, trivial, ⟨Nat.succ_pos _, g19⟩, trivial⟩ ?_
        replace h := Option.bind_eq_some_iff.mp h
        obtain ⟨r20, hc20, h⟩ := h
        try dsimp only at h
        refine am_ev_call (.invokevirtual 49) 58 4 258 [.ref 0, .int (xs ((v4 + (1 : Int32))).toNatClampNeg), .int (xs ((v4 + (2 : Int32))).toNatClampNeg)] [] rfl rfl rfl rfl (ok_fJ_term hc20 D (by omega)) rfl ?_
        by_cases g21 : ((v4 + (1 : Int32)) < 0 ∨ sl ≤ ((v4 + (1 : Int32))).toNatClampNeg)
        · rw [if_pos g21] at h; cases h
        rw [if_neg g21] at h
        by_cases g22 : ((v4 + (2 : Int32)) < 0 ∨ sl ≤ ((v4 + (2 : Int32))).toNatClampNeg)
        · rw [if_pos g22] at h; cases h
        rw [if_neg g22] at h
        refine am_ev_st 11 (f' := (203, [(0, .retAddr 0), (1, .ref 0), (2, .ref 19), (3, .ref 38), (4, .int v4)], [.int (xs ((v4 + (2 : Int32))).toNatClampNeg), .int (xs ((v4 + (1 : Int32))).toNatClampNeg), .ref 19, .int r20], (W9 N C E F P Q T G U H B O J V Y Z O9), k, n)) (g := True ∧ True ∧ True ∧ True ∧ True ∧ (0 < sl + 1 ∧ vp_in ((v4 + (1 : Int32))) sl) ∧ True ∧ True ∧ True ∧ True ∧ (0 < sl + 1 ∧ vp_in ((v4 + (2 : Int32))) sl) ∧ True) (by with_unfolding_all rfl) ⟨trivial, trivial, trivial, trivial, trivial, ⟨Nat.succ_pos _, g21⟩, trivial, trivial, trivial, trivial, ⟨Nat.succ_pos _, g22⟩, trivial⟩ ?_
        replace h := Option.bind_eq_some_iff.mp h
        obtain ⟨⟨r23, U_23⟩, hc23, h⟩ := h
        try dsimp only at h
        refine am_ev_call (.invokevirtual 52) 109 4 792 [.ref 19, .int (xs ((v4 + (1 : Int32))).toNatClampNeg), .int (xs ((v4 + (2 : Int32))).toNatClampNeg)] [.int r20] rfl rfl rfl rfl (ok_fm_term hc23 D (by omega)) rfl ?_
        refine am_ev_st 1 (f' := am_br (r20 = r23) 771 206 [(0, .retAddr 0), (1, .ref 0), (2, .ref 19), (3, .ref 38), (4, .int v4)] [] (W9 N C E F P Q T G U_23 H B O J V Y Z O9) k n) (g := True ∧ True) (by with_unfolding_all rfl) ⟨trivial, trivial⟩ ?_
        by_cases c24 : r20 = r23
        · rw [if_pos c24] at h
          refine am_ev_pos c24 ?_
          refine am_ev_st 2 (f' := (23, [(4, .int (v4 + (4 : Int32))), (0, .retAddr 0), (1, .ref 0), (2, .ref 19), (3, .ref 38)], [], (W9 N C E F P Q T G U_23 H B O J V Y Z O9), k, n)) (g := True ∧ True ∧ True) (by with_unfolding_all rfl) ⟨trivial, trivial, trivial⟩ ?_
          refine am_ev_drop [1, 2, 3, 4, 0] rfl rfl ?_
          exact ih h
        · rw [if_neg c24] at h
          refine am_ev_neg c24 ?_
          refine am_ev_st 1 (f' := (210, [(0, .retAddr 0), (1, .ref 0), (2, .ref 19), (3, .ref 38), (4, .int v4)], [.int (0 : Int32)], (W9 N C E F P Q T G U_23 H B O J V Y Z O9), k, n)) (g := True ∧ True) (by with_unfolding_all rfl) ⟨trivial, trivial⟩ ?_
          cases h
          exact am_ev_ret 0 0 0 rfl .boolean rfl am_n0 rfl
      rw [if_neg c17] at h
      refine am_ev_swne c17 ?_
      by_cases c25 : ((xs (v4).toNatClampNeg) &&& (15 : Int32)) = (3 : Int32)
      · rw [if_pos c25] at h
        refine am_ev_sweq c25 ?_
        by_cases g26 : ((v4 + (1 : Int32)) < 0 ∨ sl ≤ ((v4 + (1 : Int32))).toNatClampNeg)
        · rw [if_pos g26] at h; cases h
        rw [if_neg g26] at h
        by_cases g27 : ((v4 + (2 : Int32)) < 0 ∨ sl ≤ ((v4 + (2 : Int32))).toNatClampNeg)
        · rw [if_pos g27] at h; cases h
        rw [if_neg g27] at h
        refine am_ev_st 12 (f' := (225, [(0, .retAddr 0), (1, .ref 0), (2, .ref 19), (3, .ref 38), (4, .int v4)], [.ref 38, .int (xs ((v4 + (2 : Int32))).toNatClampNeg), .int (xs ((v4 + (1 : Int32))).toNatClampNeg), .ref 0], (W9 N C E F P Q T G U H B O J V Y Z O9), k, n)) (g := True ∧ True ∧ True ∧ True ∧ True ∧ (0 < sl + 1 ∧ vp_in ((v4 + (1 : Int32))) sl) ∧ True ∧ True ∧ True ∧ True ∧ (0 < sl + 1 ∧ vp_in ((v4 + (2 : Int32))) sl) ∧ True ∧ True) (by with_unfolding_all rfl) ⟨trivial, trivial, trivial, trivial, trivial, ⟨Nat.succ_pos _, g26⟩, trivial, trivial, trivial, trivial, ⟨Nat.succ_pos _, g27⟩, trivial, trivial⟩ ?_
        replace h := Option.bind_eq_some_iff.mp h
        obtain ⟨⟨r28, N_28, E_28, F_28, O9_28, ⟨k_28, n_28⟩⟩, hc28, h⟩ := h
        try dsimp only at h
        refine am_ev_call (.invokestatic 53) 126 8 455 [.ref 0, .int (xs ((v4 + (1 : Int32))).toNatClampNeg), .int (xs ((v4 + (2 : Int32))).toNatClampNeg), .ref 38] [] rfl rfl rfl rfl (ok_fL_infer hc28 D (by omega)) rfl ?_
        by_cases g29 : ((v4 + (1 : Int32)) < 0 ∨ sl ≤ ((v4 + (1 : Int32))).toNatClampNeg)
        · rw [if_pos g29] at h; cases h
        rw [if_neg g29] at h
        by_cases g30 : ((v4 + (2 : Int32)) < 0 ∨ sl ≤ ((v4 + (2 : Int32))).toNatClampNeg)
        · rw [if_pos g30] at h; cases h
        rw [if_neg g30] at h
        refine am_ev_st 12 (f' := (243, [(5, .int r28), (0, .retAddr 0), (1, .ref 0), (2, .ref 19), (3, .ref 38), (4, .int v4)], [.int (xs ((v4 + (2 : Int32))).toNatClampNeg), .int (xs ((v4 + (1 : Int32))).toNatClampNeg), .ref 19], (W9 N_28 C E_28 F_28 P Q T G U H B O J V Y Z O9_28), k_28, n_28)) (g := True ∧ True ∧ True ∧ True ∧ True ∧ True ∧ (0 < sl + 1 ∧ vp_in ((v4 + (1 : Int32))) sl) ∧ True ∧ True ∧ True ∧ True ∧ (0 < sl + 1 ∧ vp_in ((v4 + (2 : Int32))) sl) ∧ True) (by with_unfolding_all rfl) ⟨trivial, trivial, trivial, trivial, trivial, trivial, ⟨Nat.succ_pos _, g29⟩, trivial, trivial, trivial, trivial, ⟨Nat.succ_pos _, g30⟩, trivial⟩ ?_
        replace h := Option.bind_eq_some_iff.mp h
        obtain ⟨⟨r31, U_31, V_31⟩, hc31, h⟩ := h
        try dsimp only at h
        refine am_ev_call (.invokevirtual 58) 113 4 800 [.ref 19, .int (xs ((v4 + (1 : Int32))).toNatClampNeg), .int (xs ((v4 + (2 : Int32))).toNatClampNeg)] [] rfl rfl rfl rfl (ok_fm_infer hc31 D (by omega)) rfl ?_
        refine am_ev_st 2 (f' := (249, [(6, .int r31), (5, .int r28), (0, .retAddr 0), (1, .ref 0), (2, .ref 19), (3, .ref 38), (4, .int v4)], [.ref 19], (W9 N_28 C E_28 F_28 P Q T G U_31 H B O J V_31 Y Z O9_28), k_28, n_28)) (g := True ∧ True ∧ True) (by with_unfolding_all rfl) ⟨trivial, trivial, trivial⟩ ?_
        replace h := Option.bind_eq_some_iff.mp h
        obtain ⟨r32, hc32, h⟩ := h
        try dsimp only at h
        refine am_ev_call (.invokevirtual 59) 77 0 780 [.ref 19] [] rfl rfl rfl rfl (ok_fm_thrown hc32 D (by omega)) rfl ?_
        refine am_ev_st 2 (f' := am_br (r32 = r28) 259 254 [(6, .int r31), (5, .int r28), (0, .retAddr 0), (1, .ref 0), (2, .ref 19), (3, .ref 38), (4, .int v4)] [] (W9 N_28 C E_28 F_28 P Q T G U_31 H B O J V_31 Y Z O9_28) k_28 n_28) (g := True ∧ True ∧ True) (by with_unfolding_all rfl) ⟨trivial, trivial, trivial⟩ ?_
        by_cases c33 : r32 = r28
        · rw [if_pos c33] at h
          refine am_ev_pos c33 ?_
          refine am_ev_st 2 (f' := am_br (r28 ≠ 0) 276 261 [(6, .int r31), (5, .int r28), (0, .retAddr 0), (1, .ref 0), (2, .ref 19), (3, .ref 38), (4, .int v4)] [] (W9 N_28 C E_28 F_28 P Q T G U_31 H B O J V_31 Y Z O9_28) k_28 n_28) (g := True ∧ True ∧ True) (by with_unfolding_all rfl) ⟨trivial, trivial, trivial⟩ ?_
          by_cases c34 : r28 ≠ 0
          · rw [if_pos c34] at h
            refine am_ev_pos c34 ?_
            refine am_ev_st 3 (f' := (23, [(4, .int (v4 + (4 : Int32))), (6, .int r31), (5, .int r28), (0, .retAddr 0), (1, .ref 0), (2, .ref 19), (3, .ref 38)], [], (W9 N_28 C E_28 F_28 P Q T G U_31 H B O J V_31 Y Z O9_28), k_28, n_28)) (g := True ∧ True ∧ True ∧ True) (by with_unfolding_all rfl) ⟨trivial, trivial, trivial, trivial⟩ ?_
            refine am_ev_drop [3, 4, 5, 6, 0] rfl rfl ?_
            exact ih h
          · rw [if_neg c34] at h
            refine am_ev_neg c34 ?_
            cases h
        · rw [if_neg c33] at h
          refine am_ev_neg c33 ?_
          refine am_ev_st 1 (f' := (258, [(6, .int r31), (5, .int r28), (0, .retAddr 0), (1, .ref 0), (2, .ref 19), (3, .ref 38), (4, .int v4)], [.int (0 : Int32)], (W9 N_28 C E_28 F_28 P Q T G U_31 H B O J V_31 Y Z O9_28), k_28, n_28)) (g := True ∧ True) (by with_unfolding_all rfl) ⟨trivial, trivial⟩ ?_
          cases h
          exact am_ev_ret 0 0 0 rfl .boolean rfl am_n0 rfl
      rw [if_neg c25] at h
      refine am_ev_swne c25 ?_
      by_cases c35 : ((xs (v4).toNatClampNeg) &&& (15 : Int32)) = (4 : Int32)
      · rw [if_pos c35] at h
        refine am_ev_sweq c35 ?_
        by_cases g36 : ((v4 + (1 : Int32)) < 0 ∨ sl ≤ ((v4 + (1 : Int32))).toNatClampNeg)
        · rw [if_pos g36] at h; cases h
        rw [if_neg g36] at h
        by_cases g37 : ((v4 + (2 : Int32)) < 0 ∨ sl ≤ ((v4 + (2 : Int32))).toNatClampNeg)
        · rw [if_pos g37] at h; cases h
        rw [if_neg g37] at h
        refine am_ev_st 12 (f' := (293, [(0, .retAddr 0), (1, .ref 0), (2, .ref 19), (3, .ref 38), (4, .int v4)], [.ref 38, .int (xs ((v4 + (2 : Int32))).toNatClampNeg), .int (xs ((v4 + (1 : Int32))).toNatClampNeg), .ref 0], (W9 N C E F P Q T G U H B O J V Y Z O9), k, n)) (g := True ∧ True ∧ True ∧ True ∧ True ∧ (0 < sl + 1 ∧ vp_in ((v4 + (1 : Int32))) sl) ∧ True ∧ True ∧ True ∧ True ∧ (0 < sl + 1 ∧ vp_in ((v4 + (2 : Int32))) sl) ∧ True ∧ True) (by with_unfolding_all rfl) ⟨trivial, trivial, trivial, trivial, trivial, ⟨Nat.succ_pos _, g36⟩, trivial, trivial, trivial, trivial, ⟨Nat.succ_pos _, g37⟩, trivial, trivial⟩ ?_
        replace h := Option.bind_eq_some_iff.mp h
        obtain ⟨⟨r38, N_38, E_38, F_38, O9_38, ⟨k_38, n_38⟩⟩, hc38, h⟩ := h
        try dsimp only at h
        refine am_ev_call (.invokestatic 62) 127 8 618 [.ref 0, .int (xs ((v4 + (1 : Int32))).toNatClampNeg), .int (xs ((v4 + (2 : Int32))).toNatClampNeg), .ref 38] [] rfl rfl rfl rfl (ok_fL_reduce hc38 D (by omega)) rfl ?_
        by_cases g39 : ((v4 + (1 : Int32)) < 0 ∨ sl ≤ ((v4 + (1 : Int32))).toNatClampNeg)
        · rw [if_pos g39] at h; cases h
        rw [if_neg g39] at h
        by_cases g40 : ((v4 + (2 : Int32)) < 0 ∨ sl ≤ ((v4 + (2 : Int32))).toNatClampNeg)
        · rw [if_pos g40] at h; cases h
        rw [if_neg g40] at h
        refine am_ev_st 12 (f' := (311, [(5, .int r38), (0, .retAddr 0), (1, .ref 0), (2, .ref 19), (3, .ref 38), (4, .int v4)], [.int (xs ((v4 + (2 : Int32))).toNatClampNeg), .int (xs ((v4 + (1 : Int32))).toNatClampNeg), .ref 19], (W9 N_38 C E_38 F_38 P Q T G U H B O J V Y Z O9_38), k_38, n_38)) (g := True ∧ True ∧ True ∧ True ∧ True ∧ True ∧ (0 < sl + 1 ∧ vp_in ((v4 + (1 : Int32))) sl) ∧ True ∧ True ∧ True ∧ True ∧ (0 < sl + 1 ∧ vp_in ((v4 + (2 : Int32))) sl) ∧ True) (by with_unfolding_all rfl) ⟨trivial, trivial, trivial, trivial, trivial, trivial, ⟨Nat.succ_pos _, g39⟩, trivial, trivial, trivial, trivial, ⟨Nat.succ_pos _, g40⟩, trivial⟩ ?_
        replace h := Option.bind_eq_some_iff.mp h
        obtain ⟨⟨r41, U_41, V_41⟩, hc41, h⟩ := h
        try dsimp only at h
        refine am_ev_call (.invokevirtual 64) 114 4 925 [.ref 19, .int (xs ((v4 + (1 : Int32))).toNatClampNeg), .int (xs ((v4 + (2 : Int32))).toNatClampNeg)] [] rfl rfl rfl rfl (ok_fm_reduce hc41 D (by omega)) rfl ?_
        refine am_ev_st 2 (f' := (317, [(6, .int r41), (5, .int r38), (0, .retAddr 0), (1, .ref 0), (2, .ref 19), (3, .ref 38), (4, .int v4)], [.ref 19], (W9 N_38 C E_38 F_38 P Q T G U_41 H B O J V_41 Y Z O9_38), k_38, n_38)) (g := True ∧ True ∧ True) (by with_unfolding_all rfl) ⟨trivial, trivial, trivial⟩ ?_
        replace h := Option.bind_eq_some_iff.mp h
        obtain ⟨r42, hc42, h⟩ := h
        try dsimp only at h
        refine am_ev_call (.invokevirtual 59) 77 0 780 [.ref 19] [] rfl rfl rfl rfl (ok_fm_thrown hc42 D (by omega)) rfl ?_
        refine am_ev_st 2 (f' := am_br (r42 = r38) 327 322 [(6, .int r41), (5, .int r38), (0, .retAddr 0), (1, .ref 0), (2, .ref 19), (3, .ref 38), (4, .int v4)] [] (W9 N_38 C E_38 F_38 P Q T G U_41 H B O J V_41 Y Z O9_38) k_38 n_38) (g := True ∧ True ∧ True) (by with_unfolding_all rfl) ⟨trivial, trivial, trivial⟩ ?_
        by_cases c43 : r42 = r38
        · rw [if_pos c43] at h
          refine am_ev_pos c43 ?_
          refine am_ev_st 2 (f' := am_br (r38 ≠ 0) 344 329 [(6, .int r41), (5, .int r38), (0, .retAddr 0), (1, .ref 0), (2, .ref 19), (3, .ref 38), (4, .int v4)] [] (W9 N_38 C E_38 F_38 P Q T G U_41 H B O J V_41 Y Z O9_38) k_38 n_38) (g := True ∧ True ∧ True) (by with_unfolding_all rfl) ⟨trivial, trivial, trivial⟩ ?_
          by_cases c44 : r38 ≠ 0
          · rw [if_pos c44] at h
            refine am_ev_pos c44 ?_
            refine am_ev_st 3 (f' := (23, [(4, .int (v4 + (4 : Int32))), (6, .int r41), (5, .int r38), (0, .retAddr 0), (1, .ref 0), (2, .ref 19), (3, .ref 38)], [], (W9 N_38 C E_38 F_38 P Q T G U_41 H B O J V_41 Y Z O9_38), k_38, n_38)) (g := True ∧ True ∧ True ∧ True) (by with_unfolding_all rfl) ⟨trivial, trivial, trivial, trivial⟩ ?_
            refine am_ev_drop [3, 4, 5, 6, 0] rfl rfl ?_
            exact ih h
          · rw [if_neg c44] at h
            refine am_ev_neg c44 ?_
            cases h
        · rw [if_neg c43] at h
          refine am_ev_neg c43 ?_
          refine am_ev_st 1 (f' := (326, [(6, .int r41), (5, .int r38), (0, .retAddr 0), (1, .ref 0), (2, .ref 19), (3, .ref 38), (4, .int v4)], [.int (0 : Int32)], (W9 N_38 C E_38 F_38 P Q T G U_41 H B O J V_41 Y Z O9_38), k_38, n_38)) (g := True ∧ True) (by with_unfolding_all rfl) ⟨trivial, trivial⟩ ?_
          cases h
          exact am_ev_ret 0 0 0 rfl .boolean rfl am_n0 rfl
      rw [if_neg c35] at h
      refine am_ev_swne c35 ?_
      by_cases c45 : ((xs (v4).toNatClampNeg) &&& (15 : Int32)) = (5 : Int32)
      · rw [if_pos c45] at h
        refine am_ev_sweq c45 ?_
        by_cases g46 : ((v4 + (1 : Int32)) < 0 ∨ sl ≤ ((v4 + (1 : Int32))).toNatClampNeg)
        · rw [if_pos g46] at h; cases h
        rw [if_neg g46] at h
        by_cases g47 : ((v4 + (2 : Int32)) < 0 ∨ sl ≤ ((v4 + (2 : Int32))).toNatClampNeg)
        · rw [if_pos g47] at h; cases h
        rw [if_neg g47] at h
        by_cases g48 : ((v4 + (3 : Int32)) < 0 ∨ sl ≤ ((v4 + (3 : Int32))).toNatClampNeg)
        · rw [if_pos g48] at h; cases h
        rw [if_neg g48] at h
        refine am_ev_st 17 (f' := (367, [(0, .retAddr 0), (1, .ref 0), (2, .ref 19), (3, .ref 38), (4, .int v4)], [.ref 38, .int (xs ((v4 + (3 : Int32))).toNatClampNeg), .int (xs ((v4 + (2 : Int32))).toNatClampNeg), .int (xs ((v4 + (1 : Int32))).toNatClampNeg), .ref 0], (W9 N C E F P Q T G U H B O J V Y Z O9), k, n)) (g := True ∧ True ∧ True ∧ True ∧ True ∧ (0 < sl + 1 ∧ vp_in ((v4 + (1 : Int32))) sl) ∧ True ∧ True ∧ True ∧ True ∧ (0 < sl + 1 ∧ vp_in ((v4 + (2 : Int32))) sl) ∧ True ∧ True ∧ True ∧ True ∧ (0 < sl + 1 ∧ vp_in ((v4 + (3 : Int32))) sl) ∧ True ∧ True) (by with_unfolding_all rfl) ⟨trivial, trivial, trivial, trivial, trivial, ⟨Nat.succ_pos _, g46⟩, trivial, trivial, trivial, trivial, ⟨Nat.succ_pos _, g47⟩, trivial, trivial, trivial, trivial, ⟨Nat.succ_pos _, g48⟩, trivial, trivial⟩ ?_
        replace h := Option.bind_eq_some_iff.mp h
        obtain ⟨⟨r49, N_49, E_49, F_49, O9_49, ⟨k_49, n_49⟩⟩, hc49, h⟩ := h
        try dsimp only at h
        refine am_ev_call (.invokestatic 65) 128 10 626 [.ref 0, .int (xs ((v4 + (1 : Int32))).toNatClampNeg), .int (xs ((v4 + (2 : Int32))).toNatClampNeg), .int (xs ((v4 + (3 : Int32))).toNatClampNeg), .ref 38] [] rfl rfl rfl rfl (ok_fL_same hc49 D (by omega)) rfl ?_
        by_cases g50 : ((v4 + (1 : Int32)) < 0 ∨ sl ≤ ((v4 + (1 : Int32))).toNatClampNeg)
        · rw [if_pos g50] at h; cases h
        rw [if_neg g50] at h
        by_cases g51 : ((v4 + (2 : Int32)) < 0 ∨ sl ≤ ((v4 + (2 : Int32))).toNatClampNeg)
        · rw [if_pos g51] at h; cases h
        rw [if_neg g51] at h
        by_cases g52 : ((v4 + (3 : Int32)) < 0 ∨ sl ≤ ((v4 + (3 : Int32))).toNatClampNeg)
        · rw [if_pos g52] at h; cases h
        rw [if_neg g52] at h
        refine am_ev_st 17 (f' := (391, [(5, .int r49), (0, .retAddr 0), (1, .ref 0), (2, .ref 19), (3, .ref 38), (4, .int v4)], [.int (xs ((v4 + (3 : Int32))).toNatClampNeg), .int (xs ((v4 + (2 : Int32))).toNatClampNeg), .int (xs ((v4 + (1 : Int32))).toNatClampNeg), .ref 19], (W9 N_49 C E_49 F_49 P Q T G U H B O J V Y Z O9_49), k_49, n_49)) (g := True ∧ True ∧ True ∧ True ∧ True ∧ True ∧ (0 < sl + 1 ∧ vp_in ((v4 + (1 : Int32))) sl) ∧ True ∧ True ∧ True ∧ True ∧ (0 < sl + 1 ∧ vp_in ((v4 + (2 : Int32))) sl) ∧ True ∧ True ∧ True ∧ True ∧ (0 < sl + 1 ∧ vp_in ((v4 + (3 : Int32))) sl) ∧ True) (by with_unfolding_all rfl) ⟨trivial, trivial, trivial, trivial, trivial, trivial, ⟨Nat.succ_pos _, g50⟩, trivial, trivial, trivial, trivial, ⟨Nat.succ_pos _, g51⟩, trivial, trivial, trivial, trivial, ⟨Nat.succ_pos _, g52⟩, trivial⟩ ?_
        replace h := Option.bind_eq_some_iff.mp h
        obtain ⟨⟨r53, U_53, V_53⟩, hc53, h⟩ := h
        try dsimp only at h
        refine am_ev_call (.invokevirtual 68) 115 6 929 [.ref 19, .int (xs ((v4 + (1 : Int32))).toNatClampNeg), .int (xs ((v4 + (2 : Int32))).toNatClampNeg), .int (xs ((v4 + (3 : Int32))).toNatClampNeg)] [] rfl rfl rfl rfl (ok_fm_same hc53 D (by omega)) rfl ?_
        refine am_ev_st 2 (f' := (397, [(6, .int (am_bz r53)), (5, .int r49), (0, .retAddr 0), (1, .ref 0), (2, .ref 19), (3, .ref 38), (4, .int v4)], [.ref 19], (W9 N_49 C E_49 F_49 P Q T G U_53 H B O J V_53 Y Z O9_49), k_49, n_49)) (g := True ∧ True ∧ True) (by with_unfolding_all rfl) ⟨trivial, trivial, trivial⟩ ?_
        replace h := Option.bind_eq_some_iff.mp h
        obtain ⟨r54, hc54, h⟩ := h
        try dsimp only at h
        refine am_ev_call (.invokevirtual 59) 77 0 780 [.ref 19] [] rfl rfl rfl rfl (ok_fm_thrown hc54 D (by omega)) rfl ?_
        refine am_ev_st 2 (f' := am_br (r54 = r49) 407 402 [(6, .int (am_bz r53)), (5, .int r49), (0, .retAddr 0), (1, .ref 0), (2, .ref 19), (3, .ref 38), (4, .int v4)] [] (W9 N_49 C E_49 F_49 P Q T G U_53 H B O J V_53 Y Z O9_49) k_49 n_49) (g := True ∧ True ∧ True) (by with_unfolding_all rfl) ⟨trivial, trivial, trivial⟩ ?_
        by_cases c55 : r54 = r49
        · rw [if_pos c55] at h
          refine am_ev_pos c55 ?_
          refine am_ev_st 2 (f' := am_br (r49 ≠ 0) 431 409 [(6, .int (am_bz r53)), (5, .int r49), (0, .retAddr 0), (1, .ref 0), (2, .ref 19), (3, .ref 38), (4, .int v4)] [] (W9 N_49 C E_49 F_49 P Q T G U_53 H B O J V_53 Y Z O9_49) k_49 n_49) (g := True ∧ True ∧ True) (by with_unfolding_all rfl) ⟨trivial, trivial, trivial⟩ ?_
          by_cases c56 : r49 ≠ 0
          · rw [if_pos c56] at h
            refine am_ev_pos c56 ?_
            refine am_ev_st 3 (f' := (23, [(4, .int (v4 + (4 : Int32))), (6, .int (am_bz r53)), (5, .int r49), (0, .retAddr 0), (1, .ref 0), (2, .ref 19), (3, .ref 38)], [], (W9 N_49 C E_49 F_49 P Q T G U_53 H B O J V_53 Y Z O9_49), k_49, n_49)) (g := True ∧ True ∧ True ∧ True) (by with_unfolding_all rfl) ⟨trivial, trivial, trivial, trivial⟩ ?_
            refine am_ev_drop [3, 4, 5, 6, 0] rfl rfl ?_
            exact ih h
          · rw [if_neg c56] at h
            refine am_ev_neg c56 ?_
            cases h
        · rw [if_neg c55] at h
          refine am_ev_neg c55 ?_
          refine am_ev_st 1 (f' := (406, [(6, .int (am_bz r53)), (5, .int r49), (0, .retAddr 0), (1, .ref 0), (2, .ref 19), (3, .ref 38), (4, .int v4)], [.int (0 : Int32)], (W9 N_49 C E_49 F_49 P Q T G U_53 H B O J V_53 Y Z O9_49), k_49, n_49)) (g := True ∧ True) (by with_unfolding_all rfl) ⟨trivial, trivial⟩ ?_
          cases h
          exact am_ev_ret 0 0 0 rfl .boolean rfl am_n0 rfl
      rw [if_neg c45] at h
      refine am_ev_swne c45 ?_
      by_cases c57 : ((xs (v4).toNatClampNeg) &&& (15 : Int32)) = (6 : Int32)
      · rw [if_pos c57] at h
        refine am_ev_sweq c57 ?_
        by_cases g58 : ((v4 + (1 : Int32)) < 0 ∨ sl ≤ ((v4 + (1 : Int32))).toNatClampNeg)
        · rw [if_pos g58] at h; cases h
        rw [if_neg g58] at h
        by_cases g59 : ((v4 + (2 : Int32)) < 0 ∨ sl ≤ ((v4 + (2 : Int32))).toNatClampNeg)
        · rw [if_pos g59] at h; cases h
        rw [if_neg g59] at h
        by_cases g60 : ((v4 + (3 : Int32)) < 0 ∨ sl ≤ ((v4 + (3 : Int32))).toNatClampNeg)
        · rw [if_pos g60] at h; cases h
        rw [if_neg g60] at h
        refine am_ev_st 17 (f' := (454, [(0, .retAddr 0), (1, .ref 0), (2, .ref 19), (3, .ref 38), (4, .int v4)], [.ref 38, .int (xs ((v4 + (3 : Int32))).toNatClampNeg), .int (xs ((v4 + (2 : Int32))).toNatClampNeg), .int (xs ((v4 + (1 : Int32))).toNatClampNeg), .ref 0], (W9 N C E F P Q T G U H B O J V Y Z O9), k, n)) (g := True ∧ True ∧ True ∧ True ∧ True ∧ (0 < sl + 1 ∧ vp_in ((v4 + (1 : Int32))) sl) ∧ True ∧ True ∧ True ∧ True ∧ (0 < sl + 1 ∧ vp_in ((v4 + (2 : Int32))) sl) ∧ True ∧ True ∧ True ∧ True ∧ (0 < sl + 1 ∧ vp_in ((v4 + (3 : Int32))) sl) ∧ True ∧ True) (by with_unfolding_all rfl) ⟨trivial, trivial, trivial, trivial, trivial, ⟨Nat.succ_pos _, g58⟩, trivial, trivial, trivial, trivial, ⟨Nat.succ_pos _, g59⟩, trivial, trivial, trivial, trivial, ⟨Nat.succ_pos _, g60⟩, trivial, trivial⟩ ?_
        replace h := Option.bind_eq_some_iff.mp h
        obtain ⟨⟨r61, N_61, E_61, F_61, O9_61, ⟨k_61, n_61⟩⟩, hc61, h⟩ := h
        try dsimp only at h
        refine am_ev_call (.invokestatic 69) 129 10 634 [.ref 0, .int (xs ((v4 + (1 : Int32))).toNatClampNeg), .int (xs ((v4 + (2 : Int32))).toNatClampNeg), .int (xs ((v4 + (3 : Int32))).toNatClampNeg), .ref 38] [] rfl rfl rfl rfl (ok_fL_check hc61 D (by omega)) rfl ?_
        by_cases g62 : ((v4 + (1 : Int32)) < 0 ∨ sl ≤ ((v4 + (1 : Int32))).toNatClampNeg)
        · rw [if_pos g62] at h; cases h
        rw [if_neg g62] at h
        by_cases g63 : ((v4 + (2 : Int32)) < 0 ∨ sl ≤ ((v4 + (2 : Int32))).toNatClampNeg)
        · rw [if_pos g63] at h; cases h
        rw [if_neg g63] at h
        by_cases g64 : ((v4 + (3 : Int32)) < 0 ∨ sl ≤ ((v4 + (3 : Int32))).toNatClampNeg)
        · rw [if_pos g64] at h; cases h
        rw [if_neg g64] at h
        refine am_ev_st 17 (f' := (478, [(5, .int r61), (0, .retAddr 0), (1, .ref 0), (2, .ref 19), (3, .ref 38), (4, .int v4)], [.int (xs ((v4 + (3 : Int32))).toNatClampNeg), .int (xs ((v4 + (2 : Int32))).toNatClampNeg), .int (xs ((v4 + (1 : Int32))).toNatClampNeg), .ref 19], (W9 N_61 C E_61 F_61 P Q T G U H B O J V Y Z O9_61), k_61, n_61)) (g := True ∧ True ∧ True ∧ True ∧ True ∧ True ∧ (0 < sl + 1 ∧ vp_in ((v4 + (1 : Int32))) sl) ∧ True ∧ True ∧ True ∧ True ∧ (0 < sl + 1 ∧ vp_in ((v4 + (2 : Int32))) sl) ∧ True ∧ True ∧ True ∧ True ∧ (0 < sl + 1 ∧ vp_in ((v4 + (3 : Int32))) sl) ∧ True) (by with_unfolding_all rfl) ⟨trivial, trivial, trivial, trivial, trivial, trivial, ⟨Nat.succ_pos _, g62⟩, trivial, trivial, trivial, trivial, ⟨Nat.succ_pos _, g63⟩, trivial, trivial, trivial, trivial, ⟨Nat.succ_pos _, g64⟩, trivial⟩ ?_
        replace h := Option.bind_eq_some_iff.mp h
        obtain ⟨⟨r65, U_65, V_65⟩, hc65, h⟩ := h
        try dsimp only at h
        refine am_ev_call (.invokevirtual 71) 116 6 933 [.ref 19, .int (xs ((v4 + (1 : Int32))).toNatClampNeg), .int (xs ((v4 + (2 : Int32))).toNatClampNeg), .int (xs ((v4 + (3 : Int32))).toNatClampNeg)] [] rfl rfl rfl rfl (ok_fm_check hc65 D (by omega)) rfl ?_
        refine am_ev_st 2 (f' := (484, [(6, .int (am_bz r65)), (5, .int r61), (0, .retAddr 0), (1, .ref 0), (2, .ref 19), (3, .ref 38), (4, .int v4)], [.ref 19], (W9 N_61 C E_61 F_61 P Q T G U_65 H B O J V_65 Y Z O9_61), k_61, n_61)) (g := True ∧ True ∧ True) (by with_unfolding_all rfl) ⟨trivial, trivial, trivial⟩ ?_
        replace h := Option.bind_eq_some_iff.mp h
        obtain ⟨r66, hc66, h⟩ := h
        try dsimp only at h
        refine am_ev_call (.invokevirtual 59) 77 0 780 [.ref 19] [] rfl rfl rfl rfl (ok_fm_thrown hc66 D (by omega)) rfl ?_
        refine am_ev_st 2 (f' := am_br (r66 = r61) 494 489 [(6, .int (am_bz r65)), (5, .int r61), (0, .retAddr 0), (1, .ref 0), (2, .ref 19), (3, .ref 38), (4, .int v4)] [] (W9 N_61 C E_61 F_61 P Q T G U_65 H B O J V_65 Y Z O9_61) k_61 n_61) (g := True ∧ True ∧ True) (by with_unfolding_all rfl) ⟨trivial, trivial, trivial⟩ ?_
        by_cases c67 : r66 = r61
        · rw [if_pos c67] at h
          refine am_ev_pos c67 ?_
          refine am_ev_st 2 (f' := am_br (r61 ≠ 0) 518 496 [(6, .int (am_bz r65)), (5, .int r61), (0, .retAddr 0), (1, .ref 0), (2, .ref 19), (3, .ref 38), (4, .int v4)] [] (W9 N_61 C E_61 F_61 P Q T G U_65 H B O J V_65 Y Z O9_61) k_61 n_61) (g := True ∧ True ∧ True) (by with_unfolding_all rfl) ⟨trivial, trivial, trivial⟩ ?_
          by_cases c68 : r61 ≠ 0
          · rw [if_pos c68] at h
            refine am_ev_pos c68 ?_
            refine am_ev_st 3 (f' := (23, [(4, .int (v4 + (4 : Int32))), (6, .int (am_bz r65)), (5, .int r61), (0, .retAddr 0), (1, .ref 0), (2, .ref 19), (3, .ref 38)], [], (W9 N_61 C E_61 F_61 P Q T G U_65 H B O J V_65 Y Z O9_61), k_61, n_61)) (g := True ∧ True ∧ True ∧ True) (by with_unfolding_all rfl) ⟨trivial, trivial, trivial, trivial⟩ ?_
            refine am_ev_drop [3, 4, 5, 6, 0] rfl rfl ?_
            exact ih h
          · rw [if_neg c68] at h
            refine am_ev_neg c68 ?_
            cases h
        · rw [if_neg c67] at h
          refine am_ev_neg c67 ?_
          refine am_ev_st 1 (f' := (493, [(6, .int (am_bz r65)), (5, .int r61), (0, .retAddr 0), (1, .ref 0), (2, .ref 19), (3, .ref 38), (4, .int v4)], [.int (0 : Int32)], (W9 N_61 C E_61 F_61 P Q T G U_65 H B O J V_65 Y Z O9_61), k_61, n_61)) (g := True ∧ True) (by with_unfolding_all rfl) ⟨trivial, trivial⟩ ?_
          cases h
          exact am_ev_ret 0 0 0 rfl .boolean rfl am_n0 rfl
      rw [if_neg c57] at h
      refine am_ev_swne c57 ?_
      by_cases c69 : ((xs (v4).toNatClampNeg) &&& (15 : Int32)) = (7 : Int32)
      · rw [if_pos c69] at h
        refine am_ev_sweq c69 ?_
        by_cases g70 : ((v4 + (1 : Int32)) < 0 ∨ sl ≤ ((v4 + (1 : Int32))).toNatClampNeg)
        · rw [if_pos g70] at h; cases h
        rw [if_neg g70] at h
        by_cases g71 : ((v4 + (2 : Int32)) < 0 ∨ sl ≤ ((v4 + (2 : Int32))).toNatClampNeg)
        · rw [if_pos g71] at h; cases h
        rw [if_neg g71] at h
        refine am_ev_st 12 (f' := (535, [(0, .retAddr 0), (1, .ref 0), (2, .ref 19), (3, .ref 38), (4, .int v4)], [.ref 38, .int (xs ((v4 + (2 : Int32))).toNatClampNeg), .int (xs ((v4 + (1 : Int32))).toNatClampNeg), .ref 0], (W9 N C E F P Q T G U H B O J V Y Z O9), k, n)) (g := True ∧ True ∧ True ∧ True ∧ True ∧ (0 < sl + 1 ∧ vp_in ((v4 + (1 : Int32))) sl) ∧ True ∧ True ∧ True ∧ True ∧ (0 < sl + 1 ∧ vp_in ((v4 + (2 : Int32))) sl) ∧ True ∧ True) (by with_unfolding_all rfl) ⟨trivial, trivial, trivial, trivial, trivial, ⟨Nat.succ_pos _, g70⟩, trivial, trivial, trivial, trivial, ⟨Nat.succ_pos _, g71⟩, trivial, trivial⟩ ?_
        replace h := Option.bind_eq_some_iff.mp h
        obtain ⟨⟨r72, N_72, E_72, F_72, O9_72, ⟨k_72, n_72⟩⟩, hc72, h⟩ := h
        try dsimp only at h
        refine am_ev_call (.invokestatic 72) 130 8 642 [.ref 0, .int (xs ((v4 + (1 : Int32))).toNatClampNeg), .int (xs ((v4 + (2 : Int32))).toNatClampNeg), .ref 38] [] rfl rfl rfl rfl (ok_fL_declare hc72 D (by omega)) rfl ?_
        by_cases g73 : ((v4 + (1 : Int32)) < 0 ∨ sl ≤ ((v4 + (1 : Int32))).toNatClampNeg)
        · rw [if_pos g73] at h; cases h
        rw [if_neg g73] at h
        by_cases g74 : ((v4 + (2 : Int32)) < 0 ∨ sl ≤ ((v4 + (2 : Int32))).toNatClampNeg)
        · rw [if_pos g74] at h; cases h
        rw [if_neg g74] at h
        refine am_ev_st 12 (f' := (553, [(5, .int r72), (0, .retAddr 0), (1, .ref 0), (2, .ref 19), (3, .ref 38), (4, .int v4)], [.int (xs ((v4 + (2 : Int32))).toNatClampNeg), .int (xs ((v4 + (1 : Int32))).toNatClampNeg), .ref 19], (W9 N_72 C E_72 F_72 P Q T G U H B O J V Y Z O9_72), k_72, n_72)) (g := True ∧ True ∧ True ∧ True ∧ True ∧ True ∧ (0 < sl + 1 ∧ vp_in ((v4 + (1 : Int32))) sl) ∧ True ∧ True ∧ True ∧ True ∧ (0 < sl + 1 ∧ vp_in ((v4 + (2 : Int32))) sl) ∧ True) (by with_unfolding_all rfl) ⟨trivial, trivial, trivial, trivial, trivial, trivial, ⟨Nat.succ_pos _, g73⟩, trivial, trivial, trivial, trivial, ⟨Nat.succ_pos _, g74⟩, trivial⟩ ?_
        replace h := Option.bind_eq_some_iff.mp h
        obtain ⟨⟨r75, U_75, V_75⟩, hc75, h⟩ := h
        try dsimp only at h
        refine am_ev_call (.invokevirtual 74) 117 4 937 [.ref 19, .int (xs ((v4 + (1 : Int32))).toNatClampNeg), .int (xs ((v4 + (2 : Int32))).toNatClampNeg)] [] rfl rfl rfl rfl (ok_fm_declare hc75 D (by omega)) rfl ?_
        refine am_ev_st 2 (f' := (559, [(6, .int r75), (5, .int r72), (0, .retAddr 0), (1, .ref 0), (2, .ref 19), (3, .ref 38), (4, .int v4)], [.ref 19], (W9 N_72 C E_72 F_72 P Q T G U_75 H B O J V_75 Y Z O9_72), k_72, n_72)) (g := True ∧ True ∧ True) (by with_unfolding_all rfl) ⟨trivial, trivial, trivial⟩ ?_
        replace h := Option.bind_eq_some_iff.mp h
        obtain ⟨r76, hc76, h⟩ := h
        try dsimp only at h
        refine am_ev_call (.invokevirtual 59) 77 0 780 [.ref 19] [] rfl rfl rfl rfl (ok_fm_thrown hc76 D (by omega)) rfl ?_
        refine am_ev_st 2 (f' := am_br (r76 = r72) 569 564 [(6, .int r75), (5, .int r72), (0, .retAddr 0), (1, .ref 0), (2, .ref 19), (3, .ref 38), (4, .int v4)] [] (W9 N_72 C E_72 F_72 P Q T G U_75 H B O J V_75 Y Z O9_72) k_72 n_72) (g := True ∧ True ∧ True) (by with_unfolding_all rfl) ⟨trivial, trivial, trivial⟩ ?_
        by_cases c77 : r76 = r72
        · rw [if_pos c77] at h
          refine am_ev_pos c77 ?_
          refine am_ev_st 2 (f' := am_br (r72 ≠ 0) 586 571 [(6, .int r75), (5, .int r72), (0, .retAddr 0), (1, .ref 0), (2, .ref 19), (3, .ref 38), (4, .int v4)] [] (W9 N_72 C E_72 F_72 P Q T G U_75 H B O J V_75 Y Z O9_72) k_72 n_72) (g := True ∧ True ∧ True) (by with_unfolding_all rfl) ⟨trivial, trivial, trivial⟩ ?_
          by_cases c78 : r72 ≠ 0
          · rw [if_pos c78] at h
            refine am_ev_pos c78 ?_
            refine am_ev_st 3 (f' := (23, [(4, .int (v4 + (4 : Int32))), (6, .int r75), (5, .int r72), (0, .retAddr 0), (1, .ref 0), (2, .ref 19), (3, .ref 38)], [], (W9 N_72 C E_72 F_72 P Q T G U_75 H B O J V_75 Y Z O9_72), k_72, n_72)) (g := True ∧ True ∧ True ∧ True) (by with_unfolding_all rfl) ⟨trivial, trivial, trivial, trivial⟩ ?_
            refine am_ev_drop [3, 4, 5, 6, 0] rfl rfl ?_
            exact ih h
          · rw [if_neg c78] at h
            refine am_ev_neg c78 ?_
            cases h
        · rw [if_neg c77] at h
          refine am_ev_neg c77 ?_
          refine am_ev_st 1 (f' := (568, [(6, .int r75), (5, .int r72), (0, .retAddr 0), (1, .ref 0), (2, .ref 19), (3, .ref 38), (4, .int v4)], [.int (0 : Int32)], (W9 N_72 C E_72 F_72 P Q T G U_75 H B O J V_75 Y Z O9_72), k_72, n_72)) (g := True ∧ True) (by with_unfolding_all rfl) ⟨trivial, trivial⟩ ?_
          cases h
          exact am_ev_ret 0 0 0 rfl .boolean rfl am_n0 rfl
      rw [if_neg c69] at h
      refine am_ev_swne c69 ?_
      by_cases c79 : ((xs (v4).toNatClampNeg) &&& (15 : Int32)) = (8 : Int32)
      · rw [if_pos c79] at h
        refine am_ev_sweq c79 ?_
        by_cases g80 : ((v4 + (1 : Int32)) < 0 ∨ sl ≤ ((v4 + (1 : Int32))).toNatClampNeg)
        · rw [if_pos g80] at h; cases h
        rw [if_neg g80] at h
        by_cases g81 : ((v4 + (2 : Int32)) < 0 ∨ sl ≤ ((v4 + (2 : Int32))).toNatClampNeg)
        · rw [if_pos g81] at h; cases h
        rw [if_neg g81] at h
        refine am_ev_st 12 (f' := (603, [(0, .retAddr 0), (1, .ref 0), (2, .ref 19), (3, .ref 38), (4, .int v4)], [.ref 38, .int (xs ((v4 + (2 : Int32))).toNatClampNeg), .int (xs ((v4 + (1 : Int32))).toNatClampNeg), .ref 0], (W9 N C E F P Q T G U H B O J V Y Z O9), k, n)) (g := True ∧ True ∧ True ∧ True ∧ True ∧ (0 < sl + 1 ∧ vp_in ((v4 + (1 : Int32))) sl) ∧ True ∧ True ∧ True ∧ True ∧ (0 < sl + 1 ∧ vp_in ((v4 + (2 : Int32))) sl) ∧ True ∧ True) (by with_unfolding_all rfl) ⟨trivial, trivial, trivial, trivial, trivial, ⟨Nat.succ_pos _, g80⟩, trivial, trivial, trivial, trivial, ⟨Nat.succ_pos _, g81⟩, trivial, trivial⟩ ?_
        replace h := Option.bind_eq_some_iff.mp h
        obtain ⟨⟨r82, N_82, E_82, F_82, O9_82, ⟨k_82, n_82⟩⟩, hc82, h⟩ := h
        try dsimp only at h
        refine am_ev_call (.invokestatic 75) 131 8 661 [.ref 0, .int (xs ((v4 + (1 : Int32))).toNatClampNeg), .int (xs ((v4 + (2 : Int32))).toNatClampNeg), .ref 38] [] rfl rfl rfl rfl (ok_fL_define hc82 D (by omega)) rfl ?_
        by_cases g83 : ((v4 + (1 : Int32)) < 0 ∨ sl ≤ ((v4 + (1 : Int32))).toNatClampNeg)
        · rw [if_pos g83] at h; cases h
        rw [if_neg g83] at h
        by_cases g84 : ((v4 + (2 : Int32)) < 0 ∨ sl ≤ ((v4 + (2 : Int32))).toNatClampNeg)
        · rw [if_pos g84] at h; cases h
        rw [if_neg g84] at h
        refine am_ev_st 12 (f' := (621, [(5, .int r82), (0, .retAddr 0), (1, .ref 0), (2, .ref 19), (3, .ref 38), (4, .int v4)], [.int (xs ((v4 + (2 : Int32))).toNatClampNeg), .int (xs ((v4 + (1 : Int32))).toNatClampNeg), .ref 19], (W9 N_82 C E_82 F_82 P Q T G U H B O J V Y Z O9_82), k_82, n_82)) (g := True ∧ True ∧ True ∧ True ∧ True ∧ True ∧ (0 < sl + 1 ∧ vp_in ((v4 + (1 : Int32))) sl) ∧ True ∧ True ∧ True ∧ True ∧ (0 < sl + 1 ∧ vp_in ((v4 + (2 : Int32))) sl) ∧ True) (by with_unfolding_all rfl) ⟨trivial, trivial, trivial, trivial, trivial, trivial, ⟨Nat.succ_pos _, g83⟩, trivial, trivial, trivial, trivial, ⟨Nat.succ_pos _, g84⟩, trivial⟩ ?_
        replace h := Option.bind_eq_some_iff.mp h
        obtain ⟨⟨r85, U_85, V_85⟩, hc85, h⟩ := h
        try dsimp only at h
        refine am_ev_call (.invokevirtual 77) 118 4 941 [.ref 19, .int (xs ((v4 + (1 : Int32))).toNatClampNeg), .int (xs ((v4 + (2 : Int32))).toNatClampNeg)] [] rfl rfl rfl rfl (ok_fm_define hc85 D (by omega)) rfl ?_
        refine am_ev_st 2 (f' := (627, [(6, .int r85), (5, .int r82), (0, .retAddr 0), (1, .ref 0), (2, .ref 19), (3, .ref 38), (4, .int v4)], [.ref 19], (W9 N_82 C E_82 F_82 P Q T G U_85 H B O J V_85 Y Z O9_82), k_82, n_82)) (g := True ∧ True ∧ True) (by with_unfolding_all rfl) ⟨trivial, trivial, trivial⟩ ?_
        replace h := Option.bind_eq_some_iff.mp h
        obtain ⟨r86, hc86, h⟩ := h
        try dsimp only at h
        refine am_ev_call (.invokevirtual 59) 77 0 780 [.ref 19] [] rfl rfl rfl rfl (ok_fm_thrown hc86 D (by omega)) rfl ?_
        refine am_ev_st 2 (f' := am_br (r86 = r82) 637 632 [(6, .int r85), (5, .int r82), (0, .retAddr 0), (1, .ref 0), (2, .ref 19), (3, .ref 38), (4, .int v4)] [] (W9 N_82 C E_82 F_82 P Q T G U_85 H B O J V_85 Y Z O9_82) k_82 n_82) (g := True ∧ True ∧ True) (by with_unfolding_all rfl) ⟨trivial, trivial, trivial⟩ ?_
        by_cases c87 : r86 = r82
        · rw [if_pos c87] at h
          refine am_ev_pos c87 ?_
          refine am_ev_st 2 (f' := am_br (r82 ≠ 0) 654 639 [(6, .int r85), (5, .int r82), (0, .retAddr 0), (1, .ref 0), (2, .ref 19), (3, .ref 38), (4, .int v4)] [] (W9 N_82 C E_82 F_82 P Q T G U_85 H B O J V_85 Y Z O9_82) k_82 n_82) (g := True ∧ True ∧ True) (by with_unfolding_all rfl) ⟨trivial, trivial, trivial⟩ ?_
          by_cases c88 : r82 ≠ 0
          · rw [if_pos c88] at h
            refine am_ev_pos c88 ?_
            refine am_ev_st 3 (f' := (23, [(4, .int (v4 + (4 : Int32))), (6, .int r85), (5, .int r82), (0, .retAddr 0), (1, .ref 0), (2, .ref 19), (3, .ref 38)], [], (W9 N_82 C E_82 F_82 P Q T G U_85 H B O J V_85 Y Z O9_82), k_82, n_82)) (g := True ∧ True ∧ True ∧ True) (by with_unfolding_all rfl) ⟨trivial, trivial, trivial, trivial⟩ ?_
            refine am_ev_drop [3, 4, 5, 6, 0] rfl rfl ?_
            exact ih h
          · rw [if_neg c88] at h
            refine am_ev_neg c88 ?_
            cases h
        · rw [if_neg c87] at h
          refine am_ev_neg c87 ?_
          refine am_ev_st 1 (f' := (636, [(6, .int r85), (5, .int r82), (0, .retAddr 0), (1, .ref 0), (2, .ref 19), (3, .ref 38), (4, .int v4)], [.int (0 : Int32)], (W9 N_82 C E_82 F_82 P Q T G U_85 H B O J V_85 Y Z O9_82), k_82, n_82)) (g := True ∧ True) (by with_unfolding_all rfl) ⟨trivial, trivial⟩ ?_
          cases h
          exact am_ev_ret 0 0 0 rfl .boolean rfl am_n0 rfl
      rw [if_neg c79] at h
      refine am_ev_swne c79 ?_
      by_cases c89 : ((xs (v4).toNatClampNeg) &&& (15 : Int32)) = (9 : Int32)
      · rw [if_pos c89] at h
        refine am_ev_sweq c89 ?_
        refine am_ev_st 1 (f' := (658, [(0, .retAddr 0), (1, .ref 0), (2, .ref 19), (3, .ref 38), (4, .int v4)], [.ref 0], (W9 N C E F P Q T G U H B O J V Y Z O9), k, n)) (g := True ∧ True) (by with_unfolding_all rfl) ⟨trivial, trivial⟩ ?_
        replace h := Option.bind_eq_some_iff.mp h
        obtain ⟨r90, hc90, h⟩ := h
        try dsimp only at h
        refine am_ev_call (.invokevirtual 78) 65 0 276 [.ref 0] [] rfl rfl rfl rfl (ok_fJ_constants hc90 D (by omega)) rfl ?_
        refine am_ev_st 1 (f' := (662, [(0, .retAddr 0), (1, .ref 0), (2, .ref 19), (3, .ref 38), (4, .int v4)], [.ref 19, .int r90], (W9 N C E F P Q T G U H B O J V Y Z O9), k, n)) (g := True ∧ True) (by with_unfolding_all rfl) ⟨trivial, trivial⟩ ?_
        replace h := Option.bind_eq_some_iff.mp h
        obtain ⟨⟨r91, U_91⟩, hc91, h⟩ := h
        try dsimp only at h
        refine am_ev_call (.invokevirtual 81) 119 0 945 [.ref 19] [.int r90] rfl rfl rfl rfl (ok_fm_constants hc91 D (by omega)) rfl ?_
        refine am_ev_st 1 (f' := am_br (r90 = r91) 771 665 [(0, .retAddr 0), (1, .ref 0), (2, .ref 19), (3, .ref 38), (4, .int v4)] [] (W9 N C E F P Q T G U_91 H B O J V Y Z O9) k n) (g := True ∧ True) (by with_unfolding_all rfl) ⟨trivial, trivial⟩ ?_
        by_cases c92 : r90 = r91
        · rw [if_pos c92] at h
          refine am_ev_pos c92 ?_
          refine am_ev_st 2 (f' := (23, [(4, .int (v4 + (4 : Int32))), (0, .retAddr 0), (1, .ref 0), (2, .ref 19), (3, .ref 38)], [], (W9 N C E F P Q T G U_91 H B O J V Y Z O9), k, n)) (g := True ∧ True ∧ True) (by with_unfolding_all rfl) ⟨trivial, trivial, trivial⟩ ?_
          refine am_ev_drop [1, 2, 3, 4, 0] rfl rfl ?_
          exact ih h
        · rw [if_neg c92] at h
          refine am_ev_neg c92 ?_
          refine am_ev_st 1 (f' := (669, [(0, .retAddr 0), (1, .ref 0), (2, .ref 19), (3, .ref 38), (4, .int v4)], [.int (0 : Int32)], (W9 N C E F P Q T G U_91 H B O J V Y Z O9), k, n)) (g := True ∧ True) (by with_unfolding_all rfl) ⟨trivial, trivial⟩ ?_
          cases h
          exact am_ev_ret 0 0 0 rfl .boolean rfl am_n0 rfl
      rw [if_neg c89] at h
      refine am_ev_swne c89 ?_
      by_cases c93 : ((xs (v4).toNatClampNeg) &&& (15 : Int32)) = (10 : Int32)
      · rw [if_pos c93] at h
        refine am_ev_sweq c93 ?_
        by_cases g94 : ((v4 + (1 : Int32)) < 0 ∨ sl ≤ ((v4 + (1 : Int32))).toNatClampNeg)
        · rw [if_pos g94] at h; cases h
        rw [if_neg g94] at h
        refine am_ev_st 6 (f' := (677, [(0, .retAddr 0), (1, .ref 0), (2, .ref 19), (3, .ref 38), (4, .int v4)], [.int (xs ((v4 + (1 : Int32))).toNatClampNeg), .ref 0], (W9 N C E F P Q T G U H B O J V Y Z O9), k, n)) (g := True ∧ True ∧ True ∧ True ∧ True ∧ (0 < sl + 1 ∧ vp_in ((v4 + (1 : Int32))) sl) ∧ True) (by with_unfolding_all rfl) ⟨trivial, trivial, trivial, trivial, trivial, ⟨Nat.succ_pos _, g94⟩, trivial⟩ ?_
        replace h := Option.bind_eq_some_iff.mp h
        obtain ⟨r95, hc95, h⟩ := h
        try dsimp only at h
        refine am_ev_call (.invokevirtual 82) 66 2 284 [.ref 0, .int (xs ((v4 + (1 : Int32))).toNatClampNeg)] [] rfl rfl rfl rfl (ok_fJ_hasBody hc95 D (by omega)) rfl ?_
        by_cases g96 : ((v4 + (1 : Int32)) < 0 ∨ sl ≤ ((v4 + (1 : Int32))).toNatClampNeg)
        · rw [if_pos g96] at h; cases h
        rw [if_neg g96] at h
        refine am_ev_st 6 (f' := (687, [(0, .retAddr 0), (1, .ref 0), (2, .ref 19), (3, .ref 38), (4, .int v4)], [.int (xs ((v4 + (1 : Int32))).toNatClampNeg), .ref 19, .int (am_bz r95)], (W9 N C E F P Q T G U H B O J V Y Z O9), k, n)) (g := True ∧ True ∧ True ∧ True ∧ True ∧ (0 < sl + 1 ∧ vp_in ((v4 + (1 : Int32))) sl) ∧ True) (by with_unfolding_all rfl) ⟨trivial, trivial, trivial, trivial, trivial, ⟨Nat.succ_pos _, g96⟩, trivial⟩ ?_
        replace h := Option.bind_eq_some_iff.mp h
        obtain ⟨⟨r97, U_97⟩, hc97, h⟩ := h
        try dsimp only at h
        refine am_ev_call (.invokevirtual 86) 120 2 949 [.ref 19, .int (xs ((v4 + (1 : Int32))).toNatClampNeg)] [.int (am_bz r95)] rfl rfl rfl rfl (ok_fm_hasBody hc97 D (by omega)) rfl ?_
        refine am_ev_st 1 (f' := am_br ((am_bz r95) = (am_bz r97)) 771 690 [(0, .retAddr 0), (1, .ref 0), (2, .ref 19), (3, .ref 38), (4, .int v4)] [] (W9 N C E F P Q T G U_97 H B O J V Y Z O9) k n) (g := True ∧ True) (by with_unfolding_all rfl) ⟨trivial, trivial⟩ ?_
        by_cases c98 : (am_bz r95) = (am_bz r97)
        · rw [if_pos c98] at h
          refine am_ev_pos c98 ?_
          refine am_ev_st 2 (f' := (23, [(4, .int (v4 + (4 : Int32))), (0, .retAddr 0), (1, .ref 0), (2, .ref 19), (3, .ref 38)], [], (W9 N C E F P Q T G U_97 H B O J V Y Z O9), k, n)) (g := True ∧ True ∧ True) (by with_unfolding_all rfl) ⟨trivial, trivial, trivial⟩ ?_
          refine am_ev_drop [1, 2, 3, 4, 0] rfl rfl ?_
          exact ih h
        · rw [if_neg c98] at h
          refine am_ev_neg c98 ?_
          refine am_ev_st 1 (f' := (694, [(0, .retAddr 0), (1, .ref 0), (2, .ref 19), (3, .ref 38), (4, .int v4)], [.int (0 : Int32)], (W9 N C E F P Q T G U_97 H B O J V Y Z O9), k, n)) (g := True ∧ True) (by with_unfolding_all rfl) ⟨trivial, trivial⟩ ?_
          cases h
          exact am_ev_ret 0 0 0 rfl .boolean rfl am_n0 rfl
      rw [if_neg c93] at h
      refine am_ev_swne c93 ?_
      by_cases c99 : ((xs (v4).toNatClampNeg) &&& (15 : Int32)) = (11 : Int32)
      · rw [if_pos c99] at h
        refine am_ev_sweq c99 ?_
        by_cases g100 : ((v4 + (1 : Int32)) < 0 ∨ sl ≤ ((v4 + (1 : Int32))).toNatClampNeg)
        · rw [if_pos g100] at h; cases h
        rw [if_neg g100] at h
        refine am_ev_st 6 (f' := (702, [(0, .retAddr 0), (1, .ref 0), (2, .ref 19), (3, .ref 38), (4, .int v4)], [.int (xs ((v4 + (1 : Int32))).toNatClampNeg), .ref 0], (W9 N C E F P Q T G U H B O J V Y Z O9), k, n)) (g := True ∧ True ∧ True ∧ True ∧ True ∧ (0 < sl + 1 ∧ vp_in ((v4 + (1 : Int32))) sl) ∧ True) (by with_unfolding_all rfl) ⟨trivial, trivial, trivial, trivial, trivial, ⟨Nat.succ_pos _, g100⟩, trivial⟩ ?_
        replace h := Option.bind_eq_some_iff.mp h
        obtain ⟨r101, hc101, h⟩ := h
        try dsimp only at h
        refine am_ev_call (.invokevirtual 87) 67 2 293 [.ref 0, .int (xs ((v4 + (1 : Int32))).toNatClampNeg)] [] rfl rfl rfl rfl (ok_fJ_typeOf hc101 D (by omega)) rfl ?_
        by_cases g102 : ((v4 + (1 : Int32)) < 0 ∨ sl ≤ ((v4 + (1 : Int32))).toNatClampNeg)
        · rw [if_pos g102] at h; cases h
        rw [if_neg g102] at h
        refine am_ev_st 6 (f' := (712, [(0, .retAddr 0), (1, .ref 0), (2, .ref 19), (3, .ref 38), (4, .int v4)], [.int (xs ((v4 + (1 : Int32))).toNatClampNeg), .ref 19, .int r101], (W9 N C E F P Q T G U H B O J V Y Z O9), k, n)) (g := True ∧ True ∧ True ∧ True ∧ True ∧ (0 < sl + 1 ∧ vp_in ((v4 + (1 : Int32))) sl) ∧ True) (by with_unfolding_all rfl) ⟨trivial, trivial, trivial, trivial, trivial, ⟨Nat.succ_pos _, g102⟩, trivial⟩ ?_
        replace h := Option.bind_eq_some_iff.mp h
        obtain ⟨⟨r103, U_103⟩, hc103, h⟩ := h
        try dsimp only at h
        refine am_ev_call (.invokevirtual 91) 121 2 953 [.ref 19, .int (xs ((v4 + (1 : Int32))).toNatClampNeg)] [.int r101] rfl rfl rfl rfl (ok_fm_typeOf hc103 D (by omega)) rfl ?_
        refine am_ev_st 1 (f' := am_br (r101 = r103) 771 715 [(0, .retAddr 0), (1, .ref 0), (2, .ref 19), (3, .ref 38), (4, .int v4)] [] (W9 N C E F P Q T G U_103 H B O J V Y Z O9) k n) (g := True ∧ True) (by with_unfolding_all rfl) ⟨trivial, trivial⟩ ?_
        by_cases c104 : r101 = r103
        · rw [if_pos c104] at h
          refine am_ev_pos c104 ?_
          refine am_ev_st 2 (f' := (23, [(4, .int (v4 + (4 : Int32))), (0, .retAddr 0), (1, .ref 0), (2, .ref 19), (3, .ref 38)], [], (W9 N C E F P Q T G U_103 H B O J V Y Z O9), k, n)) (g := True ∧ True ∧ True) (by with_unfolding_all rfl) ⟨trivial, trivial, trivial⟩ ?_
          refine am_ev_drop [1, 2, 3, 4, 0] rfl rfl ?_
          exact ih h
        · rw [if_neg c104] at h
          refine am_ev_neg c104 ?_
          refine am_ev_st 1 (f' := (719, [(0, .retAddr 0), (1, .ref 0), (2, .ref 19), (3, .ref 38), (4, .int v4)], [.int (0 : Int32)], (W9 N C E F P Q T G U_103 H B O J V Y Z O9), k, n)) (g := True ∧ True) (by with_unfolding_all rfl) ⟨trivial, trivial⟩ ?_
          cases h
          exact am_ev_ret 0 0 0 rfl .boolean rfl am_n0 rfl
      rw [if_neg c99] at h
      refine am_ev_swne c99 ?_
      by_cases c105 : ((xs (v4).toNatClampNeg) &&& (15 : Int32)) = (12 : Int32)
      · rw [if_pos c105] at h
        refine am_ev_sweq c105 ?_
        by_cases g106 : ((v4 + (1 : Int32)) < 0 ∨ sl ≤ ((v4 + (1 : Int32))).toNatClampNeg)
        · rw [if_pos g106] at h; cases h
        rw [if_neg g106] at h
        refine am_ev_st 6 (f' := (727, [(0, .retAddr 0), (1, .ref 0), (2, .ref 19), (3, .ref 38), (4, .int v4)], [.int (xs ((v4 + (1 : Int32))).toNatClampNeg), .ref 0], (W9 N C E F P Q T G U H B O J V Y Z O9), k, n)) (g := True ∧ True ∧ True ∧ True ∧ True ∧ (0 < sl + 1 ∧ vp_in ((v4 + (1 : Int32))) sl) ∧ True) (by with_unfolding_all rfl) ⟨trivial, trivial, trivial, trivial, trivial, ⟨Nat.succ_pos _, g106⟩, trivial⟩ ?_
        replace h := Option.bind_eq_some_iff.mp h
        obtain ⟨r107, hc107, h⟩ := h
        try dsimp only at h
        refine am_ev_call (.invokevirtual 92) 68 2 313 [.ref 0, .int (xs ((v4 + (1 : Int32))).toNatClampNeg)] [] rfl rfl rfl rfl (ok_fJ_mark hc107 D (by omega)) rfl ?_
        by_cases g108 : ((v4 + (1 : Int32)) < 0 ∨ sl ≤ ((v4 + (1 : Int32))).toNatClampNeg)
        · rw [if_pos g108] at h; cases h
        rw [if_neg g108] at h
        refine am_ev_st 6 (f' := (737, [(0, .retAddr 0), (1, .ref 0), (2, .ref 19), (3, .ref 38), (4, .int v4)], [.int (xs ((v4 + (1 : Int32))).toNatClampNeg), .ref 19, .int r107], (W9 N C E F P Q T G U H B O J V Y Z O9), k, n)) (g := True ∧ True ∧ True ∧ True ∧ True ∧ (0 < sl + 1 ∧ vp_in ((v4 + (1 : Int32))) sl) ∧ True) (by with_unfolding_all rfl) ⟨trivial, trivial, trivial, trivial, trivial, ⟨Nat.succ_pos _, g108⟩, trivial⟩ ?_
        replace h := Option.bind_eq_some_iff.mp h
        obtain ⟨⟨r109, U_109⟩, hc109, h⟩ := h
        try dsimp only at h
        refine am_ev_call (.invokevirtual 95) 122 2 957 [.ref 19, .int (xs ((v4 + (1 : Int32))).toNatClampNeg)] [.int r107] rfl rfl rfl rfl (ok_fm_mark hc109 D (by omega)) rfl ?_
        refine am_ev_st 1 (f' := am_br (r107 = r109) 771 740 [(0, .retAddr 0), (1, .ref 0), (2, .ref 19), (3, .ref 38), (4, .int v4)] [] (W9 N C E F P Q T G U_109 H B O J V Y Z O9) k n) (g := True ∧ True) (by with_unfolding_all rfl) ⟨trivial, trivial⟩ ?_
        by_cases c110 : r107 = r109
        · rw [if_pos c110] at h
          refine am_ev_pos c110 ?_
          refine am_ev_st 2 (f' := (23, [(4, .int (v4 + (4 : Int32))), (0, .retAddr 0), (1, .ref 0), (2, .ref 19), (3, .ref 38)], [], (W9 N C E F P Q T G U_109 H B O J V Y Z O9), k, n)) (g := True ∧ True ∧ True) (by with_unfolding_all rfl) ⟨trivial, trivial, trivial⟩ ?_
          refine am_ev_drop [1, 2, 3, 4, 0] rfl rfl ?_
          exact ih h
        · rw [if_neg c110] at h
          refine am_ev_neg c110 ?_
          refine am_ev_st 1 (f' := (744, [(0, .retAddr 0), (1, .ref 0), (2, .ref 19), (3, .ref 38), (4, .int v4)], [.int (0 : Int32)], (W9 N C E F P Q T G U_109 H B O J V Y Z O9), k, n)) (g := True ∧ True) (by with_unfolding_all rfl) ⟨trivial, trivial⟩ ?_
          cases h
          exact am_ev_ret 0 0 0 rfl .boolean rfl am_n0 rfl
      rw [if_neg c105] at h
      refine am_ev_swne c105 ?_
      by_cases c111 : ((xs (v4).toNatClampNeg) &&& (15 : Int32)) = (13 : Int32)
      · rw [if_pos c111] at h
        refine am_ev_sweq c111 ?_
        refine am_ev_st 1 (f' := (746, [(0, .retAddr 0), (1, .ref 0), (2, .ref 19), (3, .ref 38), (4, .int v4)], [.ref 0], (W9 N C E F P Q T G U H B O J V Y Z O9), k, n)) (g := True ∧ True) (by with_unfolding_all rfl) ⟨trivial, trivial⟩ ?_
        replace h := Option.bind_eq_some_iff.mp h
        obtain ⟨r112, hc112, h⟩ := h
        try dsimp only at h
        refine am_ev_call (.invokevirtual 96) 69 0 321 [.ref 0] [] rfl rfl rfl rfl (ok_fJ_keep hc112 D (by omega)) rfl ?_
        refine am_ev_st 1 (f' := (750, [(0, .retAddr 0), (1, .ref 0), (2, .ref 19), (3, .ref 38), (4, .int v4)], [.ref 19, .int r112], (W9 N C E F P Q T G U H B O J V Y Z O9), k, n)) (g := True ∧ True) (by with_unfolding_all rfl) ⟨trivial, trivial⟩ ?_
        replace h := Option.bind_eq_some_iff.mp h
        obtain ⟨⟨r113, U_113⟩, hc113, h⟩ := h
        try dsimp only at h
        refine am_ev_call (.invokevirtual 99) 124 0 961 [.ref 19] [.int r112] rfl rfl rfl rfl (ok_fm_keep hc113 D (by omega)) rfl ?_
        refine am_ev_st 1 (f' := am_br (r112 = r113) 771 753 [(0, .retAddr 0), (1, .ref 0), (2, .ref 19), (3, .ref 38), (4, .int v4)] [] (W9 N C E F P Q T G U_113 H B O J V Y Z O9) k n) (g := True ∧ True) (by with_unfolding_all rfl) ⟨trivial, trivial⟩ ?_
        by_cases c114 : r112 = r113
        · rw [if_pos c114] at h
          refine am_ev_pos c114 ?_
          refine am_ev_st 2 (f' := (23, [(4, .int (v4 + (4 : Int32))), (0, .retAddr 0), (1, .ref 0), (2, .ref 19), (3, .ref 38)], [], (W9 N C E F P Q T G U_113 H B O J V Y Z O9), k, n)) (g := True ∧ True ∧ True) (by with_unfolding_all rfl) ⟨trivial, trivial, trivial⟩ ?_
          refine am_ev_drop [1, 2, 3, 4, 0] rfl rfl ?_
          exact ih h
        · rw [if_neg c114] at h
          refine am_ev_neg c114 ?_
          refine am_ev_st 1 (f' := (757, [(0, .retAddr 0), (1, .ref 0), (2, .ref 19), (3, .ref 38), (4, .int v4)], [.int (0 : Int32)], (W9 N C E F P Q T G U_113 H B O J V Y Z O9), k, n)) (g := True ∧ True) (by with_unfolding_all rfl) ⟨trivial, trivial⟩ ?_
          cases h
          exact am_ev_ret 0 0 0 rfl .boolean rfl am_n0 rfl
      rw [if_neg c111] at h
      refine am_ev_swne c111 ?_
      by_cases c115 : ((xs (v4).toNatClampNeg) &&& (15 : Int32)) = (14 : Int32)
      · rw [if_pos c115] at h
        refine am_ev_sweq c115 ?_
        refine am_ev_st 1 (f' := (759, [(0, .retAddr 0), (1, .ref 0), (2, .ref 19), (3, .ref 38), (4, .int v4)], [.ref 0], (W9 N C E F P Q T G U H B O J V Y Z O9), k, n)) (g := True ∧ True) (by with_unfolding_all rfl) ⟨trivial, trivial⟩ ?_
        replace h := Option.bind_eq_some_iff.mp h
        obtain ⟨r116, hc116, h⟩ := h
        try dsimp only at h
        refine am_ev_call (.invokevirtual 100) 70 0 447 [.ref 0] [] rfl rfl rfl rfl (ok_fJ_reduced hc116 D (by omega)) rfl ?_
        refine am_ev_st 1 (f' := (763, [(0, .retAddr 0), (1, .ref 0), (2, .ref 19), (3, .ref 38), (4, .int v4)], [.ref 19, .int r116], (W9 N C E F P Q T G U H B O J V Y Z O9), k, n)) (g := True ∧ True) (by with_unfolding_all rfl) ⟨trivial, trivial⟩ ?_
        replace h := Option.bind_eq_some_iff.mp h
        obtain ⟨⟨r117, U_117⟩, hc117, h⟩ := h
        try dsimp only at h
        refine am_ev_call (.invokevirtual 103) 125 0 970 [.ref 19] [.int r116] rfl rfl rfl rfl (ok_fm_reduced hc117 D (by omega)) rfl ?_
        refine am_ev_st 1 (f' := am_br (r116 = r117) 771 766 [(0, .retAddr 0), (1, .ref 0), (2, .ref 19), (3, .ref 38), (4, .int v4)] [] (W9 N C E F P Q T G U_117 H B O J V Y Z O9) k n) (g := True ∧ True) (by with_unfolding_all rfl) ⟨trivial, trivial⟩ ?_
        by_cases c118 : r116 = r117
        · rw [if_pos c118] at h
          refine am_ev_pos c118 ?_
          refine am_ev_st 2 (f' := (23, [(4, .int (v4 + (4 : Int32))), (0, .retAddr 0), (1, .ref 0), (2, .ref 19), (3, .ref 38)], [], (W9 N C E F P Q T G U_117 H B O J V Y Z O9), k, n)) (g := True ∧ True ∧ True) (by with_unfolding_all rfl) ⟨trivial, trivial, trivial⟩ ?_
          refine am_ev_drop [1, 2, 3, 4, 0] rfl rfl ?_
          exact ih h
        · rw [if_neg c118] at h
          refine am_ev_neg c118 ?_
          refine am_ev_st 1 (f' := (770, [(0, .retAddr 0), (1, .ref 0), (2, .ref 19), (3, .ref 38), (4, .int v4)], [.int (0 : Int32)], (W9 N C E F P Q T G U_117 H B O J V Y Z O9), k, n)) (g := True ∧ True) (by with_unfolding_all rfl) ⟨trivial, trivial⟩ ?_
          cases h
          exact am_ev_ret 0 0 0 rfl .boolean rfl am_n0 rfl
      rw [if_neg c115] at h
      refine am_ev_swne c115 ?_
      refine am_ev_sw0 ?_
      refine am_ev_st 2 (f' := (23, [(4, .int (v4 + (4 : Int32))), (0, .retAddr 0), (1, .ref 0), (2, .ref 19), (3, .ref 38)], [], (W9 N C E F P Q T G U H B O J V Y Z O9), k, n)) (g := True ∧ True ∧ True) (by with_unfolding_all rfl) ⟨trivial, trivial, trivial⟩ ?_
      refine am_ev_drop [1, 2, 3, 4, 0] rfl rfl ?_
      exact ih h
end
section
set_option maxRecDepth 100000 in
theorem am_new1 {D : Nat} : am_Call (D + 1) 25 [.ref 1] [.inr (5, [.null, .null, .null, .null, .null, .null]), .inr (3, [.null, .null, .null, .null, .null, .int 0, .int 0, .int 0])] 2 14 (.inl none, [.inr (5, [.null, .null, .null, .null, .null, .null]), .inr (3, [.ref 2, .ref 3, .ref 4, .ref 5, .ref 6, .int 0, .int 120, .int 120]), .inl (0, 512, .inl fun _ => 0), .inl (0, 512, .inl fun _ => 0), .inl (0, 512, .inl fun _ => 0), .inl (0, 512, .inl fun _ => 0), .inl (0, 512, .inl fun _ => 0)], 7, 2574) := by
  refine am_call_run (by decide) (by decide) rfl (Nat.le_of_ble_eq_true rfl) (by decide) (L := [(0, .ref 1)]) rfl ?_
  refine am_ev_st 8 (f' := (17, [(0, .ref 1)], [.int 512, .ref 1], [.inr (5, [.null, .null, .null, .null, .null, .null]), .inr (3, [.ref 2, .null, .null, .null, .null, .int 0, .int 0, .int 0]), .inl (0, 512, .inl fun _ => 0)], 3, 526)) (g := True ∧ True ∧ True ∧ True ∧ (¬ (512 : Int32) < 0 ∧ (512 : Int32).toNatClampNeg * 8 ≤ 536870912) ∧ True ∧ True ∧ True ∧ True) (by with_unfolding_all rfl) ⟨trivial, trivial, trivial, trivial, ⟨by decide, by decide +kernel⟩, trivial, trivial, trivial, trivial⟩ ?_
  refine am_ev_st 8 (f' := (35, [(0, .ref 1)], [.int 512, .ref 1], [.inr (5, [.null, .null, .null, .null, .null, .null]), .inr (3, [.ref 2, .ref 3, .ref 4, .null, .null, .int 0, .int 0, .int 0]), .inl (0, 512, .inl fun _ => 0), .inl (0, 512, .inl fun _ => 0), .inl (0, 512, .inl fun _ => 0)], 5, 1550)) (g := (¬ (512 : Int32) < 0 ∧ (512 : Int32).toNatClampNeg * 8 ≤ 536870912) ∧ True ∧ True ∧ True ∧ (¬ (512 : Int32) < 0 ∧ (512 : Int32).toNatClampNeg * 8 ≤ 536870912) ∧ True ∧ True ∧ True ∧ True) (by with_unfolding_all rfl) ⟨⟨by decide, by decide +kernel⟩, trivial, trivial, trivial, ⟨by decide, by decide +kernel⟩, trivial, trivial, trivial, trivial⟩ ?_
  refine am_ev_st 8 (f' := (51, [(0, .ref 1)], [.int 0, .ref 1], [.inr (5, [.null, .null, .null, .null, .null, .null]), .inr (3, [.ref 2, .ref 3, .ref 4, .ref 5, .ref 6, .int 0, .int 0, .int 0]), .inl (0, 512, .inl fun _ => 0), .inl (0, 512, .inl fun _ => 0), .inl (0, 512, .inl fun _ => 0), .inl (0, 512, .inl fun _ => 0), .inl (0, 512, .inl fun _ => 0)], 7, 2574)) (g := (¬ (512 : Int32) < 0 ∧ (512 : Int32).toNatClampNeg * 8 ≤ 536870912) ∧ True ∧ True ∧ True ∧ (¬ (512 : Int32) < 0 ∧ (512 : Int32).toNatClampNeg * 8 ≤ 536870912) ∧ True ∧ True ∧ True ∧ True) (by with_unfolding_all rfl) ⟨⟨by decide, by decide +kernel⟩, trivial, trivial, trivial, ⟨by decide, by decide +kernel⟩, trivial, trivial, trivial, trivial⟩ ?_
  refine am_ev_st 7 (f' := (66, [(0, .ref 1)], [], [.inr (5, [.null, .null, .null, .null, .null, .null]), .inr (3, [.ref 2, .ref 3, .ref 4, .ref 5, .ref 6, .int 0, .int 120, .int 120]), .inl (0, 512, .inl fun _ => 0), .inl (0, 512, .inl fun _ => 0), .inl (0, 512, .inl fun _ => 0), .inl (0, 512, .inl fun _ => 0), .inl (0, 512, .inl fun _ => 0)], 7, 2574)) (g := True ∧ True ∧ True ∧ True ∧ True ∧ True ∧ True ∧ True) (by with_unfolding_all rfl) ⟨trivial, trivial, trivial, trivial, trivial, trivial, trivial, trivial⟩ ?_
  exact am_ev_vret 0 0 0 rfl rfl rfl
set_option maxRecDepth 100000 in
theorem am_new2 {D : Nat} : am_Call (D + 1) 0 [.ref 7] [.inr (5, [.ref 1, .null, .null, .null, .null, .null]), .inr (3, [.ref 2, .ref 3, .ref 4, .ref 5, .ref 6, .int 0, .int 120, .int 120]), .inl (0, 512, .inl fun _ => 0), .inl (0, 512, .inl fun _ => 0), .inl (0, 512, .inl fun _ => 0), .inl (0, 512, .inl fun _ => 0), .inl (0, 512, .inl fun _ => 0), .inr (0, [.null, .null, .int 0])] 8 2577 (.inl none, [.inr (5, [.ref 1, .null, .null, .null, .null, .null]), .inr (3, [.ref 2, .ref 3, .ref 4, .ref 5, .ref 6, .int 0, .int 120, .int 120]), .inl (0, 512, .inl fun _ => 0), .inl (0, 512, .inl fun _ => 0), .inl (0, 512, .inl fun _ => 0), .inl (0, 512, .inl fun _ => 0), .inl (0, 512, .inl fun _ => 0), .inr (0, [.ref 8, .ref 9, .int 0]), .inl (0, 16, .inl fun _ => 0), .inl (0, 16, .inl fun _ => 0)], 10, 2609) := by
  refine am_call_run (by decide) (by decide) rfl (Nat.le_of_ble_eq_true rfl) (by decide) (L := [(0, .ref 7)]) rfl ?_
  refine am_ev_st 8 (f' := (15, [(0, .ref 7)], [.int 16, .ref 7], [.inr (5, [.ref 1, .null, .null, .null, .null, .null]), .inr (3, [.ref 2, .ref 3, .ref 4, .ref 5, .ref 6, .int 0, .int 120, .int 120]), .inl (0, 512, .inl fun _ => 0), .inl (0, 512, .inl fun _ => 0), .inl (0, 512, .inl fun _ => 0), .inl (0, 512, .inl fun _ => 0), .inl (0, 512, .inl fun _ => 0), .inr (0, [.ref 8, .null, .int 0]), .inl (0, 16, .inl fun _ => 0)], 9, 2593)) (g := True ∧ True ∧ True ∧ True ∧ (¬ (16 : Int32) < 0 ∧ (16 : Int32).toNatClampNeg * 8 ≤ 536870912) ∧ True ∧ True ∧ True ∧ True) (by with_unfolding_all rfl) ⟨trivial, trivial, trivial, trivial, ⟨by decide, by decide +kernel⟩, trivial, trivial, trivial, trivial⟩ ?_
  refine am_ev_st 5 (f' := (25, [(0, .ref 7)], [], [.inr (5, [.ref 1, .null, .null, .null, .null, .null]), .inr (3, [.ref 2, .ref 3, .ref 4, .ref 5, .ref 6, .int 0, .int 120, .int 120]), .inl (0, 512, .inl fun _ => 0), .inl (0, 512, .inl fun _ => 0), .inl (0, 512, .inl fun _ => 0), .inl (0, 512, .inl fun _ => 0), .inl (0, 512, .inl fun _ => 0), .inr (0, [.ref 8, .ref 9, .int 0]), .inl (0, 16, .inl fun _ => 0), .inl (0, 16, .inl fun _ => 0)], 10, 2609)) (g := (¬ (16 : Int32) < 0 ∧ (16 : Int32).toNatClampNeg * 8 ≤ 536870912) ∧ True ∧ True ∧ True ∧ True ∧ True) (by with_unfolding_all rfl) ⟨⟨by decide, by decide +kernel⟩, trivial, trivial, trivial, trivial, trivial⟩ ?_
  exact am_ev_vret 0 0 0 rfl rfl rfl
set_option maxRecDepth 100000 in
theorem am_new3 {D : Nat} : am_Call (D + 1) 45 [.ref 10, .ref 1, .ref 7] [.inr (5, [.ref 1, .ref 7, .null, .null, .null, .null]), .inr (3, [.ref 2, .ref 3, .ref 4, .ref 5, .ref 6, .int 0, .int 120, .int 120]), .inl (0, 512, .inl fun _ => 0), .inl (0, 512, .inl fun _ => 0), .inl (0, 512, .inl fun _ => 0), .inl (0, 512, .inl fun _ => 0), .inl (0, 512, .inl fun _ => 0), .inr (0, [.ref 8, .ref 9, .int 0]), .inl (0, 16, .inl fun _ => 0), .inl (0, 16, .inl fun _ => 0), .inr (4, [.null, .null, .null, .null, .int 0, .int 0, .int 0])] 11 2616 (.inl none, [.inr (5, [.ref 1, .ref 7, .null, .null, .null, .null]), .inr (3, [.ref 2, .ref 3, .ref 4, .ref 5, .ref 6, .int 0, .int 120, .int 120]), .inl (0, 512, .inl fun _ => 0), .inl (0, 512, .inl fun _ => 0), .inl (0, 512, .inl fun _ => 0), .inl (0, 512, .inl fun _ => 0), .inl (0, 512, .inl fun _ => 0), .inr (0, [.ref 8, .ref 9, .int 0]), .inl (0, 16, .inl fun _ => 0), .inl (0, 16, .inl fun _ => 0), .inr (4, [.ref 1, .ref 7, .ref 11, .ref 12, .int 0, .int 0, .int 0]), .inl (0, 512, .inl fun _ => 0), .inl (0, 512, .inl fun _ => 0)], 13, 3640) := by
  refine am_call_run (by decide) (by decide) rfl (Nat.le_of_ble_eq_true rfl) (by decide) (L := [(0, .ref 10), (1, .ref 1), (2, .ref 7)]) rfl ?_
  refine am_ev_st 8 (f' := (17, [(0, .ref 10), (1, .ref 1), (2, .ref 7)], [.int 512, .ref 10], [.inr (5, [.ref 1, .ref 7, .null, .null, .null, .null]), .inr (3, [.ref 2, .ref 3, .ref 4, .ref 5, .ref 6, .int 0, .int 120, .int 120]), .inl (0, 512, .inl fun _ => 0), .inl (0, 512, .inl fun _ => 0), .inl (0, 512, .inl fun _ => 0), .inl (0, 512, .inl fun _ => 0), .inl (0, 512, .inl fun _ => 0), .inr (0, [.ref 8, .ref 9, .int 0]), .inl (0, 16, .inl fun _ => 0), .inl (0, 16, .inl fun _ => 0), .inr (4, [.null, .null, .ref 11, .null, .int 0, .int 0, .int 0]), .inl (0, 512, .inl fun _ => 0)], 12, 3128)) (g := True ∧ True ∧ True ∧ True ∧ (¬ (512 : Int32) < 0 ∧ (512 : Int32).toNatClampNeg * 8 ≤ 536870912) ∧ True ∧ True ∧ True ∧ True) (by with_unfolding_all rfl) ⟨trivial, trivial, trivial, trivial, ⟨by decide, by decide +kernel⟩, trivial, trivial, trivial, trivial⟩ ?_
  refine am_ev_st 8 (f' := (32, [(0, .ref 10), (1, .ref 1), (2, .ref 7)], [], [.inr (5, [.ref 1, .ref 7, .null, .null, .null, .null]), .inr (3, [.ref 2, .ref 3, .ref 4, .ref 5, .ref 6, .int 0, .int 120, .int 120]), .inl (0, 512, .inl fun _ => 0), .inl (0, 512, .inl fun _ => 0), .inl (0, 512, .inl fun _ => 0), .inl (0, 512, .inl fun _ => 0), .inl (0, 512, .inl fun _ => 0), .inr (0, [.ref 8, .ref 9, .int 0]), .inl (0, 16, .inl fun _ => 0), .inl (0, 16, .inl fun _ => 0), .inr (4, [.null, .null, .ref 11, .ref 12, .int 0, .int 0, .int 0]), .inl (0, 512, .inl fun _ => 0), .inl (0, 512, .inl fun _ => 0)], 13, 3640)) (g := (¬ (512 : Int32) < 0 ∧ (512 : Int32).toNatClampNeg * 8 ≤ 536870912) ∧ True ∧ True ∧ True ∧ True ∧ True ∧ True ∧ True ∧ True) (by with_unfolding_all rfl) ⟨⟨by decide, by decide +kernel⟩, trivial, trivial, trivial, trivial, trivial, trivial, trivial, trivial⟩ ?_
  refine am_ev_st 8 (f' := (44, [(0, .ref 10), (1, .ref 1), (2, .ref 7)], [.ref 7, .ref 10], [.inr (5, [.ref 1, .ref 7, .null, .null, .null, .null]), .inr (3, [.ref 2, .ref 3, .ref 4, .ref 5, .ref 6, .int 0, .int 120, .int 120]), .inl (0, 512, .inl fun _ => 0), .inl (0, 512, .inl fun _ => 0), .inl (0, 512, .inl fun _ => 0), .inl (0, 512, .inl fun _ => 0), .inl (0, 512, .inl fun _ => 0), .inr (0, [.ref 8, .ref 9, .int 0]), .inl (0, 16, .inl fun _ => 0), .inl (0, 16, .inl fun _ => 0), .inr (4, [.ref 1, .null, .ref 11, .ref 12, .int 0, .int 0, .int 0]), .inl (0, 512, .inl fun _ => 0), .inl (0, 512, .inl fun _ => 0)], 13, 3640)) (g := True ∧ True ∧ True ∧ True ∧ True ∧ True ∧ True ∧ True ∧ True) (by with_unfolding_all rfl) ⟨trivial, trivial, trivial, trivial, trivial, trivial, trivial, trivial, trivial⟩ ?_
  refine am_ev_st 1 (f' := (47, [(0, .ref 10), (1, .ref 1), (2, .ref 7)], [], [.inr (5, [.ref 1, .ref 7, .null, .null, .null, .null]), .inr (3, [.ref 2, .ref 3, .ref 4, .ref 5, .ref 6, .int 0, .int 120, .int 120]), .inl (0, 512, .inl fun _ => 0), .inl (0, 512, .inl fun _ => 0), .inl (0, 512, .inl fun _ => 0), .inl (0, 512, .inl fun _ => 0), .inl (0, 512, .inl fun _ => 0), .inr (0, [.ref 8, .ref 9, .int 0]), .inl (0, 16, .inl fun _ => 0), .inl (0, 16, .inl fun _ => 0), .inr (4, [.ref 1, .ref 7, .ref 11, .ref 12, .int 0, .int 0, .int 0]), .inl (0, 512, .inl fun _ => 0), .inl (0, 512, .inl fun _ => 0)], 13, 3640)) (g := True ∧ True) (by with_unfolding_all rfl) ⟨trivial, trivial⟩ ?_
  exact am_ev_vret 0 0 0 rfl rfl rfl
set_option maxRecDepth 100000 in
theorem am_new4 {D : Nat} : am_Call (D + 1) 7 [.ref 13, .ref 1, .ref 7, .ref 10] [.inr (5, [.ref 1, .ref 7, .ref 10, .null, .null, .null]), .inr (3, [.ref 2, .ref 3, .ref 4, .ref 5, .ref 6, .int 0, .int 120, .int 120]), .inl (0, 512, .inl fun _ => 0), .inl (0, 512, .inl fun _ => 0), .inl (0, 512, .inl fun _ => 0), .inl (0, 512, .inl fun _ => 0), .inl (0, 512, .inl fun _ => 0), .inr (0, [.ref 8, .ref 9, .int 0]), .inl (0, 16, .inl fun _ => 0), .inl (0, 16, .inl fun _ => 0), .inr (4, [.ref 1, .ref 7, .ref 11, .ref 12, .int 0, .int 0, .int 0]), .inl (0, 512, .inl fun _ => 0), .inl (0, 512, .inl fun _ => 0), .inr (1, [.null, .null, .null, .null, .int 0])] 14 3645 (.inl none, [.inr (5, [.ref 1, .ref 7, .ref 10, .null, .null, .null]), .inr (3, [.ref 2, .ref 3, .ref 4, .ref 5, .ref 6, .int 0, .int 120, .int 120]), .inl (0, 512, .inl fun _ => 0), .inl (0, 512, .inl fun _ => 0), .inl (0, 512, .inl fun _ => 0), .inl (0, 512, .inl fun _ => 0), .inl (0, 512, .inl fun _ => 0), .inr (0, [.ref 8, .ref 9, .int 0]), .inl (0, 16, .inl fun _ => 0), .inl (0, 16, .inl fun _ => 0), .inr (4, [.ref 1, .ref 7, .ref 11, .ref 12, .int 0, .int 0, .int 0]), .inl (0, 512, .inl fun _ => 0), .inl (0, 512, .inl fun _ => 0), .inr (1, [.ref 1, .ref 7, .ref 10, .ref 14, .int 0]), .inl (0, 12, .inl fun _ => 0)], 15, 3657) := by
  refine am_call_run (by decide) (by decide) rfl (Nat.le_of_ble_eq_true rfl) (by decide) (L := [(0, .ref 13), (1, .ref 1), (2, .ref 7), (3, .ref 10)]) rfl ?_
  refine am_ev_st 8 (f' := (14, [(0, .ref 13), (1, .ref 1), (2, .ref 7), (3, .ref 10)], [.int 0, .ref 13], [.inr (5, [.ref 1, .ref 7, .ref 10, .null, .null, .null]), .inr (3, [.ref 2, .ref 3, .ref 4, .ref 5, .ref 6, .int 0, .int 120, .int 120]), .inl (0, 512, .inl fun _ => 0), .inl (0, 512, .inl fun _ => 0), .inl (0, 512, .inl fun _ => 0), .inl (0, 512, .inl fun _ => 0), .inl (0, 512, .inl fun _ => 0), .inr (0, [.ref 8, .ref 9, .int 0]), .inl (0, 16, .inl fun _ => 0), .inl (0, 16, .inl fun _ => 0), .inr (4, [.ref 1, .ref 7, .ref 11, .ref 12, .int 0, .int 0, .int 0]), .inl (0, 512, .inl fun _ => 0), .inl (0, 512, .inl fun _ => 0), .inr (1, [.null, .null, .null, .ref 14, .int 0]), .inl (0, 12, .inl fun _ => 0)], 15, 3657)) (g := True ∧ True ∧ True ∧ True ∧ (¬ (12 : Int32) < 0 ∧ (12 : Int32).toNatClampNeg * 8 ≤ 536870912) ∧ True ∧ True ∧ True ∧ True) (by with_unfolding_all rfl) ⟨trivial, trivial, trivial, trivial, ⟨by decide, by decide +kernel⟩, trivial, trivial, trivial, trivial⟩ ?_
  refine am_ev_st 8 (f' := (28, [(0, .ref 13), (1, .ref 1), (2, .ref 7), (3, .ref 10)], [.ref 13], [.inr (5, [.ref 1, .ref 7, .ref 10, .null, .null, .null]), .inr (3, [.ref 2, .ref 3, .ref 4, .ref 5, .ref 6, .int 0, .int 120, .int 120]), .inl (0, 512, .inl fun _ => 0), .inl (0, 512, .inl fun _ => 0), .inl (0, 512, .inl fun _ => 0), .inl (0, 512, .inl fun _ => 0), .inl (0, 512, .inl fun _ => 0), .inr (0, [.ref 8, .ref 9, .int 0]), .inl (0, 16, .inl fun _ => 0), .inl (0, 16, .inl fun _ => 0), .inr (4, [.ref 1, .ref 7, .ref 11, .ref 12, .int 0, .int 0, .int 0]), .inl (0, 512, .inl fun _ => 0), .inl (0, 512, .inl fun _ => 0), .inr (1, [.ref 1, .ref 7, .null, .ref 14, .int 0]), .inl (0, 12, .inl fun _ => 0)], 15, 3657)) (g := True ∧ True ∧ True ∧ True ∧ True ∧ True ∧ True ∧ True ∧ True) (by with_unfolding_all rfl) ⟨trivial, trivial, trivial, trivial, trivial, trivial, trivial, trivial, trivial⟩ ?_
  refine am_ev_st 2 (f' := (32, [(0, .ref 13), (1, .ref 1), (2, .ref 7), (3, .ref 10)], [], [.inr (5, [.ref 1, .ref 7, .ref 10, .null, .null, .null]), .inr (3, [.ref 2, .ref 3, .ref 4, .ref 5, .ref 6, .int 0, .int 120, .int 120]), .inl (0, 512, .inl fun _ => 0), .inl (0, 512, .inl fun _ => 0), .inl (0, 512, .inl fun _ => 0), .inl (0, 512, .inl fun _ => 0), .inl (0, 512, .inl fun _ => 0), .inr (0, [.ref 8, .ref 9, .int 0]), .inl (0, 16, .inl fun _ => 0), .inl (0, 16, .inl fun _ => 0), .inr (4, [.ref 1, .ref 7, .ref 11, .ref 12, .int 0, .int 0, .int 0]), .inl (0, 512, .inl fun _ => 0), .inl (0, 512, .inl fun _ => 0), .inr (1, [.ref 1, .ref 7, .ref 10, .ref 14, .int 0]), .inl (0, 12, .inl fun _ => 0)], 15, 3657)) (g := True ∧ True ∧ True) (by with_unfolding_all rfl) ⟨trivial, trivial, trivial⟩ ?_
  exact am_ev_vret 0 0 0 rfl rfl rfl
set_option maxRecDepth 100000 in
theorem am_new5 {D : Nat} : am_Call (D + 1) 17 [.ref 15] [.inr (5, [.ref 1, .ref 7, .ref 10, .ref 13, .null, .null]), .inr (3, [.ref 2, .ref 3, .ref 4, .ref 5, .ref 6, .int 0, .int 120, .int 120]), .inl (0, 512, .inl fun _ => 0), .inl (0, 512, .inl fun _ => 0), .inl (0, 512, .inl fun _ => 0), .inl (0, 512, .inl fun _ => 0), .inl (0, 512, .inl fun _ => 0), .inr (0, [.ref 8, .ref 9, .int 0]), .inl (0, 16, .inl fun _ => 0), .inl (0, 16, .inl fun _ => 0), .inr (4, [.ref 1, .ref 7, .ref 11, .ref 12, .int 0, .int 0, .int 0]), .inl (0, 512, .inl fun _ => 0), .inl (0, 512, .inl fun _ => 0), .inr (1, [.ref 1, .ref 7, .ref 10, .ref 14, .int 0]), .inl (0, 12, .inl fun _ => 0), .inr (2, [.null, .int 0, .int 0])] 16 3660 (.inl none, [.inr (5, [.ref 1, .ref 7, .ref 10, .ref 13, .null, .null]), .inr (3, [.ref 2, .ref 3, .ref 4, .ref 5, .ref 6, .int 0, .int 120, .int 120]), .inl (0, 512, .inl fun _ => 0), .inl (0, 512, .inl fun _ => 0), .inl (0, 512, .inl fun _ => 0), .inl (0, 512, .inl fun _ => 0), .inl (0, 512, .inl fun _ => 0), .inr (0, [.ref 8, .ref 9, .int 0]), .inl (0, 16, .inl fun _ => 0), .inl (0, 16, .inl fun _ => 0), .inr (4, [.ref 1, .ref 7, .ref 11, .ref 12, .int 0, .int 0, .int 0]), .inl (0, 512, .inl fun _ => 0), .inl (0, 512, .inl fun _ => 0), .inr (1, [.ref 1, .ref 7, .ref 10, .ref 14, .int 0]), .inl (0, 12, .inl fun _ => 0), .inr (2, [.ref 16, .int 0, .int 0]), .inl (0, 60, .inl fun _ => 0)], 17, 3720) := by
  refine am_call_run (by decide) (by decide) rfl (Nat.le_of_ble_eq_true rfl) (by decide) (L := [(0, .ref 15)]) rfl ?_
  refine am_ev_st 8 (f' := (14, [(0, .ref 15)], [.int 0, .ref 15], [.inr (5, [.ref 1, .ref 7, .ref 10, .ref 13, .null, .null]), .inr (3, [.ref 2, .ref 3, .ref 4, .ref 5, .ref 6, .int 0, .int 120, .int 120]), .inl (0, 512, .inl fun _ => 0), .inl (0, 512, .inl fun _ => 0), .inl (0, 512, .inl fun _ => 0), .inl (0, 512, .inl fun _ => 0), .inl (0, 512, .inl fun _ => 0), .inr (0, [.ref 8, .ref 9, .int 0]), .inl (0, 16, .inl fun _ => 0), .inl (0, 16, .inl fun _ => 0), .inr (4, [.ref 1, .ref 7, .ref 11, .ref 12, .int 0, .int 0, .int 0]), .inl (0, 512, .inl fun _ => 0), .inl (0, 512, .inl fun _ => 0), .inr (1, [.ref 1, .ref 7, .ref 10, .ref 14, .int 0]), .inl (0, 12, .inl fun _ => 0), .inr (2, [.ref 16, .int 0, .int 0]), .inl (0, 60, .inl fun _ => 0)], 17, 3720)) (g := True ∧ True ∧ True ∧ True ∧ (¬ (60 : Int32) < 0 ∧ (60 : Int32).toNatClampNeg * 8 ≤ 536870912) ∧ True ∧ True ∧ True ∧ True) (by with_unfolding_all rfl) ⟨trivial, trivial, trivial, trivial, ⟨by decide, by decide +kernel⟩, trivial, trivial, trivial, trivial⟩ ?_
  refine am_ev_st 4 (f' := (22, [(0, .ref 15)], [], [.inr (5, [.ref 1, .ref 7, .ref 10, .ref 13, .null, .null]), .inr (3, [.ref 2, .ref 3, .ref 4, .ref 5, .ref 6, .int 0, .int 120, .int 120]), .inl (0, 512, .inl fun _ => 0), .inl (0, 512, .inl fun _ => 0), .inl (0, 512, .inl fun _ => 0), .inl (0, 512, .inl fun _ => 0), .inl (0, 512, .inl fun _ => 0), .inr (0, [.ref 8, .ref 9, .int 0]), .inl (0, 16, .inl fun _ => 0), .inl (0, 16, .inl fun _ => 0), .inr (4, [.ref 1, .ref 7, .ref 11, .ref 12, .int 0, .int 0, .int 0]), .inl (0, 512, .inl fun _ => 0), .inl (0, 512, .inl fun _ => 0), .inr (1, [.ref 1, .ref 7, .ref 10, .ref 14, .int 0]), .inl (0, 12, .inl fun _ => 0), .inr (2, [.ref 16, .int 0, .int 0]), .inl (0, 60, .inl fun _ => 0)], 17, 3720)) (g := True ∧ True ∧ True ∧ True ∧ True) (by with_unfolding_all rfl) ⟨trivial, trivial, trivial, trivial, trivial⟩ ?_
  exact am_ev_vret 0 0 0 rfl rfl rfl
set_option maxRecDepth 100000 in
theorem am_new6 {D : Nat} : am_Call (D + 1) 17 [.ref 17] [.inr (5, [.ref 1, .ref 7, .ref 10, .ref 13, .ref 15, .null]), .inr (3, [.ref 2, .ref 3, .ref 4, .ref 5, .ref 6, .int 0, .int 120, .int 120]), .inl (0, 512, .inl fun _ => 0), .inl (0, 512, .inl fun _ => 0), .inl (0, 512, .inl fun _ => 0), .inl (0, 512, .inl fun _ => 0), .inl (0, 512, .inl fun _ => 0), .inr (0, [.ref 8, .ref 9, .int 0]), .inl (0, 16, .inl fun _ => 0), .inl (0, 16, .inl fun _ => 0), .inr (4, [.ref 1, .ref 7, .ref 11, .ref 12, .int 0, .int 0, .int 0]), .inl (0, 512, .inl fun _ => 0), .inl (0, 512, .inl fun _ => 0), .inr (1, [.ref 1, .ref 7, .ref 10, .ref 14, .int 0]), .inl (0, 12, .inl fun _ => 0), .inr (2, [.ref 16, .int 0, .int 0]), .inl (0, 60, .inl fun _ => 0), .inr (2, [.null, .int 0, .int 0])] 18 3723 (.inl none, [.inr (5, [.ref 1, .ref 7, .ref 10, .ref 13, .ref 15, .null]), .inr (3, [.ref 2, .ref 3, .ref 4, .ref 5, .ref 6, .int 0, .int 120, .int 120]), .inl (0, 512, .inl fun _ => 0), .inl (0, 512, .inl fun _ => 0), .inl (0, 512, .inl fun _ => 0), .inl (0, 512, .inl fun _ => 0), .inl (0, 512, .inl fun _ => 0), .inr (0, [.ref 8, .ref 9, .int 0]), .inl (0, 16, .inl fun _ => 0), .inl (0, 16, .inl fun _ => 0), .inr (4, [.ref 1, .ref 7, .ref 11, .ref 12, .int 0, .int 0, .int 0]), .inl (0, 512, .inl fun _ => 0), .inl (0, 512, .inl fun _ => 0), .inr (1, [.ref 1, .ref 7, .ref 10, .ref 14, .int 0]), .inl (0, 12, .inl fun _ => 0), .inr (2, [.ref 16, .int 0, .int 0]), .inl (0, 60, .inl fun _ => 0), .inr (2, [.ref 18, .int 0, .int 0]), .inl (0, 60, .inl fun _ => 0)], 19, 3783) := by
  refine am_call_run (by decide) (by decide) rfl (Nat.le_of_ble_eq_true rfl) (by decide) (L := [(0, .ref 17)]) rfl ?_
  refine am_ev_st 8 (f' := (14, [(0, .ref 17)], [.int 0, .ref 17], [.inr (5, [.ref 1, .ref 7, .ref 10, .ref 13, .ref 15, .null]), .inr (3, [.ref 2, .ref 3, .ref 4, .ref 5, .ref 6, .int 0, .int 120, .int 120]), .inl (0, 512, .inl fun _ => 0), .inl (0, 512, .inl fun _ => 0), .inl (0, 512, .inl fun _ => 0), .inl (0, 512, .inl fun _ => 0), .inl (0, 512, .inl fun _ => 0), .inr (0, [.ref 8, .ref 9, .int 0]), .inl (0, 16, .inl fun _ => 0), .inl (0, 16, .inl fun _ => 0), .inr (4, [.ref 1, .ref 7, .ref 11, .ref 12, .int 0, .int 0, .int 0]), .inl (0, 512, .inl fun _ => 0), .inl (0, 512, .inl fun _ => 0), .inr (1, [.ref 1, .ref 7, .ref 10, .ref 14, .int 0]), .inl (0, 12, .inl fun _ => 0), .inr (2, [.ref 16, .int 0, .int 0]), .inl (0, 60, .inl fun _ => 0), .inr (2, [.ref 18, .int 0, .int 0]), .inl (0, 60, .inl fun _ => 0)], 19, 3783)) (g := True ∧ True ∧ True ∧ True ∧ (¬ (60 : Int32) < 0 ∧ (60 : Int32).toNatClampNeg * 8 ≤ 536870912) ∧ True ∧ True ∧ True ∧ True) (by with_unfolding_all rfl) ⟨trivial, trivial, trivial, trivial, ⟨by decide, by decide +kernel⟩, trivial, trivial, trivial, trivial⟩ ?_
  refine am_ev_st 4 (f' := (22, [(0, .ref 17)], [], [.inr (5, [.ref 1, .ref 7, .ref 10, .ref 13, .ref 15, .null]), .inr (3, [.ref 2, .ref 3, .ref 4, .ref 5, .ref 6, .int 0, .int 120, .int 120]), .inl (0, 512, .inl fun _ => 0), .inl (0, 512, .inl fun _ => 0), .inl (0, 512, .inl fun _ => 0), .inl (0, 512, .inl fun _ => 0), .inl (0, 512, .inl fun _ => 0), .inr (0, [.ref 8, .ref 9, .int 0]), .inl (0, 16, .inl fun _ => 0), .inl (0, 16, .inl fun _ => 0), .inr (4, [.ref 1, .ref 7, .ref 11, .ref 12, .int 0, .int 0, .int 0]), .inl (0, 512, .inl fun _ => 0), .inl (0, 512, .inl fun _ => 0), .inr (1, [.ref 1, .ref 7, .ref 10, .ref 14, .int 0]), .inl (0, 12, .inl fun _ => 0), .inr (2, [.ref 16, .int 0, .int 0]), .inl (0, 60, .inl fun _ => 0), .inr (2, [.ref 18, .int 0, .int 0]), .inl (0, 60, .inl fun _ => 0)], 19, 3783)) (g := True ∧ True ∧ True ∧ True ∧ True) (by with_unfolding_all rfl) ⟨trivial, trivial, trivial, trivial, trivial⟩ ?_
  exact am_ev_vret 0 0 0 rfl rfl rfl
set_option maxRecDepth 100000 in
theorem am_new7 {D : Nat} : am_Call (D + 2) 55 [.ref 0] [.inr (5, [.null, .null, .null, .null, .null, .null])] 1 6 (.inl none, [.inr (5, [.ref 1, .ref 7, .ref 10, .ref 13, .ref 15, .ref 17]), .inr (3, [.ref 2, .ref 3, .ref 4, .ref 5, .ref 6, .int 0, .int 120, .int 120]), .inl (0, 512, .inl fun _ => 0), .inl (0, 512, .inl fun _ => 0), .inl (0, 512, .inl fun _ => 0), .inl (0, 512, .inl fun _ => 0), .inl (0, 512, .inl fun _ => 0), .inr (0, [.ref 8, .ref 9, .int 0]), .inl (0, 16, .inl fun _ => 0), .inl (0, 16, .inl fun _ => 0), .inr (4, [.ref 1, .ref 7, .ref 11, .ref 12, .int 0, .int 0, .int 0]), .inl (0, 512, .inl fun _ => 0), .inl (0, 512, .inl fun _ => 0), .inr (1, [.ref 1, .ref 7, .ref 10, .ref 14, .int 0]), .inl (0, 12, .inl fun _ => 0), .inr (2, [.ref 16, .int 0, .int 0]), .inl (0, 60, .inl fun _ => 0), .inr (2, [.ref 18, .int 0, .int 0]), .inl (0, 60, .inl fun _ => 0)], 19, 3783) := by
  refine am_call_run (by decide) (by decide) rfl (Nat.le_of_ble_eq_true rfl) (by decide) (L := [(0, .ref 0)]) rfl ?_
  refine am_ev_st 5 (f' := (9, [(0, .ref 0)], [.ref 1, .ref 1, .ref 0], [.inr (5, [.null, .null, .null, .null, .null, .null]), .inr (3, [.null, .null, .null, .null, .null, .int 0, .int 0, .int 0])], 2, 14)) (g := True ∧ True ∧ True ∧ True ∧ True ∧ True) (by with_unfolding_all rfl) ⟨trivial, trivial, trivial, trivial, trivial, trivial⟩ ?_
  refine am_ev_call (.invokespecial 9) 25 1 77 [.ref 1] [.ref 1, .ref 0] rfl rfl rfl rfl am_new1 rfl ?_
  refine am_ev_st 4 (f' := (20, [(0, .ref 0)], [.ref 7, .ref 7, .ref 0], [.inr (5, [.ref 1, .null, .null, .null, .null, .null]), .inr (3, [.ref 2, .ref 3, .ref 4, .ref 5, .ref 6, .int 0, .int 120, .int 120]), .inl (0, 512, .inl fun _ => 0), .inl (0, 512, .inl fun _ => 0), .inl (0, 512, .inl fun _ => 0), .inl (0, 512, .inl fun _ => 0), .inl (0, 512, .inl fun _ => 0), .inr (0, [.null, .null, .int 0])], 8, 2577)) (g := True ∧ True ∧ True ∧ True ∧ True) (by with_unfolding_all rfl) ⟨trivial, trivial, trivial, trivial, trivial⟩ ?_
  refine am_ev_call (.invokespecial 18) 0 1 109 [.ref 7] [.ref 7, .ref 0] rfl rfl rfl rfl am_new2 rfl ?_
  refine am_ev_st 8 (f' := (39, [(0, .ref 0)], [.ref 7, .ref 1, .ref 10, .ref 10, .ref 0], [.inr (5, [.ref 1, .ref 7, .null, .null, .null, .null]), .inr (3, [.ref 2, .ref 3, .ref 4, .ref 5, .ref 6, .int 0, .int 120, .int 120]), .inl (0, 512, .inl fun _ => 0), .inl (0, 512, .inl fun _ => 0), .inl (0, 512, .inl fun _ => 0), .inl (0, 512, .inl fun _ => 0), .inl (0, 512, .inl fun _ => 0), .inr (0, [.ref 8, .ref 9, .int 0]), .inl (0, 16, .inl fun _ => 0), .inl (0, 16, .inl fun _ => 0), .inr (4, [.null, .null, .null, .null, .int 0, .int 0, .int 0])], 11, 2616)) (g := True ∧ True ∧ True ∧ True ∧ True ∧ True ∧ True ∧ True ∧ True) (by with_unfolding_all rfl) ⟨trivial, trivial, trivial, trivial, trivial, trivial, trivial, trivial, trivial⟩ ?_
  refine am_ev_call (.invokespecial 25) 45 4 125 [.ref 10, .ref 1, .ref 7] [.ref 10, .ref 0] rfl rfl rfl rfl am_new3 rfl ?_
  refine am_ev_st 8 (f' := (58, [(0, .ref 0)], [.ref 7, .ref 1, .ref 13, .ref 13, .ref 0], [.inr (5, [.ref 1, .ref 7, .ref 10, .null, .null, .null]), .inr (3, [.ref 2, .ref 3, .ref 4, .ref 5, .ref 6, .int 0, .int 120, .int 120]), .inl (0, 512, .inl fun _ => 0), .inl (0, 512, .inl fun _ => 0), .inl (0, 512, .inl fun _ => 0), .inl (0, 512, .inl fun _ => 0), .inl (0, 512, .inl fun _ => 0), .inr (0, [.ref 8, .ref 9, .int 0]), .inl (0, 16, .inl fun _ => 0), .inl (0, 16, .inl fun _ => 0), .inr (4, [.ref 1, .ref 7, .ref 11, .ref 12, .int 0, .int 0, .int 0]), .inl (0, 512, .inl fun _ => 0), .inl (0, 512, .inl fun _ => 0), .inr (1, [.null, .null, .null, .null, .int 0])], 14, 3645)) (g := True ∧ True ∧ True ∧ True ∧ True ∧ True ∧ True ∧ True ∧ True) (by with_unfolding_all rfl) ⟨trivial, trivial, trivial, trivial, trivial, trivial, trivial, trivial, trivial⟩ ?_
  refine am_ev_st 2 (f' := (62, [(0, .ref 0)], [.ref 10, .ref 7, .ref 1, .ref 13, .ref 13, .ref 0], [.inr (5, [.ref 1, .ref 7, .ref 10, .null, .null, .null]), .inr (3, [.ref 2, .ref 3, .ref 4, .ref 5, .ref 6, .int 0, .int 120, .int 120]), .inl (0, 512, .inl fun _ => 0), .inl (0, 512, .inl fun _ => 0), .inl (0, 512, .inl fun _ => 0), .inl (0, 512, .inl fun _ => 0), .inl (0, 512, .inl fun _ => 0), .inr (0, [.ref 8, .ref 9, .int 0]), .inl (0, 16, .inl fun _ => 0), .inl (0, 16, .inl fun _ => 0), .inr (4, [.ref 1, .ref 7, .ref 11, .ref 12, .int 0, .int 0, .int 0]), .inl (0, 512, .inl fun _ => 0), .inl (0, 512, .inl fun _ => 0), .inr (1, [.null, .null, .null, .null, .int 0])], 14, 3645)) (g := True ∧ True ∧ True) (by with_unfolding_all rfl) ⟨trivial, trivial, trivial⟩ ?_
  refine am_ev_call (.invokespecial 34) 7 6 153 [.ref 13, .ref 1, .ref 7, .ref 10] [.ref 13, .ref 0] rfl rfl rfl rfl am_new4 rfl ?_
  refine am_ev_st 4 (f' := (73, [(0, .ref 0)], [.ref 15, .ref 15, .ref 0], [.inr (5, [.ref 1, .ref 7, .ref 10, .ref 13, .null, .null]), .inr (3, [.ref 2, .ref 3, .ref 4, .ref 5, .ref 6, .int 0, .int 120, .int 120]), .inl (0, 512, .inl fun _ => 0), .inl (0, 512, .inl fun _ => 0), .inl (0, 512, .inl fun _ => 0), .inl (0, 512, .inl fun _ => 0), .inl (0, 512, .inl fun _ => 0), .inr (0, [.ref 8, .ref 9, .int 0]), .inl (0, 16, .inl fun _ => 0), .inl (0, 16, .inl fun _ => 0), .inr (4, [.ref 1, .ref 7, .ref 11, .ref 12, .int 0, .int 0, .int 0]), .inl (0, 512, .inl fun _ => 0), .inl (0, 512, .inl fun _ => 0), .inr (1, [.ref 1, .ref 7, .ref 10, .ref 14, .int 0]), .inl (0, 12, .inl fun _ => 0), .inr (2, [.null, .int 0, .int 0])], 16, 3660)) (g := True ∧ True ∧ True ∧ True ∧ True) (by with_unfolding_all rfl) ⟨trivial, trivial, trivial, trivial, trivial⟩ ?_
  refine am_ev_call (.invokespecial 43) 17 1 175 [.ref 15] [.ref 15, .ref 0] rfl rfl rfl rfl am_new5 rfl ?_
  refine am_ev_st 4 (f' := (84, [(0, .ref 0)], [.ref 17, .ref 17, .ref 0], [.inr (5, [.ref 1, .ref 7, .ref 10, .ref 13, .ref 15, .null]), .inr (3, [.ref 2, .ref 3, .ref 4, .ref 5, .ref 6, .int 0, .int 120, .int 120]), .inl (0, 512, .inl fun _ => 0), .inl (0, 512, .inl fun _ => 0), .inl (0, 512, .inl fun _ => 0), .inl (0, 512, .inl fun _ => 0), .inl (0, 512, .inl fun _ => 0), .inr (0, [.ref 8, .ref 9, .int 0]), .inl (0, 16, .inl fun _ => 0), .inl (0, 16, .inl fun _ => 0), .inr (4, [.ref 1, .ref 7, .ref 11, .ref 12, .int 0, .int 0, .int 0]), .inl (0, 512, .inl fun _ => 0), .inl (0, 512, .inl fun _ => 0), .inr (1, [.ref 1, .ref 7, .ref 10, .ref 14, .int 0]), .inl (0, 12, .inl fun _ => 0), .inr (2, [.ref 16, .int 0, .int 0]), .inl (0, 60, .inl fun _ => 0), .inr (2, [.null, .int 0, .int 0])], 18, 3723)) (g := True ∧ True ∧ True ∧ True ∧ True) (by with_unfolding_all rfl) ⟨trivial, trivial, trivial, trivial, trivial⟩ ?_
  refine am_ev_call (.invokespecial 43) 17 1 175 [.ref 17] [.ref 17, .ref 0] rfl rfl rfl rfl am_new6 rfl ?_
  refine am_ev_st 1 (f' := (90, [(0, .ref 0)], [], [.inr (5, [.ref 1, .ref 7, .ref 10, .ref 13, .ref 15, .ref 17]), .inr (3, [.ref 2, .ref 3, .ref 4, .ref 5, .ref 6, .int 0, .int 120, .int 120]), .inl (0, 512, .inl fun _ => 0), .inl (0, 512, .inl fun _ => 0), .inl (0, 512, .inl fun _ => 0), .inl (0, 512, .inl fun _ => 0), .inl (0, 512, .inl fun _ => 0), .inr (0, [.ref 8, .ref 9, .int 0]), .inl (0, 16, .inl fun _ => 0), .inl (0, 16, .inl fun _ => 0), .inr (4, [.ref 1, .ref 7, .ref 11, .ref 12, .int 0, .int 0, .int 0]), .inl (0, 512, .inl fun _ => 0), .inl (0, 512, .inl fun _ => 0), .inr (1, [.ref 1, .ref 7, .ref 10, .ref 14, .int 0]), .inl (0, 12, .inl fun _ => 0), .inr (2, [.ref 16, .int 0, .int 0]), .inl (0, 60, .inl fun _ => 0), .inr (2, [.ref 18, .int 0, .int 0]), .inl (0, 60, .inl fun _ => 0)], 19, 3783)) (g := True ∧ True) (by with_unfolding_all rfl) ⟨trivial, trivial⟩ ?_
  exact am_ev_vret 0 0 0 rfl rfl rfl
set_option maxRecDepth 100000 in
theorem am_new8 {D : Nat} : am_Call (D + 1) 76 [.ref 19] [.inr (5, [.ref 1, .ref 7, .ref 10, .ref 13, .ref 15, .ref 17]), .inr (3, [.ref 2, .ref 3, .ref 4, .ref 5, .ref 6, .int 0, .int 120, .int 120]), .inl (0, 512, .inl fun _ => 0), .inl (0, 512, .inl fun _ => 0), .inl (0, 512, .inl fun _ => 0), .inl (0, 512, .inl fun _ => 0), .inl (0, 512, .inl fun _ => 0), .inr (0, [.ref 8, .ref 9, .int 0]), .inl (0, 16, .inl fun _ => 0), .inl (0, 16, .inl fun _ => 0), .inr (4, [.ref 1, .ref 7, .ref 11, .ref 12, .int 0, .int 0, .int 0]), .inl (0, 512, .inl fun _ => 0), .inl (0, 512, .inl fun _ => 0), .inr (1, [.ref 1, .ref 7, .ref 10, .ref 14, .int 0]), .inl (0, 12, .inl fun _ => 0), .inr (2, [.ref 16, .int 0, .int 0]), .inl (0, 60, .inl fun _ => 0), .inr (2, [.ref 18, .int 0, .int 0]), .inl (0, 60, .inl fun _ => 0), .inr (6, [.int 0, .int 0, .null, .null, .null, .null, .null, .int 0, .null, .int 0, .null, .null, .int 0, .null, .int 0, .null, .null, .int 0, .int 0, .int 0, .int 0, .null, .null, .null, .int 0, .int 0, .null, .int 0, .int 0, .null, .null, .null])] 20 3815 (.inl none, [.inr (5, [.ref 1, .ref 7, .ref 10, .ref 13, .ref 15, .ref 17]), .inr (3, [.ref 2, .ref 3, .ref 4, .ref 5, .ref 6, .int 0, .int 120, .int 120]), .inl (0, 512, .inl fun _ => 0), .inl (0, 512, .inl fun _ => 0), .inl (0, 512, .inl fun _ => 0), .inl (0, 512, .inl fun _ => 0), .inl (0, 512, .inl fun _ => 0), .inr (0, [.ref 8, .ref 9, .int 0]), .inl (0, 16, .inl fun _ => 0), .inl (0, 16, .inl fun _ => 0), .inr (4, [.ref 1, .ref 7, .ref 11, .ref 12, .int 0, .int 0, .int 0]), .inl (0, 512, .inl fun _ => 0), .inl (0, 512, .inl fun _ => 0), .inr (1, [.ref 1, .ref 7, .ref 10, .ref 14, .int 0]), .inl (0, 12, .inl fun _ => 0), .inr (2, [.ref 16, .int 0, .int 0]), .inl (0, 60, .inl fun _ => 0), .inr (2, [.ref 18, .int 0, .int 0]), .inl (0, 60, .inl fun _ => 0), .inr (6, [.int 0, .int 0, .ref 20, .ref 21, .ref 22, .ref 23, .ref 24, .int 0, .ref 25, .int 0, .ref 26, .ref 27, .int 0, .ref 28, .int 0, .ref 29, .ref 30, .int 0, .int 0, .int 0, .int 0, .ref 31, .ref 32, .ref 33, .int 0, .int 0, .ref 34, .int 0, .int 0, .ref 35, .ref 36, .ref 37]), .inl (0, 120, .inl fun _ => 0), .inl (0, 120, .inl fun _ => 0), .inl (0, 120, .inl fun _ => 0), .inl (0, 120, .inl fun _ => 0), .inl (0, 120, .inl fun _ => 0), .inl (1, 16, .inl fun _ => 0), .inl (0, 5760, .inl fun _ => 0), .inl (0, 96, .inl fun _ => 0), .inl (0, 60, .inl fun _ => 0), .inl (0, 130, .inl fun _ => 0), .inl (0, 130, .inl fun _ => 0), .inl (0, 40, .inl fun _ => 0), .inl (0, 40, .inl fun _ => 0), .inl (0, 40, .inl fun _ => 0), .inl (0, 40, .inl fun _ => 0), .inl (0, 4000, .inl fun _ => 0), .inl (0, 400, .inl fun _ => 0), .inl (0, 400, .inl fun _ => 0)], 38, 15567) := by
  refine am_call_run (by decide) (by decide) rfl (Nat.le_of_ble_eq_true rfl) (by decide) (L := [(0, .ref 19)]) rfl ?_
  refine am_ev_st 8 (f' := (15, [(0, .ref 19)], [.int 120, .ref 19], [.inr (5, [.ref 1, .ref 7, .ref 10, .ref 13, .ref 15, .ref 17]), .inr (3, [.ref 2, .ref 3, .ref 4, .ref 5, .ref 6, .int 0, .int 120, .int 120]), .inl (0, 512, .inl fun _ => 0), .inl (0, 512, .inl fun _ => 0), .inl (0, 512, .inl fun _ => 0), .inl (0, 512, .inl fun _ => 0), .inl (0, 512, .inl fun _ => 0), .inr (0, [.ref 8, .ref 9, .int 0]), .inl (0, 16, .inl fun _ => 0), .inl (0, 16, .inl fun _ => 0), .inr (4, [.ref 1, .ref 7, .ref 11, .ref 12, .int 0, .int 0, .int 0]), .inl (0, 512, .inl fun _ => 0), .inl (0, 512, .inl fun _ => 0), .inr (1, [.ref 1, .ref 7, .ref 10, .ref 14, .int 0]), .inl (0, 12, .inl fun _ => 0), .inr (2, [.ref 16, .int 0, .int 0]), .inl (0, 60, .inl fun _ => 0), .inr (2, [.ref 18, .int 0, .int 0]), .inl (0, 60, .inl fun _ => 0), .inr (6, [.int 0, .int 0, .ref 20, .null, .null, .null, .null, .int 0, .null, .int 0, .null, .null, .int 0, .null, .int 0, .null, .null, .int 0, .int 0, .int 0, .int 0, .null, .null, .null, .int 0, .int 0, .null, .int 0, .int 0, .null, .null, .null]), .inl (0, 120, .inl fun _ => 0)], 21, 3935)) (g := True ∧ True ∧ True ∧ True ∧ (¬ (120 : Int32) < 0 ∧ (120 : Int32).toNatClampNeg * 8 ≤ 536870912) ∧ True ∧ True ∧ True ∧ True) (by with_unfolding_all rfl) ⟨trivial, trivial, trivial, trivial, ⟨by decide, by decide +kernel⟩, trivial, trivial, trivial, trivial⟩ ?_
  refine am_ev_st 8 (f' := (31, [(0, .ref 19)], [.int 120, .ref 19], [.inr (5, [.ref 1, .ref 7, .ref 10, .ref 13, .ref 15, .ref 17]), .inr (3, [.ref 2, .ref 3, .ref 4, .ref 5, .ref 6, .int 0, .int 120, .int 120]), .inl (0, 512, .inl fun _ => 0), .inl (0, 512, .inl fun _ => 0), .inl (0, 512, .inl fun _ => 0), .inl (0, 512, .inl fun _ => 0), .inl (0, 512, .inl fun _ => 0), .inr (0, [.ref 8, .ref 9, .int 0]), .inl (0, 16, .inl fun _ => 0), .inl (0, 16, .inl fun _ => 0), .inr (4, [.ref 1, .ref 7, .ref 11, .ref 12, .int 0, .int 0, .int 0]), .inl (0, 512, .inl fun _ => 0), .inl (0, 512, .inl fun _ => 0), .inr (1, [.ref 1, .ref 7, .ref 10, .ref 14, .int 0]), .inl (0, 12, .inl fun _ => 0), .inr (2, [.ref 16, .int 0, .int 0]), .inl (0, 60, .inl fun _ => 0), .inr (2, [.ref 18, .int 0, .int 0]), .inl (0, 60, .inl fun _ => 0), .inr (6, [.int 0, .int 0, .ref 20, .ref 21, .ref 22, .null, .null, .int 0, .null, .int 0, .null, .null, .int 0, .null, .int 0, .null, .null, .int 0, .int 0, .int 0, .int 0, .null, .null, .null, .int 0, .int 0, .null, .int 0, .int 0, .null, .null, .null]), .inl (0, 120, .inl fun _ => 0), .inl (0, 120, .inl fun _ => 0), .inl (0, 120, .inl fun _ => 0)], 23, 4175)) (g := (¬ (120 : Int32) < 0 ∧ (120 : Int32).toNatClampNeg * 8 ≤ 536870912) ∧ True ∧ True ∧ True ∧ (¬ (120 : Int32) < 0 ∧ (120 : Int32).toNatClampNeg * 8 ≤ 536870912) ∧ True ∧ True ∧ True ∧ True) (by with_unfolding_all rfl) ⟨⟨by decide, by decide +kernel⟩, trivial, trivial, trivial, ⟨by decide, by decide +kernel⟩, trivial, trivial, trivial, trivial⟩ ?_
  refine am_ev_st 8 (f' := (47, [(0, .ref 19)], [.int 16, .ref 19], [.inr (5, [.ref 1, .ref 7, .ref 10, .ref 13, .ref 15, .ref 17]), .inr (3, [.ref 2, .ref 3, .ref 4, .ref 5, .ref 6, .int 0, .int 120, .int 120]), .inl (0, 512, .inl fun _ => 0), .inl (0, 512, .inl fun _ => 0), .inl (0, 512, .inl fun _ => 0), .inl (0, 512, .inl fun _ => 0), .inl (0, 512, .inl fun _ => 0), .inr (0, [.ref 8, .ref 9, .int 0]), .inl (0, 16, .inl fun _ => 0), .inl (0, 16, .inl fun _ => 0), .inr (4, [.ref 1, .ref 7, .ref 11, .ref 12, .int 0, .int 0, .int 0]), .inl (0, 512, .inl fun _ => 0), .inl (0, 512, .inl fun _ => 0), .inr (1, [.ref 1, .ref 7, .ref 10, .ref 14, .int 0]), .inl (0, 12, .inl fun _ => 0), .inr (2, [.ref 16, .int 0, .int 0]), .inl (0, 60, .inl fun _ => 0), .inr (2, [.ref 18, .int 0, .int 0]), .inl (0, 60, .inl fun _ => 0), .inr (6, [.int 0, .int 0, .ref 20, .ref 21, .ref 22, .ref 23, .ref 24, .int 0, .null, .int 0, .null, .null, .int 0, .null, .int 0, .null, .null, .int 0, .int 0, .int 0, .int 0, .null, .null, .null, .int 0, .int 0, .null, .int 0, .int 0, .null, .null, .null]), .inl (0, 120, .inl fun _ => 0), .inl (0, 120, .inl fun _ => 0), .inl (0, 120, .inl fun _ => 0), .inl (0, 120, .inl fun _ => 0), .inl (0, 120, .inl fun _ => 0)], 25, 4415)) (g := (¬ (120 : Int32) < 0 ∧ (120 : Int32).toNatClampNeg * 8 ≤ 536870912) ∧ True ∧ True ∧ True ∧ (¬ (120 : Int32) < 0 ∧ (120 : Int32).toNatClampNeg * 8 ≤ 536870912) ∧ True ∧ True ∧ True ∧ True) (by with_unfolding_all rfl) ⟨⟨by decide, by decide +kernel⟩, trivial, trivial, trivial, ⟨by decide, by decide +kernel⟩, trivial, trivial, trivial, trivial⟩ ?_
  refine am_ev_st 8 (f' := (64, [(0, .ref 19)], [.int 96, .ref 19], [.inr (5, [.ref 1, .ref 7, .ref 10, .ref 13, .ref 15, .ref 17]), .inr (3, [.ref 2, .ref 3, .ref 4, .ref 5, .ref 6, .int 0, .int 120, .int 120]), .inl (0, 512, .inl fun _ => 0), .inl (0, 512, .inl fun _ => 0), .inl (0, 512, .inl fun _ => 0), .inl (0, 512, .inl fun _ => 0), .inl (0, 512, .inl fun _ => 0), .inr (0, [.ref 8, .ref 9, .int 0]), .inl (0, 16, .inl fun _ => 0), .inl (0, 16, .inl fun _ => 0), .inr (4, [.ref 1, .ref 7, .ref 11, .ref 12, .int 0, .int 0, .int 0]), .inl (0, 512, .inl fun _ => 0), .inl (0, 512, .inl fun _ => 0), .inr (1, [.ref 1, .ref 7, .ref 10, .ref 14, .int 0]), .inl (0, 12, .inl fun _ => 0), .inr (2, [.ref 16, .int 0, .int 0]), .inl (0, 60, .inl fun _ => 0), .inr (2, [.ref 18, .int 0, .int 0]), .inl (0, 60, .inl fun _ => 0), .inr (6, [.int 0, .int 0, .ref 20, .ref 21, .ref 22, .ref 23, .ref 24, .int 0, .ref 25, .int 0, .ref 26, .null, .int 0, .null, .int 0, .null, .null, .int 0, .int 0, .int 0, .int 0, .null, .null, .null, .int 0, .int 0, .null, .int 0, .int 0, .null, .null, .null]), .inl (0, 120, .inl fun _ => 0), .inl (0, 120, .inl fun _ => 0), .inl (0, 120, .inl fun _ => 0), .inl (0, 120, .inl fun _ => 0), .inl (0, 120, .inl fun _ => 0), .inl (1, 16, .inl fun _ => 0), .inl (0, 5760, .inl fun _ => 0)], 27, 10191)) (g := (¬ (16 : Int32) < 0 ∧ (16 : Int32).toNatClampNeg * 8 ≤ 536870912) ∧ True ∧ True ∧ True ∧ (¬ (5760 : Int32) < 0 ∧ (5760 : Int32).toNatClampNeg * 8 ≤ 536870912) ∧ True ∧ True ∧ True ∧ True) (by with_unfolding_all rfl) ⟨⟨by decide, by decide +kernel⟩, trivial, trivial, trivial, ⟨by decide, by decide +kernel⟩, trivial, trivial, trivial, trivial⟩ ?_
  refine am_ev_st 8 (f' := (81, [(0, .ref 19)], [.int 130, .ref 19], [.inr (5, [.ref 1, .ref 7, .ref 10, .ref 13, .ref 15, .ref 17]), .inr (3, [.ref 2, .ref 3, .ref 4, .ref 5, .ref 6, .int 0, .int 120, .int 120]), .inl (0, 512, .inl fun _ => 0), .inl (0, 512, .inl fun _ => 0), .inl (0, 512, .inl fun _ => 0), .inl (0, 512, .inl fun _ => 0), .inl (0, 512, .inl fun _ => 0), .inr (0, [.ref 8, .ref 9, .int 0]), .inl (0, 16, .inl fun _ => 0), .inl (0, 16, .inl fun _ => 0), .inr (4, [.ref 1, .ref 7, .ref 11, .ref 12, .int 0, .int 0, .int 0]), .inl (0, 512, .inl fun _ => 0), .inl (0, 512, .inl fun _ => 0), .inr (1, [.ref 1, .ref 7, .ref 10, .ref 14, .int 0]), .inl (0, 12, .inl fun _ => 0), .inr (2, [.ref 16, .int 0, .int 0]), .inl (0, 60, .inl fun _ => 0), .inr (2, [.ref 18, .int 0, .int 0]), .inl (0, 60, .inl fun _ => 0), .inr (6, [.int 0, .int 0, .ref 20, .ref 21, .ref 22, .ref 23, .ref 24, .int 0, .ref 25, .int 0, .ref 26, .ref 27, .int 0, .ref 28, .int 0, .null, .null, .int 0, .int 0, .int 0, .int 0, .null, .null, .null, .int 0, .int 0, .null, .int 0, .int 0, .null, .null, .null]), .inl (0, 120, .inl fun _ => 0), .inl (0, 120, .inl fun _ => 0), .inl (0, 120, .inl fun _ => 0), .inl (0, 120, .inl fun _ => 0), .inl (0, 120, .inl fun _ => 0), .inl (1, 16, .inl fun _ => 0), .inl (0, 5760, .inl fun _ => 0), .inl (0, 96, .inl fun _ => 0), .inl (0, 60, .inl fun _ => 0)], 29, 10347)) (g := (¬ (96 : Int32) < 0 ∧ (96 : Int32).toNatClampNeg * 8 ≤ 536870912) ∧ True ∧ True ∧ True ∧ (¬ (60 : Int32) < 0 ∧ (60 : Int32).toNatClampNeg * 8 ≤ 536870912) ∧ True ∧ True ∧ True ∧ True) (by with_unfolding_all rfl) ⟨⟨by decide, by decide +kernel⟩, trivial, trivial, trivial, ⟨by decide, by decide +kernel⟩, trivial, trivial, trivial, trivial⟩ ?_
  refine am_ev_st 8 (f' := (98, [(0, .ref 19)], [.int 40, .ref 19], [.inr (5, [.ref 1, .ref 7, .ref 10, .ref 13, .ref 15, .ref 17]), .inr (3, [.ref 2, .ref 3, .ref 4, .ref 5, .ref 6, .int 0, .int 120, .int 120]), .inl (0, 512, .inl fun _ => 0), .inl (0, 512, .inl fun _ => 0), .inl (0, 512, .inl fun _ => 0), .inl (0, 512, .inl fun _ => 0), .inl (0, 512, .inl fun _ => 0), .inr (0, [.ref 8, .ref 9, .int 0]), .inl (0, 16, .inl fun _ => 0), .inl (0, 16, .inl fun _ => 0), .inr (4, [.ref 1, .ref 7, .ref 11, .ref 12, .int 0, .int 0, .int 0]), .inl (0, 512, .inl fun _ => 0), .inl (0, 512, .inl fun _ => 0), .inr (1, [.ref 1, .ref 7, .ref 10, .ref 14, .int 0]), .inl (0, 12, .inl fun _ => 0), .inr (2, [.ref 16, .int 0, .int 0]), .inl (0, 60, .inl fun _ => 0), .inr (2, [.ref 18, .int 0, .int 0]), .inl (0, 60, .inl fun _ => 0), .inr (6, [.int 0, .int 0, .ref 20, .ref 21, .ref 22, .ref 23, .ref 24, .int 0, .ref 25, .int 0, .ref 26, .ref 27, .int 0, .ref 28, .int 0, .ref 29, .ref 30, .int 0, .int 0, .int 0, .int 0, .null, .null, .null, .int 0, .int 0, .null, .int 0, .int 0, .null, .null, .null]), .inl (0, 120, .inl fun _ => 0), .inl (0, 120, .inl fun _ => 0), .inl (0, 120, .inl fun _ => 0), .inl (0, 120, .inl fun _ => 0), .inl (0, 120, .inl fun _ => 0), .inl (1, 16, .inl fun _ => 0), .inl (0, 5760, .inl fun _ => 0), .inl (0, 96, .inl fun _ => 0), .inl (0, 60, .inl fun _ => 0), .inl (0, 130, .inl fun _ => 0), .inl (0, 130, .inl fun _ => 0)], 31, 10607)) (g := (¬ (130 : Int32) < 0 ∧ (130 : Int32).toNatClampNeg * 8 ≤ 536870912) ∧ True ∧ True ∧ True ∧ (¬ (130 : Int32) < 0 ∧ (130 : Int32).toNatClampNeg * 8 ≤ 536870912) ∧ True ∧ True ∧ True ∧ True) (by with_unfolding_all rfl) ⟨⟨by decide, by decide +kernel⟩, trivial, trivial, trivial, ⟨by decide, by decide +kernel⟩, trivial, trivial, trivial, trivial⟩ ?_
  refine am_ev_st 8 (f' := (114, [(0, .ref 19)], [.int 40, .ref 19], [.inr (5, [.ref 1, .ref 7, .ref 10, .ref 13, .ref 15, .ref 17]), .inr (3, [.ref 2, .ref 3, .ref 4, .ref 5, .ref 6, .int 0, .int 120, .int 120]), .inl (0, 512, .inl fun _ => 0), .inl (0, 512, .inl fun _ => 0), .inl (0, 512, .inl fun _ => 0), .inl (0, 512, .inl fun _ => 0), .inl (0, 512, .inl fun _ => 0), .inr (0, [.ref 8, .ref 9, .int 0]), .inl (0, 16, .inl fun _ => 0), .inl (0, 16, .inl fun _ => 0), .inr (4, [.ref 1, .ref 7, .ref 11, .ref 12, .int 0, .int 0, .int 0]), .inl (0, 512, .inl fun _ => 0), .inl (0, 512, .inl fun _ => 0), .inr (1, [.ref 1, .ref 7, .ref 10, .ref 14, .int 0]), .inl (0, 12, .inl fun _ => 0), .inr (2, [.ref 16, .int 0, .int 0]), .inl (0, 60, .inl fun _ => 0), .inr (2, [.ref 18, .int 0, .int 0]), .inl (0, 60, .inl fun _ => 0), .inr (6, [.int 0, .int 0, .ref 20, .ref 21, .ref 22, .ref 23, .ref 24, .int 0, .ref 25, .int 0, .ref 26, .ref 27, .int 0, .ref 28, .int 0, .ref 29, .ref 30, .int 0, .int 0, .int 0, .int 0, .ref 31, .ref 32, .null, .int 0, .int 0, .null, .int 0, .int 0, .null, .null, .null]), .inl (0, 120, .inl fun _ => 0), .inl (0, 120, .inl fun _ => 0), .inl (0, 120, .inl fun _ => 0), .inl (0, 120, .inl fun _ => 0), .inl (0, 120, .inl fun _ => 0), .inl (1, 16, .inl fun _ => 0), .inl (0, 5760, .inl fun _ => 0), .inl (0, 96, .inl fun _ => 0), .inl (0, 60, .inl fun _ => 0), .inl (0, 130, .inl fun _ => 0), .inl (0, 130, .inl fun _ => 0), .inl (0, 40, .inl fun _ => 0), .inl (0, 40, .inl fun _ => 0)], 33, 10687)) (g := (¬ (40 : Int32) < 0 ∧ (40 : Int32).toNatClampNeg * 8 ≤ 536870912) ∧ True ∧ True ∧ True ∧ (¬ (40 : Int32) < 0 ∧ (40 : Int32).toNatClampNeg * 8 ≤ 536870912) ∧ True ∧ True ∧ True ∧ True) (by with_unfolding_all rfl) ⟨⟨by decide, by decide +kernel⟩, trivial, trivial, trivial, ⟨by decide, by decide +kernel⟩, trivial, trivial, trivial, trivial⟩ ?_
  refine am_ev_st 8 (f' := (131, [(0, .ref 19)], [.int 4000, .ref 19], [.inr (5, [.ref 1, .ref 7, .ref 10, .ref 13, .ref 15, .ref 17]), .inr (3, [.ref 2, .ref 3, .ref 4, .ref 5, .ref 6, .int 0, .int 120, .int 120]), .inl (0, 512, .inl fun _ => 0), .inl (0, 512, .inl fun _ => 0), .inl (0, 512, .inl fun _ => 0), .inl (0, 512, .inl fun _ => 0), .inl (0, 512, .inl fun _ => 0), .inr (0, [.ref 8, .ref 9, .int 0]), .inl (0, 16, .inl fun _ => 0), .inl (0, 16, .inl fun _ => 0), .inr (4, [.ref 1, .ref 7, .ref 11, .ref 12, .int 0, .int 0, .int 0]), .inl (0, 512, .inl fun _ => 0), .inl (0, 512, .inl fun _ => 0), .inr (1, [.ref 1, .ref 7, .ref 10, .ref 14, .int 0]), .inl (0, 12, .inl fun _ => 0), .inr (2, [.ref 16, .int 0, .int 0]), .inl (0, 60, .inl fun _ => 0), .inr (2, [.ref 18, .int 0, .int 0]), .inl (0, 60, .inl fun _ => 0), .inr (6, [.int 0, .int 0, .ref 20, .ref 21, .ref 22, .ref 23, .ref 24, .int 0, .ref 25, .int 0, .ref 26, .ref 27, .int 0, .ref 28, .int 0, .ref 29, .ref 30, .int 0, .int 0, .int 0, .int 0, .ref 31, .ref 32, .ref 33, .int 0, .int 0, .ref 34, .int 0, .int 0, .null, .null, .null]), .inl (0, 120, .inl fun _ => 0), .inl (0, 120, .inl fun _ => 0), .inl (0, 120, .inl fun _ => 0), .inl (0, 120, .inl fun _ => 0), .inl (0, 120, .inl fun _ => 0), .inl (1, 16, .inl fun _ => 0), .inl (0, 5760, .inl fun _ => 0), .inl (0, 96, .inl fun _ => 0), .inl (0, 60, .inl fun _ => 0), .inl (0, 130, .inl fun _ => 0), .inl (0, 130, .inl fun _ => 0), .inl (0, 40, .inl fun _ => 0), .inl (0, 40, .inl fun _ => 0), .inl (0, 40, .inl fun _ => 0), .inl (0, 40, .inl fun _ => 0)], 35, 10767)) (g := (¬ (40 : Int32) < 0 ∧ (40 : Int32).toNatClampNeg * 8 ≤ 536870912) ∧ True ∧ True ∧ True ∧ (¬ (40 : Int32) < 0 ∧ (40 : Int32).toNatClampNeg * 8 ≤ 536870912) ∧ True ∧ True ∧ True ∧ True) (by with_unfolding_all rfl) ⟨⟨by decide, by decide +kernel⟩, trivial, trivial, trivial, ⟨by decide, by decide +kernel⟩, trivial, trivial, trivial, trivial⟩ ?_
  refine am_ev_st 8 (f' := (149, [(0, .ref 19)], [.int 400, .ref 19], [.inr (5, [.ref 1, .ref 7, .ref 10, .ref 13, .ref 15, .ref 17]), .inr (3, [.ref 2, .ref 3, .ref 4, .ref 5, .ref 6, .int 0, .int 120, .int 120]), .inl (0, 512, .inl fun _ => 0), .inl (0, 512, .inl fun _ => 0), .inl (0, 512, .inl fun _ => 0), .inl (0, 512, .inl fun _ => 0), .inl (0, 512, .inl fun _ => 0), .inr (0, [.ref 8, .ref 9, .int 0]), .inl (0, 16, .inl fun _ => 0), .inl (0, 16, .inl fun _ => 0), .inr (4, [.ref 1, .ref 7, .ref 11, .ref 12, .int 0, .int 0, .int 0]), .inl (0, 512, .inl fun _ => 0), .inl (0, 512, .inl fun _ => 0), .inr (1, [.ref 1, .ref 7, .ref 10, .ref 14, .int 0]), .inl (0, 12, .inl fun _ => 0), .inr (2, [.ref 16, .int 0, .int 0]), .inl (0, 60, .inl fun _ => 0), .inr (2, [.ref 18, .int 0, .int 0]), .inl (0, 60, .inl fun _ => 0), .inr (6, [.int 0, .int 0, .ref 20, .ref 21, .ref 22, .ref 23, .ref 24, .int 0, .ref 25, .int 0, .ref 26, .ref 27, .int 0, .ref 28, .int 0, .ref 29, .ref 30, .int 0, .int 0, .int 0, .int 0, .ref 31, .ref 32, .ref 33, .int 0, .int 0, .ref 34, .int 0, .int 0, .ref 35, .ref 36, .null]), .inl (0, 120, .inl fun _ => 0), .inl (0, 120, .inl fun _ => 0), .inl (0, 120, .inl fun _ => 0), .inl (0, 120, .inl fun _ => 0), .inl (0, 120, .inl fun _ => 0), .inl (1, 16, .inl fun _ => 0), .inl (0, 5760, .inl fun _ => 0), .inl (0, 96, .inl fun _ => 0), .inl (0, 60, .inl fun _ => 0), .inl (0, 130, .inl fun _ => 0), .inl (0, 130, .inl fun _ => 0), .inl (0, 40, .inl fun _ => 0), .inl (0, 40, .inl fun _ => 0), .inl (0, 40, .inl fun _ => 0), .inl (0, 40, .inl fun _ => 0), .inl (0, 4000, .inl fun _ => 0), .inl (0, 400, .inl fun _ => 0)], 37, 15167)) (g := (¬ (4000 : Int32) < 0 ∧ (4000 : Int32).toNatClampNeg * 8 ≤ 536870912) ∧ True ∧ True ∧ True ∧ (¬ (400 : Int32) < 0 ∧ (400 : Int32).toNatClampNeg * 8 ≤ 536870912) ∧ True ∧ True ∧ True ∧ True) (by with_unfolding_all rfl) ⟨⟨by decide, by decide +kernel⟩, trivial, trivial, trivial, ⟨by decide, by decide +kernel⟩, trivial, trivial, trivial, trivial⟩ ?_
  refine am_ev_st 2 (f' := (154, [(0, .ref 19)], [], [.inr (5, [.ref 1, .ref 7, .ref 10, .ref 13, .ref 15, .ref 17]), .inr (3, [.ref 2, .ref 3, .ref 4, .ref 5, .ref 6, .int 0, .int 120, .int 120]), .inl (0, 512, .inl fun _ => 0), .inl (0, 512, .inl fun _ => 0), .inl (0, 512, .inl fun _ => 0), .inl (0, 512, .inl fun _ => 0), .inl (0, 512, .inl fun _ => 0), .inr (0, [.ref 8, .ref 9, .int 0]), .inl (0, 16, .inl fun _ => 0), .inl (0, 16, .inl fun _ => 0), .inr (4, [.ref 1, .ref 7, .ref 11, .ref 12, .int 0, .int 0, .int 0]), .inl (0, 512, .inl fun _ => 0), .inl (0, 512, .inl fun _ => 0), .inr (1, [.ref 1, .ref 7, .ref 10, .ref 14, .int 0]), .inl (0, 12, .inl fun _ => 0), .inr (2, [.ref 16, .int 0, .int 0]), .inl (0, 60, .inl fun _ => 0), .inr (2, [.ref 18, .int 0, .int 0]), .inl (0, 60, .inl fun _ => 0), .inr (6, [.int 0, .int 0, .ref 20, .ref 21, .ref 22, .ref 23, .ref 24, .int 0, .ref 25, .int 0, .ref 26, .ref 27, .int 0, .ref 28, .int 0, .ref 29, .ref 30, .int 0, .int 0, .int 0, .int 0, .ref 31, .ref 32, .ref 33, .int 0, .int 0, .ref 34, .int 0, .int 0, .ref 35, .ref 36, .ref 37]), .inl (0, 120, .inl fun _ => 0), .inl (0, 120, .inl fun _ => 0), .inl (0, 120, .inl fun _ => 0), .inl (0, 120, .inl fun _ => 0), .inl (0, 120, .inl fun _ => 0), .inl (1, 16, .inl fun _ => 0), .inl (0, 5760, .inl fun _ => 0), .inl (0, 96, .inl fun _ => 0), .inl (0, 60, .inl fun _ => 0), .inl (0, 130, .inl fun _ => 0), .inl (0, 130, .inl fun _ => 0), .inl (0, 40, .inl fun _ => 0), .inl (0, 40, .inl fun _ => 0), .inl (0, 40, .inl fun _ => 0), .inl (0, 40, .inl fun _ => 0), .inl (0, 4000, .inl fun _ => 0), .inl (0, 400, .inl fun _ => 0), .inl (0, 400, .inl fun _ => 0)], 38, 15567)) (g := (¬ (400 : Int32) < 0 ∧ (400 : Int32).toNatClampNeg * 8 ≤ 536870912) ∧ True ∧ True) (by with_unfolding_all rfl) ⟨⟨by decide, by decide +kernel⟩, trivial, trivial⟩ ?_
  exact am_ev_vret 0 0 0 rfl rfl rfl
def N0 : cN := ((fun _ => 0), (fun _ => 0), (fun _ => 0), (fun _ => 0), (fun _ => 0), 512, 0, 120, 120)
def C0 : cC := ((fun _ => 0), (fun _ => 0), 0)
def E0 : cE := ((fun _ => 0), (fun _ => 0), 0, 0, 0)
def F0 : cF := ((fun _ => 0), 0)
def P0 : cP := ((fun _ => 0), 0, 0)
def Q0 : cQ := ((fun _ => 0), 0, 0)
def T0 : cT := (0, (fun _ => 0), (fun _ => 0), (fun _ => 0), (fun _ => 0), (fun _ => 0))
def G0 : cG := (0, (fun _ => 0))
def U0 : cU := 0
def H0 : cH := 0
def B0 : cB := ((fun _ => 0), (fun _ => 0))
def O0 : cO := (0, (fun _ => 0), 0)
def J0 : cJ := ((fun _ => 0), (fun _ => 0))
def V0 : cV := (0, 0, 0)
def Y0 : cY := (0, (fun _ => 0), (fun _ => 0), (fun _ => 0), 0, 0, (fun _ => 0))
def Z0 : cZ := (0, 0, (fun _ => 0), (fun _ => 0), (fun _ => 0))
def O9_0 : cO9 := (fun _ => 0)
theorem am_W0 : [.inr (5, [.ref 1, .ref 7, .ref 10, .ref 13, .ref 15, .ref 17]), .inr (3, [.ref 2, .ref 3, .ref 4, .ref 5, .ref 6, .int 0, .int 120, .int 120]), .inl (0, 512, .inl fun _ => 0), .inl (0, 512, .inl fun _ => 0), .inl (0, 512, .inl fun _ => 0), .inl (0, 512, .inl fun _ => 0), .inl (0, 512, .inl fun _ => 0), .inr (0, [.ref 8, .ref 9, .int 0]), .inl (0, 16, .inl fun _ => 0), .inl (0, 16, .inl fun _ => 0), .inr (4, [.ref 1, .ref 7, .ref 11, .ref 12, .int 0, .int 0, .int 0]), .inl (0, 512, .inl fun _ => 0), .inl (0, 512, .inl fun _ => 0), .inr (1, [.ref 1, .ref 7, .ref 10, .ref 14, .int 0]), .inl (0, 12, .inl fun _ => 0), .inr (2, [.ref 16, .int 0, .int 0]), .inl (0, 60, .inl fun _ => 0), .inr (2, [.ref 18, .int 0, .int 0]), .inl (0, 60, .inl fun _ => 0), .inr (6, [.int 0, .int 0, .ref 20, .ref 21, .ref 22, .ref 23, .ref 24, .int 0, .ref 25, .int 0, .ref 26, .ref 27, .int 0, .ref 28, .int 0, .ref 29, .ref 30, .int 0, .int 0, .int 0, .int 0, .ref 31, .ref 32, .ref 33, .int 0, .int 0, .ref 34, .int 0, .int 0, .ref 35, .ref 36, .ref 37]), .inl (0, 120, .inl fun _ => 0), .inl (0, 120, .inl fun _ => 0), .inl (0, 120, .inl fun _ => 0), .inl (0, 120, .inl fun _ => 0), .inl (0, 120, .inl fun _ => 0), .inl (1, 16, .inl fun _ => 0), .inl (0, 5760, .inl fun _ => 0), .inl (0, 96, .inl fun _ => 0), .inl (0, 60, .inl fun _ => 0), .inl (0, 130, .inl fun _ => 0), .inl (0, 130, .inl fun _ => 0), .inl (0, 40, .inl fun _ => 0), .inl (0, 40, .inl fun _ => 0), .inl (0, 40, .inl fun _ => 0), .inl (0, 40, .inl fun _ => 0), .inl (0, 4000, .inl fun _ => 0), .inl (0, 400, .inl fun _ => 0), .inl (0, 400, .inl fun _ => 0), .inl (2, 1, .inr (.inl fun _ => 0))] = (W9 N0 C0 E0 F0 P0 Q0 T0 G0 U0 H0 B0 O0 J0 V0 Y0 Z0 O9_0) := rfl
set_option maxRecDepth 100000 in
/-- what the law does before its loop -/
theorem am_begin {D sl : Nat} {xs : Nat → Int32} {r : am_R} (hk : am_Ev (D + 2) 132 (sl + 1) xs (23, [(0, .retAddr 0), (1, .ref 0), (2, .ref 19), (3, .ref 38), (4, .int 0)], [], (W9 N0 C0 E0 F0 P0 Q0 T0 G0 U0 H0 B0 O0 J0 V0 Y0 Z0 O9_0), 39, 15568) r) : am_Ev (D + 2) 132 (sl + 1) xs (0, [(0, .retAddr 0)], [], [], 0, 0) r := by
  refine am_ev_st 2 (f' := (4, [(0, .retAddr 0)], [.ref 0, .ref 0], [.inr (5, [.null, .null, .null, .null, .null, .null])], 1, 6)) (g := True ∧ True ∧ True) (by with_unfolding_all rfl) ⟨trivial, trivial, trivial⟩ ?_
  refine am_ev_call (.invokespecial 35) 55 0 69 [.ref 0] [.ref 0] rfl rfl rfl rfl am_new7 rfl ?_
  refine am_ev_st 3 (f' := (12, [(1, .ref 0), (0, .retAddr 0)], [.ref 19, .ref 19], [.inr (5, [.ref 1, .ref 7, .ref 10, .ref 13, .ref 15, .ref 17]), .inr (3, [.ref 2, .ref 3, .ref 4, .ref 5, .ref 6, .int 0, .int 120, .int 120]), .inl (0, 512, .inl fun _ => 0), .inl (0, 512, .inl fun _ => 0), .inl (0, 512, .inl fun _ => 0), .inl (0, 512, .inl fun _ => 0), .inl (0, 512, .inl fun _ => 0), .inr (0, [.ref 8, .ref 9, .int 0]), .inl (0, 16, .inl fun _ => 0), .inl (0, 16, .inl fun _ => 0), .inr (4, [.ref 1, .ref 7, .ref 11, .ref 12, .int 0, .int 0, .int 0]), .inl (0, 512, .inl fun _ => 0), .inl (0, 512, .inl fun _ => 0), .inr (1, [.ref 1, .ref 7, .ref 10, .ref 14, .int 0]), .inl (0, 12, .inl fun _ => 0), .inr (2, [.ref 16, .int 0, .int 0]), .inl (0, 60, .inl fun _ => 0), .inr (2, [.ref 18, .int 0, .int 0]), .inl (0, 60, .inl fun _ => 0), .inr (6, [.int 0, .int 0, .null, .null, .null, .null, .null, .int 0, .null, .int 0, .null, .null, .int 0, .null, .int 0, .null, .null, .int 0, .int 0, .int 0, .int 0, .null, .null, .null, .int 0, .int 0, .null, .int 0, .int 0, .null, .null, .null])], 20, 3815)) (g := True ∧ True ∧ True ∧ True) (by with_unfolding_all rfl) ⟨trivial, trivial, trivial, trivial⟩ ?_
  refine am_ev_call (.invokespecial 38) 76 0 678 [.ref 19] [.ref 19] rfl rfl rfl rfl am_new8 rfl ?_
  refine am_ev_st 6 (f' := (23, [(4, .int 0), (3, .ref 38), (2, .ref 19), (1, .ref 0), (0, .retAddr 0)], [], [.inr (5, [.ref 1, .ref 7, .ref 10, .ref 13, .ref 15, .ref 17]), .inr (3, [.ref 2, .ref 3, .ref 4, .ref 5, .ref 6, .int 0, .int 120, .int 120]), .inl (0, 512, .inl fun _ => 0), .inl (0, 512, .inl fun _ => 0), .inl (0, 512, .inl fun _ => 0), .inl (0, 512, .inl fun _ => 0), .inl (0, 512, .inl fun _ => 0), .inr (0, [.ref 8, .ref 9, .int 0]), .inl (0, 16, .inl fun _ => 0), .inl (0, 16, .inl fun _ => 0), .inr (4, [.ref 1, .ref 7, .ref 11, .ref 12, .int 0, .int 0, .int 0]), .inl (0, 512, .inl fun _ => 0), .inl (0, 512, .inl fun _ => 0), .inr (1, [.ref 1, .ref 7, .ref 10, .ref 14, .int 0]), .inl (0, 12, .inl fun _ => 0), .inr (2, [.ref 16, .int 0, .int 0]), .inl (0, 60, .inl fun _ => 0), .inr (2, [.ref 18, .int 0, .int 0]), .inl (0, 60, .inl fun _ => 0), .inr (6, [.int 0, .int 0, .ref 20, .ref 21, .ref 22, .ref 23, .ref 24, .int 0, .ref 25, .int 0, .ref 26, .ref 27, .int 0, .ref 28, .int 0, .ref 29, .ref 30, .int 0, .int 0, .int 0, .int 0, .ref 31, .ref 32, .ref 33, .int 0, .int 0, .ref 34, .int 0, .int 0, .ref 35, .ref 36, .ref 37]), .inl (0, 120, .inl fun _ => 0), .inl (0, 120, .inl fun _ => 0), .inl (0, 120, .inl fun _ => 0), .inl (0, 120, .inl fun _ => 0), .inl (0, 120, .inl fun _ => 0), .inl (1, 16, .inl fun _ => 0), .inl (0, 5760, .inl fun _ => 0), .inl (0, 96, .inl fun _ => 0), .inl (0, 60, .inl fun _ => 0), .inl (0, 130, .inl fun _ => 0), .inl (0, 130, .inl fun _ => 0), .inl (0, 40, .inl fun _ => 0), .inl (0, 40, .inl fun _ => 0), .inl (0, 40, .inl fun _ => 0), .inl (0, 40, .inl fun _ => 0), .inl (0, 4000, .inl fun _ => 0), .inl (0, 400, .inl fun _ => 0), .inl (0, 400, .inl fun _ => 0), .inl (2, 1, .inr (.inl fun _ => 0))], 39, 15568)) (g := True ∧ True ∧ (¬ (1 : Int32) < 0 ∧ (1 : Int32).toNatClampNeg * 8 ≤ 536870912) ∧ True ∧ True ∧ True ∧ True) (by with_unfolding_all rfl) ⟨trivial, trivial, ⟨by decide, by decide +kernel⟩, trivial, trivial, trivial, trivial⟩ ?_
  refine am_ev_drop [4, 3, 2, 1, 0] rfl rfl ?_
  rw [am_W0]
  exact hk
end
