-- ===== PART A: goes FIRST, ahead of the names: the tables' words, and 'selects' of the private methods out of them =====
/-- a private method of a class that the tables say can be made, by its rows of tables_1 -/
def lw_okq (q : MethodName × Nat) : Prop := (q.1.cls ≠ "java/lang/invoke/MethodHandle" ∧ q.1.cls ≠ "java/lang/invoke/VarHandle") ∧ Cond.instantiable q.1.cls q.2 ∈ tables_1 ∧ Cond.privateMethod q.1 ∈ tables_1 ∧ Cond.instanceMethod q.1 ∈ tables_1
theorem lw_p0 : lw_okq (⟨"LoopMemo$History", "slot", "(I)LLoopMemo$State;"⟩, 3) := ⟨⟨by decide +kernel, by decide +kernel⟩, List.mem_of_getElem? (i := 112) (by decide +kernel), List.mem_of_getElem? (i := 201) (by decide +kernel), List.mem_of_getElem? (i := 202) (by decide +kernel)⟩
theorem lw_p1 : lw_okq (⟨"LoopMemo$State", "keepTrue", "(II)V"⟩, 8) := ⟨⟨by decide +kernel, by decide +kernel⟩, List.mem_of_getElem? (i := 20) (by decide +kernel), List.mem_of_getElem? (i := 262) (by decide +kernel), List.mem_of_getElem? (i := 263) (by decide +kernel)⟩
theorem lw_p2 : lw_okq (⟨"LoopMemo$State", "findAnswers", "()V"⟩, 8) := ⟨⟨by decide +kernel, by decide +kernel⟩, List.mem_of_getElem? (i := 20) (by decide +kernel), List.mem_of_getElem? (i := 266) (by decide +kernel), List.mem_of_getElem? (i := 267) (by decide +kernel)⟩
theorem lw_p3 : lw_okq (⟨"LoopMemo$State", "keepAnswerTrue", "(I)V"⟩, 8) := ⟨⟨by decide +kernel, by decide +kernel⟩, List.mem_of_getElem? (i := 20) (by decide +kernel), List.mem_of_getElem? (i := 295) (by decide +kernel), List.mem_of_getElem? (i := 296) (by decide +kernel)⟩
theorem lw_p4 : lw_okq (⟨"LoopMemo$State", "lookUp", "(I)V"⟩, 8) := ⟨⟨by decide +kernel, by decide +kernel⟩, List.mem_of_getElem? (i := 20) (by decide +kernel), List.mem_of_getElem? (i := 354) (by decide +kernel), List.mem_of_getElem? (i := 355) (by decide +kernel)⟩
theorem lw_p5 : lw_okq (⟨"LoopMemo$State", "makeRoom", "(I)I"⟩, 8) := ⟨⟨by decide +kernel, by decide +kernel⟩, List.mem_of_getElem? (i := 20) (by decide +kernel), List.mem_of_getElem? (i := 370) (by decide +kernel), List.mem_of_getElem? (i := 371) (by decide +kernel)⟩
theorem lw_p6 : lw_okq (⟨"LoopMemo$Memo", "rank", "(II)J"⟩, 4) := ⟨⟨by decide +kernel, by decide +kernel⟩, List.mem_of_getElem? (i := 59) (by decide +kernel), List.mem_of_getElem? (i := 382) (by decide +kernel), List.mem_of_getElem? (i := 383) (by decide +kernel)⟩
theorem lw_p7 : lw_okq (⟨"LoopMemo$Pad", "takes", "(I)Z"⟩, 9) := ⟨⟨by decide +kernel, by decide +kernel⟩, List.mem_of_getElem? (i := 131) (by decide +kernel), List.mem_of_getElem? (i := 446) (by decide +kernel), List.mem_of_getElem? (i := 447) (by decide +kernel)⟩
theorem lw_p8 : lw_okq (⟨"LoopMemo$Pad", "code", "(I)I"⟩, 9) := ⟨⟨by decide +kernel, by decide +kernel⟩, List.mem_of_getElem? (i := 131) (by decide +kernel), List.mem_of_getElem? (i := 450) (by decide +kernel), List.mem_of_getElem? (i := 451) (by decide +kernel)⟩
theorem lw_p9 : lw_okq (⟨"LoopMemo$Pad", "readDeed", "()Z"⟩, 9) := ⟨⟨by decide +kernel, by decide +kernel⟩, List.mem_of_getElem? (i := 131) (by decide +kernel), List.mem_of_getElem? (i := 454) (by decide +kernel), List.mem_of_getElem? (i := 455) (by decide +kernel)⟩
theorem lw_p10 : lw_okq (⟨"LoopMemo$Pad", "readNumber", "(II)I"⟩, 9) := ⟨⟨by decide +kernel, by decide +kernel⟩, List.mem_of_getElem? (i := 131) (by decide +kernel), List.mem_of_getElem? (i := 458) (by decide +kernel), List.mem_of_getElem? (i := 459) (by decide +kernel)⟩
theorem lw_p11 : lw_okq (⟨"LoopMemo$Pad", "readRow", "()Z"⟩, 9) := ⟨⟨by decide +kernel, by decide +kernel⟩, List.mem_of_getElem? (i := 131) (by decide +kernel), List.mem_of_getElem? (i := 462) (by decide +kernel), List.mem_of_getElem? (i := 463) (by decide +kernel)⟩
theorem lw_p12 : lw_okq (⟨"LoopMemo", "obey", "()I"⟩, 9) := ⟨⟨by decide +kernel, by decide +kernel⟩, List.mem_of_getElem? (i := 12) (by decide +kernel), List.mem_of_getElem? (i := 490) (by decide +kernel), List.mem_of_getElem? (i := 491) (by decide +kernel)⟩
theorem lw_p13 : lw_okq (⟨"LoopMemo$State", "isInBand", "(I)Z"⟩, 8) := ⟨⟨by decide +kernel, by decide +kernel⟩, List.mem_of_getElem? (i := 20) (by decide +kernel), List.mem_of_getElem? (i := 517) (by decide +kernel), List.mem_of_getElem? (i := 518) (by decide +kernel)⟩
theorem lw_p14 : lw_okq (⟨"LoopMemo", "tryBound", "(I)V"⟩, 9) := ⟨⟨by decide +kernel, by decide +kernel⟩, List.mem_of_getElem? (i := 12) (by decide +kernel), List.mem_of_getElem? (i := 602) (by decide +kernel), List.mem_of_getElem? (i := 603) (by decide +kernel)⟩
theorem lw_p15 : lw_okq (⟨"LoopMemo", "brought", "(I)I"⟩, 9) := ⟨⟨by decide +kernel, by decide +kernel⟩, List.mem_of_getElem? (i := 12) (by decide +kernel), List.mem_of_getElem? (i := 607) (by decide +kernel), List.mem_of_getElem? (i := 608) (by decide +kernel)⟩
def lw_privs_1 : List (MethodName × Nat) := [(⟨"LoopMemo$History", "slot", "(I)LLoopMemo$State;"⟩, 3), (⟨"LoopMemo$State", "keepTrue", "(II)V"⟩, 8), (⟨"LoopMemo$State", "findAnswers", "()V"⟩, 8), (⟨"LoopMemo$State", "keepAnswerTrue", "(I)V"⟩, 8), (⟨"LoopMemo$State", "lookUp", "(I)V"⟩, 8), (⟨"LoopMemo$State", "makeRoom", "(I)I"⟩, 8), (⟨"LoopMemo$Memo", "rank", "(II)J"⟩, 4), (⟨"LoopMemo$Pad", "takes", "(I)Z"⟩, 9), (⟨"LoopMemo$Pad", "code", "(I)I"⟩, 9), (⟨"LoopMemo$Pad", "readDeed", "()Z"⟩, 9), (⟨"LoopMemo$Pad", "readNumber", "(II)I"⟩, 9), (⟨"LoopMemo$Pad", "readRow", "()Z"⟩, 9), (⟨"LoopMemo", "obey", "()I"⟩, 9), (⟨"LoopMemo$State", "isInBand", "(I)Z"⟩, 8), (⟨"LoopMemo", "tryBound", "(I)V"⟩, 9), (⟨"LoopMemo", "brought", "(I)I"⟩, 9)]
theorem lw_r1 : ∀ q ∈ lw_privs_1, lw_okq q := List.forall_mem_cons.mpr ⟨lw_p0, List.forall_mem_cons.mpr ⟨lw_p1, List.forall_mem_cons.mpr ⟨lw_p2, List.forall_mem_cons.mpr ⟨lw_p3, List.forall_mem_cons.mpr ⟨lw_p4, List.forall_mem_cons.mpr ⟨lw_p5, List.forall_mem_cons.mpr ⟨lw_p6, List.forall_mem_cons.mpr ⟨lw_p7, List.forall_mem_cons.mpr ⟨lw_p8, List.forall_mem_cons.mpr ⟨lw_p9, List.forall_mem_cons.mpr ⟨lw_p10, List.forall_mem_cons.mpr ⟨lw_p11, List.forall_mem_cons.mpr ⟨lw_p12, List.forall_mem_cons.mpr ⟨lw_p13, List.forall_mem_cons.mpr ⟨lw_p14, List.forall_mem_cons.mpr ⟨lw_p15, fun _ h => absurd h List.not_mem_nil⟩⟩⟩⟩⟩⟩⟩⟩⟩⟩⟩⟩⟩⟩⟩⟩
theorem lw_p16 : lw_okq (⟨"LoopMemo$Table", "swap", "(II)V"⟩, 3) := ⟨⟨by decide +kernel, by decide +kernel⟩, List.mem_of_getElem? (i := 26) (by decide +kernel), List.mem_of_getElem? (i := 619) (by decide +kernel), List.mem_of_getElem? (i := 620) (by decide +kernel)⟩
theorem lw_p17 : lw_okq (⟨"LoopMemoModel", "changes", "()V"⟩, 14) := ⟨⟨by decide +kernel, by decide +kernel⟩, List.mem_of_getElem? (i := 647) (by decide +kernel), List.mem_of_getElem? (i := 706) (by decide +kernel), List.mem_of_getElem? (i := 707) (by decide +kernel)⟩
theorem lw_p18 : lw_okq (⟨"LoopMemoModel", "adds", "(ZII)I"⟩, 14) := ⟨⟨by decide +kernel, by decide +kernel⟩, List.mem_of_getElem? (i := 647) (by decide +kernel), List.mem_of_getElem? (i := 710) (by decide +kernel), List.mem_of_getElem? (i := 711) (by decide +kernel)⟩
theorem lw_p19 : lw_okq (⟨"LoopMemoModel", "keeps", "(II)V"⟩, 14) := ⟨⟨by decide +kernel, by decide +kernel⟩, List.mem_of_getElem? (i := 647) (by decide +kernel), List.mem_of_getElem? (i := 714) (by decide +kernel), List.mem_of_getElem? (i := 715) (by decide +kernel)⟩
theorem lw_p20 : lw_okq (⟨"LoopMemoModel", "throwsAll", "()I"⟩, 14) := ⟨⟨by decide +kernel, by decide +kernel⟩, List.mem_of_getElem? (i := 647) (by decide +kernel), List.mem_of_getElem? (i := 718) (by decide +kernel), List.mem_of_getElem? (i := 719) (by decide +kernel)⟩
theorem lw_p21 : lw_okq (⟨"LoopMemoModel", "throwsOut", "(I)I"⟩, 14) := ⟨⟨by decide +kernel, by decide +kernel⟩, List.mem_of_getElem? (i := 647) (by decide +kernel), List.mem_of_getElem? (i := 722) (by decide +kernel), List.mem_of_getElem? (i := 723) (by decide +kernel)⟩
theorem lw_p22 : lw_okq (⟨"LoopMemoModel", "isKnown", "(I)Z"⟩, 14) := ⟨⟨by decide +kernel, by decide +kernel⟩, List.mem_of_getElem? (i := 647) (by decide +kernel), List.mem_of_getElem? (i := 726) (by decide +kernel), List.mem_of_getElem? (i := 727) (by decide +kernel)⟩
theorem lw_p23 : lw_okq (⟨"LoopMemoModel", "isInner", "(I)Z"⟩, 14) := ⟨⟨by decide +kernel, by decide +kernel⟩, List.mem_of_getElem? (i := 647) (by decide +kernel), List.mem_of_getElem? (i := 734) (by decide +kernel), List.mem_of_getElem? (i := 735) (by decide +kernel)⟩
theorem lw_p24 : lw_okq (⟨"LoopMemoModel", "isOuter", "(I)Z"⟩, 14) := ⟨⟨by decide +kernel, by decide +kernel⟩, List.mem_of_getElem? (i := 647) (by decide +kernel), List.mem_of_getElem? (i := 738) (by decide +kernel), List.mem_of_getElem? (i := 739) (by decide +kernel)⟩
theorem lw_p25 : lw_okq (⟨"LoopMemoModel", "innerKey", "(I)I"⟩, 14) := ⟨⟨by decide +kernel, by decide +kernel⟩, List.mem_of_getElem? (i := 647) (by decide +kernel), List.mem_of_getElem? (i := 746) (by decide +kernel), List.mem_of_getElem? (i := 747) (by decide +kernel)⟩
theorem lw_p26 : lw_okq (⟨"LoopMemoModel", "known", "()I"⟩, 14) := ⟨⟨by decide +kernel, by decide +kernel⟩, List.mem_of_getElem? (i := 647) (by decide +kernel), List.mem_of_getElem? (i := 750) (by decide +kernel), List.mem_of_getElem? (i := 751) (by decide +kernel)⟩
theorem lw_p27 : lw_okq (⟨"LoopMemoModel", "steps", "(I)I"⟩, 14) := ⟨⟨by decide +kernel, by decide +kernel⟩, List.mem_of_getElem? (i := 647) (by decide +kernel), List.mem_of_getElem? (i := 758) (by decide +kernel), List.mem_of_getElem? (i := 759) (by decide +kernel)⟩
theorem lw_p28 : lw_okq (⟨"LoopMemoModel", "looks", "(I)I"⟩, 14) := ⟨⟨by decide +kernel, by decide +kernel⟩, List.mem_of_getElem? (i := 647) (by decide +kernel), List.mem_of_getElem? (i := 762) (by decide +kernel), List.mem_of_getElem? (i := 763) (by decide +kernel)⟩
theorem lw_p29 : lw_okq (⟨"LoopMemoModel", "weight", "(I)I"⟩, 14) := ⟨⟨by decide +kernel, by decide +kernel⟩, List.mem_of_getElem? (i := 647) (by decide +kernel), List.mem_of_getElem? (i := 766) (by decide +kernel), List.mem_of_getElem? (i := 767) (by decide +kernel)⟩
theorem lw_p30 : lw_okq (⟨"LoopMemoModel", "found", "(I)I"⟩, 14) := ⟨⟨by decide +kernel, by decide +kernel⟩, List.mem_of_getElem? (i := 647) (by decide +kernel), List.mem_of_getElem? (i := 770) (by decide +kernel), List.mem_of_getElem? (i := 771) (by decide +kernel)⟩
theorem lw_p31 : lw_okq (⟨"LoopMemoModel", "isFound", "(II)Z"⟩, 14) := ⟨⟨by decide +kernel, by decide +kernel⟩, List.mem_of_getElem? (i := 647) (by decide +kernel), List.mem_of_getElem? (i := 774) (by decide +kernel), List.mem_of_getElem? (i := 775) (by decide +kernel)⟩
def lw_privs_2 : List (MethodName × Nat) := [(⟨"LoopMemo$Table", "swap", "(II)V"⟩, 3), (⟨"LoopMemoModel", "changes", "()V"⟩, 14), (⟨"LoopMemoModel", "adds", "(ZII)I"⟩, 14), (⟨"LoopMemoModel", "keeps", "(II)V"⟩, 14), (⟨"LoopMemoModel", "throwsAll", "()I"⟩, 14), (⟨"LoopMemoModel", "throwsOut", "(I)I"⟩, 14), (⟨"LoopMemoModel", "isKnown", "(I)Z"⟩, 14), (⟨"LoopMemoModel", "isInner", "(I)Z"⟩, 14), (⟨"LoopMemoModel", "isOuter", "(I)Z"⟩, 14), (⟨"LoopMemoModel", "innerKey", "(I)I"⟩, 14), (⟨"LoopMemoModel", "known", "()I"⟩, 14), (⟨"LoopMemoModel", "steps", "(I)I"⟩, 14), (⟨"LoopMemoModel", "looks", "(I)I"⟩, 14), (⟨"LoopMemoModel", "weight", "(I)I"⟩, 14), (⟨"LoopMemoModel", "found", "(I)I"⟩, 14), (⟨"LoopMemoModel", "isFound", "(II)Z"⟩, 14)]
theorem lw_r2 : ∀ q ∈ lw_privs_2, lw_okq q := List.forall_mem_cons.mpr ⟨lw_p16, List.forall_mem_cons.mpr ⟨lw_p17, List.forall_mem_cons.mpr ⟨lw_p18, List.forall_mem_cons.mpr ⟨lw_p19, List.forall_mem_cons.mpr ⟨lw_p20, List.forall_mem_cons.mpr ⟨lw_p21, List.forall_mem_cons.mpr ⟨lw_p22, List.forall_mem_cons.mpr ⟨lw_p23, List.forall_mem_cons.mpr ⟨lw_p24, List.forall_mem_cons.mpr ⟨lw_p25, List.forall_mem_cons.mpr ⟨lw_p26, List.forall_mem_cons.mpr ⟨lw_p27, List.forall_mem_cons.mpr ⟨lw_p28, List.forall_mem_cons.mpr ⟨lw_p29, List.forall_mem_cons.mpr ⟨lw_p30, List.forall_mem_cons.mpr ⟨lw_p31, fun _ h => absurd h List.not_mem_nil⟩⟩⟩⟩⟩⟩⟩⟩⟩⟩⟩⟩⟩⟩⟩⟩
theorem lw_p32 : lw_okq (⟨"LoopMemoModel", "innerValue", "(I)I"⟩, 14) := ⟨⟨by decide +kernel, by decide +kernel⟩, List.mem_of_getElem? (i := 647) (by decide +kernel), List.mem_of_getElem? (i := 778) (by decide +kernel), List.mem_of_getElem? (i := 779) (by decide +kernel)⟩
theorem lw_p33 : lw_okq (⟨"LoopMemoModel", "makesRoom", "(I)I"⟩, 14) := ⟨⟨by decide +kernel, by decide +kernel⟩, List.mem_of_getElem? (i := 647) (by decide +kernel), List.mem_of_getElem? (i := 782) (by decide +kernel), List.mem_of_getElem? (i := 783) (by decide +kernel)⟩
theorem lw_p34 : lw_okq (⟨"LoopMemoModel", "first", "(I)I"⟩, 14) := ⟨⟨by decide +kernel, by decide +kernel⟩, List.mem_of_getElem? (i := 647) (by decide +kernel), List.mem_of_getElem? (i := 786) (by decide +kernel), List.mem_of_getElem? (i := 787) (by decide +kernel)⟩
theorem lw_p35 : lw_okq (⟨"LoopMemoModel", "isAhead", "(II)Z"⟩, 14) := ⟨⟨by decide +kernel, by decide +kernel⟩, List.mem_of_getElem? (i := 647) (by decide +kernel), List.mem_of_getElem? (i := 790) (by decide +kernel), List.mem_of_getElem? (i := 791) (by decide +kernel)⟩
theorem lw_p36 : lw_okq (⟨"LoopMemoModel", "weights", "()I"⟩, 14) := ⟨⟨by decide +kernel, by decide +kernel⟩, List.mem_of_getElem? (i := 647) (by decide +kernel), List.mem_of_getElem? (i := 794) (by decide +kernel), List.mem_of_getElem? (i := 795) (by decide +kernel)⟩
theorem lw_p37 : lw_okq (⟨"LoopMemoModel", "sum", "(I)I"⟩, 14) := ⟨⟨by decide +kernel, by decide +kernel⟩, List.mem_of_getElem? (i := 647) (by decide +kernel), List.mem_of_getElem? (i := 798) (by decide +kernel), List.mem_of_getElem? (i := 799) (by decide +kernel)⟩
theorem lw_p38 : lw_okq (⟨"LoopMemoModel", "sets", "(II)I"⟩, 14) := ⟨⟨by decide +kernel, by decide +kernel⟩, List.mem_of_getElem? (i := 647) (by decide +kernel), List.mem_of_getElem? (i := 814) (by decide +kernel), List.mem_of_getElem? (i := 815) (by decide +kernel)⟩
theorem lw_p39 : lw_okq (⟨"LoopMemoModel", "readsRow", "()Z"⟩, 14) := ⟨⟨by decide +kernel, by decide +kernel⟩, List.mem_of_getElem? (i := 647) (by decide +kernel), List.mem_of_getElem? (i := 830) (by decide +kernel), List.mem_of_getElem? (i := 831) (by decide +kernel)⟩
theorem lw_p40 : lw_okq (⟨"LoopMemoModel", "number", "(III)Z"⟩, 14) := ⟨⟨by decide +kernel, by decide +kernel⟩, List.mem_of_getElem? (i := 647) (by decide +kernel), List.mem_of_getElem? (i := 834) (by decide +kernel), List.mem_of_getElem? (i := 835) (by decide +kernel)⟩
theorem lw_p41 : lw_okq (⟨"LoopMemoModel", "isAt", "(II)Z"⟩, 14) := ⟨⟨by decide +kernel, by decide +kernel⟩, List.mem_of_getElem? (i := 647) (by decide +kernel), List.mem_of_getElem? (i := 838) (by decide +kernel), List.mem_of_getElem? (i := 839) (by decide +kernel)⟩
theorem lw_p42 : lw_okq (⟨"LoopMemoModel", "sign", "(I)Z"⟩, 14) := ⟨⟨by decide +kernel, by decide +kernel⟩, List.mem_of_getElem? (i := 647) (by decide +kernel), List.mem_of_getElem? (i := 842) (by decide +kernel), List.mem_of_getElem? (i := 843) (by decide +kernel)⟩
theorem lw_p43 : lw_okq (⟨"LoopMemoModel", "deed", "()Z"⟩, 14) := ⟨⟨by decide +kernel, by decide +kernel⟩, List.mem_of_getElem? (i := 647) (by decide +kernel), List.mem_of_getElem? (i := 846) (by decide +kernel), List.mem_of_getElem? (i := 847) (by decide +kernel)⟩
theorem lw_p44 : lw_okq (⟨"LoopMemoModel", "does", "(I)I"⟩, 14) := ⟨⟨by decide +kernel, by decide +kernel⟩, List.mem_of_getElem? (i := 647) (by decide +kernel), List.mem_of_getElem? (i := 859) (by decide +kernel), List.mem_of_getElem? (i := 860) (by decide +kernel)⟩
theorem lw_p45 : lw_okq (⟨"LoopMemoModel", "tell", "(II)I"⟩, 14) := ⟨⟨by decide +kernel, by decide +kernel⟩, List.mem_of_getElem? (i := 647) (by decide +kernel), List.mem_of_getElem? (i := 879) (by decide +kernel), List.mem_of_getElem? (i := 880) (by decide +kernel)⟩
theorem lw_p46 : lw_okq (⟨"LoopMemoModel", "firstRow", "(I)I"⟩, 14) := ⟨⟨by decide +kernel, by decide +kernel⟩, List.mem_of_getElem? (i := 647) (by decide +kernel), List.mem_of_getElem? (i := 883) (by decide +kernel), List.mem_of_getElem? (i := 884) (by decide +kernel)⟩
theorem lw_p47 : lw_okq (⟨"LoopMemoModel", "orderOf", "(I)I"⟩, 14) := ⟨⟨by decide +kernel, by decide +kernel⟩, List.mem_of_getElem? (i := 647) (by decide +kernel), List.mem_of_getElem? (i := 891) (by decide +kernel), List.mem_of_getElem? (i := 892) (by decide +kernel)⟩
def lw_privs_3 : List (MethodName × Nat) := [(⟨"LoopMemoModel", "innerValue", "(I)I"⟩, 14), (⟨"LoopMemoModel", "makesRoom", "(I)I"⟩, 14), (⟨"LoopMemoModel", "first", "(I)I"⟩, 14), (⟨"LoopMemoModel", "isAhead", "(II)Z"⟩, 14), (⟨"LoopMemoModel", "weights", "()I"⟩, 14), (⟨"LoopMemoModel", "sum", "(I)I"⟩, 14), (⟨"LoopMemoModel", "sets", "(II)I"⟩, 14), (⟨"LoopMemoModel", "readsRow", "()Z"⟩, 14), (⟨"LoopMemoModel", "number", "(III)Z"⟩, 14), (⟨"LoopMemoModel", "isAt", "(II)Z"⟩, 14), (⟨"LoopMemoModel", "sign", "(I)Z"⟩, 14), (⟨"LoopMemoModel", "deed", "()Z"⟩, 14), (⟨"LoopMemoModel", "does", "(I)I"⟩, 14), (⟨"LoopMemoModel", "tell", "(II)I"⟩, 14), (⟨"LoopMemoModel", "firstRow", "(I)I"⟩, 14), (⟨"LoopMemoModel", "orderOf", "(I)I"⟩, 14)]
theorem lw_r3 : ∀ q ∈ lw_privs_3, lw_okq q := List.forall_mem_cons.mpr ⟨lw_p32, List.forall_mem_cons.mpr ⟨lw_p33, List.forall_mem_cons.mpr ⟨lw_p34, List.forall_mem_cons.mpr ⟨lw_p35, List.forall_mem_cons.mpr ⟨lw_p36, List.forall_mem_cons.mpr ⟨lw_p37, List.forall_mem_cons.mpr ⟨lw_p38, List.forall_mem_cons.mpr ⟨lw_p39, List.forall_mem_cons.mpr ⟨lw_p40, List.forall_mem_cons.mpr ⟨lw_p41, List.forall_mem_cons.mpr ⟨lw_p42, List.forall_mem_cons.mpr ⟨lw_p43, List.forall_mem_cons.mpr ⟨lw_p44, List.forall_mem_cons.mpr ⟨lw_p45, List.forall_mem_cons.mpr ⟨lw_p46, List.forall_mem_cons.mpr ⟨lw_p47, fun _ h => absurd h List.not_mem_nil⟩⟩⟩⟩⟩⟩⟩⟩⟩⟩⟩⟩⟩⟩⟩⟩
theorem lw_p48 : lw_okq (⟨"LoopMemoModel", "putsAside", "()V"⟩, 14) := ⟨⟨by decide +kernel, by decide +kernel⟩, List.mem_of_getElem? (i := 647) (by decide +kernel), List.mem_of_getElem? (i := 911) (by decide +kernel), List.mem_of_getElem? (i := 912) (by decide +kernel)⟩
theorem lw_p49 : lw_okq (⟨"LoopMemoModel", "putsBack", "()V"⟩, 14) := ⟨⟨by decide +kernel, by decide +kernel⟩, List.mem_of_getElem? (i := 647) (by decide +kernel), List.mem_of_getElem? (i := 915) (by decide +kernel), List.mem_of_getElem? (i := 916) (by decide +kernel)⟩
theorem lw_p50 : lw_okq (⟨"LoopMemoModel", "sorts", "()V"⟩, 14) := ⟨⟨by decide +kernel, by decide +kernel⟩, List.mem_of_getElem? (i := 647) (by decide +kernel), List.mem_of_getElem? (i := 923) (by decide +kernel), List.mem_of_getElem? (i := 924) (by decide +kernel)⟩
theorem lw_p51 : lw_okq (⟨"LoopMemoModel", "swaps", "(II)V"⟩, 14) := ⟨⟨by decide +kernel, by decide +kernel⟩, List.mem_of_getElem? (i := 647) (by decide +kernel), List.mem_of_getElem? (i := 927) (by decide +kernel), List.mem_of_getElem? (i := 928) (by decide +kernel)⟩
theorem lw_p52 : lw_okq (⟨"LoopMemoModel", "turns", "()V"⟩, 14) := ⟨⟨by decide +kernel, by decide +kernel⟩, List.mem_of_getElem? (i := 647) (by decide +kernel), List.mem_of_getElem? (i := 931) (by decide +kernel), List.mem_of_getElem? (i := 932) (by decide +kernel)⟩
def lw_privs_4 : List (MethodName × Nat) := [(⟨"LoopMemoModel", "putsAside", "()V"⟩, 14), (⟨"LoopMemoModel", "putsBack", "()V"⟩, 14), (⟨"LoopMemoModel", "sorts", "()V"⟩, 14), (⟨"LoopMemoModel", "swaps", "(II)V"⟩, 14), (⟨"LoopMemoModel", "turns", "()V"⟩, 14)]
theorem lw_r4 : ∀ q ∈ lw_privs_4, lw_okq q := List.forall_mem_cons.mpr ⟨lw_p48, List.forall_mem_cons.mpr ⟨lw_p49, List.forall_mem_cons.mpr ⟨lw_p50, List.forall_mem_cons.mpr ⟨lw_p51, List.forall_mem_cons.mpr ⟨lw_p52, fun _ h => absurd h List.not_mem_nil⟩⟩⟩⟩⟩
def lw_privs : List (MethodName × Nat) := lw_privs_1 ++ (lw_privs_2 ++ (lw_privs_3 ++ (lw_privs_4)))
def lw_tbl : List Cond := k2_sels lw_privs ++ tables_1
theorem lw_privs_ok : ∀ q ∈ lw_privs, lw_okq q := by
  show ∀ q ∈ lw_privs_1 ++ (lw_privs_2 ++ (lw_privs_3 ++ (lw_privs_4))), lw_okq q
  exact List.forall_mem_append.mpr ⟨lw_r1, List.forall_mem_append.mpr ⟨lw_r2, List.forall_mem_append.mpr ⟨lw_r3, lw_r4⟩⟩⟩
/-- the streams that the claim lets the run draw from -/
abbrev lw_cs : List Choice := [Jvm.Choice.named "NaN.bits"]
theorem lw_bits : nanBits ∈ lw_cs := by first | decide | exact List.mem_cons_self | simp [lw_cs, nanBits]
/-! ===== BEGIN words of one list among another's, by their places ===== -/
theorem goodIn_r {big : List Cond} (ws : List Cond) (ps : List Nat) (hp : ws = ps.filterMap (fun i => big[i]?)) (h : ws.all goodWord = true) : GoodIn big ws := by
  intro w hw
  have h1 := List.all_eq_true.mp h w hw
  rw [hp] at hw
  obtain ⟨i, -, hi⟩ := List.mem_filterMap.mp hw
  have hm : w ∈ big := by first | exact List.mem_of_getElem? hi | exact List.getElem?_mem hi
  exact ⟨hm, good_of_word h1⟩
theorem goodIn_app {big a b : List Cond} (ha : GoodIn big a) (hb : GoodIn big b) : GoodIn big (a ++ b) := fun w h => (List.mem_append.mp h).elim (ha w) (hb w)
theorem goodIn_ca {big a b : List Cond} {c : Cond} (ha : GoodIn big (c :: a)) (hb : GoodIn big b) : GoodIn big (c :: (a ++ b)) := fun w h => (List.mem_cons.mp h).elim (fun e => ha w (List.mem_cons.mpr (Or.inl e))) (fun h => (List.mem_append.mp h).elim (fun h => ha w (List.mem_cons.mpr (Or.inr h))) (hb w))
theorem goodIn_sub {big ws : List Cond} (hm : ∀ w ∈ ws, w ∈ big) (h : ws.all goodWord = true) : GoodIn big ws := fun w hw => ⟨hm w hw, good_of_word (List.all_eq_true.mp h w hw)⟩
/-! ===== END ===== -/

/-! ===== BEGIN printed: names, fields, word lists, decode rows ===== -/
def RX0 : String := "LoopMemo$Answers"
def TX0 : u_T := fun k => match k with
  | 0 => ("LoopMemo$Answers", "rows", "[I", true)
  | 1 => ("LoopMemo$Answers", "sums", "[I", true)
  | _ => ("LoopMemo$Answers", "firstRows", "[I", true)
def tyX0 : Nat → FieldType := fun k => match k with
  | 0 => .array .int
  | 1 => .array .int
  | _ => .array .int
abbrev wsX00 : List Cond := u_ws RX0 TX0 3
theorem nmX0 : ∀ a, a < 3 → ∀ b, b < 3 → a ≠ b → (TX0 a).2.1 ≠ (TX0 b).2.1 := by decide +kernel
theorem tyX0_ok : ∀ k, k < 3 → parseFieldDescriptor (TX0 k).2.2.1 = some (tyX0 k) := by decide +kernel
abbrev cX0_init : ByteArray := prog_2_method_1_code
def yX0_init : MethodName := ⟨RX0, "<init>", "()V"⟩
abbrev cX0_copyFrom : ByteArray := prog_2_method_2_code
def yX0_copyFrom : MethodName := ⟨RX0, "copyFrom", "(LLoopMemo$Answers;)V"⟩
abbrev cX0_find : ByteArray := prog_2_method_3_code
def yX0_find : MethodName := ⟨RX0, "find", "(LLoopMemo$Table;II)V"⟩
abbrev cX0_weight : ByteArray := prog_2_method_4_code
def yX0_weight : MethodName := ⟨RX0, "weight", "(I)I"⟩
abbrev cX0_sum : ByteArray := prog_2_method_5_code
def yX0_sum : MethodName := ⟨RX0, "sum", "(I)I"⟩
abbrev cX0_tell : ByteArray := prog_2_method_6_code
def yX0_tell : MethodName := ⟨RX0, "tell", "(II)I"⟩
def RX1 : String := "LoopMemo$History"
def TX1 : u_T := fun k => match k with
  | 0 => ("LoopMemo$History", "slots", "[LLoopMemo$State;", true)
  | 1 => ("LoopMemo$History", "next", "I", false)
  | _ => ("LoopMemo$History", "size", "I", false)
def tyX1 : Nat → FieldType := fun k => match k with
  | 0 => .array (.object "LoopMemo$State")
  | 1 => .int
  | _ => .int
abbrev wsX10 : List Cond := u_ws RX1 TX1 3
theorem nmX1 : ∀ a, a < 3 → ∀ b, b < 3 → a ≠ b → (TX1 a).2.1 ≠ (TX1 b).2.1 := by decide +kernel
theorem tyX1_ok : ∀ k, k < 3 → parseFieldDescriptor (TX1 k).2.2.1 = some (tyX1 k) := by decide +kernel
abbrev cX1_init : ByteArray := prog_3_method_1_code
def yX1_init : MethodName := ⟨RX1, "<init>", "()V"⟩
abbrev cX1_size : ByteArray := prog_3_method_2_code
def yX1_size : MethodName := ⟨RX1, "size", "()I"⟩
abbrev cX1_prepare : ByteArray := prog_3_method_3_code
def yX1_prepare : MethodName := ⟨RX1, "prepare", "(LLoopMemo$State;)V"⟩
abbrev cX1_commit : ByteArray := prog_3_method_4_code
def yX1_commit : MethodName := ⟨RX1, "commit", "(I)I"⟩
abbrev cX1_pop : ByteArray := prog_3_method_5_code
def yX1_pop : MethodName := ⟨RX1, "pop", "()LLoopMemo$State;"⟩
abbrev cX1_slot : ByteArray := prog_3_method_6_code
def yX1_slot : MethodName := ⟨RX1, "slot", "(I)LLoopMemo$State;"⟩
def RX2 : String := "LoopMemo$Memo"
def TX2 : u_T := fun k => match k with
  | 0 => ("LoopMemo$Memo", "uses", "[I", true)
  | 1 => ("LoopMemo$Memo", "lastLooks", "[I", true)
  | 2 => ("LoopMemo$Memo", "firstLooks", "[I", true)
  | _ => ("LoopMemo$Memo", "looks", "I", false)
def tyX2 : Nat → FieldType := fun k => match k with
  | 0 => .array .int
  | 1 => .array .int
  | 2 => .array .int
  | _ => .int
abbrev wsX20 : List Cond := u_ws RX2 TX2 4
theorem nmX2 : ∀ a, a < 4 → ∀ b, b < 4 → a ≠ b → (TX2 a).2.1 ≠ (TX2 b).2.1 := by decide +kernel
theorem tyX2_ok : ∀ k, k < 4 → parseFieldDescriptor (TX2 k).2.2.1 = some (tyX2 k) := by decide +kernel
abbrev cX2_init : ByteArray := prog_4_method_1_code
def yX2_init : MethodName := ⟨RX2, "<init>", "()V"⟩
abbrev cX2_copyFrom : ByteArray := prog_4_method_2_code
def yX2_copyFrom : MethodName := ⟨RX2, "copyFrom", "(LLoopMemo$Memo;)V"⟩
abbrev cX2_holds : ByteArray := prog_4_method_3_code
def yX2_holds : MethodName := ⟨RX2, "holds", "(I)Z"⟩
abbrev cX2_uses : ByteArray := prog_4_method_4_code
def yX2_uses : MethodName := ⟨RX2, "uses", "(I)I"⟩
abbrev cX2_size : ByteArray := prog_4_method_5_code
def yX2_size : MethodName := ⟨RX2, "size", "()I"⟩
abbrev cX2_take : ByteArray := prog_4_method_6_code
def yX2_take : MethodName := ⟨RX2, "take", "(I)V"⟩
abbrev cX2_touch : ByteArray := prog_4_method_7_code
def yX2_touch : MethodName := ⟨RX2, "touch", "(I)V"⟩
abbrev cX2_lose : ByteArray := prog_4_method_8_code
def yX2_lose : MethodName := ⟨RX2, "lose", "(I)V"⟩
abbrev cX2_loseAll : ByteArray := prog_4_method_9_code
def yX2_loseAll : MethodName := ⟨RX2, "loseAll", "()I"⟩
abbrev cX2_firstOut : ByteArray := prog_4_method_10_code
def yX2_firstOut : MethodName := ⟨RX2, "firstOut", "(II)I"⟩
abbrev cX2_placeOf : ByteArray := prog_4_method_11_code
def yX2_placeOf : MethodName := ⟨RX2, "placeOf", "(II)I"⟩
abbrev cX2_rank : ByteArray := prog_4_method_12_code
def yX2_rank : MethodName := ⟨RX2, "rank", "(II)J"⟩
def RX3 : String := "LoopMemo$Pad"
def TX3 : u_T := fun k => match k with
  | 0 => ("LoopMemo$Pad", "codes", "[I", true)
  | 1 => ("LoopMemo$Pad", "size", "I", false)
  | 2 => ("LoopMemo$Pad", "isReadAsDeeds", "Z", false)
  | 3 => ("LoopMemo$Pad", "at", "I", false)
  | 4 => ("LoopMemo$Pad", "items", "I", false)
  | 5 => ("LoopMemo$Pad", "start", "I", false)
  | 6 => ("LoopMemo$Pad", "sign", "I", false)
  | 7 => ("LoopMemo$Pad", "first", "I", false)
  | _ => ("LoopMemo$Pad", "second", "I", false)
def tyX3 : Nat → FieldType := fun k => match k with
  | 0 => .array .int
  | 1 => .int
  | 2 => .boolean
  | 3 => .int
  | 4 => .int
  | 5 => .int
  | 6 => .int
  | 7 => .int
  | _ => .int
abbrev wsX30 : List Cond := u_ws RX3 TX3 9
theorem nmX3 : ∀ a, a < 9 → ∀ b, b < 9 → a ≠ b → (TX3 a).2.1 ≠ (TX3 b).2.1 := by decide +kernel
theorem tyX3_ok : ∀ k, k < 9 → parseFieldDescriptor (TX3 k).2.2.1 = some (tyX3 k) := by decide +kernel
abbrev cX3_init : ByteArray := prog_5_method_1_code
def yX3_init : MethodName := ⟨RX3, "<init>", "()V"⟩
abbrev cX3_size : ByteArray := prog_5_method_2_code
def yX3_size : MethodName := ⟨RX3, "size", "()I"⟩
abbrev cX3_push : ByteArray := prog_5_method_3_code
def yX3_push : MethodName := ⟨RX3, "push", "(I)I"⟩
abbrev cX3_empty : ByteArray := prog_5_method_4_code
def yX3_empty : MethodName := ⟨RX3, "empty", "()I"⟩
abbrev cX3_findFault : ByteArray := prog_5_method_5_code
def yX3_findFault : MethodName := ⟨RX3, "findFault", "(Z)I"⟩
abbrev cX3_items : ByteArray := prog_5_method_6_code
def yX3_items : MethodName := ⟨RX3, "items", "()I"⟩
abbrev cX3_open : ByteArray := prog_5_method_7_code
def yX3_open : MethodName := ⟨RX3, "open", "(Z)V"⟩
abbrev cX3_next : ByteArray := prog_5_method_8_code
def yX3_next : MethodName := ⟨RX3, "next", "()Z"⟩
abbrev cX3_start : ByteArray := prog_5_method_9_code
def yX3_start : MethodName := ⟨RX3, "start", "()I"⟩
abbrev cX3_sign : ByteArray := prog_5_method_10_code
def yX3_sign : MethodName := ⟨RX3, "sign", "()I"⟩
abbrev cX3_first : ByteArray := prog_5_method_11_code
def yX3_first : MethodName := ⟨RX3, "first", "()I"⟩
abbrev cX3_second : ByteArray := prog_5_method_12_code
def yX3_second : MethodName := ⟨RX3, "second", "()I"⟩
abbrev cX3_readDeed : ByteArray := prog_5_method_13_code
def yX3_readDeed : MethodName := ⟨RX3, "readDeed", "()Z"⟩
abbrev cX3_readRow : ByteArray := prog_5_method_14_code
def yX3_readRow : MethodName := ⟨RX3, "readRow", "()Z"⟩
abbrev cX3_readNumber : ByteArray := prog_5_method_15_code
def yX3_readNumber : MethodName := ⟨RX3, "readNumber", "(II)I"⟩
abbrev cX3_takes : ByteArray := prog_5_method_16_code
def yX3_takes : MethodName := ⟨RX3, "takes", "(I)Z"⟩
abbrev cX3_code : ByteArray := prog_5_method_17_code
def yX3_code : MethodName := ⟨RX3, "code", "(I)I"⟩
def RX4 : String := "LoopMemo$State"
def TX4 : u_T := fun k => match k with
  | 0 => ("LoopMemo$State", "outer", "LLoopMemo$Table;", true)
  | 1 => ("LoopMemo$State", "inner", "LLoopMemo$Table;", true)
  | 2 => ("LoopMemo$State", "answers", "LLoopMemo$Answers;", true)
  | 3 => ("LoopMemo$State", "memo", "LLoopMemo$Memo;", true)
  | 4 => ("LoopMemo$State", "settings", "[I", true)
  | 5 => ("LoopMemo$State", "tallies", "[I", true)
  | 6 => ("LoopMemo$State", "place", "I", false)
  | _ => ("LoopMemo$State", "total", "I", false)
def tyX4 : Nat → FieldType := fun k => match k with
  | 0 => .object "LoopMemo$Table"
  | 1 => .object "LoopMemo$Table"
  | 2 => .object "LoopMemo$Answers"
  | 3 => .object "LoopMemo$Memo"
  | 4 => .array .int
  | 5 => .array .int
  | 6 => .int
  | _ => .int
abbrev wsX40 : List Cond := u_ws RX4 TX4 8
theorem nmX4 : ∀ a, a < 8 → ∀ b, b < 8 → a ≠ b → (TX4 a).2.1 ≠ (TX4 b).2.1 := by decide +kernel
theorem tyX4_ok : ∀ k, k < 8 → parseFieldDescriptor (TX4 k).2.2.1 = some (tyX4 k) := by decide +kernel
abbrev cX4_init : ByteArray := prog_6_method_1_code
def yX4_init : MethodName := ⟨RX4, "<init>", "()V"⟩
abbrev cX4_copyFrom : ByteArray := prog_6_method_2_code
def yX4_copyFrom : MethodName := ⟨RX4, "copyFrom", "(LLoopMemo$State;)V"⟩
abbrev cX4_table : ByteArray := prog_6_method_3_code
def yX4_table : MethodName := ⟨RX4, "table", "(Z)LLoopMemo$Table;"⟩
abbrev cX4_answers : ByteArray := prog_6_method_4_code
def yX4_answers : MethodName := ⟨RX4, "answers", "()LLoopMemo$Answers;"⟩
abbrev cX4_memo : ByteArray := prog_6_method_5_code
def yX4_memo : MethodName := ⟨RX4, "memo", "()LLoopMemo$Memo;"⟩
abbrev cX4_setting : ByteArray := prog_6_method_6_code
def yX4_setting : MethodName := ⟨RX4, "setting", "(I)I"⟩
abbrev cX4_tally : ByteArray := prog_6_method_7_code
def yX4_tally : MethodName := ⟨RX4, "tally", "(I)I"⟩
abbrev cX4_place : ByteArray := prog_6_method_8_code
def yX4_place : MethodName := ⟨RX4, "place", "()I"⟩
abbrev cX4_totalSoFar : ByteArray := prog_6_method_9_code
def yX4_totalSoFar : MethodName := ⟨RX4, "totalSoFar", "()I"⟩
abbrev cX4_isDone : ByteArray := prog_6_method_10_code
def yX4_isDone : MethodName := ⟨RX4, "isDone", "(I)Z"⟩
abbrev cX4_isInRememberedAnswer : ByteArray := prog_6_method_11_code
def yX4_isInRememberedAnswer : MethodName := ⟨RX4, "isInRememberedAnswer", "(I)Z"⟩
abbrev cX4_insertRow : ByteArray := prog_6_method_12_code
def yX4_insertRow : MethodName := ⟨RX4, "insertRow", "(ZII)I"⟩
abbrev cX4_removeRow : ByteArray := prog_6_method_13_code
def yX4_removeRow : MethodName := ⟨RX4, "removeRow", "(ZI)I"⟩
abbrev cX4_rewriteRow : ByteArray := prog_6_method_14_code
def yX4_rewriteRow : MethodName := ⟨RX4, "rewriteRow", "(III)I"⟩
abbrev cX4_walk : ByteArray := prog_6_method_15_code
def yX4_walk : MethodName := ⟨RX4, "walk", "(I)I"⟩
abbrev cX4_beginAgain : ByteArray := prog_6_method_16_code
def yX4_beginAgain : MethodName := ⟨RX4, "beginAgain", "()I"⟩
abbrev cX4_throwAllOut : ByteArray := prog_6_method_17_code
def yX4_throwAllOut : MethodName := ⟨RX4, "throwAllOut", "()I"⟩
abbrev cX4_adjust : ByteArray := prog_6_method_18_code
def yX4_adjust : MethodName := ⟨RX4, "adjust", "(II)I"⟩
abbrev cX4_weightTogether : ByteArray := prog_6_method_19_code
def yX4_weightTogether : MethodName := ⟨RX4, "weightTogether", "()I"⟩
abbrev cX4_totalByAnswers : ByteArray := prog_6_method_20_code
def yX4_totalByAnswers : MethodName := ⟨RX4, "totalByAnswers", "()I"⟩
abbrev cX4_totalByRows : ByteArray := prog_6_method_21_code
def yX4_totalByRows : MethodName := ⟨RX4, "totalByRows", "()I"⟩
abbrev cX4_lookUp : ByteArray := prog_6_method_22_code
def yX4_lookUp : MethodName := ⟨RX4, "lookUp", "(I)V"⟩
abbrev cX4_makeRoom : ByteArray := prog_6_method_23_code
def yX4_makeRoom : MethodName := ⟨RX4, "makeRoom", "(I)I"⟩
abbrev cX4_keepTrue : ByteArray := prog_6_method_24_code
def yX4_keepTrue : MethodName := ⟨RX4, "keepTrue", "(II)V"⟩
abbrev cX4_keepAnswerTrue : ByteArray := prog_6_method_25_code
def yX4_keepAnswerTrue : MethodName := ⟨RX4, "keepAnswerTrue", "(I)V"⟩
abbrev cX4_findAnswers : ByteArray := prog_6_method_26_code
def yX4_findAnswers : MethodName := ⟨RX4, "findAnswers", "()V"⟩
abbrev cX4_isInBand : ByteArray := prog_6_method_27_code
def yX4_isInBand : MethodName := ⟨RX4, "isInBand", "(I)Z"⟩
def RX5 : String := "LoopMemo$Table"
def TX5 : u_T := fun k => match k with
  | 0 => ("LoopMemo$Table", "keys", "[I", true)
  | 1 => ("LoopMemo$Table", "values", "[I", true)
  | _ => ("LoopMemo$Table", "size", "I", false)
def tyX5 : Nat → FieldType := fun k => match k with
  | 0 => .array .int
  | 1 => .array .int
  | _ => .int
abbrev wsX50 : List Cond := u_ws RX5 TX5 3
theorem nmX5 : ∀ a, a < 3 → ∀ b, b < 3 → a ≠ b → (TX5 a).2.1 ≠ (TX5 b).2.1 := by decide +kernel
theorem tyX5_ok : ∀ k, k < 3 → parseFieldDescriptor (TX5 k).2.2.1 = some (tyX5 k) := by decide +kernel
abbrev cX5_init : ByteArray := prog_7_method_1_code
def yX5_init : MethodName := ⟨RX5, "<init>", "()V"⟩
abbrev cX5_copyFrom : ByteArray := prog_7_method_2_code
def yX5_copyFrom : MethodName := ⟨RX5, "copyFrom", "(LLoopMemo$Table;)V"⟩
abbrev cX5_size : ByteArray := prog_7_method_3_code
def yX5_size : MethodName := ⟨RX5, "size", "()I"⟩
abbrev cX5_has : ByteArray := prog_7_method_4_code
def yX5_has : MethodName := ⟨RX5, "has", "(I)Z"⟩
abbrev cX5_key : ByteArray := prog_7_method_5_code
def yX5_key : MethodName := ⟨RX5, "key", "(I)I"⟩
abbrev cX5_value : ByteArray := prog_7_method_6_code
def yX5_value : MethodName := ⟨RX5, "value", "(I)I"⟩
abbrev cX5_put : ByteArray := prog_7_method_7_code
def yX5_put : MethodName := ⟨RX5, "put", "(III)V"⟩
abbrev cX5_push : ByteArray := prog_7_method_8_code
def yX5_push : MethodName := ⟨RX5, "push", "(II)V"⟩
abbrev cX5_takeOut : ByteArray := prog_7_method_9_code
def yX5_takeOut : MethodName := ⟨RX5, "takeOut", "(I)V"⟩
abbrev cX5_sortFrom : ByteArray := prog_7_method_10_code
def yX5_sortFrom : MethodName := ⟨RX5, "sortFrom", "(I)V"⟩
abbrev cX5_reverseFrom : ByteArray := prog_7_method_11_code
def yX5_reverseFrom : MethodName := ⟨RX5, "reverseFrom", "(I)V"⟩
abbrev cX5_swap : ByteArray := prog_7_method_12_code
def yX5_swap : MethodName := ⟨RX5, "swap", "(II)V"⟩
def RX6 : String := "LoopMemo"
def TX6 : u_T := fun k => match k with
  | 0 => ("LoopMemo", "now", "LLoopMemo$State;", true)
  | 1 => ("LoopMemo", "trial", "LLoopMemo$State;", true)
  | 2 => ("LoopMemo", "snapshot", "LLoopMemo$State;", true)
  | 3 => ("LoopMemo", "history", "LLoopMemo$History;", true)
  | 4 => ("LoopMemo", "pad", "LLoopMemo$Pad;", true)
  | 5 => ("LoopMemo", "hasSnapshot", "Z", false)
  | 6 => ("LoopMemo", "stopError", "I", false)
  | 7 => ("LoopMemo", "stopNumber", "I", false)
  | _ => ("LoopMemo", "stopPosition", "I", false)
def tyX6 : Nat → FieldType := fun k => match k with
  | 0 => .object "LoopMemo$State"
  | 1 => .object "LoopMemo$State"
  | 2 => .object "LoopMemo$State"
  | 3 => .object "LoopMemo$History"
  | 4 => .object "LoopMemo$Pad"
  | 5 => .boolean
  | 6 => .int
  | 7 => .int
  | _ => .int
abbrev wsX60 : List Cond := u_ws RX6 TX6 9
theorem nmX6 : ∀ a, a < 9 → ∀ b, b < 9 → a ≠ b → (TX6 a).2.1 ≠ (TX6 b).2.1 := by decide +kernel
theorem tyX6_ok : ∀ k, k < 9 → parseFieldDescriptor (TX6 k).2.2.1 = some (tyX6 k) := by decide +kernel
abbrev cX6_init : ByteArray := prog_1_method_1_code
def yX6_init : MethodName := ⟨RX6, "<init>", "()V"⟩
abbrev cX6_add : ByteArray := prog_1_method_2_code
def yX6_add : MethodName := ⟨RX6, "add", "(ZII)I"⟩
abbrev cX6_drop : ByteArray := prog_1_method_3_code
def yX6_drop : MethodName := ⟨RX6, "drop", "(ZI)I"⟩
abbrev cX6_change : ByteArray := prog_1_method_4_code
def yX6_change : MethodName := ⟨RX6, "change", "(III)I"⟩
abbrev cX6_step : ByteArray := prog_1_method_5_code
def yX6_step : MethodName := ⟨RX6, "step", "(I)I"⟩
abbrev cX6_again : ByteArray := prog_1_method_6_code
def yX6_again : MethodName := ⟨RX6, "again", "()I"⟩
abbrev cX6_forget : ByteArray := prog_1_method_7_code
def yX6_forget : MethodName := ⟨RX6, "forget", "()I"⟩
abbrev cX6_set : ByteArray := prog_1_method_8_code
def yX6_set : MethodName := ⟨RX6, "set", "(II)I"⟩
abbrev cX6_append : ByteArray := prog_1_method_9_code
def yX6_append : MethodName := ⟨RX6, "append", "(I)I"⟩
abbrev cX6_clear : ByteArray := prog_1_method_10_code
def yX6_clear : MethodName := ⟨RX6, "clear", "()I"⟩
abbrev cX6_fault : ByteArray := prog_1_method_11_code
def yX6_fault : MethodName := ⟨RX6, "fault", "(I)I"⟩
abbrev cX6_fill : ByteArray := prog_1_method_12_code
def yX6_fill : MethodName := ⟨RX6, "fill", "(Z)I"⟩
abbrev cX6_carryOut : ByteArray := prog_1_method_13_code
def yX6_carryOut : MethodName := ⟨RX6, "carryOut", "()I"⟩
abbrev cX6_why : ByteArray := prog_1_method_14_code
def yX6_why : MethodName := ⟨RX6, "why", "(I)I"⟩
abbrev cX6_row : ByteArray := prog_1_method_15_code
def yX6_row : MethodName := ⟨RX6, "row", "(ZII)I"⟩
abbrev cX6_answer : ByteArray := prog_1_method_16_code
def yX6_answer : MethodName := ⟨RX6, "answer", "(II)I"⟩
abbrev cX6_remembered : ByteArray := prog_1_method_17_code
def yX6_remembered : MethodName := ⟨RX6, "remembered", "(II)I"⟩
abbrev cX6_count : ByteArray := prog_1_method_18_code
def yX6_count : MethodName := ⟨RX6, "count", "(I)I"⟩
abbrev cX6_total : ByteArray := prog_1_method_19_code
def yX6_total : MethodName := ⟨RX6, "total", "(I)I"⟩
abbrev cX6_rate : ByteArray := prog_1_method_20_code
def yX6_rate : MethodName := ⟨RX6, "rate", "()D"⟩
abbrev cX6_ifBound : ByteArray := prog_1_method_21_code
def yX6_ifBound : MethodName := ⟨RX6, "ifBound", "(II)I"⟩
abbrev cX6_ifOrdered : ByteArray := prog_1_method_22_code
def yX6_ifOrdered : MethodName := ⟨RX6, "ifOrdered", "(I)I"⟩
abbrev cX6_leastBound : ByteArray := prog_1_method_23_code
def yX6_leastBound : MethodName := ⟨RX6, "leastBound", "()I"⟩
abbrev cX6_undo : ByteArray := prog_1_method_24_code
def yX6_undo : MethodName := ⟨RX6, "undo", "()I"⟩
abbrev cX6_save : ByteArray := prog_1_method_25_code
def yX6_save : MethodName := ⟨RX6, "save", "()I"⟩
abbrev cX6_restore : ByteArray := prog_1_method_26_code
def yX6_restore : MethodName := ⟨RX6, "restore", "()I"⟩
abbrev cX6_obey : ByteArray := prog_1_method_27_code
def yX6_obey : MethodName := ⟨RX6, "obey", "()I"⟩
abbrev cX6_tryBound : ByteArray := prog_1_method_28_code
def yX6_tryBound : MethodName := ⟨RX6, "tryBound", "(I)V"⟩
abbrev cX6_brought : ByteArray := prog_1_method_29_code
def yX6_brought : MethodName := ⟨RX6, "brought", "(I)I"⟩
abbrev cX6_isWithin : ByteArray := prog_1_method_30_code
def yX6_isWithin : MethodName := ⟨RX6, "isWithin", "(II)Z"⟩
abbrev cX6_isKey : ByteArray := prog_1_method_31_code
def yX6_isKey : MethodName := ⟨RX6, "isKey", "(I)Z"⟩
abbrev cX6_isRow : ByteArray := prog_1_method_32_code
def yX6_isRow : MethodName := ⟨RX6, "isRow", "(II)Z"⟩
abbrev cX6_copyNumbers : ByteArray := prog_1_method_33_code
def yX6_copyNumbers : MethodName := ⟨RX6, "copyNumbers", "([I[I)V"⟩
def RX7 : String := "LoopMemoModel"
def TX7 : u_T := fun k => match k with
  | 0 => ("LoopMemoModel", "s", "[I", true)
  | 1 => ("LoopMemoModel", "past", "[I", true)
  | 2 => ("LoopMemoModel", "kept", "[I", true)
  | 3 => ("LoopMemoModel", "spare", "[I", true)
  | 4 => ("LoopMemoModel", "isKept", "Z", false)
  | 5 => ("LoopMemoModel", "pasts", "I", false)
  | 6 => ("LoopMemoModel", "runs", "Z", false)
  | 7 => ("LoopMemoModel", "pad", "[I", true)
  | 8 => ("LoopMemoModel", "typed", "I", false)
  | 9 => ("LoopMemoModel", "isStopped", "Z", false)
  | 10 => ("LoopMemoModel", "stop", "[I", true)
  | 11 => ("LoopMemoModel", "spot", "I", false)
  | 12 => ("LoopMemoModel", "many", "I", false)
  | _ => ("LoopMemoModel", "read", "[I", true)
def tyX7 : Nat → FieldType := fun k => match k with
  | 0 => .array .int
  | 1 => .array .int
  | 2 => .array .int
  | 3 => .array .int
  | 4 => .boolean
  | 5 => .int
  | 6 => .boolean
  | 7 => .array .int
  | 8 => .int
  | 9 => .boolean
  | 10 => .array .int
  | 11 => .int
  | 12 => .int
  | _ => .array .int
abbrev wsX70 : List Cond := u_ws RX7 TX7 14
theorem nmX7 : ∀ a, a < 14 → ∀ b, b < 14 → a ≠ b → (TX7 a).2.1 ≠ (TX7 b).2.1 := by decide +kernel
theorem tyX7_ok : ∀ k, k < 14 → parseFieldDescriptor (TX7 k).2.2.1 = some (tyX7 k) := by decide +kernel
abbrev cX7_init : ByteArray := prog_9_method_1_code
def yX7_init : MethodName := ⟨RX7, "<init>", "()V"⟩
abbrev cX7_in : ByteArray := prog_9_method_3_code
def yX7_in : MethodName := ⟨RX7, "in", "(III)Z"⟩
abbrev cX7_changes : ByteArray := prog_9_method_4_code
def yX7_changes : MethodName := ⟨RX7, "changes", "()V"⟩
abbrev cX7_putsAside : ByteArray := prog_9_method_5_code
def yX7_putsAside : MethodName := ⟨RX7, "putsAside", "()V"⟩
abbrev cX7_putsBack : ByteArray := prog_9_method_6_code
def yX7_putsBack : MethodName := ⟨RX7, "putsBack", "()V"⟩
abbrev cX7_isRowOf : ByteArray := prog_9_method_7_code
def yX7_isRowOf : MethodName := ⟨RX7, "isRowOf", "(II)Z"⟩
abbrev cX7_isInner : ByteArray := prog_9_method_8_code
def yX7_isInner : MethodName := ⟨RX7, "isInner", "(I)Z"⟩
abbrev cX7_isOuter : ByteArray := prog_9_method_9_code
def yX7_isOuter : MethodName := ⟨RX7, "isOuter", "(I)Z"⟩
abbrev cX7_innerKey : ByteArray := prog_9_method_10_code
def yX7_innerKey : MethodName := ⟨RX7, "innerKey", "(I)I"⟩
abbrev cX7_innerValue : ByteArray := prog_9_method_11_code
def yX7_innerValue : MethodName := ⟨RX7, "innerValue", "(I)I"⟩
abbrev cX7_isFound : ByteArray := prog_9_method_12_code
def yX7_isFound : MethodName := ⟨RX7, "isFound", "(II)Z"⟩
abbrev cX7_found : ByteArray := prog_9_method_13_code
def yX7_found : MethodName := ⟨RX7, "found", "(I)I"⟩
abbrev cX7_weight : ByteArray := prog_9_method_14_code
def yX7_weight : MethodName := ⟨RX7, "weight", "(I)I"⟩
abbrev cX7_sum : ByteArray := prog_9_method_15_code
def yX7_sum : MethodName := ⟨RX7, "sum", "(I)I"⟩
abbrev cX7_firstRow : ByteArray := prog_9_method_16_code
def yX7_firstRow : MethodName := ⟨RX7, "firstRow", "(I)I"⟩
abbrev cX7_tell : ByteArray := prog_9_method_17_code
def yX7_tell : MethodName := ⟨RX7, "tell", "(II)I"⟩
abbrev cX7_isKnown : ByteArray := prog_9_method_18_code
def yX7_isKnown : MethodName := ⟨RX7, "isKnown", "(I)Z"⟩
abbrev cX7_known : ByteArray := prog_9_method_19_code
def yX7_known : MethodName := ⟨RX7, "known", "()I"⟩
abbrev cX7_weights : ByteArray := prog_9_method_20_code
def yX7_weights : MethodName := ⟨RX7, "weights", "()I"⟩
abbrev cX7_isAhead : ByteArray := prog_9_method_21_code
def yX7_isAhead : MethodName := ⟨RX7, "isAhead", "(II)Z"⟩
abbrev cX7_orderOf : ByteArray := prog_9_method_22_code
def yX7_orderOf : MethodName := ⟨RX7, "orderOf", "(I)I"⟩
abbrev cX7_first : ByteArray := prog_9_method_23_code
def yX7_first : MethodName := ⟨RX7, "first", "(I)I"⟩
abbrev cX7_makesRoom : ByteArray := prog_9_method_24_code
def yX7_makesRoom : MethodName := ⟨RX7, "makesRoom", "(I)I"⟩
abbrev cX7_throwsOut : ByteArray := prog_9_method_25_code
def yX7_throwsOut : MethodName := ⟨RX7, "throwsOut", "(I)I"⟩
abbrev cX7_throwsAll : ByteArray := prog_9_method_26_code
def yX7_throwsAll : MethodName := ⟨RX7, "throwsAll", "()I"⟩
abbrev cX7_keeps : ByteArray := prog_9_method_27_code
def yX7_keeps : MethodName := ⟨RX7, "keeps", "(II)V"⟩
abbrev cX7_looks : ByteArray := prog_9_method_28_code
def yX7_looks : MethodName := ⟨RX7, "looks", "(I)I"⟩
abbrev cX7_adds : ByteArray := prog_9_method_29_code
def yX7_adds : MethodName := ⟨RX7, "adds", "(ZII)I"⟩
abbrev cX7_add : ByteArray := prog_9_method_30_code
def yX7_add : MethodName := ⟨RX7, "add", "(ZII)I"⟩
abbrev cX7_drop : ByteArray := prog_9_method_31_code
def yX7_drop : MethodName := ⟨RX7, "drop", "(ZI)I"⟩
abbrev cX7_change : ByteArray := prog_9_method_32_code
def yX7_change : MethodName := ⟨RX7, "change", "(III)I"⟩
abbrev cX7_steps : ByteArray := prog_9_method_33_code
def yX7_steps : MethodName := ⟨RX7, "steps", "(I)I"⟩
abbrev cX7_step : ByteArray := prog_9_method_34_code
def yX7_step : MethodName := ⟨RX7, "step", "(I)I"⟩
abbrev cX7_again : ByteArray := prog_9_method_35_code
def yX7_again : MethodName := ⟨RX7, "again", "()I"⟩
abbrev cX7_forget : ByteArray := prog_9_method_36_code
def yX7_forget : MethodName := ⟨RX7, "forget", "()I"⟩
abbrev cX7_sets : ByteArray := prog_9_method_37_code
def yX7_sets : MethodName := ⟨RX7, "sets", "(II)I"⟩
abbrev cX7_set : ByteArray := prog_9_method_38_code
def yX7_set : MethodName := ⟨RX7, "set", "(II)I"⟩
abbrev cX7_append : ByteArray := prog_9_method_39_code
def yX7_append : MethodName := ⟨RX7, "append", "(I)I"⟩
abbrev cX7_clear : ByteArray := prog_9_method_40_code
def yX7_clear : MethodName := ⟨RX7, "clear", "()I"⟩
abbrev cX7_isAt : ByteArray := prog_9_method_41_code
def yX7_isAt : MethodName := ⟨RX7, "isAt", "(II)Z"⟩
abbrev cX7_sign : ByteArray := prog_9_method_42_code
def yX7_sign : MethodName := ⟨RX7, "sign", "(I)Z"⟩
abbrev cX7_number : ByteArray := prog_9_method_43_code
def yX7_number : MethodName := ⟨RX7, "number", "(III)Z"⟩
abbrev cX7_readsRow : ByteArray := prog_9_method_44_code
def yX7_readsRow : MethodName := ⟨RX7, "readsRow", "()Z"⟩
abbrev cX7_deed : ByteArray := prog_9_method_45_code
def yX7_deed : MethodName := ⟨RX7, "deed", "()Z"⟩
abbrev cX7_fault : ByteArray := prog_9_method_46_code
def yX7_fault : MethodName := ⟨RX7, "fault", "(I)I"⟩
abbrev cX7_fill : ByteArray := prog_9_method_47_code
def yX7_fill : MethodName := ⟨RX7, "fill", "(Z)I"⟩
abbrev cX7_does : ByteArray := prog_9_method_48_code
def yX7_does : MethodName := ⟨RX7, "does", "(I)I"⟩
abbrev cX7_carryOut : ByteArray := prog_9_method_49_code
def yX7_carryOut : MethodName := ⟨RX7, "carryOut", "()I"⟩
abbrev cX7_why : ByteArray := prog_9_method_50_code
def yX7_why : MethodName := ⟨RX7, "why", "(I)I"⟩
abbrev cX7_row : ByteArray := prog_9_method_51_code
def yX7_row : MethodName := ⟨RX7, "row", "(ZII)I"⟩
abbrev cX7_answer : ByteArray := prog_9_method_52_code
def yX7_answer : MethodName := ⟨RX7, "answer", "(II)I"⟩
abbrev cX7_remembered : ByteArray := prog_9_method_53_code
def yX7_remembered : MethodName := ⟨RX7, "remembered", "(II)I"⟩
abbrev cX7_count : ByteArray := prog_9_method_54_code
def yX7_count : MethodName := ⟨RX7, "count", "(I)I"⟩
abbrev cX7_total : ByteArray := prog_9_method_55_code
def yX7_total : MethodName := ⟨RX7, "total", "(I)I"⟩
abbrev cX7_rate : ByteArray := prog_9_method_56_code
def yX7_rate : MethodName := ⟨RX7, "rate", "()D"⟩
abbrev cX7_ifBound : ByteArray := prog_9_method_57_code
def yX7_ifBound : MethodName := ⟨RX7, "ifBound", "(II)I"⟩
abbrev cX7_swaps : ByteArray := prog_9_method_58_code
def yX7_swaps : MethodName := ⟨RX7, "swaps", "(II)V"⟩
abbrev cX7_sorts : ByteArray := prog_9_method_59_code
def yX7_sorts : MethodName := ⟨RX7, "sorts", "()V"⟩
abbrev cX7_turns : ByteArray := prog_9_method_60_code
def yX7_turns : MethodName := ⟨RX7, "turns", "()V"⟩
abbrev cX7_ifOrdered : ByteArray := prog_9_method_61_code
def yX7_ifOrdered : MethodName := ⟨RX7, "ifOrdered", "(I)I"⟩
abbrev cX7_leastBound : ByteArray := prog_9_method_62_code
def yX7_leastBound : MethodName := ⟨RX7, "leastBound", "()I"⟩
abbrev cX7_undo : ByteArray := prog_9_method_63_code
def yX7_undo : MethodName := ⟨RX7, "undo", "()I"⟩
abbrev cX7_save : ByteArray := prog_9_method_64_code
def yX7_save : MethodName := ⟨RX7, "save", "()I"⟩
abbrev cX7_restore : ByteArray := prog_9_method_65_code
def yX7_restore : MethodName := ⟨RX7, "restore", "()I"⟩
def RJx8e188 : String := "java/lang/Cloneable"
def TJx8e188 : u_T := fun k => match k with
  | _ => ("", "", "", false)
def tyJx8e188 : Nat → FieldType := fun k => match k with
  | _ => .int
abbrev wsJx8e1880 : List Cond := u_ws RJx8e188 TJx8e188 0
theorem nmJx8e188 : ∀ a, a < 0 → ∀ b, b < 0 → a ≠ b → (TJx8e188 a).2.1 ≠ (TJx8e188 b).2.1 := by decide +kernel
theorem tyJx8e188_ok : ∀ k, k < 0 → parseFieldDescriptor (TJx8e188 k).2.2.1 = some (tyJx8e188 k) := by decide +kernel
def RJ9 : String := "java/lang/Math"
def TJ9 : u_T := fun k => match k with
  | _ => ("", "", "", false)
def tyJ9 : Nat → FieldType := fun k => match k with
  | _ => .int
abbrev wsJ90 : List Cond := u_ws RJ9 TJ9 0
theorem nmJ9 : ∀ a, a < 0 → ∀ b, b < 0 → a ≠ b → (TJ9 a).2.1 ≠ (TJ9 b).2.1 := by decide +kernel
theorem tyJ9_ok : ∀ k, k < 0 → parseFieldDescriptor (TJ9 k).2.2.1 = some (tyJ9 k) := by decide +kernel
abbrev cJ9_min_7cf53 : ByteArray := prog_11_method_69_code
def yJ9_min_7cf53 : MethodName := ⟨RJ9, "min", "(II)I"⟩
def RJ10 : String := "java/lang/System"
def TJ10 : u_T := fun k => match k with
  | _ => ("", "", "", false)
def tyJ10 : Nat → FieldType := fun k => match k with
  | _ => .int
abbrev wsJ100 : List Cond := u_ws RJ10 TJ10 0
theorem nmJ10 : ∀ a, a < 0 → ∀ b, b < 0 → a ≠ b → (TJ10 a).2.1 ≠ (TJ10 b).2.1 := by decide +kernel
theorem tyJ10_ok : ∀ k, k < 0 → parseFieldDescriptor (TJ10 k).2.2.1 = some (tyJ10 k) := by decide +kernel
def RL : String := "LoopMemoLaw"
abbrev cL_law : ByteArray := code
def yL_law : MethodName := ⟨RL, "law", "([I)Z"⟩
def wsX0_init : List Cond := .code yX0_init cX0_init 1 none :: ([.methodLink RX0 3 objectInit, .instanceMethod objectInit, .code objectInit ⟨#[0xb1]⟩ 1 none, .arrayClass .int, .fieldLink RX0 9 "LoopMemo$Answers" "rows" "[I", .fieldLink RX0 15 "LoopMemo$Answers" "sums" "[I", .fieldLink RX0 18 "LoopMemo$Answers" "firstRows" "[I"] ++ wsX00)
def wsX6_copyNumbers : List Cond := .code yX6_copyNumbers cX6_copyNumbers 2 none :: ([.methodLink RX6 117 Lib.Math.min.name, .static Lib.Math.min.name, .initialized "java/lang/Math", .code Lib.Math.min.name Lib.Math.min.code 2 (some .int), .methodLink RX6 225 arraycopyName, .native arraycopyName, .static arraycopyName, .initialized "java/lang/System"])
def wsX0_copyFrom : List Cond := .code yX0_copyFrom cX0_copyFrom 2 none :: ([.fieldLink RX0 9 "LoopMemo$Answers" "rows" "[I", .fieldLink RX0 15 "LoopMemo$Answers" "sums" "[I", .fieldLink RX0 18 "LoopMemo$Answers" "firstRows" "[I", .static yX6_copyNumbers, .initialized RX6, .code yX6_copyNumbers cX6_copyNumbers 2 none, .methodLink RX6 117 Lib.Math.min.name, .static Lib.Math.min.name, .initialized "java/lang/Math", .code Lib.Math.min.name Lib.Math.min.code 2 (some .int), .methodLink RX6 225 arraycopyName, .native arraycopyName, .static arraycopyName, .initialized "java/lang/System"] ++ wsX00)
def wsX5_size : List Cond := .code yX5_size cX5_size 1 (some .int) :: ([.fieldLink RX5 22 "LoopMemo$Table" "size" "I"] ++ wsX50)
def wsX5_value : List Cond := .code yX5_value cX5_value 2 (some .int) :: ([.fieldLink RX5 15 "LoopMemo$Table" "values" "[I"] ++ wsX50)
def wsX5_key : List Cond := .code yX5_key cX5_key 2 (some .int) :: ([.fieldLink RX5 9 "LoopMemo$Table" "keys" "[I"] ++ wsX50)
def wsX0_find : List Cond := .code yX0_find cX0_find 7 none :: ([.fieldLink RX0 9 "LoopMemo$Answers" "rows" "[I", .fieldLink RX0 15 "LoopMemo$Answers" "sums" "[I", .fieldLink RX0 18 "LoopMemo$Answers" "firstRows" "[I", .methodLink RX0 25 yX5_size, .instanceMethod yX5_size, .selects RX5 yX5_size yX5_size, .initialized RX5, .code yX5_size cX5_size 1 (some .int), .fieldLink RX5 22 "LoopMemo$Table" "size" "I", .methodLink RX0 31 yX5_value, .instanceMethod yX5_value, .selects RX5 yX5_value yX5_value, .code yX5_value cX5_value 2 (some .int), .fieldLink RX5 15 "LoopMemo$Table" "values" "[I", .methodLink RX0 35 yX5_key, .instanceMethod yX5_key, .selects RX5 yX5_key yX5_key, .code yX5_key cX5_key 2 (some .int), .fieldLink RX5 9 "LoopMemo$Table" "keys" "[I"] ++ wsX00 ++ wsX50)
def wsX0_weight : List Cond := .code yX0_weight cX0_weight 2 (some .int) :: ([.fieldLink RX0 9 "LoopMemo$Answers" "rows" "[I"] ++ wsX00)
def wsX0_sum : List Cond := .code yX0_sum cX0_sum 2 (some .int) :: ([.fieldLink RX0 15 "LoopMemo$Answers" "sums" "[I"] ++ wsX00)
def wsX0_tell : List Cond := .code yX0_tell cX0_tell 3 (some .int) :: ([.fieldLink RX0 9 "LoopMemo$Answers" "rows" "[I", .fieldLink RX0 15 "LoopMemo$Answers" "sums" "[I", .fieldLink RX0 18 "LoopMemo$Answers" "firstRows" "[I", .methodLink RX0 38 yX0_weight, .instanceMethod yX0_weight, .selects RX0 yX0_weight yX0_weight, .initialized RX0, .code yX0_weight cX0_weight 2 (some .int)] ++ wsX00)
def wsX5_init : List Cond := .code yX5_init cX5_init 1 none :: ([.methodLink RX5 3 objectInit, .instanceMethod objectInit, .code objectInit ⟨#[0xb1]⟩ 1 none, .arrayClass .int, .fieldLink RX5 9 "LoopMemo$Table" "keys" "[I", .fieldLink RX5 15 "LoopMemo$Table" "values" "[I"] ++ wsX50)
def wsX2_init : List Cond := .code yX2_init cX2_init 1 none :: ([.methodLink RX2 3 objectInit, .instanceMethod objectInit, .code objectInit ⟨#[0xb1]⟩ 1 none, .arrayClass .int, .fieldLink RX2 9 "LoopMemo$Memo" "uses" "[I", .fieldLink RX2 15 "LoopMemo$Memo" "lastLooks" "[I", .fieldLink RX2 18 "LoopMemo$Memo" "firstLooks" "[I"] ++ wsX20)
def wsX4_init_r1 : List Cond := [Cond.methodLink RX4 3 objectInit, Cond.instanceMethod objectInit, Cond.code objectInit ⟨#[0xb1]⟩ 1 none, Cond.classLink RX4 9 RX5, Cond.instantiable RX5 3, Cond.initialized RX5, Cond.fieldLink RX4 12 "LoopMemo$State" "outer" "LLoopMemo$Table;", Cond.fieldLink RX4 18 "LoopMemo$State" "inner" "LLoopMemo$Table;", Cond.classLink RX4 21 RX0, Cond.instantiable RX0 3, Cond.initialized RX0, Cond.fieldLink RX4 24 "LoopMemo$State" "answers" "LLoopMemo$Answers;", Cond.classLink RX4 28 RX2, Cond.instantiable RX2 4, Cond.initialized RX2, Cond.fieldLink RX4 31 "LoopMemo$State" "memo" "LLoopMemo$Memo;", Cond.fieldLink RX4 35 "LoopMemo$State" "FIRST_SETTINGS" "[I", Cond.methodLink RX4 39 ⟨"[I", "clone", "()Ljava/lang/Object;"⟩, Cond.sameMethod "[I" "java/lang/Object" "clone" "()Ljava/lang/Object;", Cond.native ⟨"java/lang/Object", "clone", "()Ljava/lang/Object;"⟩, Cond.instanceMethod ⟨"java/lang/Object", "clone", "()Ljava/lang/Object;"⟩, Cond.selects "[I" ⟨"[I", "clone", "()Ljava/lang/Object;"⟩ ⟨"java/lang/Object", "clone", "()Ljava/lang/Object;"⟩, Cond.classLink RX4 40 "[I", Cond.fieldLink RX4 44 "LoopMemo$State" "settings" "[I"]
def wsX4_init_r2 : List Cond := [Cond.arrayClass .int, Cond.fieldLink RX4 47 "LoopMemo$State" "tallies" "[I", Cond.methodLink RX4 11 yX5_init, Cond.instanceMethod yX5_init, Cond.code yX5_init cX5_init 1 none, Cond.methodLink RX5 3 objectInit, Cond.fieldLink RX5 9 "LoopMemo$Table" "keys" "[I", Cond.fieldLink RX5 15 "LoopMemo$Table" "values" "[I", Cond.methodLink RX4 23 yX0_init, Cond.instanceMethod yX0_init, Cond.code yX0_init cX0_init 1 none, Cond.methodLink RX0 3 objectInit, Cond.fieldLink RX0 9 "LoopMemo$Answers" "rows" "[I", Cond.fieldLink RX0 15 "LoopMemo$Answers" "sums" "[I", Cond.fieldLink RX0 18 "LoopMemo$Answers" "firstRows" "[I", Cond.methodLink RX4 30 yX2_init, Cond.instanceMethod yX2_init, Cond.code yX2_init cX2_init 1 none, Cond.methodLink RX2 3 objectInit, Cond.fieldLink RX2 9 "LoopMemo$Memo" "uses" "[I", Cond.fieldLink RX2 15 "LoopMemo$Memo" "lastLooks" "[I", Cond.fieldLink RX2 18 "LoopMemo$Memo" "firstLooks" "[I"]
def wsX4_init : List Cond := .code yX4_init cX4_init 1 none :: ((wsX4_init_r1 ++ wsX4_init_r2) ++ wsX50 ++ wsX40 ++ wsX00 ++ wsX20)
def wsX1_init_r1 : List Cond := [Cond.methodLink RX1 3 objectInit, Cond.instanceMethod objectInit, Cond.code objectInit ⟨#[0xb1]⟩ 1 none, Cond.classLink RX1 11 RX4, Cond.fieldLink RX1 13 "LoopMemo$History" "slots" "[LLoopMemo$State;", Cond.instantiable RX4 8, Cond.initialized RX4, Cond.methodLink RX1 17 yX4_init, Cond.instanceMethod yX4_init, Cond.code yX4_init cX4_init 1 none, Cond.methodLink RX4 3 objectInit, Cond.classLink RX4 9 RX5, Cond.instantiable RX5 3, Cond.initialized RX5, Cond.fieldLink RX4 12 "LoopMemo$State" "outer" "LLoopMemo$Table;", Cond.fieldLink RX4 18 "LoopMemo$State" "inner" "LLoopMemo$Table;", Cond.classLink RX4 21 RX0, Cond.instantiable RX0 3, Cond.initialized RX0, Cond.fieldLink RX4 24 "LoopMemo$State" "answers" "LLoopMemo$Answers;", Cond.classLink RX4 28 RX2, Cond.instantiable RX2 4, Cond.initialized RX2, Cond.fieldLink RX4 31 "LoopMemo$State" "memo" "LLoopMemo$Memo;"]
def wsX1_init_r2 : List Cond := [Cond.fieldLink RX4 35 "LoopMemo$State" "FIRST_SETTINGS" "[I", Cond.methodLink RX4 39 ⟨"[I", "clone", "()Ljava/lang/Object;"⟩, Cond.sameMethod "[I" "java/lang/Object" "clone" "()Ljava/lang/Object;", Cond.native ⟨"java/lang/Object", "clone", "()Ljava/lang/Object;"⟩, Cond.instanceMethod ⟨"java/lang/Object", "clone", "()Ljava/lang/Object;"⟩, Cond.selects "[I" ⟨"[I", "clone", "()Ljava/lang/Object;"⟩ ⟨"java/lang/Object", "clone", "()Ljava/lang/Object;"⟩, Cond.classLink RX4 40 "[I", Cond.fieldLink RX4 44 "LoopMemo$State" "settings" "[I", Cond.arrayClass .int, Cond.fieldLink RX4 47 "LoopMemo$State" "tallies" "[I", Cond.methodLink RX4 11 yX5_init, Cond.instanceMethod yX5_init, Cond.code yX5_init cX5_init 1 none, Cond.methodLink RX5 3 objectInit, Cond.fieldLink RX5 9 "LoopMemo$Table" "keys" "[I", Cond.fieldLink RX5 15 "LoopMemo$Table" "values" "[I", Cond.methodLink RX4 23 yX0_init, Cond.instanceMethod yX0_init, Cond.code yX0_init cX0_init 1 none, Cond.methodLink RX0 3 objectInit, Cond.fieldLink RX0 9 "LoopMemo$Answers" "rows" "[I", Cond.fieldLink RX0 15 "LoopMemo$Answers" "sums" "[I", Cond.fieldLink RX0 18 "LoopMemo$Answers" "firstRows" "[I", Cond.methodLink RX4 30 yX2_init]
def wsX1_init_r3 : List Cond := [Cond.instanceMethod yX2_init, Cond.code yX2_init cX2_init 1 none, Cond.methodLink RX2 3 objectInit, Cond.fieldLink RX2 9 "LoopMemo$Memo" "uses" "[I", Cond.fieldLink RX2 15 "LoopMemo$Memo" "lastLooks" "[I", Cond.fieldLink RX2 18 "LoopMemo$Memo" "firstLooks" "[I"]
def wsX1_init : List Cond := .code yX1_init cX1_init 2 none :: ((wsX1_init_r1 ++ (wsX1_init_r2 ++ wsX1_init_r3)) ++ wsX10 ++ wsX40 ++ wsX50 ++ wsX00 ++ wsX20)
def wsX1_size : List Cond := .code yX1_size cX1_size 1 (some .int) :: ([.fieldLink RX1 18 "LoopMemo$History" "size" "I"] ++ wsX10)
def wsX1_slot : List Cond := .code yX1_slot cX1_slot 2 (some (.object "LoopMemo$State")) :: ([.fieldLink RX1 13 "LoopMemo$History" "slots" "[LLoopMemo$State;"] ++ wsX10)
def wsX5_copyFrom : List Cond := .code yX5_copyFrom cX5_copyFrom 2 none :: ([.fieldLink RX5 9 "LoopMemo$Table" "keys" "[I", .fieldLink RX5 15 "LoopMemo$Table" "values" "[I", .fieldLink RX5 22 "LoopMemo$Table" "size" "I", .static yX6_copyNumbers, .initialized RX6, .code yX6_copyNumbers cX6_copyNumbers 2 none, .methodLink RX6 117 Lib.Math.min.name, .static Lib.Math.min.name, .initialized "java/lang/Math", .code Lib.Math.min.name Lib.Math.min.code 2 (some .int), .methodLink RX6 225 arraycopyName, .native arraycopyName, .static arraycopyName, .initialized "java/lang/System"] ++ wsX50)
def wsX2_copyFrom : List Cond := .code yX2_copyFrom cX2_copyFrom 2 none :: ([.fieldLink RX2 9 "LoopMemo$Memo" "uses" "[I", .fieldLink RX2 15 "LoopMemo$Memo" "lastLooks" "[I", .fieldLink RX2 18 "LoopMemo$Memo" "firstLooks" "[I", .fieldLink RX2 25 "LoopMemo$Memo" "looks" "I", .static yX6_copyNumbers, .initialized RX6, .code yX6_copyNumbers cX6_copyNumbers 2 none, .methodLink RX6 117 Lib.Math.min.name, .static Lib.Math.min.name, .initialized "java/lang/Math", .code Lib.Math.min.name Lib.Math.min.code 2 (some .int), .methodLink RX6 225 arraycopyName, .native arraycopyName, .static arraycopyName, .initialized "java/lang/System"] ++ wsX20)
def wsX4_copyFrom_r1 : List Cond := [Cond.fieldLink RX4 12 "LoopMemo$State" "outer" "LLoopMemo$Table;", Cond.fieldLink RX4 18 "LoopMemo$State" "inner" "LLoopMemo$Table;", Cond.fieldLink RX4 24 "LoopMemo$State" "answers" "LLoopMemo$Answers;", Cond.fieldLink RX4 31 "LoopMemo$State" "memo" "LLoopMemo$Memo;", Cond.fieldLink RX4 44 "LoopMemo$State" "settings" "[I", Cond.fieldLink RX4 47 "LoopMemo$State" "tallies" "[I", Cond.fieldLink RX4 64 "LoopMemo$State" "place" "I", Cond.fieldLink RX4 68 "LoopMemo$State" "total" "I", Cond.methodLink RX4 50 yX5_copyFrom, Cond.instanceMethod yX5_copyFrom, Cond.selects RX5 yX5_copyFrom yX5_copyFrom, Cond.initialized RX5, Cond.code yX5_copyFrom cX5_copyFrom 2 none, Cond.fieldLink RX5 9 "LoopMemo$Table" "keys" "[I", Cond.fieldLink RX5 15 "LoopMemo$Table" "values" "[I", Cond.fieldLink RX5 22 "LoopMemo$Table" "size" "I", Cond.static yX6_copyNumbers, Cond.initialized RX6, Cond.code yX6_copyNumbers cX6_copyNumbers 2 none, Cond.methodLink RX6 117 Lib.Math.min.name, Cond.static Lib.Math.min.name, Cond.initialized "java/lang/Math", Cond.code Lib.Math.min.name Lib.Math.min.code 2 (some .int), Cond.methodLink RX6 225 arraycopyName]
def wsX4_copyFrom_r2 : List Cond := [Cond.native arraycopyName, Cond.static arraycopyName, Cond.initialized "java/lang/System", Cond.methodLink RX4 54 yX0_copyFrom, Cond.instanceMethod yX0_copyFrom, Cond.selects RX0 yX0_copyFrom yX0_copyFrom, Cond.initialized RX0, Cond.code yX0_copyFrom cX0_copyFrom 2 none, Cond.fieldLink RX0 9 "LoopMemo$Answers" "rows" "[I", Cond.fieldLink RX0 15 "LoopMemo$Answers" "sums" "[I", Cond.fieldLink RX0 18 "LoopMemo$Answers" "firstRows" "[I", Cond.methodLink RX4 57 yX2_copyFrom, Cond.instanceMethod yX2_copyFrom, Cond.selects RX2 yX2_copyFrom yX2_copyFrom, Cond.initialized RX2, Cond.code yX2_copyFrom cX2_copyFrom 2 none, Cond.fieldLink RX2 9 "LoopMemo$Memo" "uses" "[I", Cond.fieldLink RX2 15 "LoopMemo$Memo" "lastLooks" "[I", Cond.fieldLink RX2 18 "LoopMemo$Memo" "firstLooks" "[I", Cond.fieldLink RX2 25 "LoopMemo$Memo" "looks" "I"]
def wsX4_copyFrom : List Cond := .code yX4_copyFrom cX4_copyFrom 2 none :: ((wsX4_copyFrom_r1 ++ wsX4_copyFrom_r2) ++ wsX40 ++ wsX50 ++ wsX00 ++ wsX20)
def wsX1_prepare_r1 : List Cond := [Cond.fieldLink RX1 22 "LoopMemo$History" "next" "I", Cond.methodLink RX1 25 yX1_slot, Cond.instanceMethod yX1_slot, Cond.selects RX1 yX1_slot yX1_slot, Cond.initialized RX1, Cond.code yX1_slot cX1_slot 2 (some (.object "LoopMemo$State")), Cond.fieldLink RX1 13 "LoopMemo$History" "slots" "[LLoopMemo$State;", Cond.methodLink RX1 29 yX4_copyFrom, Cond.instanceMethod yX4_copyFrom, Cond.selects RX4 yX4_copyFrom yX4_copyFrom, Cond.initialized RX4, Cond.code yX4_copyFrom cX4_copyFrom 2 none, Cond.fieldLink RX4 12 "LoopMemo$State" "outer" "LLoopMemo$Table;", Cond.fieldLink RX4 18 "LoopMemo$State" "inner" "LLoopMemo$Table;", Cond.fieldLink RX4 24 "LoopMemo$State" "answers" "LLoopMemo$Answers;", Cond.fieldLink RX4 31 "LoopMemo$State" "memo" "LLoopMemo$Memo;", Cond.fieldLink RX4 44 "LoopMemo$State" "settings" "[I", Cond.fieldLink RX4 47 "LoopMemo$State" "tallies" "[I", Cond.fieldLink RX4 64 "LoopMemo$State" "place" "I", Cond.fieldLink RX4 68 "LoopMemo$State" "total" "I", Cond.methodLink RX4 50 yX5_copyFrom, Cond.instanceMethod yX5_copyFrom, Cond.selects RX5 yX5_copyFrom yX5_copyFrom, Cond.initialized RX5]
def wsX1_prepare_r2 : List Cond := [Cond.code yX5_copyFrom cX5_copyFrom 2 none, Cond.fieldLink RX5 9 "LoopMemo$Table" "keys" "[I", Cond.fieldLink RX5 15 "LoopMemo$Table" "values" "[I", Cond.fieldLink RX5 22 "LoopMemo$Table" "size" "I", Cond.static yX6_copyNumbers, Cond.initialized RX6, Cond.code yX6_copyNumbers cX6_copyNumbers 2 none, Cond.methodLink RX6 117 Lib.Math.min.name, Cond.static Lib.Math.min.name, Cond.initialized "java/lang/Math", Cond.code Lib.Math.min.name Lib.Math.min.code 2 (some .int), Cond.methodLink RX6 225 arraycopyName, Cond.native arraycopyName, Cond.static arraycopyName, Cond.initialized "java/lang/System", Cond.methodLink RX4 54 yX0_copyFrom, Cond.instanceMethod yX0_copyFrom, Cond.selects RX0 yX0_copyFrom yX0_copyFrom, Cond.initialized RX0, Cond.code yX0_copyFrom cX0_copyFrom 2 none, Cond.fieldLink RX0 9 "LoopMemo$Answers" "rows" "[I", Cond.fieldLink RX0 15 "LoopMemo$Answers" "sums" "[I", Cond.fieldLink RX0 18 "LoopMemo$Answers" "firstRows" "[I", Cond.methodLink RX4 57 yX2_copyFrom]
def wsX1_prepare_r3 : List Cond := [Cond.instanceMethod yX2_copyFrom, Cond.selects RX2 yX2_copyFrom yX2_copyFrom, Cond.initialized RX2, Cond.code yX2_copyFrom cX2_copyFrom 2 none, Cond.fieldLink RX2 9 "LoopMemo$Memo" "uses" "[I", Cond.fieldLink RX2 15 "LoopMemo$Memo" "lastLooks" "[I", Cond.fieldLink RX2 18 "LoopMemo$Memo" "firstLooks" "[I", Cond.fieldLink RX2 25 "LoopMemo$Memo" "looks" "I"]
def wsX1_prepare : List Cond := .code yX1_prepare cX1_prepare 3 none :: ((wsX1_prepare_r1 ++ (wsX1_prepare_r2 ++ wsX1_prepare_r3)) ++ wsX10 ++ wsX40 ++ wsX50 ++ wsX00 ++ wsX20)
def wsX1_commit : List Cond := .code yX1_commit cX1_commit 2 (some .int) :: ([.fieldLink RX1 22 "LoopMemo$History" "next" "I", .fieldLink RX1 18 "LoopMemo$History" "size" "I", .methodLink RX1 33 Lib.Math.min.name, .static Lib.Math.min.name, .initialized "java/lang/Math", .code Lib.Math.min.name Lib.Math.min.code 2 (some .int)] ++ wsX10)
def wsX1_pop : List Cond := .code yX1_pop cX1_pop 1 (some (.object "LoopMemo$State")) :: ([.fieldLink RX1 18 "LoopMemo$History" "size" "I", .fieldLink RX1 22 "LoopMemo$History" "next" "I", .methodLink RX1 25 yX1_slot, .instanceMethod yX1_slot, .selects RX1 yX1_slot yX1_slot, .initialized RX1, .code yX1_slot cX1_slot 2 (some (.object "LoopMemo$State")), .fieldLink RX1 13 "LoopMemo$History" "slots" "[LLoopMemo$State;"] ++ wsX10)
def wsX2_holds : List Cond := .code yX2_holds cX2_holds 2 (some .boolean) :: ([.fieldLink RX2 9 "LoopMemo$Memo" "uses" "[I"] ++ wsX20)
def wsX2_uses : List Cond := .code yX2_uses cX2_uses 2 (some .int) :: ([.fieldLink RX2 9 "LoopMemo$Memo" "uses" "[I"] ++ wsX20)
def wsX2_size : List Cond := .code yX2_size cX2_size 3 (some .int) :: ([.fieldLink RX2 9 "LoopMemo$Memo" "uses" "[I"] ++ wsX20)
def wsX2_take : List Cond := .code yX2_take cX2_take 2 none :: ([.fieldLink RX2 25 "LoopMemo$Memo" "looks" "I", .fieldLink RX2 9 "LoopMemo$Memo" "uses" "[I", .fieldLink RX2 18 "LoopMemo$Memo" "firstLooks" "[I", .fieldLink RX2 15 "LoopMemo$Memo" "lastLooks" "[I"] ++ wsX20)
def wsX2_touch : List Cond := .code yX2_touch cX2_touch 2 none :: ([.fieldLink RX2 25 "LoopMemo$Memo" "looks" "I", .fieldLink RX2 9 "LoopMemo$Memo" "uses" "[I", .fieldLink RX2 15 "LoopMemo$Memo" "lastLooks" "[I"] ++ wsX20)
def wsX2_lose : List Cond := .code yX2_lose cX2_lose 2 none :: ([.fieldLink RX2 9 "LoopMemo$Memo" "uses" "[I"] ++ wsX20)
def wsX2_loseAll : List Cond := .code yX2_loseAll cX2_loseAll 3 (some .int) :: ([.fieldLink RX2 9 "LoopMemo$Memo" "uses" "[I", .methodLink RX2 29 yX2_size, .instanceMethod yX2_size, .selects RX2 yX2_size yX2_size, .initialized RX2, .code yX2_size cX2_size 3 (some .int)] ++ wsX20)
def wsX2_rank : List Cond := .code yX2_rank cX2_rank 3 (some .long) :: ([.fieldLink RX2 18 "LoopMemo$Memo" "firstLooks" "[I", .fieldLink RX2 9 "LoopMemo$Memo" "uses" "[I", .fieldLink RX2 15 "LoopMemo$Memo" "lastLooks" "[I"] ++ wsX20)
def wsX2_firstOut : List Cond := .code yX2_firstOut cX2_firstOut 5 (some .int) :: ([.fieldLink RX2 9 "LoopMemo$Memo" "uses" "[I", .methodLink RX2 33 yX2_rank, .instanceMethod yX2_rank, .selects RX2 yX2_rank yX2_rank, .initialized RX2, .code yX2_rank cX2_rank 3 (some .long), .fieldLink RX2 18 "LoopMemo$Memo" "firstLooks" "[I", .fieldLink RX2 15 "LoopMemo$Memo" "lastLooks" "[I"] ++ wsX20)
def wsX2_placeOf : List Cond := .code yX2_placeOf cX2_placeOf 5 (some .int) :: ([.fieldLink RX2 9 "LoopMemo$Memo" "uses" "[I", .methodLink RX2 33 yX2_rank, .instanceMethod yX2_rank, .selects RX2 yX2_rank yX2_rank, .initialized RX2, .code yX2_rank cX2_rank 3 (some .long), .fieldLink RX2 18 "LoopMemo$Memo" "firstLooks" "[I", .fieldLink RX2 15 "LoopMemo$Memo" "lastLooks" "[I"] ++ wsX20)
def wsX3_init : List Cond := .code yX3_init cX3_init 1 none :: ([.methodLink RX3 3 objectInit, .instanceMethod objectInit, .code objectInit ⟨#[0xb1]⟩ 1 none, .arrayClass .int, .fieldLink RX3 9 "LoopMemo$Pad" "codes" "[I"] ++ wsX30)
def wsX3_size : List Cond := .code yX3_size cX3_size 1 (some .int) :: ([.fieldLink RX3 15 "LoopMemo$Pad" "size" "I"] ++ wsX30)
def wsX3_push : List Cond := .code yX3_push cX3_push 2 (some .int) :: ([.fieldLink RX3 15 "LoopMemo$Pad" "size" "I", .fieldLink RX3 9 "LoopMemo$Pad" "codes" "[I"] ++ wsX30)
def wsX3_empty : List Cond := .code yX3_empty cX3_empty 2 (some .int) :: ([.fieldLink RX3 15 "LoopMemo$Pad" "size" "I"] ++ wsX30)
def wsX3_open : List Cond := .code yX3_open cX3_open 2 none :: ([.fieldLink RX3 33 "LoopMemo$Pad" "isReadAsDeeds" "Z", .fieldLink RX3 30 "LoopMemo$Pad" "at" "I"] ++ wsX30)
def wsX3_code : List Cond := .code yX3_code cX3_code 2 (some .int) :: ([.fieldLink RX3 15 "LoopMemo$Pad" "size" "I", .fieldLink RX3 9 "LoopMemo$Pad" "codes" "[I"] ++ wsX30)
def wsX3_takes : List Cond := .code yX3_takes cX3_takes 2 (some .boolean) :: ([.fieldLink RX3 30 "LoopMemo$Pad" "at" "I", .methodLink RX3 59 yX3_code, .instanceMethod yX3_code, .selects RX3 yX3_code yX3_code, .initialized RX3, .code yX3_code cX3_code 2 (some .int), .fieldLink RX3 15 "LoopMemo$Pad" "size" "I", .fieldLink RX3 9 "LoopMemo$Pad" "codes" "[I"] ++ wsX30)
def wsX3_readNumber : List Cond := .code yX3_readNumber cX3_readNumber 5 (some .int) :: ([.fieldLink RX3 30 "LoopMemo$Pad" "at" "I", .methodLink RX3 59 yX3_code, .instanceMethod yX3_code, .selects RX3 yX3_code yX3_code, .initialized RX3, .code yX3_code cX3_code 2 (some .int), .fieldLink RX3 15 "LoopMemo$Pad" "size" "I", .fieldLink RX3 9 "LoopMemo$Pad" "codes" "[I"] ++ wsX30)
def wsX3_readRow : List Cond := .code yX3_readRow cX3_readRow 1 (some .boolean) :: ([.fieldLink RX3 53 "LoopMemo$Pad" "first" "I", .fieldLink RX3 56 "LoopMemo$Pad" "second" "I", .methodLink RX3 63 yX3_readNumber, .instanceMethod yX3_readNumber, .selects RX3 yX3_readNumber yX3_readNumber, .initialized RX3, .code yX3_readNumber cX3_readNumber 5 (some .int), .fieldLink RX3 30 "LoopMemo$Pad" "at" "I", .methodLink RX3 59 yX3_code, .instanceMethod yX3_code, .selects RX3 yX3_code yX3_code, .code yX3_code cX3_code 2 (some .int), .fieldLink RX3 15 "LoopMemo$Pad" "size" "I", .fieldLink RX3 9 "LoopMemo$Pad" "codes" "[I", .methodLink RX3 37 yX3_takes, .instanceMethod yX3_takes, .selects RX3 yX3_takes yX3_takes, .code yX3_takes cX3_takes 2 (some .boolean)] ++ wsX30)
def wsX3_readDeed : List Cond := .code yX3_readDeed cX3_readDeed 1 (some .boolean) :: ([.fieldLink RX3 30 "LoopMemo$Pad" "at" "I", .fieldLink RX3 50 "LoopMemo$Pad" "sign" "I", .fieldLink RX3 53 "LoopMemo$Pad" "first" "I", .fieldLink RX3 41 "LoopMemo$Pad" "start" "I", .methodLink RX3 59 yX3_code, .instanceMethod yX3_code, .selects RX3 yX3_code yX3_code, .initialized RX3, .code yX3_code cX3_code 2 (some .int), .fieldLink RX3 15 "LoopMemo$Pad" "size" "I", .fieldLink RX3 9 "LoopMemo$Pad" "codes" "[I", .methodLink RX3 63 yX3_readNumber, .instanceMethod yX3_readNumber, .selects RX3 yX3_readNumber yX3_readNumber, .code yX3_readNumber cX3_readNumber 5 (some .int), .methodLink RX3 47 yX3_readRow, .instanceMethod yX3_readRow, .selects RX3 yX3_readRow yX3_readRow, .code yX3_readRow cX3_readRow 1 (some .boolean), .fieldLink RX3 56 "LoopMemo$Pad" "second" "I", .methodLink RX3 37 yX3_takes, .instanceMethod yX3_takes, .selects RX3 yX3_takes yX3_takes, .code yX3_takes cX3_takes 2 (some .boolean)] ++ wsX30)
def wsX3_next_r1 : List Cond := [Cond.fieldLink RX3 30 "LoopMemo$Pad" "at" "I", Cond.fieldLink RX3 33 "LoopMemo$Pad" "isReadAsDeeds" "Z", Cond.fieldLink RX3 41 "LoopMemo$Pad" "start" "I", Cond.methodLink RX3 37 yX3_takes, Cond.instanceMethod yX3_takes, Cond.selects RX3 yX3_takes yX3_takes, Cond.initialized RX3, Cond.code yX3_takes cX3_takes 2 (some .boolean), Cond.methodLink RX3 59 yX3_code, Cond.instanceMethod yX3_code, Cond.selects RX3 yX3_code yX3_code, Cond.code yX3_code cX3_code 2 (some .int), Cond.fieldLink RX3 15 "LoopMemo$Pad" "size" "I", Cond.fieldLink RX3 9 "LoopMemo$Pad" "codes" "[I", Cond.methodLink RX3 44 yX3_readDeed, Cond.instanceMethod yX3_readDeed, Cond.selects RX3 yX3_readDeed yX3_readDeed, Cond.code yX3_readDeed cX3_readDeed 1 (some .boolean), Cond.fieldLink RX3 50 "LoopMemo$Pad" "sign" "I", Cond.fieldLink RX3 53 "LoopMemo$Pad" "first" "I", Cond.methodLink RX3 63 yX3_readNumber, Cond.instanceMethod yX3_readNumber, Cond.selects RX3 yX3_readNumber yX3_readNumber, Cond.code yX3_readNumber cX3_readNumber 5 (some .int)]
def wsX3_next_r2 : List Cond := [Cond.methodLink RX3 47 yX3_readRow, Cond.instanceMethod yX3_readRow, Cond.selects RX3 yX3_readRow yX3_readRow, Cond.code yX3_readRow cX3_readRow 1 (some .boolean), Cond.fieldLink RX3 56 "LoopMemo$Pad" "second" "I"]
def wsX3_next : List Cond := .code yX3_next cX3_next 1 (some .boolean) :: ((wsX3_next_r1 ++ wsX3_next_r2) ++ wsX30)
def wsX3_findFault_r1 : List Cond := [Cond.fieldLink RX3 23 "LoopMemo$Pad" "items" "I", Cond.fieldLink RX3 30 "LoopMemo$Pad" "at" "I", Cond.fieldLink RX3 15 "LoopMemo$Pad" "size" "I", Cond.methodLink RX3 19 yX3_open, Cond.instanceMethod yX3_open, Cond.selects RX3 yX3_open yX3_open, Cond.initialized RX3, Cond.code yX3_open cX3_open 2 none, Cond.fieldLink RX3 33 "LoopMemo$Pad" "isReadAsDeeds" "Z", Cond.methodLink RX3 26 yX3_next, Cond.instanceMethod yX3_next, Cond.selects RX3 yX3_next yX3_next, Cond.code yX3_next cX3_next 1 (some .boolean), Cond.fieldLink RX3 41 "LoopMemo$Pad" "start" "I", Cond.methodLink RX3 37 yX3_takes, Cond.instanceMethod yX3_takes, Cond.selects RX3 yX3_takes yX3_takes, Cond.code yX3_takes cX3_takes 2 (some .boolean), Cond.methodLink RX3 59 yX3_code, Cond.instanceMethod yX3_code, Cond.selects RX3 yX3_code yX3_code, Cond.code yX3_code cX3_code 2 (some .int), Cond.fieldLink RX3 9 "LoopMemo$Pad" "codes" "[I", Cond.methodLink RX3 44 yX3_readDeed]
def wsX3_findFault_r2 : List Cond := [Cond.instanceMethod yX3_readDeed, Cond.selects RX3 yX3_readDeed yX3_readDeed, Cond.code yX3_readDeed cX3_readDeed 1 (some .boolean), Cond.fieldLink RX3 50 "LoopMemo$Pad" "sign" "I", Cond.fieldLink RX3 53 "LoopMemo$Pad" "first" "I", Cond.methodLink RX3 63 yX3_readNumber, Cond.instanceMethod yX3_readNumber, Cond.selects RX3 yX3_readNumber yX3_readNumber, Cond.code yX3_readNumber cX3_readNumber 5 (some .int), Cond.methodLink RX3 47 yX3_readRow, Cond.instanceMethod yX3_readRow, Cond.selects RX3 yX3_readRow yX3_readRow, Cond.code yX3_readRow cX3_readRow 1 (some .boolean), Cond.fieldLink RX3 56 "LoopMemo$Pad" "second" "I"]
def wsX3_findFault : List Cond := .code yX3_findFault cX3_findFault 2 (some .int) :: ((wsX3_findFault_r1 ++ wsX3_findFault_r2) ++ wsX30)
def wsX3_items : List Cond := .code yX3_items cX3_items 1 (some .int) :: ([.fieldLink RX3 23 "LoopMemo$Pad" "items" "I"] ++ wsX30)
def wsX3_start : List Cond := .code yX3_start cX3_start 1 (some .int) :: ([.fieldLink RX3 41 "LoopMemo$Pad" "start" "I"] ++ wsX30)
def wsX3_sign : List Cond := .code yX3_sign cX3_sign 1 (some .int) :: ([.fieldLink RX3 50 "LoopMemo$Pad" "sign" "I"] ++ wsX30)
def wsX3_first : List Cond := .code yX3_first cX3_first 1 (some .int) :: ([.fieldLink RX3 53 "LoopMemo$Pad" "first" "I"] ++ wsX30)
def wsX3_second : List Cond := .code yX3_second cX3_second 1 (some .int) :: ([.fieldLink RX3 56 "LoopMemo$Pad" "second" "I"] ++ wsX30)
def wsX4_table : List Cond := .code yX4_table cX4_table 2 (some (.object "LoopMemo$Table")) :: ([.fieldLink RX4 18 "LoopMemo$State" "inner" "LLoopMemo$Table;", .fieldLink RX4 12 "LoopMemo$State" "outer" "LLoopMemo$Table;"] ++ wsX40)
def wsX4_answers : List Cond := .code yX4_answers cX4_answers 1 (some (.object "LoopMemo$Answers")) :: ([.fieldLink RX4 24 "LoopMemo$State" "answers" "LLoopMemo$Answers;"] ++ wsX40)
def wsX4_memo : List Cond := .code yX4_memo cX4_memo 1 (some (.object "LoopMemo$Memo")) :: ([.fieldLink RX4 31 "LoopMemo$State" "memo" "LLoopMemo$Memo;"] ++ wsX40)
def wsX4_setting : List Cond := .code yX4_setting cX4_setting 2 (some .int) :: ([.fieldLink RX4 44 "LoopMemo$State" "settings" "[I"] ++ wsX40)
def wsX4_tally : List Cond := .code yX4_tally cX4_tally 2 (some .int) :: ([.fieldLink RX4 47 "LoopMemo$State" "tallies" "[I"] ++ wsX40)
def wsX4_place : List Cond := .code yX4_place cX4_place 1 (some .int) :: ([.fieldLink RX4 64 "LoopMemo$State" "place" "I"] ++ wsX40)
def wsX4_totalSoFar : List Cond := .code yX4_totalSoFar cX4_totalSoFar 1 (some .int) :: ([.fieldLink RX4 68 "LoopMemo$State" "total" "I"] ++ wsX40)
def wsX4_isDone : List Cond := .code yX4_isDone cX4_isDone 2 (some .boolean) :: ([.fieldLink RX4 64 "LoopMemo$State" "place" "I"] ++ wsX40)
def wsX4_isInBand : List Cond := .code yX4_isInBand cX4_isInBand 2 (some .boolean) :: ([.fieldLink RX4 44 "LoopMemo$State" "settings" "[I"] ++ wsX40)
def wsX4_isInRememberedAnswer_r1 : List Cond := [Cond.fieldLink RX4 31 "LoopMemo$State" "memo" "LLoopMemo$Memo;", Cond.fieldLink RX4 18 "LoopMemo$State" "inner" "LLoopMemo$Table;", Cond.methodLink RX4 71 yX5_key, Cond.instanceMethod yX5_key, Cond.selects RX5 yX5_key yX5_key, Cond.initialized RX5, Cond.code yX5_key cX5_key 2 (some .int), Cond.fieldLink RX5 9 "LoopMemo$Table" "keys" "[I", Cond.methodLink RX4 75 yX2_holds, Cond.instanceMethod yX2_holds, Cond.selects RX2 yX2_holds yX2_holds, Cond.initialized RX2, Cond.code yX2_holds cX2_holds 2 (some .boolean), Cond.fieldLink RX2 9 "LoopMemo$Memo" "uses" "[I", Cond.methodLink RX4 79 yX5_value, Cond.instanceMethod yX5_value, Cond.selects RX5 yX5_value yX5_value, Cond.code yX5_value cX5_value 2 (some .int), Cond.fieldLink RX5 15 "LoopMemo$Table" "values" "[I", Cond.methodLink RX4 82 yX4_isInBand, Cond.instanceMethod yX4_isInBand, Cond.selects RX4 yX4_isInBand yX4_isInBand, Cond.initialized RX4, Cond.code yX4_isInBand cX4_isInBand 2 (some .boolean)]
def wsX4_isInRememberedAnswer_r2 : List Cond := [Cond.fieldLink RX4 44 "LoopMemo$State" "settings" "[I"]
def wsX4_isInRememberedAnswer : List Cond := .code yX4_isInRememberedAnswer cX4_isInRememberedAnswer 2 (some .boolean) :: ((wsX4_isInRememberedAnswer_r1 ++ wsX4_isInRememberedAnswer_r2) ++ wsX40 ++ wsX50 ++ wsX20)
def wsX6_isWithin : List Cond := .code yX6_isWithin cX6_isWithin 2 (some .boolean) :: ([])
def wsX6_isKey : List Cond := .code yX6_isKey cX6_isKey 1 (some .boolean) :: ([.methodLink RX6 76 yX6_isWithin, .static yX6_isWithin, .initialized RX6, .code yX6_isWithin cX6_isWithin 2 (some .boolean)])
def wsX6_isRow : List Cond := .code yX6_isRow cX6_isRow 2 (some .boolean) :: ([.methodLink RX6 147 yX6_isKey, .static yX6_isKey, .initialized RX6, .code yX6_isKey cX6_isKey 1 (some .boolean), .methodLink RX6 76 yX6_isWithin, .static yX6_isWithin, .code yX6_isWithin cX6_isWithin 2 (some .boolean)])
def wsX5_put : List Cond := .code yX5_put cX5_put 4 none :: ([.fieldLink RX5 9 "LoopMemo$Table" "keys" "[I", .fieldLink RX5 15 "LoopMemo$Table" "values" "[I"] ++ wsX50)
def wsX5_push : List Cond := .code yX5_push cX5_push 3 none :: ([.fieldLink RX5 22 "LoopMemo$Table" "size" "I", .methodLink RX5 26 yX5_put, .instanceMethod yX5_put, .selects RX5 yX5_put yX5_put, .initialized RX5, .code yX5_put cX5_put 4 none, .fieldLink RX5 9 "LoopMemo$Table" "keys" "[I", .fieldLink RX5 15 "LoopMemo$Table" "values" "[I"] ++ wsX50)
def wsX4_findAnswers_r1 : List Cond := [Cond.fieldLink RX4 24 "LoopMemo$State" "answers" "LLoopMemo$Answers;", Cond.fieldLink RX4 18 "LoopMemo$State" "inner" "LLoopMemo$Table;", Cond.fieldLink RX4 44 "LoopMemo$State" "settings" "[I", Cond.methodLink RX4 162 yX0_find, Cond.instanceMethod yX0_find, Cond.selects RX0 yX0_find yX0_find, Cond.initialized RX0, Cond.code yX0_find cX0_find 7 none, Cond.fieldLink RX0 9 "LoopMemo$Answers" "rows" "[I", Cond.fieldLink RX0 15 "LoopMemo$Answers" "sums" "[I", Cond.fieldLink RX0 18 "LoopMemo$Answers" "firstRows" "[I", Cond.methodLink RX0 25 yX5_size, Cond.instanceMethod yX5_size, Cond.selects RX5 yX5_size yX5_size, Cond.initialized RX5, Cond.code yX5_size cX5_size 1 (some .int), Cond.fieldLink RX5 22 "LoopMemo$Table" "size" "I", Cond.methodLink RX0 31 yX5_value, Cond.instanceMethod yX5_value, Cond.selects RX5 yX5_value yX5_value, Cond.code yX5_value cX5_value 2 (some .int), Cond.fieldLink RX5 15 "LoopMemo$Table" "values" "[I", Cond.methodLink RX0 35 yX5_key, Cond.instanceMethod yX5_key]
def wsX4_findAnswers_r2 : List Cond := [Cond.selects RX5 yX5_key yX5_key, Cond.code yX5_key cX5_key 2 (some .int), Cond.fieldLink RX5 9 "LoopMemo$Table" "keys" "[I"]
def wsX4_findAnswers : List Cond := .code yX4_findAnswers cX4_findAnswers 1 none :: ((wsX4_findAnswers_r1 ++ wsX4_findAnswers_r2) ++ wsX40 ++ wsX00 ++ wsX50)
def wsX4_throwAllOut : List Cond := .code yX4_throwAllOut cX4_throwAllOut 2 (some .int) :: ([.fieldLink RX4 31 "LoopMemo$State" "memo" "LLoopMemo$Memo;", .fieldLink RX4 47 "LoopMemo$State" "tallies" "[I", .methodLink RX4 125 yX2_loseAll, .instanceMethod yX2_loseAll, .selects RX2 yX2_loseAll yX2_loseAll, .initialized RX2, .code yX2_loseAll cX2_loseAll 3 (some .int), .fieldLink RX2 9 "LoopMemo$Memo" "uses" "[I", .methodLink RX2 29 yX2_size, .instanceMethod yX2_size, .selects RX2 yX2_size yX2_size, .code yX2_size cX2_size 3 (some .int)] ++ wsX40 ++ wsX20)
def wsX4_keepAnswerTrue : List Cond := .code yX4_keepAnswerTrue cX4_keepAnswerTrue 2 none :: ([.fieldLink RX4 31 "LoopMemo$State" "memo" "LLoopMemo$Memo;", .fieldLink RX4 44 "LoopMemo$State" "settings" "[I", .fieldLink RX4 47 "LoopMemo$State" "tallies" "[I", .methodLink RX4 75 yX2_holds, .instanceMethod yX2_holds, .selects RX2 yX2_holds yX2_holds, .initialized RX2, .code yX2_holds cX2_holds 2 (some .boolean), .fieldLink RX2 9 "LoopMemo$Memo" "uses" "[I", .methodLink RX4 156 yX2_lose, .instanceMethod yX2_lose, .selects RX2 yX2_lose yX2_lose, .code yX2_lose cX2_lose 2 none] ++ wsX40 ++ wsX20)
def wsX4_keepTrue_r1 : List Cond := [Cond.fieldLink RX4 44 "LoopMemo$State" "settings" "[I", Cond.methodLink RX4 134 yX4_findAnswers, Cond.instanceMethod yX4_findAnswers, Cond.selects RX4 yX4_findAnswers yX4_findAnswers, Cond.initialized RX4, Cond.code yX4_findAnswers cX4_findAnswers 1 none, Cond.fieldLink RX4 24 "LoopMemo$State" "answers" "LLoopMemo$Answers;", Cond.fieldLink RX4 18 "LoopMemo$State" "inner" "LLoopMemo$Table;", Cond.methodLink RX4 162 yX0_find, Cond.instanceMethod yX0_find, Cond.selects RX0 yX0_find yX0_find, Cond.initialized RX0, Cond.code yX0_find cX0_find 7 none, Cond.fieldLink RX0 9 "LoopMemo$Answers" "rows" "[I", Cond.fieldLink RX0 15 "LoopMemo$Answers" "sums" "[I", Cond.fieldLink RX0 18 "LoopMemo$Answers" "firstRows" "[I", Cond.methodLink RX0 25 yX5_size, Cond.instanceMethod yX5_size, Cond.selects RX5 yX5_size yX5_size, Cond.initialized RX5, Cond.code yX5_size cX5_size 1 (some .int), Cond.fieldLink RX5 22 "LoopMemo$Table" "size" "I", Cond.methodLink RX0 31 yX5_value, Cond.instanceMethod yX5_value]
def wsX4_keepTrue_r2 : List Cond := [Cond.selects RX5 yX5_value yX5_value, Cond.code yX5_value cX5_value 2 (some .int), Cond.fieldLink RX5 15 "LoopMemo$Table" "values" "[I", Cond.methodLink RX0 35 yX5_key, Cond.instanceMethod yX5_key, Cond.selects RX5 yX5_key yX5_key, Cond.code yX5_key cX5_key 2 (some .int), Cond.fieldLink RX5 9 "LoopMemo$Table" "keys" "[I", Cond.methodLink RX4 137 yX4_throwAllOut, Cond.instanceMethod yX4_throwAllOut, Cond.selects RX4 yX4_throwAllOut yX4_throwAllOut, Cond.code yX4_throwAllOut cX4_throwAllOut 2 (some .int), Cond.fieldLink RX4 31 "LoopMemo$State" "memo" "LLoopMemo$Memo;", Cond.fieldLink RX4 47 "LoopMemo$State" "tallies" "[I", Cond.methodLink RX4 125 yX2_loseAll, Cond.instanceMethod yX2_loseAll, Cond.selects RX2 yX2_loseAll yX2_loseAll, Cond.initialized RX2, Cond.code yX2_loseAll cX2_loseAll 3 (some .int), Cond.fieldLink RX2 9 "LoopMemo$Memo" "uses" "[I", Cond.methodLink RX2 29 yX2_size, Cond.instanceMethod yX2_size, Cond.selects RX2 yX2_size yX2_size, Cond.code yX2_size cX2_size 3 (some .int)]
def wsX4_keepTrue_r3 : List Cond := [Cond.methodLink RX4 159 yX4_keepAnswerTrue, Cond.instanceMethod yX4_keepAnswerTrue, Cond.selects RX4 yX4_keepAnswerTrue yX4_keepAnswerTrue, Cond.code yX4_keepAnswerTrue cX4_keepAnswerTrue 2 none, Cond.methodLink RX4 75 yX2_holds, Cond.instanceMethod yX2_holds, Cond.selects RX2 yX2_holds yX2_holds, Cond.code yX2_holds cX2_holds 2 (some .boolean), Cond.methodLink RX4 156 yX2_lose, Cond.instanceMethod yX2_lose, Cond.selects RX2 yX2_lose yX2_lose, Cond.code yX2_lose cX2_lose 2 none]
def wsX4_keepTrue : List Cond := .code yX4_keepTrue cX4_keepTrue 3 none :: ((wsX4_keepTrue_r1 ++ (wsX4_keepTrue_r2 ++ wsX4_keepTrue_r3)) ++ wsX40 ++ wsX00 ++ wsX50 ++ wsX20)
def wsX4_insertRow_r1 : List Cond := [Cond.static yX6_isRow, Cond.initialized RX6, Cond.code yX6_isRow cX6_isRow 2 (some .boolean), Cond.methodLink RX6 147 yX6_isKey, Cond.static yX6_isKey, Cond.code yX6_isKey cX6_isKey 1 (some .boolean), Cond.methodLink RX6 76 yX6_isWithin, Cond.static yX6_isWithin, Cond.code yX6_isWithin cX6_isWithin 2 (some .boolean), Cond.methodLink RX4 89 yX4_table, Cond.instanceMethod yX4_table, Cond.selects RX4 yX4_table yX4_table, Cond.initialized RX4, Cond.code yX4_table cX4_table 2 (some (.object "LoopMemo$Table")), Cond.fieldLink RX4 18 "LoopMemo$State" "inner" "LLoopMemo$Table;", Cond.fieldLink RX4 12 "LoopMemo$State" "outer" "LLoopMemo$Table;", Cond.methodLink RX4 93 yX5_size, Cond.instanceMethod yX5_size, Cond.selects RX5 yX5_size yX5_size, Cond.initialized RX5, Cond.code yX5_size cX5_size 1 (some .int), Cond.fieldLink RX5 22 "LoopMemo$Table" "size" "I", Cond.methodLink RX4 97 yX5_push, Cond.instanceMethod yX5_push]
def wsX4_insertRow_r2 : List Cond := [Cond.selects RX5 yX5_push yX5_push, Cond.code yX5_push cX5_push 3 none, Cond.methodLink RX5 26 yX5_put, Cond.instanceMethod yX5_put, Cond.selects RX5 yX5_put yX5_put, Cond.code yX5_put cX5_put 4 none, Cond.fieldLink RX5 9 "LoopMemo$Table" "keys" "[I", Cond.fieldLink RX5 15 "LoopMemo$Table" "values" "[I", Cond.methodLink RX4 101 yX4_keepTrue, Cond.instanceMethod yX4_keepTrue, Cond.selects RX4 yX4_keepTrue yX4_keepTrue, Cond.code yX4_keepTrue cX4_keepTrue 3 none, Cond.fieldLink RX4 44 "LoopMemo$State" "settings" "[I", Cond.methodLink RX4 134 yX4_findAnswers, Cond.instanceMethod yX4_findAnswers, Cond.selects RX4 yX4_findAnswers yX4_findAnswers, Cond.code yX4_findAnswers cX4_findAnswers 1 none, Cond.fieldLink RX4 24 "LoopMemo$State" "answers" "LLoopMemo$Answers;", Cond.methodLink RX4 162 yX0_find, Cond.instanceMethod yX0_find, Cond.selects RX0 yX0_find yX0_find, Cond.initialized RX0, Cond.code yX0_find cX0_find 7 none, Cond.fieldLink RX0 9 "LoopMemo$Answers" "rows" "[I"]
def wsX4_insertRow_r3 : List Cond := [Cond.fieldLink RX0 15 "LoopMemo$Answers" "sums" "[I", Cond.fieldLink RX0 18 "LoopMemo$Answers" "firstRows" "[I", Cond.methodLink RX0 25 yX5_size, Cond.methodLink RX0 31 yX5_value, Cond.instanceMethod yX5_value, Cond.selects RX5 yX5_value yX5_value, Cond.code yX5_value cX5_value 2 (some .int), Cond.methodLink RX0 35 yX5_key, Cond.instanceMethod yX5_key, Cond.selects RX5 yX5_key yX5_key, Cond.code yX5_key cX5_key 2 (some .int), Cond.methodLink RX4 137 yX4_throwAllOut, Cond.instanceMethod yX4_throwAllOut, Cond.selects RX4 yX4_throwAllOut yX4_throwAllOut, Cond.code yX4_throwAllOut cX4_throwAllOut 2 (some .int), Cond.fieldLink RX4 31 "LoopMemo$State" "memo" "LLoopMemo$Memo;", Cond.fieldLink RX4 47 "LoopMemo$State" "tallies" "[I", Cond.methodLink RX4 125 yX2_loseAll, Cond.instanceMethod yX2_loseAll, Cond.selects RX2 yX2_loseAll yX2_loseAll, Cond.initialized RX2, Cond.code yX2_loseAll cX2_loseAll 3 (some .int), Cond.fieldLink RX2 9 "LoopMemo$Memo" "uses" "[I", Cond.methodLink RX2 29 yX2_size]
def wsX4_insertRow_r4 : List Cond := [Cond.instanceMethod yX2_size, Cond.selects RX2 yX2_size yX2_size, Cond.code yX2_size cX2_size 3 (some .int), Cond.methodLink RX4 159 yX4_keepAnswerTrue, Cond.instanceMethod yX4_keepAnswerTrue, Cond.selects RX4 yX4_keepAnswerTrue yX4_keepAnswerTrue, Cond.code yX4_keepAnswerTrue cX4_keepAnswerTrue 2 none, Cond.methodLink RX4 75 yX2_holds, Cond.instanceMethod yX2_holds, Cond.selects RX2 yX2_holds yX2_holds, Cond.code yX2_holds cX2_holds 2 (some .boolean), Cond.methodLink RX4 156 yX2_lose, Cond.instanceMethod yX2_lose, Cond.selects RX2 yX2_lose yX2_lose, Cond.code yX2_lose cX2_lose 2 none]
def wsX4_insertRow : List Cond := .code yX4_insertRow cX4_insertRow 5 (some .int) :: ((wsX4_insertRow_r1 ++ (wsX4_insertRow_r2 ++ (wsX4_insertRow_r3 ++ wsX4_insertRow_r4))) ++ wsX40 ++ wsX50 ++ wsX00 ++ wsX20)
def wsX5_has : List Cond := .code yX5_has cX5_has 2 (some .boolean) :: ([.fieldLink RX5 22 "LoopMemo$Table" "size" "I"] ++ wsX50)
def wsX5_takeOut : List Cond := .code yX5_takeOut cX5_takeOut 3 none :: ([.fieldLink RX5 22 "LoopMemo$Table" "size" "I", .methodLink RX5 30 yX5_has, .instanceMethod yX5_has, .selects RX5 yX5_has yX5_has, .initialized RX5, .code yX5_has cX5_has 2 (some .boolean), .methodLink RX5 34 yX5_key, .instanceMethod yX5_key, .selects RX5 yX5_key yX5_key, .code yX5_key cX5_key 2 (some .int), .fieldLink RX5 9 "LoopMemo$Table" "keys" "[I", .methodLink RX5 38 yX5_value, .instanceMethod yX5_value, .selects RX5 yX5_value yX5_value, .code yX5_value cX5_value 2 (some .int), .fieldLink RX5 15 "LoopMemo$Table" "values" "[I", .methodLink RX5 26 yX5_put, .instanceMethod yX5_put, .selects RX5 yX5_put yX5_put, .code yX5_put cX5_put 4 none] ++ wsX50)
def wsX4_removeRow_r1 : List Cond := [Cond.fieldLink RX4 64 "LoopMemo$State" "place" "I", Cond.methodLink RX4 89 yX4_table, Cond.instanceMethod yX4_table, Cond.selects RX4 yX4_table yX4_table, Cond.initialized RX4, Cond.code yX4_table cX4_table 2 (some (.object "LoopMemo$Table")), Cond.fieldLink RX4 18 "LoopMemo$State" "inner" "LLoopMemo$Table;", Cond.fieldLink RX4 12 "LoopMemo$State" "outer" "LLoopMemo$Table;", Cond.methodLink RX4 104 yX5_has, Cond.instanceMethod yX5_has, Cond.selects RX5 yX5_has yX5_has, Cond.initialized RX5, Cond.code yX5_has cX5_has 2 (some .boolean), Cond.fieldLink RX5 22 "LoopMemo$Table" "size" "I", Cond.methodLink RX4 71 yX5_key, Cond.instanceMethod yX5_key, Cond.selects RX5 yX5_key yX5_key, Cond.code yX5_key cX5_key 2 (some .int), Cond.fieldLink RX5 9 "LoopMemo$Table" "keys" "[I", Cond.methodLink RX4 107 yX5_takeOut, Cond.instanceMethod yX5_takeOut, Cond.selects RX5 yX5_takeOut yX5_takeOut, Cond.code yX5_takeOut cX5_takeOut 3 none, Cond.methodLink RX5 30 yX5_has]
def wsX4_removeRow_r2 : List Cond := [Cond.methodLink RX5 34 yX5_key, Cond.methodLink RX5 38 yX5_value, Cond.instanceMethod yX5_value, Cond.selects RX5 yX5_value yX5_value, Cond.code yX5_value cX5_value 2 (some .int), Cond.fieldLink RX5 15 "LoopMemo$Table" "values" "[I", Cond.methodLink RX5 26 yX5_put, Cond.instanceMethod yX5_put, Cond.selects RX5 yX5_put yX5_put, Cond.code yX5_put cX5_put 4 none, Cond.methodLink RX4 101 yX4_keepTrue, Cond.instanceMethod yX4_keepTrue, Cond.selects RX4 yX4_keepTrue yX4_keepTrue, Cond.code yX4_keepTrue cX4_keepTrue 3 none, Cond.fieldLink RX4 44 "LoopMemo$State" "settings" "[I", Cond.methodLink RX4 134 yX4_findAnswers, Cond.instanceMethod yX4_findAnswers, Cond.selects RX4 yX4_findAnswers yX4_findAnswers, Cond.code yX4_findAnswers cX4_findAnswers 1 none, Cond.fieldLink RX4 24 "LoopMemo$State" "answers" "LLoopMemo$Answers;", Cond.methodLink RX4 162 yX0_find, Cond.instanceMethod yX0_find, Cond.selects RX0 yX0_find yX0_find, Cond.initialized RX0]
def wsX4_removeRow_r3 : List Cond := [Cond.code yX0_find cX0_find 7 none, Cond.fieldLink RX0 9 "LoopMemo$Answers" "rows" "[I", Cond.fieldLink RX0 15 "LoopMemo$Answers" "sums" "[I", Cond.fieldLink RX0 18 "LoopMemo$Answers" "firstRows" "[I", Cond.methodLink RX0 25 yX5_size, Cond.instanceMethod yX5_size, Cond.selects RX5 yX5_size yX5_size, Cond.code yX5_size cX5_size 1 (some .int), Cond.methodLink RX0 31 yX5_value, Cond.methodLink RX0 35 yX5_key, Cond.methodLink RX4 137 yX4_throwAllOut, Cond.instanceMethod yX4_throwAllOut, Cond.selects RX4 yX4_throwAllOut yX4_throwAllOut, Cond.code yX4_throwAllOut cX4_throwAllOut 2 (some .int), Cond.fieldLink RX4 31 "LoopMemo$State" "memo" "LLoopMemo$Memo;", Cond.fieldLink RX4 47 "LoopMemo$State" "tallies" "[I", Cond.methodLink RX4 125 yX2_loseAll, Cond.instanceMethod yX2_loseAll, Cond.selects RX2 yX2_loseAll yX2_loseAll, Cond.initialized RX2, Cond.code yX2_loseAll cX2_loseAll 3 (some .int), Cond.fieldLink RX2 9 "LoopMemo$Memo" "uses" "[I", Cond.methodLink RX2 29 yX2_size, Cond.instanceMethod yX2_size]
def wsX4_removeRow_r4 : List Cond := [Cond.selects RX2 yX2_size yX2_size, Cond.code yX2_size cX2_size 3 (some .int), Cond.methodLink RX4 159 yX4_keepAnswerTrue, Cond.instanceMethod yX4_keepAnswerTrue, Cond.selects RX4 yX4_keepAnswerTrue yX4_keepAnswerTrue, Cond.code yX4_keepAnswerTrue cX4_keepAnswerTrue 2 none, Cond.methodLink RX4 75 yX2_holds, Cond.instanceMethod yX2_holds, Cond.selects RX2 yX2_holds yX2_holds, Cond.code yX2_holds cX2_holds 2 (some .boolean), Cond.methodLink RX4 156 yX2_lose, Cond.instanceMethod yX2_lose, Cond.selects RX2 yX2_lose yX2_lose, Cond.code yX2_lose cX2_lose 2 none, Cond.methodLink RX4 111 yX4_isDone, Cond.instanceMethod yX4_isDone, Cond.selects RX4 yX4_isDone yX4_isDone, Cond.code yX4_isDone cX4_isDone 2 (some .boolean), Cond.methodLink RX4 93 yX5_size]
def wsX4_removeRow : List Cond := .code yX4_removeRow cX4_removeRow 5 (some .int) :: ((wsX4_removeRow_r1 ++ (wsX4_removeRow_r2 ++ (wsX4_removeRow_r3 ++ wsX4_removeRow_r4))) ++ wsX40 ++ wsX50 ++ wsX00 ++ wsX20)
def wsX4_rewriteRow_r1 : List Cond := [Cond.fieldLink RX4 18 "LoopMemo$State" "inner" "LLoopMemo$Table;", Cond.fieldLink RX4 31 "LoopMemo$State" "memo" "LLoopMemo$Memo;", Cond.methodLink RX4 104 yX5_has, Cond.instanceMethod yX5_has, Cond.selects RX5 yX5_has yX5_has, Cond.initialized RX5, Cond.code yX5_has cX5_has 2 (some .boolean), Cond.fieldLink RX5 22 "LoopMemo$Table" "size" "I", Cond.static yX6_isRow, Cond.initialized RX6, Cond.code yX6_isRow cX6_isRow 2 (some .boolean), Cond.methodLink RX6 147 yX6_isKey, Cond.static yX6_isKey, Cond.code yX6_isKey cX6_isKey 1 (some .boolean), Cond.methodLink RX6 76 yX6_isWithin, Cond.static yX6_isWithin, Cond.code yX6_isWithin cX6_isWithin 2 (some .boolean), Cond.methodLink RX4 71 yX5_key, Cond.instanceMethod yX5_key, Cond.selects RX5 yX5_key yX5_key, Cond.code yX5_key cX5_key 2 (some .int), Cond.fieldLink RX5 9 "LoopMemo$Table" "keys" "[I", Cond.methodLink RX4 114 yX5_put, Cond.instanceMethod yX5_put]
def wsX4_rewriteRow_r2 : List Cond := [Cond.selects RX5 yX5_put yX5_put, Cond.code yX5_put cX5_put 4 none, Cond.fieldLink RX5 15 "LoopMemo$Table" "values" "[I", Cond.methodLink RX4 101 yX4_keepTrue, Cond.instanceMethod yX4_keepTrue, Cond.selects RX4 yX4_keepTrue yX4_keepTrue, Cond.initialized RX4, Cond.code yX4_keepTrue cX4_keepTrue 3 none, Cond.fieldLink RX4 44 "LoopMemo$State" "settings" "[I", Cond.methodLink RX4 134 yX4_findAnswers, Cond.instanceMethod yX4_findAnswers, Cond.selects RX4 yX4_findAnswers yX4_findAnswers, Cond.code yX4_findAnswers cX4_findAnswers 1 none, Cond.fieldLink RX4 24 "LoopMemo$State" "answers" "LLoopMemo$Answers;", Cond.methodLink RX4 162 yX0_find, Cond.instanceMethod yX0_find, Cond.selects RX0 yX0_find yX0_find, Cond.initialized RX0, Cond.code yX0_find cX0_find 7 none, Cond.fieldLink RX0 9 "LoopMemo$Answers" "rows" "[I", Cond.fieldLink RX0 15 "LoopMemo$Answers" "sums" "[I", Cond.fieldLink RX0 18 "LoopMemo$Answers" "firstRows" "[I", Cond.methodLink RX0 25 yX5_size, Cond.instanceMethod yX5_size]
def wsX4_rewriteRow_r3 : List Cond := [Cond.selects RX5 yX5_size yX5_size, Cond.code yX5_size cX5_size 1 (some .int), Cond.methodLink RX0 31 yX5_value, Cond.instanceMethod yX5_value, Cond.selects RX5 yX5_value yX5_value, Cond.code yX5_value cX5_value 2 (some .int), Cond.methodLink RX0 35 yX5_key, Cond.methodLink RX4 137 yX4_throwAllOut, Cond.instanceMethod yX4_throwAllOut, Cond.selects RX4 yX4_throwAllOut yX4_throwAllOut, Cond.code yX4_throwAllOut cX4_throwAllOut 2 (some .int), Cond.fieldLink RX4 47 "LoopMemo$State" "tallies" "[I", Cond.methodLink RX4 125 yX2_loseAll, Cond.instanceMethod yX2_loseAll, Cond.selects RX2 yX2_loseAll yX2_loseAll, Cond.initialized RX2, Cond.code yX2_loseAll cX2_loseAll 3 (some .int), Cond.fieldLink RX2 9 "LoopMemo$Memo" "uses" "[I", Cond.methodLink RX2 29 yX2_size, Cond.instanceMethod yX2_size, Cond.selects RX2 yX2_size yX2_size, Cond.code yX2_size cX2_size 3 (some .int), Cond.methodLink RX4 159 yX4_keepAnswerTrue, Cond.instanceMethod yX4_keepAnswerTrue]
def wsX4_rewriteRow_r4 : List Cond := [Cond.selects RX4 yX4_keepAnswerTrue yX4_keepAnswerTrue, Cond.code yX4_keepAnswerTrue cX4_keepAnswerTrue 2 none, Cond.methodLink RX4 75 yX2_holds, Cond.instanceMethod yX2_holds, Cond.selects RX2 yX2_holds yX2_holds, Cond.code yX2_holds cX2_holds 2 (some .boolean), Cond.methodLink RX4 156 yX2_lose, Cond.instanceMethod yX2_lose, Cond.selects RX2 yX2_lose yX2_lose, Cond.code yX2_lose cX2_lose 2 none, Cond.methodLink RX4 118 yX2_size]
def wsX4_rewriteRow : List Cond := .code yX4_rewriteRow cX4_rewriteRow 5 (some .int) :: ((wsX4_rewriteRow_r1 ++ (wsX4_rewriteRow_r2 ++ (wsX4_rewriteRow_r3 ++ wsX4_rewriteRow_r4))) ++ wsX40 ++ wsX50 ++ wsX00 ++ wsX20)
def wsX4_weightTogether : List Cond := .code yX4_weightTogether cX4_weightTogether 3 (some .int) :: ([.fieldLink RX4 31 "LoopMemo$State" "memo" "LLoopMemo$Memo;", .fieldLink RX4 24 "LoopMemo$State" "answers" "LLoopMemo$Answers;", .methodLink RX4 75 yX2_holds, .instanceMethod yX2_holds, .selects RX2 yX2_holds yX2_holds, .initialized RX2, .code yX2_holds cX2_holds 2 (some .boolean), .fieldLink RX2 9 "LoopMemo$Memo" "uses" "[I", .methodLink RX4 140 yX0_weight, .instanceMethod yX0_weight, .selects RX0 yX0_weight yX0_weight, .initialized RX0, .code yX0_weight cX0_weight 2 (some .int), .fieldLink RX0 9 "LoopMemo$Answers" "rows" "[I"] ++ wsX40 ++ wsX20 ++ wsX00)
def wsX4_makeRoom_r1 : List Cond := [Cond.fieldLink RX4 44 "LoopMemo$State" "settings" "[I", Cond.fieldLink RX4 31 "LoopMemo$State" "memo" "LLoopMemo$Memo;", Cond.fieldLink RX4 24 "LoopMemo$State" "answers" "LLoopMemo$Answers;", Cond.fieldLink RX4 47 "LoopMemo$State" "tallies" "[I", Cond.methodLink RX4 149 yX4_weightTogether, Cond.instanceMethod yX4_weightTogether, Cond.selects RX4 yX4_weightTogether yX4_weightTogether, Cond.initialized RX4, Cond.code yX4_weightTogether cX4_weightTogether 3 (some .int), Cond.methodLink RX4 75 yX2_holds, Cond.instanceMethod yX2_holds, Cond.selects RX2 yX2_holds yX2_holds, Cond.initialized RX2, Cond.code yX2_holds cX2_holds 2 (some .boolean), Cond.fieldLink RX2 9 "LoopMemo$Memo" "uses" "[I", Cond.methodLink RX4 140 yX0_weight, Cond.instanceMethod yX0_weight, Cond.selects RX0 yX0_weight yX0_weight, Cond.initialized RX0, Cond.code yX0_weight cX0_weight 2 (some .int), Cond.fieldLink RX0 9 "LoopMemo$Answers" "rows" "[I", Cond.methodLink RX4 152 yX2_firstOut, Cond.instanceMethod yX2_firstOut, Cond.selects RX2 yX2_firstOut yX2_firstOut]
def wsX4_makeRoom_r2 : List Cond := [Cond.code yX2_firstOut cX2_firstOut 5 (some .int), Cond.methodLink RX2 33 yX2_rank, Cond.instanceMethod yX2_rank, Cond.selects RX2 yX2_rank yX2_rank, Cond.code yX2_rank cX2_rank 3 (some .long), Cond.fieldLink RX2 18 "LoopMemo$Memo" "firstLooks" "[I", Cond.fieldLink RX2 15 "LoopMemo$Memo" "lastLooks" "[I", Cond.methodLink RX4 156 yX2_lose, Cond.instanceMethod yX2_lose, Cond.selects RX2 yX2_lose yX2_lose, Cond.code yX2_lose cX2_lose 2 none]
def wsX4_makeRoom : List Cond := .code yX4_makeRoom cX4_makeRoom 5 (some .int) :: ((wsX4_makeRoom_r1 ++ wsX4_makeRoom_r2) ++ wsX40 ++ wsX20 ++ wsX00)
def wsX4_lookUp_r1 : List Cond := [Cond.fieldLink RX4 31 "LoopMemo$State" "memo" "LLoopMemo$Memo;", Cond.fieldLink RX4 47 "LoopMemo$State" "tallies" "[I", Cond.fieldLink RX4 18 "LoopMemo$State" "inner" "LLoopMemo$Table;", Cond.fieldLink RX4 24 "LoopMemo$State" "answers" "LLoopMemo$Answers;", Cond.fieldLink RX4 44 "LoopMemo$State" "settings" "[I", Cond.methodLink RX4 75 yX2_holds, Cond.instanceMethod yX2_holds, Cond.selects RX2 yX2_holds yX2_holds, Cond.initialized RX2, Cond.code yX2_holds cX2_holds 2 (some .boolean), Cond.fieldLink RX2 9 "LoopMemo$Memo" "uses" "[I", Cond.methodLink RX4 143 yX2_touch, Cond.instanceMethod yX2_touch, Cond.selects RX2 yX2_touch yX2_touch, Cond.code yX2_touch cX2_touch 2 none, Cond.fieldLink RX2 25 "LoopMemo$Memo" "looks" "I", Cond.fieldLink RX2 15 "LoopMemo$Memo" "lastLooks" "[I", Cond.methodLink RX4 93 yX5_size, Cond.instanceMethod yX5_size, Cond.selects RX5 yX5_size yX5_size, Cond.initialized RX5, Cond.code yX5_size cX5_size 1 (some .int), Cond.fieldLink RX5 22 "LoopMemo$Table" "size" "I", Cond.methodLink RX4 140 yX0_weight]
def wsX4_lookUp_r2 : List Cond := [Cond.instanceMethod yX0_weight, Cond.selects RX0 yX0_weight yX0_weight, Cond.initialized RX0, Cond.code yX0_weight cX0_weight 2 (some .int), Cond.fieldLink RX0 9 "LoopMemo$Answers" "rows" "[I", Cond.methodLink RX4 146 yX2_take, Cond.instanceMethod yX2_take, Cond.selects RX2 yX2_take yX2_take, Cond.code yX2_take cX2_take 2 none, Cond.fieldLink RX2 18 "LoopMemo$Memo" "firstLooks" "[I", Cond.methodLink RX4 131 yX4_makeRoom, Cond.instanceMethod yX4_makeRoom, Cond.selects RX4 yX4_makeRoom yX4_makeRoom, Cond.initialized RX4, Cond.code yX4_makeRoom cX4_makeRoom 5 (some .int), Cond.methodLink RX4 149 yX4_weightTogether, Cond.instanceMethod yX4_weightTogether, Cond.selects RX4 yX4_weightTogether yX4_weightTogether, Cond.code yX4_weightTogether cX4_weightTogether 3 (some .int), Cond.methodLink RX4 152 yX2_firstOut, Cond.instanceMethod yX2_firstOut, Cond.selects RX2 yX2_firstOut yX2_firstOut, Cond.code yX2_firstOut cX2_firstOut 5 (some .int), Cond.methodLink RX2 33 yX2_rank]
def wsX4_lookUp_r3 : List Cond := [Cond.instanceMethod yX2_rank, Cond.selects RX2 yX2_rank yX2_rank, Cond.code yX2_rank cX2_rank 3 (some .long), Cond.methodLink RX4 156 yX2_lose, Cond.instanceMethod yX2_lose, Cond.selects RX2 yX2_lose yX2_lose, Cond.code yX2_lose cX2_lose 2 none]
def wsX4_lookUp : List Cond := .code yX4_lookUp cX4_lookUp 2 none :: ((wsX4_lookUp_r1 ++ (wsX4_lookUp_r2 ++ wsX4_lookUp_r3)) ++ wsX40 ++ wsX20 ++ wsX50 ++ wsX00)
def wsX4_walk_r1 : List Cond := [Cond.fieldLink RX4 64 "LoopMemo$State" "place" "I", Cond.fieldLink RX4 12 "LoopMemo$State" "outer" "LLoopMemo$Table;", Cond.fieldLink RX4 47 "LoopMemo$State" "tallies" "[I", Cond.fieldLink RX4 68 "LoopMemo$State" "total" "I", Cond.fieldLink RX4 24 "LoopMemo$State" "answers" "LLoopMemo$Answers;", Cond.methodLink RX4 93 yX5_size, Cond.instanceMethod yX5_size, Cond.selects RX5 yX5_size yX5_size, Cond.initialized RX5, Cond.code yX5_size cX5_size 1 (some .int), Cond.fieldLink RX5 22 "LoopMemo$Table" "size" "I", Cond.methodLink RX4 71 yX5_key, Cond.instanceMethod yX5_key, Cond.selects RX5 yX5_key yX5_key, Cond.code yX5_key cX5_key 2 (some .int), Cond.fieldLink RX5 9 "LoopMemo$Table" "keys" "[I", Cond.methodLink RX4 119 yX4_lookUp, Cond.instanceMethod yX4_lookUp, Cond.selects RX4 yX4_lookUp yX4_lookUp, Cond.initialized RX4, Cond.code yX4_lookUp cX4_lookUp 2 none, Cond.fieldLink RX4 31 "LoopMemo$State" "memo" "LLoopMemo$Memo;", Cond.fieldLink RX4 18 "LoopMemo$State" "inner" "LLoopMemo$Table;", Cond.fieldLink RX4 44 "LoopMemo$State" "settings" "[I"]
def wsX4_walk_r2 : List Cond := [Cond.methodLink RX4 75 yX2_holds, Cond.instanceMethod yX2_holds, Cond.selects RX2 yX2_holds yX2_holds, Cond.initialized RX2, Cond.code yX2_holds cX2_holds 2 (some .boolean), Cond.fieldLink RX2 9 "LoopMemo$Memo" "uses" "[I", Cond.methodLink RX4 143 yX2_touch, Cond.instanceMethod yX2_touch, Cond.selects RX2 yX2_touch yX2_touch, Cond.code yX2_touch cX2_touch 2 none, Cond.fieldLink RX2 25 "LoopMemo$Memo" "looks" "I", Cond.fieldLink RX2 15 "LoopMemo$Memo" "lastLooks" "[I", Cond.methodLink RX4 140 yX0_weight, Cond.instanceMethod yX0_weight, Cond.selects RX0 yX0_weight yX0_weight, Cond.initialized RX0, Cond.code yX0_weight cX0_weight 2 (some .int), Cond.fieldLink RX0 9 "LoopMemo$Answers" "rows" "[I", Cond.methodLink RX4 146 yX2_take, Cond.instanceMethod yX2_take, Cond.selects RX2 yX2_take yX2_take, Cond.code yX2_take cX2_take 2 none, Cond.fieldLink RX2 18 "LoopMemo$Memo" "firstLooks" "[I", Cond.methodLink RX4 131 yX4_makeRoom]
def wsX4_walk_r3 : List Cond := [Cond.instanceMethod yX4_makeRoom, Cond.selects RX4 yX4_makeRoom yX4_makeRoom, Cond.code yX4_makeRoom cX4_makeRoom 5 (some .int), Cond.methodLink RX4 149 yX4_weightTogether, Cond.instanceMethod yX4_weightTogether, Cond.selects RX4 yX4_weightTogether yX4_weightTogether, Cond.code yX4_weightTogether cX4_weightTogether 3 (some .int), Cond.methodLink RX4 152 yX2_firstOut, Cond.instanceMethod yX2_firstOut, Cond.selects RX2 yX2_firstOut yX2_firstOut, Cond.code yX2_firstOut cX2_firstOut 5 (some .int), Cond.methodLink RX2 33 yX2_rank, Cond.instanceMethod yX2_rank, Cond.selects RX2 yX2_rank yX2_rank, Cond.code yX2_rank cX2_rank 3 (some .long), Cond.methodLink RX4 156 yX2_lose, Cond.instanceMethod yX2_lose, Cond.selects RX2 yX2_lose yX2_lose, Cond.code yX2_lose cX2_lose 2 none, Cond.methodLink RX4 79 yX5_value, Cond.instanceMethod yX5_value, Cond.selects RX5 yX5_value yX5_value, Cond.code yX5_value cX5_value 2 (some .int), Cond.fieldLink RX5 15 "LoopMemo$Table" "values" "[I"]
def wsX4_walk_r4 : List Cond := [Cond.methodLink RX4 122 yX0_sum, Cond.instanceMethod yX0_sum, Cond.selects RX0 yX0_sum yX0_sum, Cond.code yX0_sum cX0_sum 2 (some .int), Cond.fieldLink RX0 15 "LoopMemo$Answers" "sums" "[I"]
def wsX4_walk : List Cond := .code yX4_walk cX4_walk 5 (some .int) :: ((wsX4_walk_r1 ++ (wsX4_walk_r2 ++ (wsX4_walk_r3 ++ wsX4_walk_r4))) ++ wsX40 ++ wsX50 ++ wsX20 ++ wsX00)
def wsX4_beginAgain : List Cond := .code yX4_beginAgain cX4_beginAgain 2 (some .int) :: ([.fieldLink RX4 68 "LoopMemo$State" "total" "I", .fieldLink RX4 64 "LoopMemo$State" "place" "I"] ++ wsX40)
def wsX4_adjust_r1 : List Cond := [Cond.fieldLink RX4 128 "LoopMemo$State" "HIGHEST_SETTINGS" "[I", Cond.fieldLink RX4 44 "LoopMemo$State" "settings" "[I", Cond.methodLink RX4 131 yX4_makeRoom, Cond.instanceMethod yX4_makeRoom, Cond.selects RX4 yX4_makeRoom yX4_makeRoom, Cond.initialized RX4, Cond.code yX4_makeRoom cX4_makeRoom 5 (some .int), Cond.fieldLink RX4 31 "LoopMemo$State" "memo" "LLoopMemo$Memo;", Cond.fieldLink RX4 24 "LoopMemo$State" "answers" "LLoopMemo$Answers;", Cond.fieldLink RX4 47 "LoopMemo$State" "tallies" "[I", Cond.methodLink RX4 149 yX4_weightTogether, Cond.instanceMethod yX4_weightTogether, Cond.selects RX4 yX4_weightTogether yX4_weightTogether, Cond.code yX4_weightTogether cX4_weightTogether 3 (some .int), Cond.methodLink RX4 75 yX2_holds, Cond.instanceMethod yX2_holds, Cond.selects RX2 yX2_holds yX2_holds, Cond.initialized RX2, Cond.code yX2_holds cX2_holds 2 (some .boolean), Cond.fieldLink RX2 9 "LoopMemo$Memo" "uses" "[I", Cond.methodLink RX4 140 yX0_weight, Cond.instanceMethod yX0_weight, Cond.selects RX0 yX0_weight yX0_weight, Cond.initialized RX0]
def wsX4_adjust_r2 : List Cond := [Cond.code yX0_weight cX0_weight 2 (some .int), Cond.fieldLink RX0 9 "LoopMemo$Answers" "rows" "[I", Cond.methodLink RX4 152 yX2_firstOut, Cond.instanceMethod yX2_firstOut, Cond.selects RX2 yX2_firstOut yX2_firstOut, Cond.code yX2_firstOut cX2_firstOut 5 (some .int), Cond.methodLink RX2 33 yX2_rank, Cond.instanceMethod yX2_rank, Cond.selects RX2 yX2_rank yX2_rank, Cond.code yX2_rank cX2_rank 3 (some .long), Cond.fieldLink RX2 18 "LoopMemo$Memo" "firstLooks" "[I", Cond.fieldLink RX2 15 "LoopMemo$Memo" "lastLooks" "[I", Cond.methodLink RX4 156 yX2_lose, Cond.instanceMethod yX2_lose, Cond.selects RX2 yX2_lose yX2_lose, Cond.code yX2_lose cX2_lose 2 none, Cond.methodLink RX4 134 yX4_findAnswers, Cond.instanceMethod yX4_findAnswers, Cond.selects RX4 yX4_findAnswers yX4_findAnswers, Cond.code yX4_findAnswers cX4_findAnswers 1 none, Cond.fieldLink RX4 18 "LoopMemo$State" "inner" "LLoopMemo$Table;", Cond.methodLink RX4 162 yX0_find, Cond.instanceMethod yX0_find, Cond.selects RX0 yX0_find yX0_find]
def wsX4_adjust_r3 : List Cond := [Cond.code yX0_find cX0_find 7 none, Cond.fieldLink RX0 15 "LoopMemo$Answers" "sums" "[I", Cond.fieldLink RX0 18 "LoopMemo$Answers" "firstRows" "[I", Cond.methodLink RX0 25 yX5_size, Cond.instanceMethod yX5_size, Cond.selects RX5 yX5_size yX5_size, Cond.initialized RX5, Cond.code yX5_size cX5_size 1 (some .int), Cond.fieldLink RX5 22 "LoopMemo$Table" "size" "I", Cond.methodLink RX0 31 yX5_value, Cond.instanceMethod yX5_value, Cond.selects RX5 yX5_value yX5_value, Cond.code yX5_value cX5_value 2 (some .int), Cond.fieldLink RX5 15 "LoopMemo$Table" "values" "[I", Cond.methodLink RX0 35 yX5_key, Cond.instanceMethod yX5_key, Cond.selects RX5 yX5_key yX5_key, Cond.code yX5_key cX5_key 2 (some .int), Cond.fieldLink RX5 9 "LoopMemo$Table" "keys" "[I", Cond.methodLink RX4 137 yX4_throwAllOut, Cond.instanceMethod yX4_throwAllOut, Cond.selects RX4 yX4_throwAllOut yX4_throwAllOut, Cond.code yX4_throwAllOut cX4_throwAllOut 2 (some .int), Cond.methodLink RX4 125 yX2_loseAll]
def wsX4_adjust_r4 : List Cond := [Cond.instanceMethod yX2_loseAll, Cond.selects RX2 yX2_loseAll yX2_loseAll, Cond.code yX2_loseAll cX2_loseAll 3 (some .int), Cond.methodLink RX2 29 yX2_size, Cond.instanceMethod yX2_size, Cond.selects RX2 yX2_size yX2_size, Cond.code yX2_size cX2_size 3 (some .int)]
def wsX4_adjust : List Cond := .code yX4_adjust cX4_adjust 3 (some .int) :: ((wsX4_adjust_r1 ++ (wsX4_adjust_r2 ++ (wsX4_adjust_r3 ++ wsX4_adjust_r4))) ++ wsX40 ++ wsX20 ++ wsX00 ++ wsX50)
def wsX4_totalByAnswers : List Cond := .code yX4_totalByAnswers cX4_totalByAnswers 3 (some .int) :: ([.fieldLink RX4 12 "LoopMemo$State" "outer" "LLoopMemo$Table;", .fieldLink RX4 24 "LoopMemo$State" "answers" "LLoopMemo$Answers;", .methodLink RX4 93 yX5_size, .instanceMethod yX5_size, .selects RX5 yX5_size yX5_size, .initialized RX5, .code yX5_size cX5_size 1 (some .int), .fieldLink RX5 22 "LoopMemo$Table" "size" "I", .methodLink RX4 79 yX5_value, .instanceMethod yX5_value, .selects RX5 yX5_value yX5_value, .code yX5_value cX5_value 2 (some .int), .fieldLink RX5 15 "LoopMemo$Table" "values" "[I", .methodLink RX4 71 yX5_key, .instanceMethod yX5_key, .selects RX5 yX5_key yX5_key, .code yX5_key cX5_key 2 (some .int), .fieldLink RX5 9 "LoopMemo$Table" "keys" "[I", .methodLink RX4 122 yX0_sum, .instanceMethod yX0_sum, .selects RX0 yX0_sum yX0_sum, .initialized RX0, .code yX0_sum cX0_sum 2 (some .int), .fieldLink RX0 15 "LoopMemo$Answers" "sums" "[I"] ++ wsX40 ++ wsX50 ++ wsX00)
def wsX4_totalByRows : List Cond := .code yX4_totalByRows cX4_totalByRows 4 (some .int) :: ([.fieldLink RX4 12 "LoopMemo$State" "outer" "LLoopMemo$Table;", .fieldLink RX4 18 "LoopMemo$State" "inner" "LLoopMemo$Table;", .methodLink RX4 93 yX5_size, .instanceMethod yX5_size, .selects RX5 yX5_size yX5_size, .initialized RX5, .code yX5_size cX5_size 1 (some .int), .fieldLink RX5 22 "LoopMemo$Table" "size" "I", .methodLink RX4 71 yX5_key, .instanceMethod yX5_key, .selects RX5 yX5_key yX5_key, .code yX5_key cX5_key 2 (some .int), .fieldLink RX5 9 "LoopMemo$Table" "keys" "[I", .methodLink RX4 79 yX5_value, .instanceMethod yX5_value, .selects RX5 yX5_value yX5_value, .code yX5_value cX5_value 2 (some .int), .fieldLink RX5 15 "LoopMemo$Table" "values" "[I", .methodLink RX4 82 yX4_isInBand, .instanceMethod yX4_isInBand, .selects RX4 yX4_isInBand yX4_isInBand, .initialized RX4, .code yX4_isInBand cX4_isInBand 2 (some .boolean), .fieldLink RX4 44 "LoopMemo$State" "settings" "[I"] ++ wsX40 ++ wsX50)
def wsX5_swap : List Cond := .code yX5_swap cX5_swap 5 none :: ([.methodLink RX5 34 yX5_key, .instanceMethod yX5_key, .selects RX5 yX5_key yX5_key, .initialized RX5, .code yX5_key cX5_key 2 (some .int), .fieldLink RX5 9 "LoopMemo$Table" "keys" "[I", .methodLink RX5 38 yX5_value, .instanceMethod yX5_value, .selects RX5 yX5_value yX5_value, .code yX5_value cX5_value 2 (some .int), .fieldLink RX5 15 "LoopMemo$Table" "values" "[I", .methodLink RX5 26 yX5_put, .instanceMethod yX5_put, .selects RX5 yX5_put yX5_put, .code yX5_put cX5_put 4 none] ++ wsX50)
def wsX5_sortFrom : List Cond := .code yX5_sortFrom cX5_sortFrom 4 none :: ([.fieldLink RX5 22 "LoopMemo$Table" "size" "I", .methodLink RX5 34 yX5_key, .instanceMethod yX5_key, .selects RX5 yX5_key yX5_key, .initialized RX5, .code yX5_key cX5_key 2 (some .int), .fieldLink RX5 9 "LoopMemo$Table" "keys" "[I", .methodLink RX5 41 yX5_swap, .instanceMethod yX5_swap, .selects RX5 yX5_swap yX5_swap, .code yX5_swap cX5_swap 5 none, .methodLink RX5 38 yX5_value, .instanceMethod yX5_value, .selects RX5 yX5_value yX5_value, .code yX5_value cX5_value 2 (some .int), .fieldLink RX5 15 "LoopMemo$Table" "values" "[I", .methodLink RX5 26 yX5_put, .instanceMethod yX5_put, .selects RX5 yX5_put yX5_put, .code yX5_put cX5_put 4 none] ++ wsX50)
def wsX5_reverseFrom : List Cond := .code yX5_reverseFrom cX5_reverseFrom 4 none :: ([.fieldLink RX5 22 "LoopMemo$Table" "size" "I", .methodLink RX5 41 yX5_swap, .instanceMethod yX5_swap, .selects RX5 yX5_swap yX5_swap, .initialized RX5, .code yX5_swap cX5_swap 5 none, .methodLink RX5 34 yX5_key, .instanceMethod yX5_key, .selects RX5 yX5_key yX5_key, .code yX5_key cX5_key 2 (some .int), .fieldLink RX5 9 "LoopMemo$Table" "keys" "[I", .methodLink RX5 38 yX5_value, .instanceMethod yX5_value, .selects RX5 yX5_value yX5_value, .code yX5_value cX5_value 2 (some .int), .fieldLink RX5 15 "LoopMemo$Table" "values" "[I", .methodLink RX5 26 yX5_put, .instanceMethod yX5_put, .selects RX5 yX5_put yX5_put, .code yX5_put cX5_put 4 none] ++ wsX50)
def wsX6_init_r1 : List Cond := [Cond.methodLink RX6 1 objectInit, Cond.instanceMethod objectInit, Cond.code objectInit ⟨#[0xb1]⟩ 1 none, Cond.classLink RX6 7 RX4, Cond.instantiable RX4 8, Cond.initialized RX4, Cond.fieldLink RX6 10 "LoopMemo" "now" "LLoopMemo$State;", Cond.fieldLink RX6 16 "LoopMemo" "trial" "LLoopMemo$State;", Cond.fieldLink RX6 19 "LoopMemo" "snapshot" "LLoopMemo$State;", Cond.classLink RX6 22 RX1, Cond.instantiable RX1 3, Cond.initialized RX1, Cond.fieldLink RX6 25 "LoopMemo" "history" "LLoopMemo$History;", Cond.classLink RX6 29 RX3, Cond.instantiable RX3 9, Cond.initialized RX3, Cond.fieldLink RX6 32 "LoopMemo" "pad" "LLoopMemo$Pad;", Cond.methodLink RX6 9 yX4_init, Cond.instanceMethod yX4_init, Cond.code yX4_init cX4_init 1 none, Cond.methodLink RX4 3 objectInit, Cond.classLink RX4 9 RX5, Cond.instantiable RX5 3, Cond.initialized RX5]
def wsX6_init_r2 : List Cond := [Cond.fieldLink RX4 12 "LoopMemo$State" "outer" "LLoopMemo$Table;", Cond.fieldLink RX4 18 "LoopMemo$State" "inner" "LLoopMemo$Table;", Cond.classLink RX4 21 RX0, Cond.instantiable RX0 3, Cond.initialized RX0, Cond.fieldLink RX4 24 "LoopMemo$State" "answers" "LLoopMemo$Answers;", Cond.classLink RX4 28 RX2, Cond.instantiable RX2 4, Cond.initialized RX2, Cond.fieldLink RX4 31 "LoopMemo$State" "memo" "LLoopMemo$Memo;", Cond.fieldLink RX4 35 "LoopMemo$State" "FIRST_SETTINGS" "[I", Cond.methodLink RX4 39 ⟨"[I", "clone", "()Ljava/lang/Object;"⟩, Cond.sameMethod "[I" "java/lang/Object" "clone" "()Ljava/lang/Object;", Cond.native ⟨"java/lang/Object", "clone", "()Ljava/lang/Object;"⟩, Cond.instanceMethod ⟨"java/lang/Object", "clone", "()Ljava/lang/Object;"⟩, Cond.selects "[I" ⟨"[I", "clone", "()Ljava/lang/Object;"⟩ ⟨"java/lang/Object", "clone", "()Ljava/lang/Object;"⟩, Cond.classLink RX4 40 "[I", Cond.fieldLink RX4 44 "LoopMemo$State" "settings" "[I", Cond.arrayClass .int, Cond.fieldLink RX4 47 "LoopMemo$State" "tallies" "[I", Cond.methodLink RX4 11 yX5_init, Cond.instanceMethod yX5_init, Cond.code yX5_init cX5_init 1 none, Cond.methodLink RX5 3 objectInit]
def wsX6_init_r3 : List Cond := [Cond.fieldLink RX5 9 "LoopMemo$Table" "keys" "[I", Cond.fieldLink RX5 15 "LoopMemo$Table" "values" "[I", Cond.methodLink RX4 23 yX0_init, Cond.instanceMethod yX0_init, Cond.code yX0_init cX0_init 1 none, Cond.methodLink RX0 3 objectInit, Cond.fieldLink RX0 9 "LoopMemo$Answers" "rows" "[I", Cond.fieldLink RX0 15 "LoopMemo$Answers" "sums" "[I", Cond.fieldLink RX0 18 "LoopMemo$Answers" "firstRows" "[I", Cond.methodLink RX4 30 yX2_init, Cond.instanceMethod yX2_init, Cond.code yX2_init cX2_init 1 none, Cond.methodLink RX2 3 objectInit, Cond.fieldLink RX2 9 "LoopMemo$Memo" "uses" "[I", Cond.fieldLink RX2 15 "LoopMemo$Memo" "lastLooks" "[I", Cond.fieldLink RX2 18 "LoopMemo$Memo" "firstLooks" "[I", Cond.methodLink RX6 24 yX1_init, Cond.instanceMethod yX1_init, Cond.code yX1_init cX1_init 2 none, Cond.methodLink RX1 3 objectInit, Cond.classLink RX1 11 RX4, Cond.fieldLink RX1 13 "LoopMemo$History" "slots" "[LLoopMemo$State;", Cond.methodLink RX1 17 yX4_init, Cond.methodLink RX6 31 yX3_init]
def wsX6_init_r4 : List Cond := [Cond.instanceMethod yX3_init, Cond.code yX3_init cX3_init 1 none, Cond.methodLink RX3 3 objectInit, Cond.fieldLink RX3 9 "LoopMemo$Pad" "codes" "[I"]
def wsX6_init : List Cond := .code yX6_init cX6_init 1 none :: ((wsX6_init_r1 ++ (wsX6_init_r2 ++ (wsX6_init_r3 ++ wsX6_init_r4))) ++ wsX40 ++ wsX60 ++ wsX10 ++ wsX30 ++ wsX50 ++ wsX00 ++ wsX20)
def wsX6_add_r1 : List Cond := [Cond.fieldLink RX6 25 "LoopMemo" "history" "LLoopMemo$History;", Cond.fieldLink RX6 10 "LoopMemo" "now" "LLoopMemo$State;", Cond.methodLink RX6 36 yX1_prepare, Cond.instanceMethod yX1_prepare, Cond.selects RX1 yX1_prepare yX1_prepare, Cond.initialized RX1, Cond.code yX1_prepare cX1_prepare 3 none, Cond.fieldLink RX1 22 "LoopMemo$History" "next" "I", Cond.methodLink RX1 25 yX1_slot, Cond.instanceMethod yX1_slot, Cond.selects RX1 yX1_slot yX1_slot, Cond.code yX1_slot cX1_slot 2 (some (.object "LoopMemo$State")), Cond.fieldLink RX1 13 "LoopMemo$History" "slots" "[LLoopMemo$State;", Cond.methodLink RX1 29 yX4_copyFrom, Cond.instanceMethod yX4_copyFrom, Cond.selects RX4 yX4_copyFrom yX4_copyFrom, Cond.initialized RX4, Cond.code yX4_copyFrom cX4_copyFrom 2 none, Cond.fieldLink RX4 12 "LoopMemo$State" "outer" "LLoopMemo$Table;", Cond.fieldLink RX4 18 "LoopMemo$State" "inner" "LLoopMemo$Table;", Cond.fieldLink RX4 24 "LoopMemo$State" "answers" "LLoopMemo$Answers;", Cond.fieldLink RX4 31 "LoopMemo$State" "memo" "LLoopMemo$Memo;", Cond.fieldLink RX4 44 "LoopMemo$State" "settings" "[I", Cond.fieldLink RX4 47 "LoopMemo$State" "tallies" "[I"]
def wsX6_add_r2 : List Cond := [Cond.fieldLink RX4 64 "LoopMemo$State" "place" "I", Cond.fieldLink RX4 68 "LoopMemo$State" "total" "I", Cond.methodLink RX4 50 yX5_copyFrom, Cond.instanceMethod yX5_copyFrom, Cond.selects RX5 yX5_copyFrom yX5_copyFrom, Cond.initialized RX5, Cond.code yX5_copyFrom cX5_copyFrom 2 none, Cond.fieldLink RX5 9 "LoopMemo$Table" "keys" "[I", Cond.fieldLink RX5 15 "LoopMemo$Table" "values" "[I", Cond.fieldLink RX5 22 "LoopMemo$Table" "size" "I", Cond.static yX6_copyNumbers, Cond.initialized RX6, Cond.code yX6_copyNumbers cX6_copyNumbers 2 none, Cond.methodLink RX6 117 Lib.Math.min.name, Cond.static Lib.Math.min.name, Cond.initialized "java/lang/Math", Cond.code Lib.Math.min.name Lib.Math.min.code 2 (some .int), Cond.methodLink RX6 225 arraycopyName, Cond.native arraycopyName, Cond.static arraycopyName, Cond.initialized "java/lang/System", Cond.methodLink RX4 54 yX0_copyFrom, Cond.instanceMethod yX0_copyFrom, Cond.selects RX0 yX0_copyFrom yX0_copyFrom]
def wsX6_add_r3 : List Cond := [Cond.initialized RX0, Cond.code yX0_copyFrom cX0_copyFrom 2 none, Cond.fieldLink RX0 9 "LoopMemo$Answers" "rows" "[I", Cond.fieldLink RX0 15 "LoopMemo$Answers" "sums" "[I", Cond.fieldLink RX0 18 "LoopMemo$Answers" "firstRows" "[I", Cond.methodLink RX4 57 yX2_copyFrom, Cond.instanceMethod yX2_copyFrom, Cond.selects RX2 yX2_copyFrom yX2_copyFrom, Cond.initialized RX2, Cond.code yX2_copyFrom cX2_copyFrom 2 none, Cond.fieldLink RX2 9 "LoopMemo$Memo" "uses" "[I", Cond.fieldLink RX2 15 "LoopMemo$Memo" "lastLooks" "[I", Cond.fieldLink RX2 18 "LoopMemo$Memo" "firstLooks" "[I", Cond.fieldLink RX2 25 "LoopMemo$Memo" "looks" "I", Cond.methodLink RX6 40 yX4_insertRow, Cond.instanceMethod yX4_insertRow, Cond.selects RX4 yX4_insertRow yX4_insertRow, Cond.code yX4_insertRow cX4_insertRow 5 (some .int), Cond.static yX6_isRow, Cond.code yX6_isRow cX6_isRow 2 (some .boolean), Cond.methodLink RX6 147 yX6_isKey, Cond.static yX6_isKey, Cond.code yX6_isKey cX6_isKey 1 (some .boolean), Cond.methodLink RX6 76 yX6_isWithin]
def wsX6_add_r4 : List Cond := [Cond.static yX6_isWithin, Cond.code yX6_isWithin cX6_isWithin 2 (some .boolean), Cond.methodLink RX4 89 yX4_table, Cond.instanceMethod yX4_table, Cond.selects RX4 yX4_table yX4_table, Cond.code yX4_table cX4_table 2 (some (.object "LoopMemo$Table")), Cond.methodLink RX4 93 yX5_size, Cond.instanceMethod yX5_size, Cond.selects RX5 yX5_size yX5_size, Cond.code yX5_size cX5_size 1 (some .int), Cond.methodLink RX4 97 yX5_push, Cond.instanceMethod yX5_push, Cond.selects RX5 yX5_push yX5_push, Cond.code yX5_push cX5_push 3 none, Cond.methodLink RX5 26 yX5_put, Cond.instanceMethod yX5_put, Cond.selects RX5 yX5_put yX5_put, Cond.code yX5_put cX5_put 4 none, Cond.methodLink RX4 101 yX4_keepTrue, Cond.instanceMethod yX4_keepTrue, Cond.selects RX4 yX4_keepTrue yX4_keepTrue, Cond.code yX4_keepTrue cX4_keepTrue 3 none, Cond.methodLink RX4 134 yX4_findAnswers, Cond.instanceMethod yX4_findAnswers]
def wsX6_add_r5 : List Cond := [Cond.selects RX4 yX4_findAnswers yX4_findAnswers, Cond.code yX4_findAnswers cX4_findAnswers 1 none, Cond.methodLink RX4 162 yX0_find, Cond.instanceMethod yX0_find, Cond.selects RX0 yX0_find yX0_find, Cond.code yX0_find cX0_find 7 none, Cond.methodLink RX0 25 yX5_size, Cond.methodLink RX0 31 yX5_value, Cond.instanceMethod yX5_value, Cond.selects RX5 yX5_value yX5_value, Cond.code yX5_value cX5_value 2 (some .int), Cond.methodLink RX0 35 yX5_key, Cond.instanceMethod yX5_key, Cond.selects RX5 yX5_key yX5_key, Cond.code yX5_key cX5_key 2 (some .int), Cond.methodLink RX4 137 yX4_throwAllOut, Cond.instanceMethod yX4_throwAllOut, Cond.selects RX4 yX4_throwAllOut yX4_throwAllOut, Cond.code yX4_throwAllOut cX4_throwAllOut 2 (some .int), Cond.methodLink RX4 125 yX2_loseAll, Cond.instanceMethod yX2_loseAll, Cond.selects RX2 yX2_loseAll yX2_loseAll, Cond.code yX2_loseAll cX2_loseAll 3 (some .int), Cond.methodLink RX2 29 yX2_size]
def wsX6_add_r6 : List Cond := [Cond.instanceMethod yX2_size, Cond.selects RX2 yX2_size yX2_size, Cond.code yX2_size cX2_size 3 (some .int), Cond.methodLink RX4 159 yX4_keepAnswerTrue, Cond.instanceMethod yX4_keepAnswerTrue, Cond.selects RX4 yX4_keepAnswerTrue yX4_keepAnswerTrue, Cond.code yX4_keepAnswerTrue cX4_keepAnswerTrue 2 none, Cond.methodLink RX4 75 yX2_holds, Cond.instanceMethod yX2_holds, Cond.selects RX2 yX2_holds yX2_holds, Cond.code yX2_holds cX2_holds 2 (some .boolean), Cond.methodLink RX4 156 yX2_lose, Cond.instanceMethod yX2_lose, Cond.selects RX2 yX2_lose yX2_lose, Cond.code yX2_lose cX2_lose 2 none, Cond.methodLink RX6 44 yX1_commit, Cond.instanceMethod yX1_commit, Cond.selects RX1 yX1_commit yX1_commit, Cond.code yX1_commit cX1_commit 2 (some .int), Cond.fieldLink RX1 18 "LoopMemo$History" "size" "I", Cond.methodLink RX1 33 Lib.Math.min.name]
def wsX6_add : List Cond := .code yX6_add cX6_add 4 (some .int) :: ((wsX6_add_r1 ++ (wsX6_add_r2 ++ (wsX6_add_r3 ++ (wsX6_add_r4 ++ (wsX6_add_r5 ++ wsX6_add_r6))))) ++ wsX60 ++ wsX10 ++ wsX40 ++ wsX50 ++ wsX00 ++ wsX20)
def wsX6_drop_r1 : List Cond := [Cond.fieldLink RX6 25 "LoopMemo" "history" "LLoopMemo$History;", Cond.fieldLink RX6 10 "LoopMemo" "now" "LLoopMemo$State;", Cond.methodLink RX6 36 yX1_prepare, Cond.instanceMethod yX1_prepare, Cond.selects RX1 yX1_prepare yX1_prepare, Cond.initialized RX1, Cond.code yX1_prepare cX1_prepare 3 none, Cond.fieldLink RX1 22 "LoopMemo$History" "next" "I", Cond.methodLink RX1 25 yX1_slot, Cond.instanceMethod yX1_slot, Cond.selects RX1 yX1_slot yX1_slot, Cond.code yX1_slot cX1_slot 2 (some (.object "LoopMemo$State")), Cond.fieldLink RX1 13 "LoopMemo$History" "slots" "[LLoopMemo$State;", Cond.methodLink RX1 29 yX4_copyFrom, Cond.instanceMethod yX4_copyFrom, Cond.selects RX4 yX4_copyFrom yX4_copyFrom, Cond.initialized RX4, Cond.code yX4_copyFrom cX4_copyFrom 2 none, Cond.fieldLink RX4 12 "LoopMemo$State" "outer" "LLoopMemo$Table;", Cond.fieldLink RX4 18 "LoopMemo$State" "inner" "LLoopMemo$Table;", Cond.fieldLink RX4 24 "LoopMemo$State" "answers" "LLoopMemo$Answers;", Cond.fieldLink RX4 31 "LoopMemo$State" "memo" "LLoopMemo$Memo;", Cond.fieldLink RX4 44 "LoopMemo$State" "settings" "[I", Cond.fieldLink RX4 47 "LoopMemo$State" "tallies" "[I"]
def wsX6_drop_r2 : List Cond := [Cond.fieldLink RX4 64 "LoopMemo$State" "place" "I", Cond.fieldLink RX4 68 "LoopMemo$State" "total" "I", Cond.methodLink RX4 50 yX5_copyFrom, Cond.instanceMethod yX5_copyFrom, Cond.selects RX5 yX5_copyFrom yX5_copyFrom, Cond.initialized RX5, Cond.code yX5_copyFrom cX5_copyFrom 2 none, Cond.fieldLink RX5 9 "LoopMemo$Table" "keys" "[I", Cond.fieldLink RX5 15 "LoopMemo$Table" "values" "[I", Cond.fieldLink RX5 22 "LoopMemo$Table" "size" "I", Cond.static yX6_copyNumbers, Cond.initialized RX6, Cond.code yX6_copyNumbers cX6_copyNumbers 2 none, Cond.methodLink RX6 117 Lib.Math.min.name, Cond.static Lib.Math.min.name, Cond.initialized "java/lang/Math", Cond.code Lib.Math.min.name Lib.Math.min.code 2 (some .int), Cond.methodLink RX6 225 arraycopyName, Cond.native arraycopyName, Cond.static arraycopyName, Cond.initialized "java/lang/System", Cond.methodLink RX4 54 yX0_copyFrom, Cond.instanceMethod yX0_copyFrom, Cond.selects RX0 yX0_copyFrom yX0_copyFrom]
def wsX6_drop_r3 : List Cond := [Cond.initialized RX0, Cond.code yX0_copyFrom cX0_copyFrom 2 none, Cond.fieldLink RX0 9 "LoopMemo$Answers" "rows" "[I", Cond.fieldLink RX0 15 "LoopMemo$Answers" "sums" "[I", Cond.fieldLink RX0 18 "LoopMemo$Answers" "firstRows" "[I", Cond.methodLink RX4 57 yX2_copyFrom, Cond.instanceMethod yX2_copyFrom, Cond.selects RX2 yX2_copyFrom yX2_copyFrom, Cond.initialized RX2, Cond.code yX2_copyFrom cX2_copyFrom 2 none, Cond.fieldLink RX2 9 "LoopMemo$Memo" "uses" "[I", Cond.fieldLink RX2 15 "LoopMemo$Memo" "lastLooks" "[I", Cond.fieldLink RX2 18 "LoopMemo$Memo" "firstLooks" "[I", Cond.fieldLink RX2 25 "LoopMemo$Memo" "looks" "I", Cond.methodLink RX6 48 yX4_removeRow, Cond.instanceMethod yX4_removeRow, Cond.selects RX4 yX4_removeRow yX4_removeRow, Cond.code yX4_removeRow cX4_removeRow 5 (some .int), Cond.methodLink RX4 89 yX4_table, Cond.instanceMethod yX4_table, Cond.selects RX4 yX4_table yX4_table, Cond.code yX4_table cX4_table 2 (some (.object "LoopMemo$Table")), Cond.methodLink RX4 104 yX5_has, Cond.instanceMethod yX5_has]
def wsX6_drop_r4 : List Cond := [Cond.selects RX5 yX5_has yX5_has, Cond.code yX5_has cX5_has 2 (some .boolean), Cond.methodLink RX4 71 yX5_key, Cond.instanceMethod yX5_key, Cond.selects RX5 yX5_key yX5_key, Cond.code yX5_key cX5_key 2 (some .int), Cond.methodLink RX4 107 yX5_takeOut, Cond.instanceMethod yX5_takeOut, Cond.selects RX5 yX5_takeOut yX5_takeOut, Cond.code yX5_takeOut cX5_takeOut 3 none, Cond.methodLink RX5 30 yX5_has, Cond.methodLink RX5 34 yX5_key, Cond.methodLink RX5 38 yX5_value, Cond.instanceMethod yX5_value, Cond.selects RX5 yX5_value yX5_value, Cond.code yX5_value cX5_value 2 (some .int), Cond.methodLink RX5 26 yX5_put, Cond.instanceMethod yX5_put, Cond.selects RX5 yX5_put yX5_put, Cond.code yX5_put cX5_put 4 none, Cond.methodLink RX4 101 yX4_keepTrue, Cond.instanceMethod yX4_keepTrue, Cond.selects RX4 yX4_keepTrue yX4_keepTrue, Cond.code yX4_keepTrue cX4_keepTrue 3 none]
def wsX6_drop_r5 : List Cond := [Cond.methodLink RX4 134 yX4_findAnswers, Cond.instanceMethod yX4_findAnswers, Cond.selects RX4 yX4_findAnswers yX4_findAnswers, Cond.code yX4_findAnswers cX4_findAnswers 1 none, Cond.methodLink RX4 162 yX0_find, Cond.instanceMethod yX0_find, Cond.selects RX0 yX0_find yX0_find, Cond.code yX0_find cX0_find 7 none, Cond.methodLink RX0 25 yX5_size, Cond.instanceMethod yX5_size, Cond.selects RX5 yX5_size yX5_size, Cond.code yX5_size cX5_size 1 (some .int), Cond.methodLink RX0 31 yX5_value, Cond.methodLink RX0 35 yX5_key, Cond.methodLink RX4 137 yX4_throwAllOut, Cond.instanceMethod yX4_throwAllOut, Cond.selects RX4 yX4_throwAllOut yX4_throwAllOut, Cond.code yX4_throwAllOut cX4_throwAllOut 2 (some .int), Cond.methodLink RX4 125 yX2_loseAll, Cond.instanceMethod yX2_loseAll, Cond.selects RX2 yX2_loseAll yX2_loseAll, Cond.code yX2_loseAll cX2_loseAll 3 (some .int), Cond.methodLink RX2 29 yX2_size, Cond.instanceMethod yX2_size]
def wsX6_drop_r6 : List Cond := [Cond.selects RX2 yX2_size yX2_size, Cond.code yX2_size cX2_size 3 (some .int), Cond.methodLink RX4 159 yX4_keepAnswerTrue, Cond.instanceMethod yX4_keepAnswerTrue, Cond.selects RX4 yX4_keepAnswerTrue yX4_keepAnswerTrue, Cond.code yX4_keepAnswerTrue cX4_keepAnswerTrue 2 none, Cond.methodLink RX4 75 yX2_holds, Cond.instanceMethod yX2_holds, Cond.selects RX2 yX2_holds yX2_holds, Cond.code yX2_holds cX2_holds 2 (some .boolean), Cond.methodLink RX4 156 yX2_lose, Cond.instanceMethod yX2_lose, Cond.selects RX2 yX2_lose yX2_lose, Cond.code yX2_lose cX2_lose 2 none, Cond.methodLink RX4 111 yX4_isDone, Cond.instanceMethod yX4_isDone, Cond.selects RX4 yX4_isDone yX4_isDone, Cond.code yX4_isDone cX4_isDone 2 (some .boolean), Cond.methodLink RX4 93 yX5_size, Cond.methodLink RX6 44 yX1_commit, Cond.instanceMethod yX1_commit, Cond.selects RX1 yX1_commit yX1_commit, Cond.code yX1_commit cX1_commit 2 (some .int), Cond.fieldLink RX1 18 "LoopMemo$History" "size" "I"]
def wsX6_drop_r7 : List Cond := [Cond.methodLink RX1 33 Lib.Math.min.name]
def wsX6_drop : List Cond := .code yX6_drop cX6_drop 3 (some .int) :: ((wsX6_drop_r1 ++ (wsX6_drop_r2 ++ (wsX6_drop_r3 ++ (wsX6_drop_r4 ++ (wsX6_drop_r5 ++ (wsX6_drop_r6 ++ wsX6_drop_r7)))))) ++ wsX60 ++ wsX10 ++ wsX40 ++ wsX50 ++ wsX00 ++ wsX20)
def wsX6_change_r1 : List Cond := [Cond.fieldLink RX6 25 "LoopMemo" "history" "LLoopMemo$History;", Cond.fieldLink RX6 10 "LoopMemo" "now" "LLoopMemo$State;", Cond.methodLink RX6 36 yX1_prepare, Cond.instanceMethod yX1_prepare, Cond.selects RX1 yX1_prepare yX1_prepare, Cond.initialized RX1, Cond.code yX1_prepare cX1_prepare 3 none, Cond.fieldLink RX1 22 "LoopMemo$History" "next" "I", Cond.methodLink RX1 25 yX1_slot, Cond.instanceMethod yX1_slot, Cond.selects RX1 yX1_slot yX1_slot, Cond.code yX1_slot cX1_slot 2 (some (.object "LoopMemo$State")), Cond.fieldLink RX1 13 "LoopMemo$History" "slots" "[LLoopMemo$State;", Cond.methodLink RX1 29 yX4_copyFrom, Cond.instanceMethod yX4_copyFrom, Cond.selects RX4 yX4_copyFrom yX4_copyFrom, Cond.initialized RX4, Cond.code yX4_copyFrom cX4_copyFrom 2 none, Cond.fieldLink RX4 12 "LoopMemo$State" "outer" "LLoopMemo$Table;", Cond.fieldLink RX4 18 "LoopMemo$State" "inner" "LLoopMemo$Table;", Cond.fieldLink RX4 24 "LoopMemo$State" "answers" "LLoopMemo$Answers;", Cond.fieldLink RX4 31 "LoopMemo$State" "memo" "LLoopMemo$Memo;", Cond.fieldLink RX4 44 "LoopMemo$State" "settings" "[I", Cond.fieldLink RX4 47 "LoopMemo$State" "tallies" "[I"]
def wsX6_change_r2 : List Cond := [Cond.fieldLink RX4 64 "LoopMemo$State" "place" "I", Cond.fieldLink RX4 68 "LoopMemo$State" "total" "I", Cond.methodLink RX4 50 yX5_copyFrom, Cond.instanceMethod yX5_copyFrom, Cond.selects RX5 yX5_copyFrom yX5_copyFrom, Cond.initialized RX5, Cond.code yX5_copyFrom cX5_copyFrom 2 none, Cond.fieldLink RX5 9 "LoopMemo$Table" "keys" "[I", Cond.fieldLink RX5 15 "LoopMemo$Table" "values" "[I", Cond.fieldLink RX5 22 "LoopMemo$Table" "size" "I", Cond.static yX6_copyNumbers, Cond.initialized RX6, Cond.code yX6_copyNumbers cX6_copyNumbers 2 none, Cond.methodLink RX6 117 Lib.Math.min.name, Cond.static Lib.Math.min.name, Cond.initialized "java/lang/Math", Cond.code Lib.Math.min.name Lib.Math.min.code 2 (some .int), Cond.methodLink RX6 225 arraycopyName, Cond.native arraycopyName, Cond.static arraycopyName, Cond.initialized "java/lang/System", Cond.methodLink RX4 54 yX0_copyFrom, Cond.instanceMethod yX0_copyFrom, Cond.selects RX0 yX0_copyFrom yX0_copyFrom]
def wsX6_change_r3 : List Cond := [Cond.initialized RX0, Cond.code yX0_copyFrom cX0_copyFrom 2 none, Cond.fieldLink RX0 9 "LoopMemo$Answers" "rows" "[I", Cond.fieldLink RX0 15 "LoopMemo$Answers" "sums" "[I", Cond.fieldLink RX0 18 "LoopMemo$Answers" "firstRows" "[I", Cond.methodLink RX4 57 yX2_copyFrom, Cond.instanceMethod yX2_copyFrom, Cond.selects RX2 yX2_copyFrom yX2_copyFrom, Cond.initialized RX2, Cond.code yX2_copyFrom cX2_copyFrom 2 none, Cond.fieldLink RX2 9 "LoopMemo$Memo" "uses" "[I", Cond.fieldLink RX2 15 "LoopMemo$Memo" "lastLooks" "[I", Cond.fieldLink RX2 18 "LoopMemo$Memo" "firstLooks" "[I", Cond.fieldLink RX2 25 "LoopMemo$Memo" "looks" "I", Cond.methodLink RX6 52 yX4_rewriteRow, Cond.instanceMethod yX4_rewriteRow, Cond.selects RX4 yX4_rewriteRow yX4_rewriteRow, Cond.code yX4_rewriteRow cX4_rewriteRow 5 (some .int), Cond.methodLink RX4 104 yX5_has, Cond.instanceMethod yX5_has, Cond.selects RX5 yX5_has yX5_has, Cond.code yX5_has cX5_has 2 (some .boolean), Cond.static yX6_isRow, Cond.code yX6_isRow cX6_isRow 2 (some .boolean)]
def wsX6_change_r4 : List Cond := [Cond.methodLink RX6 147 yX6_isKey, Cond.static yX6_isKey, Cond.code yX6_isKey cX6_isKey 1 (some .boolean), Cond.methodLink RX6 76 yX6_isWithin, Cond.static yX6_isWithin, Cond.code yX6_isWithin cX6_isWithin 2 (some .boolean), Cond.methodLink RX4 71 yX5_key, Cond.instanceMethod yX5_key, Cond.selects RX5 yX5_key yX5_key, Cond.code yX5_key cX5_key 2 (some .int), Cond.methodLink RX4 114 yX5_put, Cond.instanceMethod yX5_put, Cond.selects RX5 yX5_put yX5_put, Cond.code yX5_put cX5_put 4 none, Cond.methodLink RX4 101 yX4_keepTrue, Cond.instanceMethod yX4_keepTrue, Cond.selects RX4 yX4_keepTrue yX4_keepTrue, Cond.code yX4_keepTrue cX4_keepTrue 3 none, Cond.methodLink RX4 134 yX4_findAnswers, Cond.instanceMethod yX4_findAnswers, Cond.selects RX4 yX4_findAnswers yX4_findAnswers, Cond.code yX4_findAnswers cX4_findAnswers 1 none, Cond.methodLink RX4 162 yX0_find, Cond.instanceMethod yX0_find]
def wsX6_change_r5 : List Cond := [Cond.selects RX0 yX0_find yX0_find, Cond.code yX0_find cX0_find 7 none, Cond.methodLink RX0 25 yX5_size, Cond.instanceMethod yX5_size, Cond.selects RX5 yX5_size yX5_size, Cond.code yX5_size cX5_size 1 (some .int), Cond.methodLink RX0 31 yX5_value, Cond.instanceMethod yX5_value, Cond.selects RX5 yX5_value yX5_value, Cond.code yX5_value cX5_value 2 (some .int), Cond.methodLink RX0 35 yX5_key, Cond.methodLink RX4 137 yX4_throwAllOut, Cond.instanceMethod yX4_throwAllOut, Cond.selects RX4 yX4_throwAllOut yX4_throwAllOut, Cond.code yX4_throwAllOut cX4_throwAllOut 2 (some .int), Cond.methodLink RX4 125 yX2_loseAll, Cond.instanceMethod yX2_loseAll, Cond.selects RX2 yX2_loseAll yX2_loseAll, Cond.code yX2_loseAll cX2_loseAll 3 (some .int), Cond.methodLink RX2 29 yX2_size, Cond.instanceMethod yX2_size, Cond.selects RX2 yX2_size yX2_size, Cond.code yX2_size cX2_size 3 (some .int), Cond.methodLink RX4 159 yX4_keepAnswerTrue]
def wsX6_change_r6 : List Cond := [Cond.instanceMethod yX4_keepAnswerTrue, Cond.selects RX4 yX4_keepAnswerTrue yX4_keepAnswerTrue, Cond.code yX4_keepAnswerTrue cX4_keepAnswerTrue 2 none, Cond.methodLink RX4 75 yX2_holds, Cond.instanceMethod yX2_holds, Cond.selects RX2 yX2_holds yX2_holds, Cond.code yX2_holds cX2_holds 2 (some .boolean), Cond.methodLink RX4 156 yX2_lose, Cond.instanceMethod yX2_lose, Cond.selects RX2 yX2_lose yX2_lose, Cond.code yX2_lose cX2_lose 2 none, Cond.methodLink RX4 118 yX2_size, Cond.methodLink RX6 44 yX1_commit, Cond.instanceMethod yX1_commit, Cond.selects RX1 yX1_commit yX1_commit, Cond.code yX1_commit cX1_commit 2 (some .int), Cond.fieldLink RX1 18 "LoopMemo$History" "size" "I", Cond.methodLink RX1 33 Lib.Math.min.name]
def wsX6_change : List Cond := .code yX6_change cX6_change 4 (some .int) :: ((wsX6_change_r1 ++ (wsX6_change_r2 ++ (wsX6_change_r3 ++ (wsX6_change_r4 ++ (wsX6_change_r5 ++ wsX6_change_r6))))) ++ wsX60 ++ wsX10 ++ wsX40 ++ wsX50 ++ wsX00 ++ wsX20)
def wsX6_step_r1 : List Cond := [Cond.fieldLink RX6 25 "LoopMemo" "history" "LLoopMemo$History;", Cond.fieldLink RX6 10 "LoopMemo" "now" "LLoopMemo$State;", Cond.methodLink RX6 36 yX1_prepare, Cond.instanceMethod yX1_prepare, Cond.selects RX1 yX1_prepare yX1_prepare, Cond.initialized RX1, Cond.code yX1_prepare cX1_prepare 3 none, Cond.fieldLink RX1 22 "LoopMemo$History" "next" "I", Cond.methodLink RX1 25 yX1_slot, Cond.instanceMethod yX1_slot, Cond.selects RX1 yX1_slot yX1_slot, Cond.code yX1_slot cX1_slot 2 (some (.object "LoopMemo$State")), Cond.fieldLink RX1 13 "LoopMemo$History" "slots" "[LLoopMemo$State;", Cond.methodLink RX1 29 yX4_copyFrom, Cond.instanceMethod yX4_copyFrom, Cond.selects RX4 yX4_copyFrom yX4_copyFrom, Cond.initialized RX4, Cond.code yX4_copyFrom cX4_copyFrom 2 none, Cond.fieldLink RX4 12 "LoopMemo$State" "outer" "LLoopMemo$Table;", Cond.fieldLink RX4 18 "LoopMemo$State" "inner" "LLoopMemo$Table;", Cond.fieldLink RX4 24 "LoopMemo$State" "answers" "LLoopMemo$Answers;", Cond.fieldLink RX4 31 "LoopMemo$State" "memo" "LLoopMemo$Memo;", Cond.fieldLink RX4 44 "LoopMemo$State" "settings" "[I", Cond.fieldLink RX4 47 "LoopMemo$State" "tallies" "[I"]
def wsX6_step_r2 : List Cond := [Cond.fieldLink RX4 64 "LoopMemo$State" "place" "I", Cond.fieldLink RX4 68 "LoopMemo$State" "total" "I", Cond.methodLink RX4 50 yX5_copyFrom, Cond.instanceMethod yX5_copyFrom, Cond.selects RX5 yX5_copyFrom yX5_copyFrom, Cond.initialized RX5, Cond.code yX5_copyFrom cX5_copyFrom 2 none, Cond.fieldLink RX5 9 "LoopMemo$Table" "keys" "[I", Cond.fieldLink RX5 15 "LoopMemo$Table" "values" "[I", Cond.fieldLink RX5 22 "LoopMemo$Table" "size" "I", Cond.static yX6_copyNumbers, Cond.initialized RX6, Cond.code yX6_copyNumbers cX6_copyNumbers 2 none, Cond.methodLink RX6 117 Lib.Math.min.name, Cond.static Lib.Math.min.name, Cond.initialized "java/lang/Math", Cond.code Lib.Math.min.name Lib.Math.min.code 2 (some .int), Cond.methodLink RX6 225 arraycopyName, Cond.native arraycopyName, Cond.static arraycopyName, Cond.initialized "java/lang/System", Cond.methodLink RX4 54 yX0_copyFrom, Cond.instanceMethod yX0_copyFrom, Cond.selects RX0 yX0_copyFrom yX0_copyFrom]
def wsX6_step_r3 : List Cond := [Cond.initialized RX0, Cond.code yX0_copyFrom cX0_copyFrom 2 none, Cond.fieldLink RX0 9 "LoopMemo$Answers" "rows" "[I", Cond.fieldLink RX0 15 "LoopMemo$Answers" "sums" "[I", Cond.fieldLink RX0 18 "LoopMemo$Answers" "firstRows" "[I", Cond.methodLink RX4 57 yX2_copyFrom, Cond.instanceMethod yX2_copyFrom, Cond.selects RX2 yX2_copyFrom yX2_copyFrom, Cond.initialized RX2, Cond.code yX2_copyFrom cX2_copyFrom 2 none, Cond.fieldLink RX2 9 "LoopMemo$Memo" "uses" "[I", Cond.fieldLink RX2 15 "LoopMemo$Memo" "lastLooks" "[I", Cond.fieldLink RX2 18 "LoopMemo$Memo" "firstLooks" "[I", Cond.fieldLink RX2 25 "LoopMemo$Memo" "looks" "I", Cond.methodLink RX6 56 yX4_walk, Cond.instanceMethod yX4_walk, Cond.selects RX4 yX4_walk yX4_walk, Cond.code yX4_walk cX4_walk 5 (some .int), Cond.methodLink RX4 93 yX5_size, Cond.instanceMethod yX5_size, Cond.selects RX5 yX5_size yX5_size, Cond.code yX5_size cX5_size 1 (some .int), Cond.methodLink RX4 71 yX5_key, Cond.instanceMethod yX5_key]
def wsX6_step_r4 : List Cond := [Cond.selects RX5 yX5_key yX5_key, Cond.code yX5_key cX5_key 2 (some .int), Cond.methodLink RX4 119 yX4_lookUp, Cond.instanceMethod yX4_lookUp, Cond.selects RX4 yX4_lookUp yX4_lookUp, Cond.code yX4_lookUp cX4_lookUp 2 none, Cond.methodLink RX4 75 yX2_holds, Cond.instanceMethod yX2_holds, Cond.selects RX2 yX2_holds yX2_holds, Cond.code yX2_holds cX2_holds 2 (some .boolean), Cond.methodLink RX4 143 yX2_touch, Cond.instanceMethod yX2_touch, Cond.selects RX2 yX2_touch yX2_touch, Cond.code yX2_touch cX2_touch 2 none, Cond.methodLink RX4 140 yX0_weight, Cond.instanceMethod yX0_weight, Cond.selects RX0 yX0_weight yX0_weight, Cond.code yX0_weight cX0_weight 2 (some .int), Cond.methodLink RX4 146 yX2_take, Cond.instanceMethod yX2_take, Cond.selects RX2 yX2_take yX2_take, Cond.code yX2_take cX2_take 2 none, Cond.methodLink RX4 131 yX4_makeRoom, Cond.instanceMethod yX4_makeRoom]
def wsX6_step_r5 : List Cond := [Cond.selects RX4 yX4_makeRoom yX4_makeRoom, Cond.code yX4_makeRoom cX4_makeRoom 5 (some .int), Cond.methodLink RX4 149 yX4_weightTogether, Cond.instanceMethod yX4_weightTogether, Cond.selects RX4 yX4_weightTogether yX4_weightTogether, Cond.code yX4_weightTogether cX4_weightTogether 3 (some .int), Cond.methodLink RX4 152 yX2_firstOut, Cond.instanceMethod yX2_firstOut, Cond.selects RX2 yX2_firstOut yX2_firstOut, Cond.code yX2_firstOut cX2_firstOut 5 (some .int), Cond.methodLink RX2 33 yX2_rank, Cond.instanceMethod yX2_rank, Cond.selects RX2 yX2_rank yX2_rank, Cond.code yX2_rank cX2_rank 3 (some .long), Cond.methodLink RX4 156 yX2_lose, Cond.instanceMethod yX2_lose, Cond.selects RX2 yX2_lose yX2_lose, Cond.code yX2_lose cX2_lose 2 none, Cond.methodLink RX4 79 yX5_value, Cond.instanceMethod yX5_value, Cond.selects RX5 yX5_value yX5_value, Cond.code yX5_value cX5_value 2 (some .int), Cond.methodLink RX4 122 yX0_sum, Cond.instanceMethod yX0_sum]
def wsX6_step_r6 : List Cond := [Cond.selects RX0 yX0_sum yX0_sum, Cond.code yX0_sum cX0_sum 2 (some .int), Cond.methodLink RX6 44 yX1_commit, Cond.instanceMethod yX1_commit, Cond.selects RX1 yX1_commit yX1_commit, Cond.code yX1_commit cX1_commit 2 (some .int), Cond.fieldLink RX1 18 "LoopMemo$History" "size" "I", Cond.methodLink RX1 33 Lib.Math.min.name]
def wsX6_step : List Cond := .code yX6_step cX6_step 2 (some .int) :: ((wsX6_step_r1 ++ (wsX6_step_r2 ++ (wsX6_step_r3 ++ (wsX6_step_r4 ++ (wsX6_step_r5 ++ wsX6_step_r6))))) ++ wsX60 ++ wsX10 ++ wsX40 ++ wsX50 ++ wsX00 ++ wsX20)
def wsX6_again_r1 : List Cond := [Cond.fieldLink RX6 25 "LoopMemo" "history" "LLoopMemo$History;", Cond.fieldLink RX6 10 "LoopMemo" "now" "LLoopMemo$State;", Cond.methodLink RX6 36 yX1_prepare, Cond.instanceMethod yX1_prepare, Cond.selects RX1 yX1_prepare yX1_prepare, Cond.initialized RX1, Cond.code yX1_prepare cX1_prepare 3 none, Cond.fieldLink RX1 22 "LoopMemo$History" "next" "I", Cond.methodLink RX1 25 yX1_slot, Cond.instanceMethod yX1_slot, Cond.selects RX1 yX1_slot yX1_slot, Cond.code yX1_slot cX1_slot 2 (some (.object "LoopMemo$State")), Cond.fieldLink RX1 13 "LoopMemo$History" "slots" "[LLoopMemo$State;", Cond.methodLink RX1 29 yX4_copyFrom, Cond.instanceMethod yX4_copyFrom, Cond.selects RX4 yX4_copyFrom yX4_copyFrom, Cond.initialized RX4, Cond.code yX4_copyFrom cX4_copyFrom 2 none, Cond.fieldLink RX4 12 "LoopMemo$State" "outer" "LLoopMemo$Table;", Cond.fieldLink RX4 18 "LoopMemo$State" "inner" "LLoopMemo$Table;", Cond.fieldLink RX4 24 "LoopMemo$State" "answers" "LLoopMemo$Answers;", Cond.fieldLink RX4 31 "LoopMemo$State" "memo" "LLoopMemo$Memo;", Cond.fieldLink RX4 44 "LoopMemo$State" "settings" "[I", Cond.fieldLink RX4 47 "LoopMemo$State" "tallies" "[I"]
def wsX6_again_r2 : List Cond := [Cond.fieldLink RX4 64 "LoopMemo$State" "place" "I", Cond.fieldLink RX4 68 "LoopMemo$State" "total" "I", Cond.methodLink RX4 50 yX5_copyFrom, Cond.instanceMethod yX5_copyFrom, Cond.selects RX5 yX5_copyFrom yX5_copyFrom, Cond.initialized RX5, Cond.code yX5_copyFrom cX5_copyFrom 2 none, Cond.fieldLink RX5 9 "LoopMemo$Table" "keys" "[I", Cond.fieldLink RX5 15 "LoopMemo$Table" "values" "[I", Cond.fieldLink RX5 22 "LoopMemo$Table" "size" "I", Cond.static yX6_copyNumbers, Cond.initialized RX6, Cond.code yX6_copyNumbers cX6_copyNumbers 2 none, Cond.methodLink RX6 117 Lib.Math.min.name, Cond.static Lib.Math.min.name, Cond.initialized "java/lang/Math", Cond.code Lib.Math.min.name Lib.Math.min.code 2 (some .int), Cond.methodLink RX6 225 arraycopyName, Cond.native arraycopyName, Cond.static arraycopyName, Cond.initialized "java/lang/System", Cond.methodLink RX4 54 yX0_copyFrom, Cond.instanceMethod yX0_copyFrom, Cond.selects RX0 yX0_copyFrom yX0_copyFrom]
def wsX6_again_r3 : List Cond := [Cond.initialized RX0, Cond.code yX0_copyFrom cX0_copyFrom 2 none, Cond.fieldLink RX0 9 "LoopMemo$Answers" "rows" "[I", Cond.fieldLink RX0 15 "LoopMemo$Answers" "sums" "[I", Cond.fieldLink RX0 18 "LoopMemo$Answers" "firstRows" "[I", Cond.methodLink RX4 57 yX2_copyFrom, Cond.instanceMethod yX2_copyFrom, Cond.selects RX2 yX2_copyFrom yX2_copyFrom, Cond.initialized RX2, Cond.code yX2_copyFrom cX2_copyFrom 2 none, Cond.fieldLink RX2 9 "LoopMemo$Memo" "uses" "[I", Cond.fieldLink RX2 15 "LoopMemo$Memo" "lastLooks" "[I", Cond.fieldLink RX2 18 "LoopMemo$Memo" "firstLooks" "[I", Cond.fieldLink RX2 25 "LoopMemo$Memo" "looks" "I", Cond.methodLink RX6 59 yX4_beginAgain, Cond.instanceMethod yX4_beginAgain, Cond.selects RX4 yX4_beginAgain yX4_beginAgain, Cond.code yX4_beginAgain cX4_beginAgain 2 (some .int), Cond.methodLink RX6 44 yX1_commit, Cond.instanceMethod yX1_commit, Cond.selects RX1 yX1_commit yX1_commit, Cond.code yX1_commit cX1_commit 2 (some .int), Cond.fieldLink RX1 18 "LoopMemo$History" "size" "I", Cond.methodLink RX1 33 Lib.Math.min.name]
def wsX6_again : List Cond := .code yX6_again cX6_again 1 (some .int) :: ((wsX6_again_r1 ++ (wsX6_again_r2 ++ wsX6_again_r3)) ++ wsX60 ++ wsX10 ++ wsX40 ++ wsX50 ++ wsX00 ++ wsX20)
def wsX6_forget_r1 : List Cond := [Cond.fieldLink RX6 25 "LoopMemo" "history" "LLoopMemo$History;", Cond.fieldLink RX6 10 "LoopMemo" "now" "LLoopMemo$State;", Cond.methodLink RX6 36 yX1_prepare, Cond.instanceMethod yX1_prepare, Cond.selects RX1 yX1_prepare yX1_prepare, Cond.initialized RX1, Cond.code yX1_prepare cX1_prepare 3 none, Cond.fieldLink RX1 22 "LoopMemo$History" "next" "I", Cond.methodLink RX1 25 yX1_slot, Cond.instanceMethod yX1_slot, Cond.selects RX1 yX1_slot yX1_slot, Cond.code yX1_slot cX1_slot 2 (some (.object "LoopMemo$State")), Cond.fieldLink RX1 13 "LoopMemo$History" "slots" "[LLoopMemo$State;", Cond.methodLink RX1 29 yX4_copyFrom, Cond.instanceMethod yX4_copyFrom, Cond.selects RX4 yX4_copyFrom yX4_copyFrom, Cond.initialized RX4, Cond.code yX4_copyFrom cX4_copyFrom 2 none, Cond.fieldLink RX4 12 "LoopMemo$State" "outer" "LLoopMemo$Table;", Cond.fieldLink RX4 18 "LoopMemo$State" "inner" "LLoopMemo$Table;", Cond.fieldLink RX4 24 "LoopMemo$State" "answers" "LLoopMemo$Answers;", Cond.fieldLink RX4 31 "LoopMemo$State" "memo" "LLoopMemo$Memo;", Cond.fieldLink RX4 44 "LoopMemo$State" "settings" "[I", Cond.fieldLink RX4 47 "LoopMemo$State" "tallies" "[I"]
