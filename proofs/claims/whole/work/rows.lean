section
-- ===== PART A: goes FIRST, ahead of the names: the tables' words, and 'selects' of the private methods out of them =====
/-- a private method of a class that the tables say can be made, by its rows of tables_1 -/
def lw_okq (q : MethodName × Nat) : Prop := (q.1.cls ≠ "java/lang/invoke/MethodHandle" ∧ q.1.cls ≠ "java/lang/invoke/VarHandle") ∧ Cond.instantiable q.1.cls q.2 ∈ tables_1 ∧ Cond.privateMethod q.1 ∈ tables_1 ∧ Cond.instanceMethod q.1 ∈ tables_1
theorem lw_p0 : lw_okq (⟨"LoopMemo$History", "slot", "(I)LLoopMemo$State;"⟩, 3) := ⟨⟨by decide +kernel, by decide +kernel⟩, List.mem_of_getElem? (i := 112) (by decide +kernel), List.mem_of_getElem? (i := 201) (by decide +kernel), List.mem_of_getElem? (i := 202) (by decide +kernel)⟩
theorem lw_p1 : lw_okq (⟨"LoopMemo$State", "keepTrue", "(II)V"⟩, 8) := ⟨⟨by decide +kernel, by decide +kernel⟩, List.mem_of_getElem? (i := 20) (by decide +kernel), List.mem_of_getElem? (i := 262) (by decide +kernel), List.mem_of_getElem? (i := 263) (by decide +kernel)⟩
theorem lw_p2 : lw_okq (⟨"LoopMemo$State", "findAnswers", "()V"⟩, 8) := ⟨⟨by decide +kernel, by decide +kernel⟩, List.mem_of_getElem? (i := 20) (by decide +kernel), List.mem_of_getElem? (i := 266) (by decide +kernel), List.mem_of_getElem? (i := 267) (by decide +kernel)⟩
theorem lw_p3 : lw_okq (⟨"LoopMemo$State", "keepAnswerTrue", "(I)V"⟩, 8) := ⟨⟨by decide +kernel, by decide +kernel⟩, List.mem_of_getElem? (i := 20) (by decide +kernel), List.mem_of_getElem? (i := 295) (by decide +kernel), List.mem_of_getElem? (i := 296) (by decide +kernel)⟩
theorem lw_p4 : lw_okq (⟨"LoopMemo$State", "lookUp", "(I)V"⟩, 8) := ⟨⟨by decide +kernel, by decide +kernel⟩, List.mem_of_getElem? (i := 20) (by decide +kernel), List.mem_of_getElem? (i := 354) (by decide +kernel), List.mem_of_getElem? (i := 355) (by decide +kernel)⟩
theorem lw_p5 : lw_okq (⟨"LoopMemo$State", "makeRoom", "(I)I"⟩, 8) := ⟨⟨by decide +kernel, by decide +kernel⟩, List.mem_of_getElem? (i := 20) (by decide +kernel), List.mem_of_getElem? (i := 370) (by decide +kernel), List.mem_of_getElem? (i := 371) (by decide +kernel)⟩
theorem lw_p6 : lw_okq (⟨"LoopMemo$Memo", "rank", "(II)J"⟩, 4) := ⟨⟨by decide +kernel, by decide +kernel⟩, List.mem_of_getElem? (i := 59) (by decide +kernel), List.mem_of_getElem? (i := 382) (by decide +kernel), List.mem_of_getElem? (i := 383) (by decide +kernel)⟩
theorem lw_p7 : lw_okq (⟨"LoopMemo$Pad", "takes", "(I)Z"⟩, 9) := ⟨⟨by decide +kernel, by decide +kernel⟩, List.mem_of_getElem? (i := 131) (by decide +kernel), List.mem_of_getElem? (i := 446) (by decide +kernel), List.mem_of_getElem? (i := 447) (by decide +kernel)⟩
theorem lw_p8 : lw_okq (⟨"LoopMemo$Pad", "code", "(I)I"⟩, 9) := ⟨⟨by decide +kernel, by decide +kernel⟩, List.mem_of_getElem? (i := 131) (by decide +kernel), List.mem_of_getElem? (i := 450) (by decide +kernel), List.mem_of_getElem? (i := 451) (by decide +kernel)⟩
theorem lw_p9 : lw_okq (⟨"LoopMemo$Pad", "readDeed", "()Z"⟩, 9) := ⟨⟨by decide +kernel, by decide +kernel⟩, List.mem_of_getElem? (i := 131) (by decide +kernel), List.mem_of_getElem? (i := 454) (by decide +kernel), List.mem_of_getElem? (i := 455) (by decide +kernel)⟩
theorem lw_p10 : lw_okq (⟨"LoopMemo$Pad", "readNumber", "(II)I"⟩, 9) := ⟨⟨by decide +kernel, by decide +kernel⟩, List.mem_of_getElem? (i := 131) (by decide +kernel), List.mem_of_getElem? (i := 458) (by decide +kernel), List.mem_of_getElem? (i := 459) (by decide +kernel)⟩
theorem lw_p11 : lw_okq (⟨"LoopMemo$Pad", "readRow", "()Z"⟩, 9) := ⟨⟨by decide +kernel, by decide +kernel⟩, List.mem_of_getElem? (i := 131) (by decide +kernel), List.mem_of_getElem? (i := 462) (by decide +kernel), List.mem_of_getElem? (i := 463) (by decide +kernel)⟩
theorem lw_p12 : lw_okq (⟨"LoopMemo", "obey", "()I"⟩, 9) := ⟨⟨by decide +kernel, by decide +kernel⟩, List.mem_of_getElem? (i := 12) (by decide +kernel), List.mem_of_getElem? (i := 490) (by decide +kernel), List.mem_of_getElem? (i := 491) (by decide +kernel)⟩
theorem lw_p13 : lw_okq (⟨"LoopMemo$State", "isInBand", "(I)Z"⟩, 8) := ⟨⟨by decide +kernel, by decide +kernel⟩, List.mem_of_getElem? (i := 20) (by decide +kernel), List.mem_of_getElem? (i := 517) (by decide +kernel), List.mem_of_getElem? (i := 518) (by decide +kernel)⟩
theorem lw_p14 : lw_okq (⟨"LoopMemo", "tryBound", "(I)V"⟩, 9) := ⟨⟨by decide +kernel, by decide +kernel⟩, List.mem_of_getElem? (i := 12) (by decide +kernel), List.mem_of_getElem? (i := 602) (by decide +kernel), List.mem_of_getElem? (i := 603) (by decide +kernel)⟩
theorem lw_p15 : lw_okq (⟨"LoopMemo", "brought", "(I)I"⟩, 9) := ⟨⟨by decide +kernel, by decide +kernel⟩, List.mem_of_getElem? (i := 12) (by decide +kernel), List.mem_of_getElem? (i := 607) (by decide +kernel), List.mem_of_getElem? (i := 608) (by decide +kernel)⟩
def lw_privs_1 : List (MethodName × Nat) := [(⟨"LoopMemo$History", "slot", "(I)LLoopMemo$State;"⟩, 3), (⟨"LoopMemo$State", "keepTrue", "(II)V"⟩, 8), (⟨"LoopMemo$State", "findAnswers", "()V"⟩, 8), (⟨"LoopMemo$State", "keepAnswerTrue", "(I)V"⟩, 8), (⟨"LoopMemo$State", "lookUp", "(I)V"⟩, 8), (⟨"LoopMemo$State", "makeRoom", "(I)I"⟩, 8), (⟨"LoopMemo$Memo", "rank", "(II)J"⟩, 4), (⟨"LoopMemo$Pad", "takes", "(I)Z"⟩, 9), (⟨"LoopMemo$Pad", "code", "(I)I"⟩, 9), (⟨"LoopMemo$Pad", "readDeed", "()Z"⟩, 9), (⟨"LoopMemo$Pad", "readNumber", "(II)I"⟩, 9), (⟨"LoopMemo$Pad", "readRow", "()Z"⟩, 9), (⟨"LoopMemo", "obey", "()I"⟩, 9), (⟨"LoopMemo$State", "isInBand", "(I)Z"⟩, 8), (⟨"LoopMemo", "tryBound", "(I)V"⟩, 9), (⟨"LoopMemo", "brought", "(I)I"⟩, 9)]
theorem lw_r1 : ∀ q ∈ lw_privs_1, lw_okq q := List.forall_mem_cons.mpr ⟨lw_p0, List.forall_mem_cons.mpr ⟨lw_p1, List.forall_mem_cons.mpr ⟨lw_p2, List.forall_mem_cons.mpr ⟨lw_p3, List.forall_mem_cons.mpr ⟨lw_p4, List.forall_mem_cons.mpr ⟨lw_p5, List.forall_mem_cons.mpr ⟨lw_p6, List.forall_mem_cons.mpr ⟨lw_p7, List.forall_mem_cons.mpr ⟨lw_p8, List.forall_mem_cons.mpr ⟨lw_p9, List.forall_mem_cons.mpr ⟨lw_p10, List.forall_mem_cons.mpr ⟨lw_p11, List.forall_mem_cons.mpr ⟨lw_p12, List.forall_mem_cons.mpr ⟨lw_p13, List.forall_mem_cons.mpr ⟨lw_p14, List.forall_mem_cons.mpr ⟨lw_p15, fun _ h => absurd h List.not_mem_nil⟩⟩⟩⟩⟩⟩⟩⟩⟩⟩⟩⟩⟩⟩⟩⟩
theorem lw_p16 : lw_okq (⟨"LoopMemo$Table", "swap", "(II)V"⟩, 3) := ⟨⟨by decide +kernel, by decide +kernel⟩, List.mem_of_getElem? (i := 26) (by decide +kernel), List.mem_of_getElem? (i := 619) (by decide +kernel), List.mem_of_getElem? (i := 620) (by decide +kernel)⟩
theorem lw_p17 : lw_okq (⟨"LoopMemoModel", "changes", "()V"⟩, 14) := ⟨⟨by decide +kernel, by decide +kernel⟩, List.mem_of_getElem? (i := 647) (by decide +kernel), List.mem_of_getElem? (i := 706) (by decide +kernel), List.mem_of_getElem? (i := 707) (by decide +kernel)⟩
theorem lw_p18 : lw_okq (⟨"LoopMemoModel", "adds", "(ZII)I"⟩, 14) := ⟨⟨by decide +kernel, by decide +kernel⟩, List.mem_of_getElem? (i := 647) (by decide +kernel), List.mem_of_getElem? (i := 710) (by decide +kernel), List.mem_of_getElem? (i := 711) (by decide +kernel)⟩
theorem lw_p19 : lw_okq (⟨"LoopMemoModel", "keeps", "(II)V"⟩, 14) := ⟨⟨by decide +kernel, by decide +kernel⟩, List.mem_of_getElem? (i := 647) (by decide +kernel), List.mem_of_getElem? (i := 714) (by decide +kernel), List.mem_of_getElem? (i := 715) (by decide +kernel)⟩
theorem lw_p20 : lw_okq (⟨"LoopMemoModel", "throwsAll", "()I"⟩, 14) := ⟨⟨by decide +kernel, by decide +kernel⟩, List.mem_of_getElem? (i := 647) (by decide +kernel), List.mem_of_getElem? (i := 718) (by decide +kernel), List.mem_of_getElem? (i := 719) (by decide +kernel)⟩
theorem lw_p21 : lw_okq (⟨"LoopMemoModel", "throwsOut", "(I)I"⟩, 14) := ⟨⟨by decide +kernel, by decide +kernel⟩, List.mem_of_getElem? (i := 647) (by decide +kernel), List.mem_of_getElem? (i := 722) (by decide +kernel), List.mem_of_getElem? (i := 723) (by decide +kernel)⟩
theorem lw_p22 : lw_okq (⟨"LoopMemoModel", "isKnown", "(I)Z"⟩, 14) := ⟨⟨by decide +kernel, by decide +kernel⟩, List.mem_of_getElem? (i := 647) (by decide +kernel), List.mem_of_getElem? (i := 726) (by decide +kernel), List.mem_of_getElem? (i := 727) (by decide +kernel)⟩
theorem lw_p23 : lw_okq (⟨"LoopMemoModel", "isInner", "(I)Z"⟩, 14) := ⟨⟨by decide +kernel, by decide +kernel⟩, List.mem_of_getElem? (i := 647) (by decide +kernel), List.mem_of_getElem? (i := 734) (by decide +kernel), List.mem_of_getElem? (i := 735) (by decide +kernel)⟩
theorem lw_p24 : lw_okq (⟨"LoopMemoModel", "isOuter", "(I)Z"⟩, 14) := ⟨⟨by decide +kernel, by decide +kernel⟩, List.mem_of_getElem? (i := 647) (by decide +kernel), List.mem_of_getElem? (i := 738) (by decide +kernel), List.mem_of_getElem? (i := 739) (by decide +kernel)⟩
theorem lw_p25 : lw_okq (⟨"LoopMemoModel", "innerKey", "(I)I"⟩, 14) := ⟨⟨by decide +kernel, by decide +kernel⟩, List.mem_of_getElem? (i := 647) (by decide +kernel), List.mem_of_getElem? (i := 746) (by decide +kernel), List.mem_of_getElem? (i := 747) (by decide +kernel)⟩
theorem lw_p26 : lw_okq (⟨"LoopMemoModel", "known", "()I"⟩, 14) := ⟨⟨by decide +kernel, by decide +kernel⟩, List.mem_of_getElem? (i := 647) (by decide +kernel), List.mem_of_getElem? (i := 750) (by decide +kernel), List.mem_of_getElem? (i := 751) (by decide +kernel)⟩
theorem lw_p27 : lw_okq (⟨"LoopMemoModel", "steps", "(I)I"⟩, 14) := ⟨⟨by decide +kernel, by decide +kernel⟩, List.mem_of_getElem? (i := 647) (by decide +kernel), List.mem_of_getElem? (i := 758) (by decide +kernel), List.mem_of_getElem? (i := 759) (by decide +kernel)⟩
theorem lw_p28 : lw_okq (⟨"LoopMemoModel", "looks", "(I)I"⟩, 14) := ⟨⟨by decide +kernel, by decide +kernel⟩, List.mem_of_getElem? (i := 647) (by decide +kernel), List.mem_of_getElem? (i := 762) (by decide +kernel), List.mem_of_getElem? (i := 763) (by decide +kernel)⟩
theorem lw_p29 : lw_okq (⟨"LoopMemoModel", "weight", "(I)I"⟩, 14) := ⟨⟨by decide +kernel, by decide +kernel⟩, List.mem_of_getElem? (i := 647) (by decide +kernel), List.mem_of_getElem? (i := 766) (by decide +kernel), List.mem_of_getElem? (i := 767) (by decide +kernel)⟩
theorem lw_p30 : lw_okq (⟨"LoopMemoModel", "found", "(I)I"⟩, 14) := ⟨⟨by decide +kernel, by decide +kernel⟩, List.mem_of_getElem? (i := 647) (by decide +kernel), List.mem_of_getElem? (i := 770) (by decide +kernel), List.mem_of_getElem? (i := 771) (by decide +kernel)⟩
theorem lw_p31 : lw_okq (⟨"LoopMemoModel", "isFound", "(II)Z"⟩, 14) := ⟨⟨by decide +kernel, by decide +kernel⟩, List.mem_of_getElem? (i := 647) (by decide +kernel), List.mem_of_getElem? (i := 774) (by decide +kernel), List.mem_of_getElem? (i := 775) (by decide +kernel)⟩
def lw_privs_2 : List (MethodName × Nat) := [(⟨"LoopMemo$Table", "swap", "(II)V"⟩, 3), (⟨"LoopMemoModel", "changes", "()V"⟩, 14), (⟨"LoopMemoModel", "adds", "(ZII)I"⟩, 14), (⟨"LoopMemoModel", "keeps", "(II)V"⟩, 14), (⟨"LoopMemoModel", "throwsAll", "()I"⟩, 14), (⟨"LoopMemoModel", "throwsOut", "(I)I"⟩, 14), (⟨"LoopMemoModel", "isKnown", "(I)Z"⟩, 14), (⟨"LoopMemoModel", "isInner", "(I)Z"⟩, 14), (⟨"LoopMemoModel", "isOuter", "(I)Z"⟩, 14), (⟨"LoopMemoModel", "innerKey", "(I)I"⟩, 14), (⟨"LoopMemoModel", "known", "()I"⟩, 14), (⟨"LoopMemoModel", "steps", "(I)I"⟩, 14), (⟨"LoopMemoModel", "looks", "(I)I"⟩, 14), (⟨"LoopMemoModel", "weight", "(I)I"⟩, 14), (⟨"LoopMemoModel", "found", "(I)I"⟩, 14), (⟨"LoopMemoModel", "isFound", "(II)Z"⟩, 14)]
theorem lw_r2 : ∀ q ∈ lw_privs_2, lw_okq q := List.forall_mem_cons.mpr ⟨lw_p16, List.forall_mem_cons.mpr ⟨lw_p17, List.forall_mem_cons.mpr ⟨lw_p18, List.forall_mem_cons.mpr ⟨lw_p19, List.forall_mem_cons.mpr ⟨lw_p20, List.forall_mem_cons.mpr ⟨lw_p21, List.forall_mem_cons.mpr ⟨lw_p22, List.forall_mem_cons.mpr ⟨lw_p23, List.forall_mem_cons.mpr ⟨lw_p24, List.forall_mem_cons.mpr ⟨lw_p25, List.forall_mem_cons.mpr ⟨lw_p26, List.forall_mem_cons.mpr ⟨lw_p27, List.forall_mem_cons.mpr ⟨lw_p28, List.forall_mem_cons.mpr ⟨lw_p29, List.forall_mem_cons.mpr ⟨lw_p30, List.forall_mem_cons.mpr ⟨lw_p31, fun _ h => absurd h List.not_mem_nil⟩⟩⟩⟩⟩⟩⟩⟩⟩⟩⟩⟩⟩⟩⟩⟩
theorem lw_p32 : lw_okq (⟨"LoopMemoModel", "innerValue", "(I)I"⟩, 14) := ⟨⟨by decide +kernel, by decide +kernel⟩, List.mem_of_getElem? (i := 647) (by decide +kernel), List.mem_of_getElem? (i := 778) (by decide +kernel), List.mem_of_getElem? (i := 779) (by decide +kernel)⟩
theorem lw_p33 : lw_okq (⟨"LoopMemoModel", "makesRoom", "(I)I"⟩, 14) := ⟨⟨by decide +kernel, by decide +kernel⟩, List.mem_of_getElem? (i := 647) (by decide +kernel), List.mem_of_getElem? (i := 782) (by decide +kernel), List.mem_of_getElem? (i := 783) (by decide +kernel)⟩
theorem lw_p34 : lw_okq (⟨"LoopMemoModel", "first", "(I)I"⟩, 14) := ⟨⟨by decide +kernel, by decide +kernel⟩, List.mem_of_getElem? (i := 647) (by decide +kernel), List.mem_of_getElem? (i := 786) (by decide +kernel), List.mem_of_getElem? (i := 787) (by decide +kernel)⟩
theorem lw_p35 : lw_okq (⟨"LoopMemoModel", "isAhead", "(II)Z"⟩, 14) := ⟨⟨by decide +kernel, by decide +kernel⟩, List.mem_of_getElem? (i := 647) (by decide +kernel), List.mem_of_getElem? (i := 790) (by decide +kernel), List.mem_of_getElem? (i := 791) (by decide +kernel)⟩
theorem lw_p36 : lw_okq (⟨"LoopMemoModel", "weights", "()I"⟩, 14) := ⟨⟨by decide +kernel, by decide +kernel⟩, List.mem_of_getElem? (i := 647) (by decide +kernel), List.mem_of_getElem? (i := 794) (by decide +kernel), List.mem_of_getElem? (i := 795) (by decide +kernel)⟩
theorem lw_p37 : lw_okq (⟨"LoopMemoModel", "sum", "(I)I"⟩, 14) := ⟨⟨by decide +kernel, by decide +kernel⟩, List.mem_of_getElem? (i := 647) (by decide +kernel), List.mem_of_getElem? (i := 798) (by decide +kernel), List.mem_of_getElem? (i := 799) (by decide +kernel)⟩
theorem lw_p38 : lw_okq (⟨"LoopMemoModel", "sets", "(II)I"⟩, 14) := ⟨⟨by decide +kernel, by decide +kernel⟩, List.mem_of_getElem? (i := 647) (by decide +kernel), List.mem_of_getElem? (i := 814) (by decide +kernel), List.mem_of_getElem? (i := 815) (by decide +kernel)⟩
theorem lw_p39 : lw_okq (⟨"LoopMemoModel", "readsRow", "()Z"⟩, 14) := ⟨⟨by decide +kernel, by decide +kernel⟩, List.mem_of_getElem? (i := 647) (by decide +kernel), List.mem_of_getElem? (i := 830) (by decide +kernel), List.mem_of_getElem? (i := 831) (by decide +kernel)⟩
theorem lw_p40 : lw_okq (⟨"LoopMemoModel", "number", "(III)Z"⟩, 14) := ⟨⟨by decide +kernel, by decide +kernel⟩, List.mem_of_getElem? (i := 647) (by decide +kernel), List.mem_of_getElem? (i := 834) (by decide +kernel), List.mem_of_getElem? (i := 835) (by decide +kernel)⟩
theorem lw_p41 : lw_okq (⟨"LoopMemoModel", "isAt", "(II)Z"⟩, 14) := ⟨⟨by decide +kernel, by decide +kernel⟩, List.mem_of_getElem? (i := 647) (by decide +kernel), List.mem_of_getElem? (i := 838) (by decide +kernel), List.mem_of_getElem? (i := 839) (by decide +kernel)⟩
theorem lw_p42 : lw_okq (⟨"LoopMemoModel", "sign", "(I)Z"⟩, 14) := ⟨⟨by decide +kernel, by decide +kernel⟩, List.mem_of_getElem? (i := 647) (by decide +kernel), List.mem_of_getElem? (i := 842) (by decide +kernel), List.mem_of_getElem? (i := 843) (by decide +kernel)⟩
theorem lw_p43 : lw_okq (⟨"LoopMemoModel", "deed", "()Z"⟩, 14) := ⟨⟨by decide +kernel, by decide +kernel⟩, List.mem_of_getElem? (i := 647) (by decide +kernel), List.mem_of_getElem? (i := 846) (by decide +kernel), List.mem_of_getElem? (i := 847) (by decide +kernel)⟩
theorem lw_p44 : lw_okq (⟨"LoopMemoModel", "does", "(I)I"⟩, 14) := ⟨⟨by decide +kernel, by decide +kernel⟩, List.mem_of_getElem? (i := 647) (by decide +kernel), List.mem_of_getElem? (i := 859) (by decide +kernel), List.mem_of_getElem? (i := 860) (by decide +kernel)⟩
theorem lw_p45 : lw_okq (⟨"LoopMemoModel", "tell", "(II)I"⟩, 14) := ⟨⟨by decide +kernel, by decide +kernel⟩, List.mem_of_getElem? (i := 647) (by decide +kernel), List.mem_of_getElem? (i := 879) (by decide +kernel), List.mem_of_getElem? (i := 880) (by decide +kernel)⟩
theorem lw_p46 : lw_okq (⟨"LoopMemoModel", "firstRow", "(I)I"⟩, 14) := ⟨⟨by decide +kernel, by decide +kernel⟩, List.mem_of_getElem? (i := 647) (by decide +kernel), List.mem_of_getElem? (i := 883) (by decide +kernel), List.mem_of_getElem? (i := 884) (by decide +kernel)⟩
theorem lw_p47 : lw_okq (⟨"LoopMemoModel", "orderOf", "(I)I"⟩, 14) := ⟨⟨by decide +kernel, by decide +kernel⟩, List.mem_of_getElem? (i := 647) (by decide +kernel), List.mem_of_getElem? (i := 891) (by decide +kernel), List.mem_of_getElem? (i := 892) (by decide +kernel)⟩
def lw_privs_3 : List (MethodName × Nat) := [(⟨"LoopMemoModel", "innerValue", "(I)I"⟩, 14), (⟨"LoopMemoModel", "makesRoom", "(I)I"⟩, 14), (⟨"LoopMemoModel", "first", "(I)I"⟩, 14), (⟨"LoopMemoModel", "isAhead", "(II)Z"⟩, 14), (⟨"LoopMemoModel", "weights", "()I"⟩, 14), (⟨"LoopMemoModel", "sum", "(I)I"⟩, 14), (⟨"LoopMemoModel", "sets", "(II)I"⟩, 14), (⟨"LoopMemoModel", "readsRow", "()Z"⟩, 14), (⟨"LoopMemoModel", "number", "(III)Z"⟩, 14), (⟨"LoopMemoModel", "isAt", "(II)Z"⟩, 14), (⟨"LoopMemoModel", "sign", "(I)Z"⟩, 14), (⟨"LoopMemoModel", "deed", "()Z"⟩, 14), (⟨"LoopMemoModel", "does", "(I)I"⟩, 14), (⟨"LoopMemoModel", "tell", "(II)I"⟩, 14), (⟨"LoopMemoModel", "firstRow", "(I)I"⟩, 14), (⟨"LoopMemoModel", "orderOf", "(I)I"⟩, 14)]
theorem lw_r3 : ∀ q ∈ lw_privs_3, lw_okq q := List.forall_mem_cons.mpr ⟨lw_p32, List.forall_mem_cons.mpr ⟨lw_p33, List.forall_mem_cons.mpr ⟨lw_p34, List.forall_mem_cons.mpr ⟨lw_p35, List.forall_mem_cons.mpr ⟨lw_p36, List.forall_mem_cons.mpr ⟨lw_p37, List.forall_mem_cons.mpr ⟨lw_p38, List.forall_mem_cons.mpr ⟨lw_p39, List.forall_mem_cons.mpr ⟨lw_p40, List.forall_mem_cons.mpr ⟨lw_p41, List.forall_mem_cons.mpr ⟨lw_p42, List.forall_mem_cons.mpr ⟨lw_p43, List.forall_mem_cons.mpr ⟨lw_p44, List.forall_mem_cons.mpr ⟨lw_p45, List.forall_mem_cons.mpr ⟨lw_p46, List.forall_mem_cons.mpr ⟨lw_p47, fun _ h => absurd h List.not_mem_nil⟩⟩⟩⟩⟩⟩⟩⟩⟩⟩⟩⟩⟩⟩⟩⟩
theorem lw_p48 : lw_okq (⟨"LoopMemoModel", "putsAside", "()V"⟩, 14) := ⟨⟨by decide +kernel, by decide +kernel⟩, List.mem_of_getElem? (i := 647) (by decide +kernel), List.mem_of_getElem? (i := 911) (by decide +kernel), List.mem_of_getElem? (i := 912) (by decide +kernel)⟩
theorem lw_p49 : lw_okq (⟨"LoopMemoModel", "putsBack", "()V"⟩, 14) := ⟨⟨by decide +kernel, by decide +kernel⟩, List.mem_of_getElem? (i := 647) (by decide +kernel), List.mem_of_getElem? (i := 915) (by decide +kernel), List.mem_of_getElem? (i := 916) (by decide +kernel)⟩
theorem lw_p50 : lw_okq (⟨"LoopMemoModel", "sorts", "()V"⟩, 14) := ⟨⟨by decide +kernel, by decide +kernel⟩, List.mem_of_getElem? (i := 647) (by decide +kernel), List.mem_of_getElem? (i := 923) (by decide +kernel), List.mem_of_getElem? (i := 924) (by decide +kernel)⟩
theorem lw_p51 : lw_okq (⟨"LoopMemoModel", "swaps", "(II)V"⟩, 14) := ⟨⟨by decide +kernel, by decide +kernel⟩, List.mem_of_getElem? (i := 647) (by decide +kernel), List.mem_of_getElem? (i := 927) (by decide +kernel), List.mem_of_getElem? (i := 928) (by decide +kernel)⟩
theorem lw_p52 : lw_okq (⟨"LoopMemoModel", "turns", "()V"⟩, 14) := ⟨⟨by decide +kernel, by decide +kernel⟩, List.mem_of_getElem? (i := 647) (by decide +kernel), List.mem_of_getElem? (i := 931) (by decide +kernel), List.mem_of_getElem? (i := 932) (by decide +kernel)⟩
def lw_privs_4 : List (MethodName × Nat) := [(⟨"LoopMemoModel", "putsAside", "()V"⟩, 14), (⟨"LoopMemoModel", "putsBack", "()V"⟩, 14), (⟨"LoopMemoModel", "sorts", "()V"⟩, 14), (⟨"LoopMemoModel", "swaps", "(II)V"⟩, 14), (⟨"LoopMemoModel", "turns", "()V"⟩, 14)]
theorem lw_r4 : ∀ q ∈ lw_privs_4, lw_okq q := List.forall_mem_cons.mpr ⟨lw_p48, List.forall_mem_cons.mpr ⟨lw_p49, List.forall_mem_cons.mpr ⟨lw_p50, List.forall_mem_cons.mpr ⟨lw_p51, List.forall_mem_cons.mpr ⟨lw_p52, fun _ h => absurd h List.not_mem_nil⟩⟩⟩⟩⟩
def lw_privs : List (MethodName × Nat) := lw_privs_1 ++ (lw_privs_2 ++ (lw_privs_3 ++ (lw_privs_4)))
def lw_tbl : List Cond := k2_sels lw_privs ++ tables_1
theorem lw_privs_ok : ∀ q ∈ lw_privs, lw_okq q := by
  show ∀ q ∈ lw_privs_1 ++ (lw_privs_2 ++ (lw_privs_3 ++ (lw_privs_4))), lw_okq q
  exact List.forall_mem_append.mpr ⟨lw_r1, List.forall_mem_append.mpr ⟨lw_r2, List.forall_mem_append.mpr ⟨lw_r3, lw_r4⟩⟩⟩
/-- the streams that the claim lets the run draw from -/
abbrev lw_cs : List Choice := [Jvm.Choice.named "NaN.bits"]
theorem lw_bits : nanBits ∈ lw_cs := by first | decide | exact List.mem_cons_self | simp [lw_cs, nanBits]
/-! ===== BEGIN words of one list among another's, by their places ===== -/
theorem goodIn_r {big : List Cond} (ws : List Cond) (ps : List Nat) (hp : ws = ps.filterMap (fun i => big[i]?)) (h : ws.all goodWord = true) : GoodIn big ws := by
  intro w hw
  have h1 := List.all_eq_true.mp h w hw
  rw [hp] at hw
  obtain ⟨i, -, hi⟩ := List.mem_filterMap.mp hw
  have hm : w ∈ big := by first | exact List.mem_of_getElem? hi | exact List.getElem?_mem hi
  exact ⟨hm, good_of_word h1⟩
theorem goodIn_app {big a b : List Cond} (ha : GoodIn big a) (hb : GoodIn big b) : GoodIn big (a ++ b) := fun w h => (List.mem_append.mp h).elim (ha w) (hb w)
theorem goodIn_ca {big a b : List Cond} {c : Cond} (ha : GoodIn big (c :: a)) (hb : GoodIn big b) : GoodIn big (c :: (a ++ b)) := fun w h => (List.mem_cons.mp h).elim (fun e => ha w (List.mem_cons.mpr (Or.inl e))) (fun h => (List.mem_append.mp h).elim (fun h => ha w (List.mem_cons.mpr (Or.inr h))) (hb w))
theorem goodIn_sub {big ws : List Cond} (hm : ∀ w ∈ ws, w ∈ big) (h : ws.all goodWord = true) : GoodIn big ws := fun w hw => ⟨hm w hw, good_of_word (List.all_eq_true.mp h w hw)⟩
/-! ===== END ===== -/

/-! ===== BEGIN printed: names, fields, word lists, decode rows ===== -/
def RX0 : String := "LoopMemo$Answers"
def TX0 : u_T := fun k => match k with
  | 0 => ("LoopMemo$Answers", "rows", "[I", true)
  | 1 => ("LoopMemo$Answers", "sums", "[I", true)
  | _ => ("LoopMemo$Answers", "firstRows", "[I", true)
def tyX0 : Nat → FieldType := fun k => match k with
  | 0 => .array .int
  | 1 => .array .int
  | _ => .array .int
abbrev wsX00 : List Cond := u_ws RX0 TX0 3
theorem nmX0 : ∀ a, a < 3 → ∀ b, b < 3 → a ≠ b → (TX0 a).2.1 ≠ (TX0 b).2.1 := by decide +kernel
theorem tyX0_ok : ∀ k, k < 3 → parseFieldDescriptor (TX0 k).2.2.1 = some (tyX0 k) := by decide +kernel
abbrev cX0_init : ByteArray := prog_2_method_1_code
def yX0_init : MethodName := ⟨RX0, "<init>", "()V"⟩
abbrev cX0_copyFrom : ByteArray := prog_2_method_2_code
def yX0_copyFrom : MethodName := ⟨RX0, "copyFrom", "(LLoopMemo$Answers;)V"⟩
abbrev cX0_find : ByteArray := prog_2_method_3_code
def yX0_find : MethodName := ⟨RX0, "find", "(LLoopMemo$Table;II)V"⟩
abbrev cX0_weight : ByteArray := prog_2_method_4_code
def yX0_weight : MethodName := ⟨RX0, "weight", "(I)I"⟩
abbrev cX0_sum : ByteArray := prog_2_method_5_code
def yX0_sum : MethodName := ⟨RX0, "sum", "(I)I"⟩
abbrev cX0_tell : ByteArray := prog_2_method_6_code
def yX0_tell : MethodName := ⟨RX0, "tell", "(II)I"⟩
def RX1 : String := "LoopMemo$History"
def TX1 : u_T := fun k => match k with
  | 0 => ("LoopMemo$History", "slots", "[LLoopMemo$State;", true)
  | 1 => ("LoopMemo$History", "next", "I", false)
  | _ => ("LoopMemo$History", "size", "I", false)
def tyX1 : Nat → FieldType := fun k => match k with
  | 0 => .array (.object "LoopMemo$State")
  | 1 => .int
  | _ => .int
abbrev wsX10 : List Cond := u_ws RX1 TX1 3
theorem nmX1 : ∀ a, a < 3 → ∀ b, b < 3 → a ≠ b → (TX1 a).2.1 ≠ (TX1 b).2.1 := by decide +kernel
theorem tyX1_ok : ∀ k, k < 3 → parseFieldDescriptor (TX1 k).2.2.1 = some (tyX1 k) := by decide +kernel
abbrev cX1_init : ByteArray := prog_3_method_1_code
def yX1_init : MethodName := ⟨RX1, "<init>", "()V"⟩
abbrev cX1_size : ByteArray := prog_3_method_2_code
def yX1_size : MethodName := ⟨RX1, "size", "()I"⟩
abbrev cX1_prepare : ByteArray := prog_3_method_3_code
def yX1_prepare : MethodName := ⟨RX1, "prepare", "(LLoopMemo$State;)V"⟩
abbrev cX1_commit : ByteArray := prog_3_method_4_code
def yX1_commit : MethodName := ⟨RX1, "commit", "(I)I"⟩
abbrev cX1_pop : ByteArray := prog_3_method_5_code
def yX1_pop : MethodName := ⟨RX1, "pop", "()LLoopMemo$State;"⟩
abbrev cX1_slot : ByteArray := prog_3_method_6_code
def yX1_slot : MethodName := ⟨RX1, "slot", "(I)LLoopMemo$State;"⟩
def RX2 : String := "LoopMemo$Memo"
def TX2 : u_T := fun k => match k with
  | 0 => ("LoopMemo$Memo", "uses", "[I", true)
  | 1 => ("LoopMemo$Memo", "lastLooks", "[I", true)
  | 2 => ("LoopMemo$Memo", "firstLooks", "[I", true)
  | _ => ("LoopMemo$Memo", "looks", "I", false)
def tyX2 : Nat → FieldType := fun k => match k with
  | 0 => .array .int
  | 1 => .array .int
  | 2 => .array .int
  | _ => .int
abbrev wsX20 : List Cond := u_ws RX2 TX2 4
theorem nmX2 : ∀ a, a < 4 → ∀ b, b < 4 → a ≠ b → (TX2 a).2.1 ≠ (TX2 b).2.1 := by decide +kernel
theorem tyX2_ok : ∀ k, k < 4 → parseFieldDescriptor (TX2 k).2.2.1 = some (tyX2 k) := by decide +kernel
abbrev cX2_init : ByteArray := prog_4_method_1_code
def yX2_init : MethodName := ⟨RX2, "<init>", "()V"⟩
abbrev cX2_copyFrom : ByteArray := prog_4_method_2_code
def yX2_copyFrom : MethodName := ⟨RX2, "copyFrom", "(LLoopMemo$Memo;)V"⟩
abbrev cX2_holds : ByteArray := prog_4_method_3_code
def yX2_holds : MethodName := ⟨RX2, "holds", "(I)Z"⟩
abbrev cX2_uses : ByteArray := prog_4_method_4_code
def yX2_uses : MethodName := ⟨RX2, "uses", "(I)I"⟩
abbrev cX2_size : ByteArray := prog_4_method_5_code
def yX2_size : MethodName := ⟨RX2, "size", "()I"⟩
abbrev cX2_take : ByteArray := prog_4_method_6_code
def yX2_take : MethodName := ⟨RX2, "take", "(I)V"⟩
abbrev cX2_touch : ByteArray := prog_4_method_7_code
def yX2_touch : MethodName := ⟨RX2, "touch", "(I)V"⟩
abbrev cX2_lose : ByteArray := prog_4_method_8_code
def yX2_lose : MethodName := ⟨RX2, "lose", "(I)V"⟩
abbrev cX2_loseAll : ByteArray := prog_4_method_9_code
def yX2_loseAll : MethodName := ⟨RX2, "loseAll", "()I"⟩
abbrev cX2_firstOut : ByteArray := prog_4_method_10_code
def yX2_firstOut : MethodName := ⟨RX2, "firstOut", "(II)I"⟩
abbrev cX2_placeOf : ByteArray := prog_4_method_11_code
def yX2_placeOf : MethodName := ⟨RX2, "placeOf", "(II)I"⟩
abbrev cX2_rank : ByteArray := prog_4_method_12_code
def yX2_rank : MethodName := ⟨RX2, "rank", "(II)J"⟩
def RX3 : String := "LoopMemo$Pad"
def TX3 : u_T := fun k => match k with
  | 0 => ("LoopMemo$Pad", "codes", "[I", true)
  | 1 => ("LoopMemo$Pad", "size", "I", false)
  | 2 => ("LoopMemo$Pad", "isReadAsDeeds", "Z", false)
  | 3 => ("LoopMemo$Pad", "at", "I", false)
  | 4 => ("LoopMemo$Pad", "items", "I", false)
  | 5 => ("LoopMemo$Pad", "start", "I", false)
  | 6 => ("LoopMemo$Pad", "sign", "I", false)
  | 7 => ("LoopMemo$Pad", "first", "I", false)
  | _ => ("LoopMemo$Pad", "second", "I", false)
def tyX3 : Nat → FieldType := fun k => match k with
  | 0 => .array .int
  | 1 => .int
  | 2 => .boolean
  | 3 => .int
  | 4 => .int
  | 5 => .int
  | 6 => .int
  | 7 => .int
  | _ => .int
abbrev wsX30 : List Cond := u_ws RX3 TX3 9
theorem nmX3 : ∀ a, a < 9 → ∀ b, b < 9 → a ≠ b → (TX3 a).2.1 ≠ (TX3 b).2.1 := by decide +kernel
theorem tyX3_ok : ∀ k, k < 9 → parseFieldDescriptor (TX3 k).2.2.1 = some (tyX3 k) := by decide +kernel
abbrev cX3_init : ByteArray := prog_5_method_1_code
def yX3_init : MethodName := ⟨RX3, "<init>", "()V"⟩
abbrev cX3_size : ByteArray := prog_5_method_2_code
def yX3_size : MethodName := ⟨RX3, "size", "()I"⟩
abbrev cX3_push : ByteArray := prog_5_method_3_code
def yX3_push : MethodName := ⟨RX3, "push", "(I)I"⟩
abbrev cX3_empty : ByteArray := prog_5_method_4_code
def yX3_empty : MethodName := ⟨RX3, "empty", "()I"⟩
abbrev cX3_findFault : ByteArray := prog_5_method_5_code
def yX3_findFault : MethodName := ⟨RX3, "findFault", "(Z)I"⟩
abbrev cX3_items : ByteArray := prog_5_method_6_code
def yX3_items : MethodName := ⟨RX3, "items", "()I"⟩
abbrev cX3_open : ByteArray := prog_5_method_7_code
def yX3_open : MethodName := ⟨RX3, "open", "(Z)V"⟩
abbrev cX3_next : ByteArray := prog_5_method_8_code
def yX3_next : MethodName := ⟨RX3, "next", "()Z"⟩
abbrev cX3_start : ByteArray := prog_5_method_9_code
def yX3_start : MethodName := ⟨RX3, "start", "()I"⟩
abbrev cX3_sign : ByteArray := prog_5_method_10_code
def yX3_sign : MethodName := ⟨RX3, "sign", "()I"⟩
abbrev cX3_first : ByteArray := prog_5_method_11_code
def yX3_first : MethodName := ⟨RX3, "first", "()I"⟩
abbrev cX3_second : ByteArray := prog_5_method_12_code
def yX3_second : MethodName := ⟨RX3, "second", "()I"⟩
abbrev cX3_readDeed : ByteArray := prog_5_method_13_code
def yX3_readDeed : MethodName := ⟨RX3, "readDeed", "()Z"⟩
abbrev cX3_readRow : ByteArray := prog_5_method_14_code
def yX3_readRow : MethodName := ⟨RX3, "readRow", "()Z"⟩
abbrev cX3_readNumber : ByteArray := prog_5_method_15_code
def yX3_readNumber : MethodName := ⟨RX3, "readNumber", "(II)I"⟩
abbrev cX3_takes : ByteArray := prog_5_method_16_code
def yX3_takes : MethodName := ⟨RX3, "takes", "(I)Z"⟩
abbrev cX3_code : ByteArray := prog_5_method_17_code
def yX3_code : MethodName := ⟨RX3, "code", "(I)I"⟩
def RX4 : String := "LoopMemo$State"
def TX4 : u_T := fun k => match k with
  | 0 => ("LoopMemo$State", "outer", "LLoopMemo$Table;", true)
  | 1 => ("LoopMemo$State", "inner", "LLoopMemo$Table;", true)
  | 2 => ("LoopMemo$State", "answers", "LLoopMemo$Answers;", true)
  | 3 => ("LoopMemo$State", "memo", "LLoopMemo$Memo;", true)
  | 4 => ("LoopMemo$State", "settings", "[I", true)
  | 5 => ("LoopMemo$State", "tallies", "[I", true)
  | 6 => ("LoopMemo$State", "place", "I", false)
  | _ => ("LoopMemo$State", "total", "I", false)
def tyX4 : Nat → FieldType := fun k => match k with
  | 0 => .object "LoopMemo$Table"
  | 1 => .object "LoopMemo$Table"
  | 2 => .object "LoopMemo$Answers"
  | 3 => .object "LoopMemo$Memo"
  | 4 => .array .int
  | 5 => .array .int
  | 6 => .int
  | _ => .int
abbrev wsX40 : List Cond := u_ws RX4 TX4 8
theorem nmX4 : ∀ a, a < 8 → ∀ b, b < 8 → a ≠ b → (TX4 a).2.1 ≠ (TX4 b).2.1 := by decide +kernel
theorem tyX4_ok : ∀ k, k < 8 → parseFieldDescriptor (TX4 k).2.2.1 = some (tyX4 k) := by decide +kernel
abbrev cX4_init : ByteArray := prog_6_method_1_code
def yX4_init : MethodName := ⟨RX4, "<init>", "()V"⟩
abbrev cX4_copyFrom : ByteArray := prog_6_method_2_code
def yX4_copyFrom : MethodName := ⟨RX4, "copyFrom", "(LLoopMemo$State;)V"⟩
abbrev cX4_table : ByteArray := prog_6_method_3_code
def yX4_table : MethodName := ⟨RX4, "table", "(Z)LLoopMemo$Table;"⟩
abbrev cX4_answers : ByteArray := prog_6_method_4_code
def yX4_answers : MethodName := ⟨RX4, "answers", "()LLoopMemo$Answers;"⟩
abbrev cX4_memo : ByteArray := prog_6_method_5_code
def yX4_memo : MethodName := ⟨RX4, "memo", "()LLoopMemo$Memo;"⟩
abbrev cX4_setting : ByteArray := prog_6_method_6_code
def yX4_setting : MethodName := ⟨RX4, "setting", "(I)I"⟩
abbrev cX4_tally : ByteArray := prog_6_method_7_code
def yX4_tally : MethodName := ⟨RX4, "tally", "(I)I"⟩
abbrev cX4_place : ByteArray := prog_6_method_8_code
def yX4_place : MethodName := ⟨RX4, "place", "()I"⟩
abbrev cX4_totalSoFar : ByteArray := prog_6_method_9_code
def yX4_totalSoFar : MethodName := ⟨RX4, "totalSoFar", "()I"⟩
abbrev cX4_isDone : ByteArray := prog_6_method_10_code
def yX4_isDone : MethodName := ⟨RX4, "isDone", "(I)Z"⟩
abbrev cX4_isInRememberedAnswer : ByteArray := prog_6_method_11_code
def yX4_isInRememberedAnswer : MethodName := ⟨RX4, "isInRememberedAnswer", "(I)Z"⟩
abbrev cX4_insertRow : ByteArray := prog_6_method_12_code
def yX4_insertRow : MethodName := ⟨RX4, "insertRow", "(ZII)I"⟩
abbrev cX4_removeRow : ByteArray := prog_6_method_13_code
def yX4_removeRow : MethodName := ⟨RX4, "removeRow", "(ZI)I"⟩
abbrev cX4_rewriteRow : ByteArray := prog_6_method_14_code
def yX4_rewriteRow : MethodName := ⟨RX4, "rewriteRow", "(III)I"⟩
abbrev cX4_walk : ByteArray := prog_6_method_15_code
def yX4_walk : MethodName := ⟨RX4, "walk", "(I)I"⟩
abbrev cX4_beginAgain : ByteArray := prog_6_method_16_code
def yX4_beginAgain : MethodName := ⟨RX4, "beginAgain", "()I"⟩
abbrev cX4_throwAllOut : ByteArray := prog_6_method_17_code
def yX4_throwAllOut : MethodName := ⟨RX4, "throwAllOut", "()I"⟩
abbrev cX4_adjust : ByteArray := prog_6_method_18_code
def yX4_adjust : MethodName := ⟨RX4, "adjust", "(II)I"⟩
abbrev cX4_weightTogether : ByteArray := prog_6_method_19_code
def yX4_weightTogether : MethodName := ⟨RX4, "weightTogether", "()I"⟩
abbrev cX4_totalByAnswers : ByteArray := prog_6_method_20_code
def yX4_totalByAnswers : MethodName := ⟨RX4, "totalByAnswers", "()I"⟩
abbrev cX4_totalByRows : ByteArray := prog_6_method_21_code
def yX4_totalByRows : MethodName := ⟨RX4, "totalByRows", "()I"⟩
abbrev cX4_lookUp : ByteArray := prog_6_method_22_code
def yX4_lookUp : MethodName := ⟨RX4, "lookUp", "(I)V"⟩
abbrev cX4_makeRoom : ByteArray := prog_6_method_23_code
def yX4_makeRoom : MethodName := ⟨RX4, "makeRoom", "(I)I"⟩
abbrev cX4_keepTrue : ByteArray := prog_6_method_24_code
def yX4_keepTrue : MethodName := ⟨RX4, "keepTrue", "(II)V"⟩
abbrev cX4_keepAnswerTrue : ByteArray := prog_6_method_25_code
def yX4_keepAnswerTrue : MethodName := ⟨RX4, "keepAnswerTrue", "(I)V"⟩
abbrev cX4_findAnswers : ByteArray := prog_6_method_26_code
def yX4_findAnswers : MethodName := ⟨RX4, "findAnswers", "()V"⟩
abbrev cX4_isInBand : ByteArray := prog_6_method_27_code
def yX4_isInBand : MethodName := ⟨RX4, "isInBand", "(I)Z"⟩
def RX5 : String := "LoopMemo$Table"
def TX5 : u_T := fun k => match k with
  | 0 => ("LoopMemo$Table", "keys", "[I", true)
  | 1 => ("LoopMemo$Table", "values", "[I", true)
  | _ => ("LoopMemo$Table", "size", "I", false)
def tyX5 : Nat → FieldType := fun k => match k with
  | 0 => .array .int
  | 1 => .array .int
  | _ => .int
abbrev wsX50 : List Cond := u_ws RX5 TX5 3
theorem nmX5 : ∀ a, a < 3 → ∀ b, b < 3 → a ≠ b → (TX5 a).2.1 ≠ (TX5 b).2.1 := by decide +kernel
theorem tyX5_ok : ∀ k, k < 3 → parseFieldDescriptor (TX5 k).2.2.1 = some (tyX5 k) := by decide +kernel
abbrev cX5_init : ByteArray := prog_7_method_1_code
def yX5_init : MethodName := ⟨RX5, "<init>", "()V"⟩
abbrev cX5_copyFrom : ByteArray := prog_7_method_2_code
def yX5_copyFrom : MethodName := ⟨RX5, "copyFrom", "(LLoopMemo$Table;)V"⟩
abbrev cX5_size : ByteArray := prog_7_method_3_code
def yX5_size : MethodName := ⟨RX5, "size", "()I"⟩
abbrev cX5_has : ByteArray := prog_7_method_4_code
def yX5_has : MethodName := ⟨RX5, "has", "(I)Z"⟩
abbrev cX5_key : ByteArray := prog_7_method_5_code
def yX5_key : MethodName := ⟨RX5, "key", "(I)I"⟩
abbrev cX5_value : ByteArray := prog_7_method_6_code
def yX5_value : MethodName := ⟨RX5, "value", "(I)I"⟩
abbrev cX5_put : ByteArray := prog_7_method_7_code
def yX5_put : MethodName := ⟨RX5, "put", "(III)V"⟩
abbrev cX5_push : ByteArray := prog_7_method_8_code
def yX5_push : MethodName := ⟨RX5, "push", "(II)V"⟩
abbrev cX5_takeOut : ByteArray := prog_7_method_9_code
def yX5_takeOut : MethodName := ⟨RX5, "takeOut", "(I)V"⟩
abbrev cX5_sortFrom : ByteArray := prog_7_method_10_code
def yX5_sortFrom : MethodName := ⟨RX5, "sortFrom", "(I)V"⟩
abbrev cX5_reverseFrom : ByteArray := prog_7_method_11_code
def yX5_reverseFrom : MethodName := ⟨RX5, "reverseFrom", "(I)V"⟩
abbrev cX5_swap : ByteArray := prog_7_method_12_code
def yX5_swap : MethodName := ⟨RX5, "swap", "(II)V"⟩
def RX6 : String := "LoopMemo"
def TX6 : u_T := fun k => match k with
  | 0 => ("LoopMemo", "now", "LLoopMemo$State;", true)
  | 1 => ("LoopMemo", "trial", "LLoopMemo$State;", true)
  | 2 => ("LoopMemo", "snapshot", "LLoopMemo$State;", true)
  | 3 => ("LoopMemo", "history", "LLoopMemo$History;", true)
  | 4 => ("LoopMemo", "pad", "LLoopMemo$Pad;", true)
  | 5 => ("LoopMemo", "hasSnapshot", "Z", false)
  | 6 => ("LoopMemo", "stopError", "I", false)
  | 7 => ("LoopMemo", "stopNumber", "I", false)
  | _ => ("LoopMemo", "stopPosition", "I", false)
def tyX6 : Nat → FieldType := fun k => match k with
  | 0 => .object "LoopMemo$State"
  | 1 => .object "LoopMemo$State"
  | 2 => .object "LoopMemo$State"
  | 3 => .object "LoopMemo$History"
  | 4 => .object "LoopMemo$Pad"
  | 5 => .boolean
  | 6 => .int
  | 7 => .int
  | _ => .int
abbrev wsX60 : List Cond := u_ws RX6 TX6 9
theorem nmX6 : ∀ a, a < 9 → ∀ b, b < 9 → a ≠ b → (TX6 a).2.1 ≠ (TX6 b).2.1 := by decide +kernel
theorem tyX6_ok : ∀ k, k < 9 → parseFieldDescriptor (TX6 k).2.2.1 = some (tyX6 k) := by decide +kernel
abbrev cX6_init : ByteArray := prog_1_method_1_code
def yX6_init : MethodName := ⟨RX6, "<init>", "()V"⟩
abbrev cX6_add : ByteArray := prog_1_method_2_code
def yX6_add : MethodName := ⟨RX6, "add", "(ZII)I"⟩
abbrev cX6_drop : ByteArray := prog_1_method_3_code
def yX6_drop : MethodName := ⟨RX6, "drop", "(ZI)I"⟩
abbrev cX6_change : ByteArray := prog_1_method_4_code
def yX6_change : MethodName := ⟨RX6, "change", "(III)I"⟩
abbrev cX6_step : ByteArray := prog_1_method_5_code
def yX6_step : MethodName := ⟨RX6, "step", "(I)I"⟩
abbrev cX6_again : ByteArray := prog_1_method_6_code
def yX6_again : MethodName := ⟨RX6, "again", "()I"⟩
abbrev cX6_forget : ByteArray := prog_1_method_7_code
def yX6_forget : MethodName := ⟨RX6, "forget", "()I"⟩
abbrev cX6_set : ByteArray := prog_1_method_8_code
def yX6_set : MethodName := ⟨RX6, "set", "(II)I"⟩
abbrev cX6_append : ByteArray := prog_1_method_9_code
def yX6_append : MethodName := ⟨RX6, "append", "(I)I"⟩
abbrev cX6_clear : ByteArray := prog_1_method_10_code
def yX6_clear : MethodName := ⟨RX6, "clear", "()I"⟩
abbrev cX6_fault : ByteArray := prog_1_method_11_code
def yX6_fault : MethodName := ⟨RX6, "fault", "(I)I"⟩
abbrev cX6_fill : ByteArray := prog_1_method_12_code
def yX6_fill : MethodName := ⟨RX6, "fill", "(Z)I"⟩
abbrev cX6_carryOut : ByteArray := prog_1_method_13_code
def yX6_carryOut : MethodName := ⟨RX6, "carryOut", "()I"⟩
abbrev cX6_why : ByteArray := prog_1_method_14_code
def yX6_why : MethodName := ⟨RX6, "why", "(I)I"⟩
abbrev cX6_row : ByteArray := prog_1_method_15_code
def yX6_row : MethodName := ⟨RX6, "row", "(ZII)I"⟩
abbrev cX6_answer : ByteArray := prog_1_method_16_code
def yX6_answer : MethodName := ⟨RX6, "answer", "(II)I"⟩
abbrev cX6_remembered : ByteArray := prog_1_method_17_code
def yX6_remembered : MethodName := ⟨RX6, "remembered", "(II)I"⟩
abbrev cX6_count : ByteArray := prog_1_method_18_code
def yX6_count : MethodName := ⟨RX6, "count", "(I)I"⟩
abbrev cX6_total : ByteArray := prog_1_method_19_code
def yX6_total : MethodName := ⟨RX6, "total", "(I)I"⟩
abbrev cX6_rate : ByteArray := prog_1_method_20_code
def yX6_rate : MethodName := ⟨RX6, "rate", "()D"⟩
abbrev cX6_ifBound : ByteArray := prog_1_method_21_code
def yX6_ifBound : MethodName := ⟨RX6, "ifBound", "(II)I"⟩
abbrev cX6_ifOrdered : ByteArray := prog_1_method_22_code
def yX6_ifOrdered : MethodName := ⟨RX6, "ifOrdered", "(I)I"⟩
abbrev cX6_leastBound : ByteArray := prog_1_method_23_code
def yX6_leastBound : MethodName := ⟨RX6, "leastBound", "()I"⟩
abbrev cX6_undo : ByteArray := prog_1_method_24_code
def yX6_undo : MethodName := ⟨RX6, "undo", "()I"⟩
abbrev cX6_save : ByteArray := prog_1_method_25_code
def yX6_save : MethodName := ⟨RX6, "save", "()I"⟩
abbrev cX6_restore : ByteArray := prog_1_method_26_code
def yX6_restore : MethodName := ⟨RX6, "restore", "()I"⟩
abbrev cX6_obey : ByteArray := prog_1_method_27_code
def yX6_obey : MethodName := ⟨RX6, "obey", "()I"⟩
abbrev cX6_tryBound : ByteArray := prog_1_method_28_code
def yX6_tryBound : MethodName := ⟨RX6, "tryBound", "(I)V"⟩
abbrev cX6_brought : ByteArray := prog_1_method_29_code
def yX6_brought : MethodName := ⟨RX6, "brought", "(I)I"⟩
abbrev cX6_isWithin : ByteArray := prog_1_method_30_code
def yX6_isWithin : MethodName := ⟨RX6, "isWithin", "(II)Z"⟩
abbrev cX6_isKey : ByteArray := prog_1_method_31_code
def yX6_isKey : MethodName := ⟨RX6, "isKey", "(I)Z"⟩
abbrev cX6_isRow : ByteArray := prog_1_method_32_code
def yX6_isRow : MethodName := ⟨RX6, "isRow", "(II)Z"⟩
abbrev cX6_copyNumbers : ByteArray := prog_1_method_33_code
def yX6_copyNumbers : MethodName := ⟨RX6, "copyNumbers", "([I[I)V"⟩
def RX7 : String := "LoopMemoModel"
def TX7 : u_T := fun k => match k with
  | 0 => ("LoopMemoModel", "s", "[I", true)
  | 1 => ("LoopMemoModel", "past", "[I", true)
  | 2 => ("LoopMemoModel", "kept", "[I", true)
  | 3 => ("LoopMemoModel", "spare", "[I", true)
  | 4 => ("LoopMemoModel", "isKept", "Z", false)
  | 5 => ("LoopMemoModel", "pasts", "I", false)
  | 6 => ("LoopMemoModel", "runs", "Z", false)
  | 7 => ("LoopMemoModel", "pad", "[I", true)
  | 8 => ("LoopMemoModel", "typed", "I", false)
  | 9 => ("LoopMemoModel", "isStopped", "Z", false)
  | 10 => ("LoopMemoModel", "stop", "[I", true)
  | 11 => ("LoopMemoModel", "spot", "I", false)
  | 12 => ("LoopMemoModel", "many", "I", false)
  | _ => ("LoopMemoModel", "read", "[I", true)
def tyX7 : Nat → FieldType := fun k => match k with
  | 0 => .array .int
  | 1 => .array .int
  | 2 => .array .int
  | 3 => .array .int
  | 4 => .boolean
  | 5 => .int
  | 6 => .boolean
  | 7 => .array .int
  | 8 => .int
  | 9 => .boolean
  | 10 => .array .int
  | 11 => .int
  | 12 => .int
  | _ => .array .int
abbrev wsX70 : List Cond := u_ws RX7 TX7 14
theorem nmX7 : ∀ a, a < 14 → ∀ b, b < 14 → a ≠ b → (TX7 a).2.1 ≠ (TX7 b).2.1 := by decide +kernel
theorem tyX7_ok : ∀ k, k < 14 → parseFieldDescriptor (TX7 k).2.2.1 = some (tyX7 k) := by decide +kernel
abbrev cX7_init : ByteArray := prog_9_method_1_code
def yX7_init : MethodName := ⟨RX7, "<init>", "()V"⟩
abbrev cX7_in : ByteArray := prog_9_method_3_code
def yX7_in : MethodName := ⟨RX7, "in", "(III)Z"⟩
abbrev cX7_changes : ByteArray := prog_9_method_4_code
def yX7_changes : MethodName := ⟨RX7, "changes", "()V"⟩
abbrev cX7_putsAside : ByteArray := prog_9_method_5_code
def yX7_putsAside : MethodName := ⟨RX7, "putsAside", "()V"⟩
abbrev cX7_putsBack : ByteArray := prog_9_method_6_code
def yX7_putsBack : MethodName := ⟨RX7, "putsBack", "()V"⟩
abbrev cX7_isRowOf : ByteArray := prog_9_method_7_code
def yX7_isRowOf : MethodName := ⟨RX7, "isRowOf", "(II)Z"⟩
abbrev cX7_isInner : ByteArray := prog_9_method_8_code
def yX7_isInner : MethodName := ⟨RX7, "isInner", "(I)Z"⟩
abbrev cX7_isOuter : ByteArray := prog_9_method_9_code
def yX7_isOuter : MethodName := ⟨RX7, "isOuter", "(I)Z"⟩
abbrev cX7_innerKey : ByteArray := prog_9_method_10_code
def yX7_innerKey : MethodName := ⟨RX7, "innerKey", "(I)I"⟩
abbrev cX7_innerValue : ByteArray := prog_9_method_11_code
def yX7_innerValue : MethodName := ⟨RX7, "innerValue", "(I)I"⟩
abbrev cX7_isFound : ByteArray := prog_9_method_12_code
def yX7_isFound : MethodName := ⟨RX7, "isFound", "(II)Z"⟩
abbrev cX7_found : ByteArray := prog_9_method_13_code
def yX7_found : MethodName := ⟨RX7, "found", "(I)I"⟩
abbrev cX7_weight : ByteArray := prog_9_method_14_code
def yX7_weight : MethodName := ⟨RX7, "weight", "(I)I"⟩
abbrev cX7_sum : ByteArray := prog_9_method_15_code
def yX7_sum : MethodName := ⟨RX7, "sum", "(I)I"⟩
abbrev cX7_firstRow : ByteArray := prog_9_method_16_code
def yX7_firstRow : MethodName := ⟨RX7, "firstRow", "(I)I"⟩
abbrev cX7_tell : ByteArray := prog_9_method_17_code
def yX7_tell : MethodName := ⟨RX7, "tell", "(II)I"⟩
abbrev cX7_isKnown : ByteArray := prog_9_method_18_code
def yX7_isKnown : MethodName := ⟨RX7, "isKnown", "(I)Z"⟩
abbrev cX7_known : ByteArray := prog_9_method_19_code
def yX7_known : MethodName := ⟨RX7, "known", "()I"⟩
abbrev cX7_weights : ByteArray := prog_9_method_20_code
def yX7_weights : MethodName := ⟨RX7, "weights", "()I"⟩
abbrev cX7_isAhead : ByteArray := prog_9_method_21_code
def yX7_isAhead : MethodName := ⟨RX7, "isAhead", "(II)Z"⟩
abbrev cX7_orderOf : ByteArray := prog_9_method_22_code
def yX7_orderOf : MethodName := ⟨RX7, "orderOf", "(I)I"⟩
abbrev cX7_first : ByteArray := prog_9_method_23_code
def yX7_first : MethodName := ⟨RX7, "first", "(I)I"⟩
abbrev cX7_makesRoom : ByteArray := prog_9_method_24_code
def yX7_makesRoom : MethodName := ⟨RX7, "makesRoom", "(I)I"⟩
abbrev cX7_throwsOut : ByteArray := prog_9_method_25_code
def yX7_throwsOut : MethodName := ⟨RX7, "throwsOut", "(I)I"⟩
abbrev cX7_throwsAll : ByteArray := prog_9_method_26_code
def yX7_throwsAll : MethodName := ⟨RX7, "throwsAll", "()I"⟩
abbrev cX7_keeps : ByteArray := prog_9_method_27_code
def yX7_keeps : MethodName := ⟨RX7, "keeps", "(II)V"⟩
abbrev cX7_looks : ByteArray := prog_9_method_28_code
def yX7_looks : MethodName := ⟨RX7, "looks", "(I)I"⟩
abbrev cX7_adds : ByteArray := prog_9_method_29_code
def yX7_adds : MethodName := ⟨RX7, "adds", "(ZII)I"⟩
abbrev cX7_add : ByteArray := prog_9_method_30_code
def yX7_add : MethodName := ⟨RX7, "add", "(ZII)I"⟩
abbrev cX7_drop : ByteArray := prog_9_method_31_code
def yX7_drop : MethodName := ⟨RX7, "drop", "(ZI)I"⟩
abbrev cX7_change : ByteArray := prog_9_method_32_code
def yX7_change : MethodName := ⟨RX7, "change", "(III)I"⟩
abbrev cX7_steps : ByteArray := prog_9_method_33_code
def yX7_steps : MethodName := ⟨RX7, "steps", "(I)I"⟩
abbrev cX7_step : ByteArray := prog_9_method_34_code
def yX7_step : MethodName := ⟨RX7, "step", "(I)I"⟩
abbrev cX7_again : ByteArray := prog_9_method_35_code
def yX7_again : MethodName := ⟨RX7, "again", "()I"⟩
abbrev cX7_forget : ByteArray := prog_9_method_36_code
def yX7_forget : MethodName := ⟨RX7, "forget", "()I"⟩
abbrev cX7_sets : ByteArray := prog_9_method_37_code
def yX7_sets : MethodName := ⟨RX7, "sets", "(II)I"⟩
abbrev cX7_set : ByteArray := prog_9_method_38_code
def yX7_set : MethodName := ⟨RX7, "set", "(II)I"⟩
abbrev cX7_append : ByteArray := prog_9_method_39_code
def yX7_append : MethodName := ⟨RX7, "append", "(I)I"⟩
abbrev cX7_clear : ByteArray := prog_9_method_40_code
def yX7_clear : MethodName := ⟨RX7, "clear", "()I"⟩
abbrev cX7_isAt : ByteArray := prog_9_method_41_code
def yX7_isAt : MethodName := ⟨RX7, "isAt", "(II)Z"⟩
abbrev cX7_sign : ByteArray := prog_9_method_42_code
def yX7_sign : MethodName := ⟨RX7, "sign", "(I)Z"⟩
abbrev cX7_number : ByteArray := prog_9_method_43_code
def yX7_number : MethodName := ⟨RX7, "number", "(III)Z"⟩
abbrev cX7_readsRow : ByteArray := prog_9_method_44_code
def yX7_readsRow : MethodName := ⟨RX7, "readsRow", "()Z"⟩
abbrev cX7_deed : ByteArray := prog_9_method_45_code
def yX7_deed : MethodName := ⟨RX7, "deed", "()Z"⟩
abbrev cX7_fault : ByteArray := prog_9_method_46_code
def yX7_fault : MethodName := ⟨RX7, "fault", "(I)I"⟩
abbrev cX7_fill : ByteArray := prog_9_method_47_code
def yX7_fill : MethodName := ⟨RX7, "fill", "(Z)I"⟩
abbrev cX7_does : ByteArray := prog_9_method_48_code
def yX7_does : MethodName := ⟨RX7, "does", "(I)I"⟩
abbrev cX7_carryOut : ByteArray := prog_9_method_49_code
def yX7_carryOut : MethodName := ⟨RX7, "carryOut", "()I"⟩
abbrev cX7_why : ByteArray := prog_9_method_50_code
def yX7_why : MethodName := ⟨RX7, "why", "(I)I"⟩
abbrev cX7_row : ByteArray := prog_9_method_51_code
def yX7_row : MethodName := ⟨RX7, "row", "(ZII)I"⟩
abbrev cX7_answer : ByteArray := prog_9_method_52_code
def yX7_answer : MethodName := ⟨RX7, "answer", "(II)I"⟩
abbrev cX7_remembered : ByteArray := prog_9_method_53_code
def yX7_remembered : MethodName := ⟨RX7, "remembered", "(II)I"⟩
abbrev cX7_count : ByteArray := prog_9_method_54_code
def yX7_count : MethodName := ⟨RX7, "count", "(I)I"⟩
abbrev cX7_total : ByteArray := prog_9_method_55_code
def yX7_total : MethodName := ⟨RX7, "total", "(I)I"⟩
abbrev cX7_rate : ByteArray := prog_9_method_56_code
def yX7_rate : MethodName := ⟨RX7, "rate", "()D"⟩
abbrev cX7_ifBound : ByteArray := prog_9_method_57_code
def yX7_ifBound : MethodName := ⟨RX7, "ifBound", "(II)I"⟩
abbrev cX7_swaps : ByteArray := prog_9_method_58_code
def yX7_swaps : MethodName := ⟨RX7, "swaps", "(II)V"⟩
abbrev cX7_sorts : ByteArray := prog_9_method_59_code
def yX7_sorts : MethodName := ⟨RX7, "sorts", "()V"⟩
abbrev cX7_turns : ByteArray := prog_9_method_60_code
def yX7_turns : MethodName := ⟨RX7, "turns", "()V"⟩
abbrev cX7_ifOrdered : ByteArray := prog_9_method_61_code
def yX7_ifOrdered : MethodName := ⟨RX7, "ifOrdered", "(I)I"⟩
abbrev cX7_leastBound : ByteArray := prog_9_method_62_code
def yX7_leastBound : MethodName := ⟨RX7, "leastBound", "()I"⟩
abbrev cX7_undo : ByteArray := prog_9_method_63_code
def yX7_undo : MethodName := ⟨RX7, "undo", "()I"⟩
abbrev cX7_save : ByteArray := prog_9_method_64_code
def yX7_save : MethodName := ⟨RX7, "save", "()I"⟩
abbrev cX7_restore : ByteArray := prog_9_method_65_code
def yX7_restore : MethodName := ⟨RX7, "restore", "()I"⟩
def RJx8e188 : String := "java/lang/Cloneable"
def TJx8e188 : u_T := fun k => match k with
  | _ => ("", "", "", false)
def tyJx8e188 : Nat → FieldType := fun k => match k with
  | _ => .int
abbrev wsJx8e1880 : List Cond := u_ws RJx8e188 TJx8e188 0
theorem nmJx8e188 : ∀ a, a < 0 → ∀ b, b < 0 → a ≠ b → (TJx8e188 a).2.1 ≠ (TJx8e188 b).2.1 := by decide +kernel
theorem tyJx8e188_ok : ∀ k, k < 0 → parseFieldDescriptor (TJx8e188 k).2.2.1 = some (tyJx8e188 k) := by decide +kernel
def RJ9 : String := "java/lang/Math"
def TJ9 : u_T := fun k => match k with
  | _ => ("", "", "", false)
def tyJ9 : Nat → FieldType := fun k => match k with
  | _ => .int
abbrev wsJ90 : List Cond := u_ws RJ9 TJ9 0
theorem nmJ9 : ∀ a, a < 0 → ∀ b, b < 0 → a ≠ b → (TJ9 a).2.1 ≠ (TJ9 b).2.1 := by decide +kernel
theorem tyJ9_ok : ∀ k, k < 0 → parseFieldDescriptor (TJ9 k).2.2.1 = some (tyJ9 k) := by decide +kernel
abbrev cJ9_min_7cf53 : ByteArray := prog_11_method_69_code
def yJ9_min_7cf53 : MethodName := ⟨RJ9, "min", "(II)I"⟩
def RJ10 : String := "java/lang/System"
def TJ10 : u_T := fun k => match k with
  | _ => ("", "", "", false)
def tyJ10 : Nat → FieldType := fun k => match k with
  | _ => .int
abbrev wsJ100 : List Cond := u_ws RJ10 TJ10 0
theorem nmJ10 : ∀ a, a < 0 → ∀ b, b < 0 → a ≠ b → (TJ10 a).2.1 ≠ (TJ10 b).2.1 := by decide +kernel
theorem tyJ10_ok : ∀ k, k < 0 → parseFieldDescriptor (TJ10 k).2.2.1 = some (tyJ10 k) := by decide +kernel
def RL : String := "LoopMemoLaw"
abbrev cL_law : ByteArray := code
def yL_law : MethodName := ⟨RL, "law", "([I)Z"⟩
def wsX0_init : List Cond := .code yX0_init cX0_init 1 none :: ([.methodLink RX0 3 objectInit, .instanceMethod objectInit, .code objectInit ⟨#[0xb1]⟩ 1 none, .arrayClass .int, .fieldLink RX0 9 "LoopMemo$Answers" "rows" "[I", .fieldLink RX0 15 "LoopMemo$Answers" "sums" "[I", .fieldLink RX0 18 "LoopMemo$Answers" "firstRows" "[I"] ++ wsX00)
def wsX6_copyNumbers : List Cond := .code yX6_copyNumbers cX6_copyNumbers 2 none :: ([.methodLink RX6 117 Lib.Math.min.name, .static Lib.Math.min.name, .initialized "java/lang/Math", .code Lib.Math.min.name Lib.Math.min.code 2 (some .int), .methodLink RX6 225 arraycopyName, .native arraycopyName, .static arraycopyName, .initialized "java/lang/System"])
def wsX0_copyFrom : List Cond := .code yX0_copyFrom cX0_copyFrom 2 none :: ([.fieldLink RX0 9 "LoopMemo$Answers" "rows" "[I", .fieldLink RX0 15 "LoopMemo$Answers" "sums" "[I", .fieldLink RX0 18 "LoopMemo$Answers" "firstRows" "[I", .static yX6_copyNumbers, .initialized RX6, .code yX6_copyNumbers cX6_copyNumbers 2 none, .methodLink RX6 117 Lib.Math.min.name, .static Lib.Math.min.name, .initialized "java/lang/Math", .code Lib.Math.min.name Lib.Math.min.code 2 (some .int), .methodLink RX6 225 arraycopyName, .native arraycopyName, .static arraycopyName, .initialized "java/lang/System"] ++ wsX00)
def wsX5_size : List Cond := .code yX5_size cX5_size 1 (some .int) :: ([.fieldLink RX5 22 "LoopMemo$Table" "size" "I"] ++ wsX50)
def wsX5_value : List Cond := .code yX5_value cX5_value 2 (some .int) :: ([.fieldLink RX5 15 "LoopMemo$Table" "values" "[I"] ++ wsX50)
def wsX5_key : List Cond := .code yX5_key cX5_key 2 (some .int) :: ([.fieldLink RX5 9 "LoopMemo$Table" "keys" "[I"] ++ wsX50)
def wsX0_find : List Cond := .code yX0_find cX0_find 7 none :: ([.fieldLink RX0 9 "LoopMemo$Answers" "rows" "[I", .fieldLink RX0 15 "LoopMemo$Answers" "sums" "[I", .fieldLink RX0 18 "LoopMemo$Answers" "firstRows" "[I", .methodLink RX0 25 yX5_size, .instanceMethod yX5_size, .selects RX5 yX5_size yX5_size, .initialized RX5, .code yX5_size cX5_size 1 (some .int), .fieldLink RX5 22 "LoopMemo$Table" "size" "I", .methodLink RX0 31 yX5_value, .instanceMethod yX5_value, .selects RX5 yX5_value yX5_value, .code yX5_value cX5_value 2 (some .int), .fieldLink RX5 15 "LoopMemo$Table" "values" "[I", .methodLink RX0 35 yX5_key, .instanceMethod yX5_key, .selects RX5 yX5_key yX5_key, .code yX5_key cX5_key 2 (some .int), .fieldLink RX5 9 "LoopMemo$Table" "keys" "[I"] ++ wsX00 ++ wsX50)
def wsX0_weight : List Cond := .code yX0_weight cX0_weight 2 (some .int) :: ([.fieldLink RX0 9 "LoopMemo$Answers" "rows" "[I"] ++ wsX00)
def wsX0_sum : List Cond := .code yX0_sum cX0_sum 2 (some .int) :: ([.fieldLink RX0 15 "LoopMemo$Answers" "sums" "[I"] ++ wsX00)
def wsX0_tell : List Cond := .code yX0_tell cX0_tell 3 (some .int) :: ([.fieldLink RX0 9 "LoopMemo$Answers" "rows" "[I", .fieldLink RX0 15 "LoopMemo$Answers" "sums" "[I", .fieldLink RX0 18 "LoopMemo$Answers" "firstRows" "[I", .methodLink RX0 38 yX0_weight, .instanceMethod yX0_weight, .selects RX0 yX0_weight yX0_weight, .initialized RX0, .code yX0_weight cX0_weight 2 (some .int)] ++ wsX00)
def wsX5_init : List Cond := .code yX5_init cX5_init 1 none :: ([.methodLink RX5 3 objectInit, .instanceMethod objectInit, .code objectInit ⟨#[0xb1]⟩ 1 none, .arrayClass .int, .fieldLink RX5 9 "LoopMemo$Table" "keys" "[I", .fieldLink RX5 15 "LoopMemo$Table" "values" "[I"] ++ wsX50)
def wsX2_init : List Cond := .code yX2_init cX2_init 1 none :: ([.methodLink RX2 3 objectInit, .instanceMethod objectInit, .code objectInit ⟨#[0xb1]⟩ 1 none, .arrayClass .int, .fieldLink RX2 9 "LoopMemo$Memo" "uses" "[I", .fieldLink RX2 15 "LoopMemo$Memo" "lastLooks" "[I", .fieldLink RX2 18 "LoopMemo$Memo" "firstLooks" "[I"] ++ wsX20)
def wsX4_init_r1 : List Cond := [Cond.methodLink RX4 3 objectInit, Cond.instanceMethod objectInit, Cond.code objectInit ⟨#[0xb1]⟩ 1 none, Cond.classLink RX4 9 RX5, Cond.instantiable RX5 3, Cond.initialized RX5, Cond.fieldLink RX4 12 "LoopMemo$State" "outer" "LLoopMemo$Table;", Cond.fieldLink RX4 18 "LoopMemo$State" "inner" "LLoopMemo$Table;", Cond.classLink RX4 21 RX0, Cond.instantiable RX0 3, Cond.initialized RX0, Cond.fieldLink RX4 24 "LoopMemo$State" "answers" "LLoopMemo$Answers;", Cond.classLink RX4 28 RX2, Cond.instantiable RX2 4, Cond.initialized RX2, Cond.fieldLink RX4 31 "LoopMemo$State" "memo" "LLoopMemo$Memo;", Cond.fieldLink RX4 35 "LoopMemo$State" "FIRST_SETTINGS" "[I", Cond.methodLink RX4 39 ⟨"[I", "clone", "()Ljava/lang/Object;"⟩, Cond.sameMethod "[I" "java/lang/Object" "clone" "()Ljava/lang/Object;", Cond.native ⟨"java/lang/Object", "clone", "()Ljava/lang/Object;"⟩, Cond.instanceMethod ⟨"java/lang/Object", "clone", "()Ljava/lang/Object;"⟩, Cond.selects "[I" ⟨"[I", "clone", "()Ljava/lang/Object;"⟩ ⟨"java/lang/Object", "clone", "()Ljava/lang/Object;"⟩, Cond.classLink RX4 40 "[I", Cond.fieldLink RX4 44 "LoopMemo$State" "settings" "[I"]
def wsX4_init_r2 : List Cond := [Cond.arrayClass .int, Cond.fieldLink RX4 47 "LoopMemo$State" "tallies" "[I", Cond.methodLink RX4 11 yX5_init, Cond.instanceMethod yX5_init, Cond.code yX5_init cX5_init 1 none, Cond.methodLink RX5 3 objectInit, Cond.fieldLink RX5 9 "LoopMemo$Table" "keys" "[I", Cond.fieldLink RX5 15 "LoopMemo$Table" "values" "[I", Cond.methodLink RX4 23 yX0_init, Cond.instanceMethod yX0_init, Cond.code yX0_init cX0_init 1 none, Cond.methodLink RX0 3 objectInit, Cond.fieldLink RX0 9 "LoopMemo$Answers" "rows" "[I", Cond.fieldLink RX0 15 "LoopMemo$Answers" "sums" "[I", Cond.fieldLink RX0 18 "LoopMemo$Answers" "firstRows" "[I", Cond.methodLink RX4 30 yX2_init, Cond.instanceMethod yX2_init, Cond.code yX2_init cX2_init 1 none, Cond.methodLink RX2 3 objectInit, Cond.fieldLink RX2 9 "LoopMemo$Memo" "uses" "[I", Cond.fieldLink RX2 15 "LoopMemo$Memo" "lastLooks" "[I", Cond.fieldLink RX2 18 "LoopMemo$Memo" "firstLooks" "[I"]
def wsX4_init : List Cond := .code yX4_init cX4_init 1 none :: ((wsX4_init_r1 ++ wsX4_init_r2) ++ wsX50 ++ wsX40 ++ wsX00 ++ wsX20)
def wsX1_init_r1 : List Cond := [Cond.methodLink RX1 3 objectInit, Cond.instanceMethod objectInit, Cond.code objectInit ⟨#[0xb1]⟩ 1 none, Cond.classLink RX1 11 RX4, Cond.fieldLink RX1 13 "LoopMemo$History" "slots" "[LLoopMemo$State;", Cond.instantiable RX4 8, Cond.initialized RX4, Cond.methodLink RX1 17 yX4_init, Cond.instanceMethod yX4_init, Cond.code yX4_init cX4_init 1 none, Cond.methodLink RX4 3 objectInit, Cond.classLink RX4 9 RX5, Cond.instantiable RX5 3, Cond.initialized RX5, Cond.fieldLink RX4 12 "LoopMemo$State" "outer" "LLoopMemo$Table;", Cond.fieldLink RX4 18 "LoopMemo$State" "inner" "LLoopMemo$Table;", Cond.classLink RX4 21 RX0, Cond.instantiable RX0 3, Cond.initialized RX0, Cond.fieldLink RX4 24 "LoopMemo$State" "answers" "LLoopMemo$Answers;", Cond.classLink RX4 28 RX2, Cond.instantiable RX2 4, Cond.initialized RX2, Cond.fieldLink RX4 31 "LoopMemo$State" "memo" "LLoopMemo$Memo;"]
def wsX1_init_r2 : List Cond := [Cond.fieldLink RX4 35 "LoopMemo$State" "FIRST_SETTINGS" "[I", Cond.methodLink RX4 39 ⟨"[I", "clone", "()Ljava/lang/Object;"⟩, Cond.sameMethod "[I" "java/lang/Object" "clone" "()Ljava/lang/Object;", Cond.native ⟨"java/lang/Object", "clone", "()Ljava/lang/Object;"⟩, Cond.instanceMethod ⟨"java/lang/Object", "clone", "()Ljava/lang/Object;"⟩, Cond.selects "[I" ⟨"[I", "clone", "()Ljava/lang/Object;"⟩ ⟨"java/lang/Object", "clone", "()Ljava/lang/Object;"⟩, Cond.classLink RX4 40 "[I", Cond.fieldLink RX4 44 "LoopMemo$State" "settings" "[I", Cond.arrayClass .int, Cond.fieldLink RX4 47 "LoopMemo$State" "tallies" "[I", Cond.methodLink RX4 11 yX5_init, Cond.instanceMethod yX5_init, Cond.code yX5_init cX5_init 1 none, Cond.methodLink RX5 3 objectInit, Cond.fieldLink RX5 9 "LoopMemo$Table" "keys" "[I", Cond.fieldLink RX5 15 "LoopMemo$Table" "values" "[I", Cond.methodLink RX4 23 yX0_init, Cond.instanceMethod yX0_init, Cond.code yX0_init cX0_init 1 none, Cond.methodLink RX0 3 objectInit, Cond.fieldLink RX0 9 "LoopMemo$Answers" "rows" "[I", Cond.fieldLink RX0 15 "LoopMemo$Answers" "sums" "[I", Cond.fieldLink RX0 18 "LoopMemo$Answers" "firstRows" "[I", Cond.methodLink RX4 30 yX2_init]
def wsX1_init_r3 : List Cond := [Cond.instanceMethod yX2_init, Cond.code yX2_init cX2_init 1 none, Cond.methodLink RX2 3 objectInit, Cond.fieldLink RX2 9 "LoopMemo$Memo" "uses" "[I", Cond.fieldLink RX2 15 "LoopMemo$Memo" "lastLooks" "[I", Cond.fieldLink RX2 18 "LoopMemo$Memo" "firstLooks" "[I"]
def wsX1_init : List Cond := .code yX1_init cX1_init 2 none :: ((wsX1_init_r1 ++ (wsX1_init_r2 ++ wsX1_init_r3)) ++ wsX10 ++ wsX40 ++ wsX50 ++ wsX00 ++ wsX20)
def wsX1_size : List Cond := .code yX1_size cX1_size 1 (some .int) :: ([.fieldLink RX1 18 "LoopMemo$History" "size" "I"] ++ wsX10)
def wsX1_slot : List Cond := .code yX1_slot cX1_slot 2 (some (.object "LoopMemo$State")) :: ([.fieldLink RX1 13 "LoopMemo$History" "slots" "[LLoopMemo$State;"] ++ wsX10)
def wsX5_copyFrom : List Cond := .code yX5_copyFrom cX5_copyFrom 2 none :: ([.fieldLink RX5 9 "LoopMemo$Table" "keys" "[I", .fieldLink RX5 15 "LoopMemo$Table" "values" "[I", .fieldLink RX5 22 "LoopMemo$Table" "size" "I", .static yX6_copyNumbers, .initialized RX6, .code yX6_copyNumbers cX6_copyNumbers 2 none, .methodLink RX6 117 Lib.Math.min.name, .static Lib.Math.min.name, .initialized "java/lang/Math", .code Lib.Math.min.name Lib.Math.min.code 2 (some .int), .methodLink RX6 225 arraycopyName, .native arraycopyName, .static arraycopyName, .initialized "java/lang/System"] ++ wsX50)
def wsX2_copyFrom : List Cond := .code yX2_copyFrom cX2_copyFrom 2 none :: ([.fieldLink RX2 9 "LoopMemo$Memo" "uses" "[I", .fieldLink RX2 15 "LoopMemo$Memo" "lastLooks" "[I", .fieldLink RX2 18 "LoopMemo$Memo" "firstLooks" "[I", .fieldLink RX2 25 "LoopMemo$Memo" "looks" "I", .static yX6_copyNumbers, .initialized RX6, .code yX6_copyNumbers cX6_copyNumbers 2 none, .methodLink RX6 117 Lib.Math.min.name, .static Lib.Math.min.name, .initialized "java/lang/Math", .code Lib.Math.min.name Lib.Math.min.code 2 (some .int), .methodLink RX6 225 arraycopyName, .native arraycopyName, .static arraycopyName, .initialized "java/lang/System"] ++ wsX20)
def wsX4_copyFrom_r1 : List Cond := [Cond.fieldLink RX4 12 "LoopMemo$State" "outer" "LLoopMemo$Table;", Cond.fieldLink RX4 18 "LoopMemo$State" "inner" "LLoopMemo$Table;", Cond.fieldLink RX4 24 "LoopMemo$State" "answers" "LLoopMemo$Answers;", Cond.fieldLink RX4 31 "LoopMemo$State" "memo" "LLoopMemo$Memo;", Cond.fieldLink RX4 44 "LoopMemo$State" "settings" "[I", Cond.fieldLink RX4 47 "LoopMemo$State" "tallies" "[I", Cond.fieldLink RX4 64 "LoopMemo$State" "place" "I", Cond.fieldLink RX4 68 "LoopMemo$State" "total" "I", Cond.methodLink RX4 50 yX5_copyFrom, Cond.instanceMethod yX5_copyFrom, Cond.selects RX5 yX5_copyFrom yX5_copyFrom, Cond.initialized RX5, Cond.code yX5_copyFrom cX5_copyFrom 2 none, Cond.fieldLink RX5 9 "LoopMemo$Table" "keys" "[I", Cond.fieldLink RX5 15 "LoopMemo$Table" "values" "[I", Cond.fieldLink RX5 22 "LoopMemo$Table" "size" "I", Cond.static yX6_copyNumbers, Cond.initialized RX6, Cond.code yX6_copyNumbers cX6_copyNumbers 2 none, Cond.methodLink RX6 117 Lib.Math.min.name, Cond.static Lib.Math.min.name, Cond.initialized "java/lang/Math", Cond.code Lib.Math.min.name Lib.Math.min.code 2 (some .int), Cond.methodLink RX6 225 arraycopyName]
def wsX4_copyFrom_r2 : List Cond := [Cond.native arraycopyName, Cond.static arraycopyName, Cond.initialized "java/lang/System", Cond.methodLink RX4 54 yX0_copyFrom, Cond.instanceMethod yX0_copyFrom, Cond.selects RX0 yX0_copyFrom yX0_copyFrom, Cond.initialized RX0, Cond.code yX0_copyFrom cX0_copyFrom 2 none, Cond.fieldLink RX0 9 "LoopMemo$Answers" "rows" "[I", Cond.fieldLink RX0 15 "LoopMemo$Answers" "sums" "[I", Cond.fieldLink RX0 18 "LoopMemo$Answers" "firstRows" "[I", Cond.methodLink RX4 57 yX2_copyFrom, Cond.instanceMethod yX2_copyFrom, Cond.selects RX2 yX2_copyFrom yX2_copyFrom, Cond.initialized RX2, Cond.code yX2_copyFrom cX2_copyFrom 2 none, Cond.fieldLink RX2 9 "LoopMemo$Memo" "uses" "[I", Cond.fieldLink RX2 15 "LoopMemo$Memo" "lastLooks" "[I", Cond.fieldLink RX2 18 "LoopMemo$Memo" "firstLooks" "[I", Cond.fieldLink RX2 25 "LoopMemo$Memo" "looks" "I"]
def wsX4_copyFrom : List Cond := .code yX4_copyFrom cX4_copyFrom 2 none :: ((wsX4_copyFrom_r1 ++ wsX4_copyFrom_r2) ++ wsX40 ++ wsX50 ++ wsX00 ++ wsX20)
def wsX1_prepare_r1 : List Cond := [Cond.fieldLink RX1 22 "LoopMemo$History" "next" "I", Cond.methodLink RX1 25 yX1_slot, Cond.instanceMethod yX1_slot, Cond.selects RX1 yX1_slot yX1_slot, Cond.initialized RX1, Cond.code yX1_slot cX1_slot 2 (some (.object "LoopMemo$State")), Cond.fieldLink RX1 13 "LoopMemo$History" "slots" "[LLoopMemo$State;", Cond.methodLink RX1 29 yX4_copyFrom, Cond.instanceMethod yX4_copyFrom, Cond.selects RX4 yX4_copyFrom yX4_copyFrom, Cond.initialized RX4, Cond.code yX4_copyFrom cX4_copyFrom 2 none, Cond.fieldLink RX4 12 "LoopMemo$State" "outer" "LLoopMemo$Table;", Cond.fieldLink RX4 18 "LoopMemo$State" "inner" "LLoopMemo$Table;", Cond.fieldLink RX4 24 "LoopMemo$State" "answers" "LLoopMemo$Answers;", Cond.fieldLink RX4 31 "LoopMemo$State" "memo" "LLoopMemo$Memo;", Cond.fieldLink RX4 44 "LoopMemo$State" "settings" "[I", Cond.fieldLink RX4 47 "LoopMemo$State" "tallies" "[I", Cond.fieldLink RX4 64 "LoopMemo$State" "place" "I", Cond.fieldLink RX4 68 "LoopMemo$State" "total" "I", Cond.methodLink RX4 50 yX5_copyFrom, Cond.instanceMethod yX5_copyFrom, Cond.selects RX5 yX5_copyFrom yX5_copyFrom, Cond.initialized RX5]
def wsX1_prepare_r2 : List Cond := [Cond.code yX5_copyFrom cX5_copyFrom 2 none, Cond.fieldLink RX5 9 "LoopMemo$Table" "keys" "[I", Cond.fieldLink RX5 15 "LoopMemo$Table" "values" "[I", Cond.fieldLink RX5 22 "LoopMemo$Table" "size" "I", Cond.static yX6_copyNumbers, Cond.initialized RX6, Cond.code yX6_copyNumbers cX6_copyNumbers 2 none, Cond.methodLink RX6 117 Lib.Math.min.name, Cond.static Lib.Math.min.name, Cond.initialized "java/lang/Math", Cond.code Lib.Math.min.name Lib.Math.min.code 2 (some .int), Cond.methodLink RX6 225 arraycopyName, Cond.native arraycopyName, Cond.static arraycopyName, Cond.initialized "java/lang/System", Cond.methodLink RX4 54 yX0_copyFrom, Cond.instanceMethod yX0_copyFrom, Cond.selects RX0 yX0_copyFrom yX0_copyFrom, Cond.initialized RX0, Cond.code yX0_copyFrom cX0_copyFrom 2 none, Cond.fieldLink RX0 9 "LoopMemo$Answers" "rows" "[I", Cond.fieldLink RX0 15 "LoopMemo$Answers" "sums" "[I", Cond.fieldLink RX0 18 "LoopMemo$Answers" "firstRows" "[I", Cond.methodLink RX4 57 yX2_copyFrom]
def wsX1_prepare_r3 : List Cond := [Cond.instanceMethod yX2_copyFrom, Cond.selects RX2 yX2_copyFrom yX2_copyFrom, Cond.initialized RX2, Cond.code yX2_copyFrom cX2_copyFrom 2 none, Cond.fieldLink RX2 9 "LoopMemo$Memo" "uses" "[I", Cond.fieldLink RX2 15 "LoopMemo$Memo" "lastLooks" "[I", Cond.fieldLink RX2 18 "LoopMemo$Memo" "firstLooks" "[I", Cond.fieldLink RX2 25 "LoopMemo$Memo" "looks" "I"]
def wsX1_prepare : List Cond := .code yX1_prepare cX1_prepare 3 none :: ((wsX1_prepare_r1 ++ (wsX1_prepare_r2 ++ wsX1_prepare_r3)) ++ wsX10 ++ wsX40 ++ wsX50 ++ wsX00 ++ wsX20)
def wsX1_commit : List Cond := .code yX1_commit cX1_commit 2 (some .int) :: ([.fieldLink RX1 22 "LoopMemo$History" "next" "I", .fieldLink RX1 18 "LoopMemo$History" "size" "I", .methodLink RX1 33 Lib.Math.min.name, .static Lib.Math.min.name, .initialized "java/lang/Math", .code Lib.Math.min.name Lib.Math.min.code 2 (some .int)] ++ wsX10)
def wsX1_pop : List Cond := .code yX1_pop cX1_pop 1 (some (.object "LoopMemo$State")) :: ([.fieldLink RX1 18 "LoopMemo$History" "size" "I", .fieldLink RX1 22 "LoopMemo$History" "next" "I", .methodLink RX1 25 yX1_slot, .instanceMethod yX1_slot, .selects RX1 yX1_slot yX1_slot, .initialized RX1, .code yX1_slot cX1_slot 2 (some (.object "LoopMemo$State")), .fieldLink RX1 13 "LoopMemo$History" "slots" "[LLoopMemo$State;"] ++ wsX10)
def wsX2_holds : List Cond := .code yX2_holds cX2_holds 2 (some .boolean) :: ([.fieldLink RX2 9 "LoopMemo$Memo" "uses" "[I"] ++ wsX20)
def wsX2_uses : List Cond := .code yX2_uses cX2_uses 2 (some .int) :: ([.fieldLink RX2 9 "LoopMemo$Memo" "uses" "[I"] ++ wsX20)
def wsX2_size : List Cond := .code yX2_size cX2_size 3 (some .int) :: ([.fieldLink RX2 9 "LoopMemo$Memo" "uses" "[I"] ++ wsX20)
def wsX2_take : List Cond := .code yX2_take cX2_take 2 none :: ([.fieldLink RX2 25 "LoopMemo$Memo" "looks" "I", .fieldLink RX2 9 "LoopMemo$Memo" "uses" "[I", .fieldLink RX2 18 "LoopMemo$Memo" "firstLooks" "[I", .fieldLink RX2 15 "LoopMemo$Memo" "lastLooks" "[I"] ++ wsX20)
def wsX2_touch : List Cond := .code yX2_touch cX2_touch 2 none :: ([.fieldLink RX2 25 "LoopMemo$Memo" "looks" "I", .fieldLink RX2 9 "LoopMemo$Memo" "uses" "[I", .fieldLink RX2 15 "LoopMemo$Memo" "lastLooks" "[I"] ++ wsX20)
def wsX2_lose : List Cond := .code yX2_lose cX2_lose 2 none :: ([.fieldLink RX2 9 "LoopMemo$Memo" "uses" "[I"] ++ wsX20)
def wsX2_loseAll : List Cond := .code yX2_loseAll cX2_loseAll 3 (some .int) :: ([.fieldLink RX2 9 "LoopMemo$Memo" "uses" "[I", .methodLink RX2 29 yX2_size, .instanceMethod yX2_size, .selects RX2 yX2_size yX2_size, .initialized RX2, .code yX2_size cX2_size 3 (some .int)] ++ wsX20)
def wsX2_rank : List Cond := .code yX2_rank cX2_rank 3 (some .long) :: ([.fieldLink RX2 18 "LoopMemo$Memo" "firstLooks" "[I", .fieldLink RX2 9 "LoopMemo$Memo" "uses" "[I", .fieldLink RX2 15 "LoopMemo$Memo" "lastLooks" "[I"] ++ wsX20)
def wsX2_firstOut : List Cond := .code yX2_firstOut cX2_firstOut 5 (some .int) :: ([.fieldLink RX2 9 "LoopMemo$Memo" "uses" "[I", .methodLink RX2 33 yX2_rank, .instanceMethod yX2_rank, .selects RX2 yX2_rank yX2_rank, .initialized RX2, .code yX2_rank cX2_rank 3 (some .long), .fieldLink RX2 18 "LoopMemo$Memo" "firstLooks" "[I", .fieldLink RX2 15 "LoopMemo$Memo" "lastLooks" "[I"] ++ wsX20)
def wsX2_placeOf : List Cond := .code yX2_placeOf cX2_placeOf 5 (some .int) :: ([.fieldLink RX2 9 "LoopMemo$Memo" "uses" "[I", .methodLink RX2 33 yX2_rank, .instanceMethod yX2_rank, .selects RX2 yX2_rank yX2_rank, .initialized RX2, .code yX2_rank cX2_rank 3 (some .long), .fieldLink RX2 18 "LoopMemo$Memo" "firstLooks" "[I", .fieldLink RX2 15 "LoopMemo$Memo" "lastLooks" "[I"] ++ wsX20)
def wsX3_init : List Cond := .code yX3_init cX3_init 1 none :: ([.methodLink RX3 3 objectInit, .instanceMethod objectInit, .code objectInit ⟨#[0xb1]⟩ 1 none, .arrayClass .int, .fieldLink RX3 9 "LoopMemo$Pad" "codes" "[I"] ++ wsX30)
def wsX3_size : List Cond := .code yX3_size cX3_size 1 (some .int) :: ([.fieldLink RX3 15 "LoopMemo$Pad" "size" "I"] ++ wsX30)
def wsX3_push : List Cond := .code yX3_push cX3_push 2 (some .int) :: ([.fieldLink RX3 15 "LoopMemo$Pad" "size" "I", .fieldLink RX3 9 "LoopMemo$Pad" "codes" "[I"] ++ wsX30)
def wsX3_empty : List Cond := .code yX3_empty cX3_empty 2 (some .int) :: ([.fieldLink RX3 15 "LoopMemo$Pad" "size" "I"] ++ wsX30)
def wsX3_open : List Cond := .code yX3_open cX3_open 2 none :: ([.fieldLink RX3 33 "LoopMemo$Pad" "isReadAsDeeds" "Z", .fieldLink RX3 30 "LoopMemo$Pad" "at" "I"] ++ wsX30)
def wsX3_code : List Cond := .code yX3_code cX3_code 2 (some .int) :: ([.fieldLink RX3 15 "LoopMemo$Pad" "size" "I", .fieldLink RX3 9 "LoopMemo$Pad" "codes" "[I"] ++ wsX30)
def wsX3_takes : List Cond := .code yX3_takes cX3_takes 2 (some .boolean) :: ([.fieldLink RX3 30 "LoopMemo$Pad" "at" "I", .methodLink RX3 59 yX3_code, .instanceMethod yX3_code, .selects RX3 yX3_code yX3_code, .initialized RX3, .code yX3_code cX3_code 2 (some .int), .fieldLink RX3 15 "LoopMemo$Pad" "size" "I", .fieldLink RX3 9 "LoopMemo$Pad" "codes" "[I"] ++ wsX30)
def wsX3_readNumber : List Cond := .code yX3_readNumber cX3_readNumber 5 (some .int) :: ([.fieldLink RX3 30 "LoopMemo$Pad" "at" "I", .methodLink RX3 59 yX3_code, .instanceMethod yX3_code, .selects RX3 yX3_code yX3_code, .initialized RX3, .code yX3_code cX3_code 2 (some .int), .fieldLink RX3 15 "LoopMemo$Pad" "size" "I", .fieldLink RX3 9 "LoopMemo$Pad" "codes" "[I"] ++ wsX30)
def wsX3_readRow : List Cond := .code yX3_readRow cX3_readRow 1 (some .boolean) :: ([.fieldLink RX3 53 "LoopMemo$Pad" "first" "I", .fieldLink RX3 56 "LoopMemo$Pad" "second" "I", .methodLink RX3 63 yX3_readNumber, .instanceMethod yX3_readNumber, .selects RX3 yX3_readNumber yX3_readNumber, .initialized RX3, .code yX3_readNumber cX3_readNumber 5 (some .int), .fieldLink RX3 30 "LoopMemo$Pad" "at" "I", .methodLink RX3 59 yX3_code, .instanceMethod yX3_code, .selects RX3 yX3_code yX3_code, .code yX3_code cX3_code 2 (some .int), .fieldLink RX3 15 "LoopMemo$Pad" "size" "I", .fieldLink RX3 9 "LoopMemo$Pad" "codes" "[I", .methodLink RX3 37 yX3_takes, .instanceMethod yX3_takes, .selects RX3 yX3_takes yX3_takes, .code yX3_takes cX3_takes 2 (some .boolean)] ++ wsX30)
def wsX3_readDeed : List Cond := .code yX3_readDeed cX3_readDeed 1 (some .boolean) :: ([.fieldLink RX3 30 "LoopMemo$Pad" "at" "I", .fieldLink RX3 50 "LoopMemo$Pad" "sign" "I", .fieldLink RX3 53 "LoopMemo$Pad" "first" "I", .fieldLink RX3 41 "LoopMemo$Pad" "start" "I", .methodLink RX3 59 yX3_code, .instanceMethod yX3_code, .selects RX3 yX3_code yX3_code, .initialized RX3, .code yX3_code cX3_code 2 (some .int), .fieldLink RX3 15 "LoopMemo$Pad" "size" "I", .fieldLink RX3 9 "LoopMemo$Pad" "codes" "[I", .methodLink RX3 63 yX3_readNumber, .instanceMethod yX3_readNumber, .selects RX3 yX3_readNumber yX3_readNumber, .code yX3_readNumber cX3_readNumber 5 (some .int), .methodLink RX3 47 yX3_readRow, .instanceMethod yX3_readRow, .selects RX3 yX3_readRow yX3_readRow, .code yX3_readRow cX3_readRow 1 (some .boolean), .fieldLink RX3 56 "LoopMemo$Pad" "second" "I", .methodLink RX3 37 yX3_takes, .instanceMethod yX3_takes, .selects RX3 yX3_takes yX3_takes, .code yX3_takes cX3_takes 2 (some .boolean)] ++ wsX30)
def wsX3_next_r1 : List Cond := [Cond.fieldLink RX3 30 "LoopMemo$Pad" "at" "I", Cond.fieldLink RX3 33 "LoopMemo$Pad" "isReadAsDeeds" "Z", Cond.fieldLink RX3 41 "LoopMemo$Pad" "start" "I", Cond.methodLink RX3 37 yX3_takes, Cond.instanceMethod yX3_takes, Cond.selects RX3 yX3_takes yX3_takes, Cond.initialized RX3, Cond.code yX3_takes cX3_takes 2 (some .boolean), Cond.methodLink RX3 59 yX3_code, Cond.instanceMethod yX3_code, Cond.selects RX3 yX3_code yX3_code, Cond.code yX3_code cX3_code 2 (some .int), Cond.fieldLink RX3 15 "LoopMemo$Pad" "size" "I", Cond.fieldLink RX3 9 "LoopMemo$Pad" "codes" "[I", Cond.methodLink RX3 44 yX3_readDeed, Cond.instanceMethod yX3_readDeed, Cond.selects RX3 yX3_readDeed yX3_readDeed, Cond.code yX3_readDeed cX3_readDeed 1 (some .boolean), Cond.fieldLink RX3 50 "LoopMemo$Pad" "sign" "I", Cond.fieldLink RX3 53 "LoopMemo$Pad" "first" "I", Cond.methodLink RX3 63 yX3_readNumber, Cond.instanceMethod yX3_readNumber, Cond.selects RX3 yX3_readNumber yX3_readNumber, Cond.code yX3_readNumber cX3_readNumber 5 (some .int)]
def wsX3_next_r2 : List Cond := [Cond.methodLink RX3 47 yX3_readRow, Cond.instanceMethod yX3_readRow, Cond.selects RX3 yX3_readRow yX3_readRow, Cond.code yX3_readRow cX3_readRow 1 (some .boolean), Cond.fieldLink RX3 56 "LoopMemo$Pad" "second" "I"]
def wsX3_next : List Cond := .code yX3_next cX3_next 1 (some .boolean) :: ((wsX3_next_r1 ++ wsX3_next_r2) ++ wsX30)
def wsX3_findFault_r1 : List Cond := [Cond.fieldLink RX3 23 "LoopMemo$Pad" "items" "I", Cond.fieldLink RX3 30 "LoopMemo$Pad" "at" "I", Cond.fieldLink RX3 15 "LoopMemo$Pad" "size" "I", Cond.methodLink RX3 19 yX3_open, Cond.instanceMethod yX3_open, Cond.selects RX3 yX3_open yX3_open, Cond.initialized RX3, Cond.code yX3_open cX3_open 2 none, Cond.fieldLink RX3 33 "LoopMemo$Pad" "isReadAsDeeds" "Z", Cond.methodLink RX3 26 yX3_next, Cond.instanceMethod yX3_next, Cond.selects RX3 yX3_next yX3_next, Cond.code yX3_next cX3_next 1 (some .boolean), Cond.fieldLink RX3 41 "LoopMemo$Pad" "start" "I", Cond.methodLink RX3 37 yX3_takes, Cond.instanceMethod yX3_takes, Cond.selects RX3 yX3_takes yX3_takes, Cond.code yX3_takes cX3_takes 2 (some .boolean), Cond.methodLink RX3 59 yX3_code, Cond.instanceMethod yX3_code, Cond.selects RX3 yX3_code yX3_code, Cond.code yX3_code cX3_code 2 (some .int), Cond.fieldLink RX3 9 "LoopMemo$Pad" "codes" "[I", Cond.methodLink RX3 44 yX3_readDeed]
def wsX3_findFault_r2 : List Cond := [Cond.instanceMethod yX3_readDeed, Cond.selects RX3 yX3_readDeed yX3_readDeed, Cond.code yX3_readDeed cX3_readDeed 1 (some .boolean), Cond.fieldLink RX3 50 "LoopMemo$Pad" "sign" "I", Cond.fieldLink RX3 53 "LoopMemo$Pad" "first" "I", Cond.methodLink RX3 63 yX3_readNumber, Cond.instanceMethod yX3_readNumber, Cond.selects RX3 yX3_readNumber yX3_readNumber, Cond.code yX3_readNumber cX3_readNumber 5 (some .int), Cond.methodLink RX3 47 yX3_readRow, Cond.instanceMethod yX3_readRow, Cond.selects RX3 yX3_readRow yX3_readRow, Cond.code yX3_readRow cX3_readRow 1 (some .boolean), Cond.fieldLink RX3 56 "LoopMemo$Pad" "second" "I"]
def wsX3_findFault : List Cond := .code yX3_findFault cX3_findFault 2 (some .int) :: ((wsX3_findFault_r1 ++ wsX3_findFault_r2) ++ wsX30)
def wsX3_items : List Cond := .code yX3_items cX3_items 1 (some .int) :: ([.fieldLink RX3 23 "LoopMemo$Pad" "items" "I"] ++ wsX30)
def wsX3_start : List Cond := .code yX3_start cX3_start 1 (some .int) :: ([.fieldLink RX3 41 "LoopMemo$Pad" "start" "I"] ++ wsX30)
def wsX3_sign : List Cond := .code yX3_sign cX3_sign 1 (some .int) :: ([.fieldLink RX3 50 "LoopMemo$Pad" "sign" "I"] ++ wsX30)
def wsX3_first : List Cond := .code yX3_first cX3_first 1 (some .int) :: ([.fieldLink RX3 53 "LoopMemo$Pad" "first" "I"] ++ wsX30)
def wsX3_second : List Cond := .code yX3_second cX3_second 1 (some .int) :: ([.fieldLink RX3 56 "LoopMemo$Pad" "second" "I"] ++ wsX30)
def wsX4_table : List Cond := .code yX4_table cX4_table 2 (some (.object "LoopMemo$Table")) :: ([.fieldLink RX4 18 "LoopMemo$State" "inner" "LLoopMemo$Table;", .fieldLink RX4 12 "LoopMemo$State" "outer" "LLoopMemo$Table;"] ++ wsX40)
def wsX4_answers : List Cond := .code yX4_answers cX4_answers 1 (some (.object "LoopMemo$Answers")) :: ([.fieldLink RX4 24 "LoopMemo$State" "answers" "LLoopMemo$Answers;"] ++ wsX40)
def wsX4_memo : List Cond := .code yX4_memo cX4_memo 1 (some (.object "LoopMemo$Memo")) :: ([.fieldLink RX4 31 "LoopMemo$State" "memo" "LLoopMemo$Memo;"] ++ wsX40)
def wsX4_setting : List Cond := .code yX4_setting cX4_setting 2 (some .int) :: ([.fieldLink RX4 44 "LoopMemo$State" "settings" "[I"] ++ wsX40)
def wsX4_tally : List Cond := .code yX4_tally cX4_tally 2 (some .int) :: ([.fieldLink RX4 47 "LoopMemo$State" "tallies" "[I"] ++ wsX40)
def wsX4_place : List Cond := .code yX4_place cX4_place 1 (some .int) :: ([.fieldLink RX4 64 "LoopMemo$State" "place" "I"] ++ wsX40)
def wsX4_totalSoFar : List Cond := .code yX4_totalSoFar cX4_totalSoFar 1 (some .int) :: ([.fieldLink RX4 68 "LoopMemo$State" "total" "I"] ++ wsX40)
def wsX4_isDone : List Cond := .code yX4_isDone cX4_isDone 2 (some .boolean) :: ([.fieldLink RX4 64 "LoopMemo$State" "place" "I"] ++ wsX40)
def wsX4_isInBand : List Cond := .code yX4_isInBand cX4_isInBand 2 (some .boolean) :: ([.fieldLink RX4 44 "LoopMemo$State" "settings" "[I"] ++ wsX40)
def wsX4_isInRememberedAnswer_r1 : List Cond := [Cond.fieldLink RX4 31 "LoopMemo$State" "memo" "LLoopMemo$Memo;", Cond.fieldLink RX4 18 "LoopMemo$State" "inner" "LLoopMemo$Table;", Cond.methodLink RX4 71 yX5_key, Cond.instanceMethod yX5_key, Cond.selects RX5 yX5_key yX5_key, Cond.initialized RX5, Cond.code yX5_key cX5_key 2 (some .int), Cond.fieldLink RX5 9 "LoopMemo$Table" "keys" "[I", Cond.methodLink RX4 75 yX2_holds, Cond.instanceMethod yX2_holds, Cond.selects RX2 yX2_holds yX2_holds, Cond.initialized RX2, Cond.code yX2_holds cX2_holds 2 (some .boolean), Cond.fieldLink RX2 9 "LoopMemo$Memo" "uses" "[I", Cond.methodLink RX4 79 yX5_value, Cond.instanceMethod yX5_value, Cond.selects RX5 yX5_value yX5_value, Cond.code yX5_value cX5_value 2 (some .int), Cond.fieldLink RX5 15 "LoopMemo$Table" "values" "[I", Cond.methodLink RX4 82 yX4_isInBand, Cond.instanceMethod yX4_isInBand, Cond.selects RX4 yX4_isInBand yX4_isInBand, Cond.initialized RX4, Cond.code yX4_isInBand cX4_isInBand 2 (some .boolean)]
def wsX4_isInRememberedAnswer_r2 : List Cond := [Cond.fieldLink RX4 44 "LoopMemo$State" "settings" "[I"]
def wsX4_isInRememberedAnswer : List Cond := .code yX4_isInRememberedAnswer cX4_isInRememberedAnswer 2 (some .boolean) :: ((wsX4_isInRememberedAnswer_r1 ++ wsX4_isInRememberedAnswer_r2) ++ wsX40 ++ wsX50 ++ wsX20)
def wsX6_isWithin : List Cond := .code yX6_isWithin cX6_isWithin 2 (some .boolean) :: ([])
def wsX6_isKey : List Cond := .code yX6_isKey cX6_isKey 1 (some .boolean) :: ([.methodLink RX6 76 yX6_isWithin, .static yX6_isWithin, .initialized RX6, .code yX6_isWithin cX6_isWithin 2 (some .boolean)])
def wsX6_isRow : List Cond := .code yX6_isRow cX6_isRow 2 (some .boolean) :: ([.methodLink RX6 147 yX6_isKey, .static yX6_isKey, .initialized RX6, .code yX6_isKey cX6_isKey 1 (some .boolean), .methodLink RX6 76 yX6_isWithin, .static yX6_isWithin, .code yX6_isWithin cX6_isWithin 2 (some .boolean)])
def wsX5_put : List Cond := .code yX5_put cX5_put 4 none :: ([.fieldLink RX5 9 "LoopMemo$Table" "keys" "[I", .fieldLink RX5 15 "LoopMemo$Table" "values" "[I"] ++ wsX50)
def wsX5_push : List Cond := .code yX5_push cX5_push 3 none :: ([.fieldLink RX5 22 "LoopMemo$Table" "size" "I", .methodLink RX5 26 yX5_put, .instanceMethod yX5_put, .selects RX5 yX5_put yX5_put, .initialized RX5, .code yX5_put cX5_put 4 none, .fieldLink RX5 9 "LoopMemo$Table" "keys" "[I", .fieldLink RX5 15 "LoopMemo$Table" "values" "[I"] ++ wsX50)
def wsX4_findAnswers_r1 : List Cond := [Cond.fieldLink RX4 24 "LoopMemo$State" "answers" "LLoopMemo$Answers;", Cond.fieldLink RX4 18 "LoopMemo$State" "inner" "LLoopMemo$Table;", Cond.fieldLink RX4 44 "LoopMemo$State" "settings" "[I", Cond.methodLink RX4 162 yX0_find, Cond.instanceMethod yX0_find, Cond.selects RX0 yX0_find yX0_find, Cond.initialized RX0, Cond.code yX0_find cX0_find 7 none, Cond.fieldLink RX0 9 "LoopMemo$Answers" "rows" "[I", Cond.fieldLink RX0 15 "LoopMemo$Answers" "sums" "[I", Cond.fieldLink RX0 18 "LoopMemo$Answers" "firstRows" "[I", Cond.methodLink RX0 25 yX5_size, Cond.instanceMethod yX5_size, Cond.selects RX5 yX5_size yX5_size, Cond.initialized RX5, Cond.code yX5_size cX5_size 1 (some .int), Cond.fieldLink RX5 22 "LoopMemo$Table" "size" "I", Cond.methodLink RX0 31 yX5_value, Cond.instanceMethod yX5_value, Cond.selects RX5 yX5_value yX5_value, Cond.code yX5_value cX5_value 2 (some .int), Cond.fieldLink RX5 15 "LoopMemo$Table" "values" "[I", Cond.methodLink RX0 35 yX5_key, Cond.instanceMethod yX5_key]
def wsX4_findAnswers_r2 : List Cond := [Cond.selects RX5 yX5_key yX5_key, Cond.code yX5_key cX5_key 2 (some .int), Cond.fieldLink RX5 9 "LoopMemo$Table" "keys" "[I"]
def wsX4_findAnswers : List Cond := .code yX4_findAnswers cX4_findAnswers 1 none :: ((wsX4_findAnswers_r1 ++ wsX4_findAnswers_r2) ++ wsX40 ++ wsX00 ++ wsX50)
def wsX4_throwAllOut : List Cond := .code yX4_throwAllOut cX4_throwAllOut 2 (some .int) :: ([.fieldLink RX4 31 "LoopMemo$State" "memo" "LLoopMemo$Memo;", .fieldLink RX4 47 "LoopMemo$State" "tallies" "[I", .methodLink RX4 125 yX2_loseAll, .instanceMethod yX2_loseAll, .selects RX2 yX2_loseAll yX2_loseAll, .initialized RX2, .code yX2_loseAll cX2_loseAll 3 (some .int), .fieldLink RX2 9 "LoopMemo$Memo" "uses" "[I", .methodLink RX2 29 yX2_size, .instanceMethod yX2_size, .selects RX2 yX2_size yX2_size, .code yX2_size cX2_size 3 (some .int)] ++ wsX40 ++ wsX20)
def wsX4_keepAnswerTrue : List Cond := .code yX4_keepAnswerTrue cX4_keepAnswerTrue 2 none :: ([.fieldLink RX4 31 "LoopMemo$State" "memo" "LLoopMemo$Memo;", .fieldLink RX4 44 "LoopMemo$State" "settings" "[I", .fieldLink RX4 47 "LoopMemo$State" "tallies" "[I", .methodLink RX4 75 yX2_holds, .instanceMethod yX2_holds, .selects RX2 yX2_holds yX2_holds, .initialized RX2, .code yX2_holds cX2_holds 2 (some .boolean), .fieldLink RX2 9 "LoopMemo$Memo" "uses" "[I", .methodLink RX4 156 yX2_lose, .instanceMethod yX2_lose, .selects RX2 yX2_lose yX2_lose, .code yX2_lose cX2_lose 2 none] ++ wsX40 ++ wsX20)
def wsX4_keepTrue_r1 : List Cond := [Cond.fieldLink RX4 44 "LoopMemo$State" "settings" "[I", Cond.methodLink RX4 134 yX4_findAnswers, Cond.instanceMethod yX4_findAnswers, Cond.selects RX4 yX4_findAnswers yX4_findAnswers, Cond.initialized RX4, Cond.code yX4_findAnswers cX4_findAnswers 1 none, Cond.fieldLink RX4 24 "LoopMemo$State" "answers" "LLoopMemo$Answers;", Cond.fieldLink RX4 18 "LoopMemo$State" "inner" "LLoopMemo$Table;", Cond.methodLink RX4 162 yX0_find, Cond.instanceMethod yX0_find, Cond.selects RX0 yX0_find yX0_find, Cond.initialized RX0, Cond.code yX0_find cX0_find 7 none, Cond.fieldLink RX0 9 "LoopMemo$Answers" "rows" "[I", Cond.fieldLink RX0 15 "LoopMemo$Answers" "sums" "[I", Cond.fieldLink RX0 18 "LoopMemo$Answers" "firstRows" "[I", Cond.methodLink RX0 25 yX5_size, Cond.instanceMethod yX5_size, Cond.selects RX5 yX5_size yX5_size, Cond.initialized RX5, Cond.code yX5_size cX5_size 1 (some .int), Cond.fieldLink RX5 22 "LoopMemo$Table" "size" "I", Cond.methodLink RX0 31 yX5_value, Cond.instanceMethod yX5_value]
def wsX4_keepTrue_r2 : List Cond := [Cond.selects RX5 yX5_value yX5_value, Cond.code yX5_value cX5_value 2 (some .int), Cond.fieldLink RX5 15 "LoopMemo$Table" "values" "[I", Cond.methodLink RX0 35 yX5_key, Cond.instanceMethod yX5_key, Cond.selects RX5 yX5_key yX5_key, Cond.code yX5_key cX5_key 2 (some .int), Cond.fieldLink RX5 9 "LoopMemo$Table" "keys" "[I", Cond.methodLink RX4 137 yX4_throwAllOut, Cond.instanceMethod yX4_throwAllOut, Cond.selects RX4 yX4_throwAllOut yX4_throwAllOut, Cond.code yX4_throwAllOut cX4_throwAllOut 2 (some .int), Cond.fieldLink RX4 31 "LoopMemo$State" "memo" "LLoopMemo$Memo;", Cond.fieldLink RX4 47 "LoopMemo$State" "tallies" "[I", Cond.methodLink RX4 125 yX2_loseAll, Cond.instanceMethod yX2_loseAll, Cond.selects RX2 yX2_loseAll yX2_loseAll, Cond.initialized RX2, Cond.code yX2_loseAll cX2_loseAll 3 (some .int), Cond.fieldLink RX2 9 "LoopMemo$Memo" "uses" "[I", Cond.methodLink RX2 29 yX2_size, Cond.instanceMethod yX2_size, Cond.selects RX2 yX2_size yX2_size, Cond.code yX2_size cX2_size 3 (some .int)]
def wsX4_keepTrue_r3 : List Cond := [Cond.methodLink RX4 159 yX4_keepAnswerTrue, Cond.instanceMethod yX4_keepAnswerTrue, Cond.selects RX4 yX4_keepAnswerTrue yX4_keepAnswerTrue, Cond.code yX4_keepAnswerTrue cX4_keepAnswerTrue 2 none, Cond.methodLink RX4 75 yX2_holds, Cond.instanceMethod yX2_holds, Cond.selects RX2 yX2_holds yX2_holds, Cond.code yX2_holds cX2_holds 2 (some .boolean), Cond.methodLink RX4 156 yX2_lose, Cond.instanceMethod yX2_lose, Cond.selects RX2 yX2_lose yX2_lose, Cond.code yX2_lose cX2_lose 2 none]
def wsX4_keepTrue : List Cond := .code yX4_keepTrue cX4_keepTrue 3 none :: ((wsX4_keepTrue_r1 ++ (wsX4_keepTrue_r2 ++ wsX4_keepTrue_r3)) ++ wsX40 ++ wsX00 ++ wsX50 ++ wsX20)
def wsX4_insertRow_r1 : List Cond := [Cond.static yX6_isRow, Cond.initialized RX6, Cond.code yX6_isRow cX6_isRow 2 (some .boolean), Cond.methodLink RX6 147 yX6_isKey, Cond.static yX6_isKey, Cond.code yX6_isKey cX6_isKey 1 (some .boolean), Cond.methodLink RX6 76 yX6_isWithin, Cond.static yX6_isWithin, Cond.code yX6_isWithin cX6_isWithin 2 (some .boolean), Cond.methodLink RX4 89 yX4_table, Cond.instanceMethod yX4_table, Cond.selects RX4 yX4_table yX4_table, Cond.initialized RX4, Cond.code yX4_table cX4_table 2 (some (.object "LoopMemo$Table")), Cond.fieldLink RX4 18 "LoopMemo$State" "inner" "LLoopMemo$Table;", Cond.fieldLink RX4 12 "LoopMemo$State" "outer" "LLoopMemo$Table;", Cond.methodLink RX4 93 yX5_size, Cond.instanceMethod yX5_size, Cond.selects RX5 yX5_size yX5_size, Cond.initialized RX5, Cond.code yX5_size cX5_size 1 (some .int), Cond.fieldLink RX5 22 "LoopMemo$Table" "size" "I", Cond.methodLink RX4 97 yX5_push, Cond.instanceMethod yX5_push]
def wsX4_insertRow_r2 : List Cond := [Cond.selects RX5 yX5_push yX5_push, Cond.code yX5_push cX5_push 3 none, Cond.methodLink RX5 26 yX5_put, Cond.instanceMethod yX5_put, Cond.selects RX5 yX5_put yX5_put, Cond.code yX5_put cX5_put 4 none, Cond.fieldLink RX5 9 "LoopMemo$Table" "keys" "[I", Cond.fieldLink RX5 15 "LoopMemo$Table" "values" "[I", Cond.methodLink RX4 101 yX4_keepTrue, Cond.instanceMethod yX4_keepTrue, Cond.selects RX4 yX4_keepTrue yX4_keepTrue, Cond.code yX4_keepTrue cX4_keepTrue 3 none, Cond.fieldLink RX4 44 "LoopMemo$State" "settings" "[I", Cond.methodLink RX4 134 yX4_findAnswers, Cond.instanceMethod yX4_findAnswers, Cond.selects RX4 yX4_findAnswers yX4_findAnswers, Cond.code yX4_findAnswers cX4_findAnswers 1 none, Cond.fieldLink RX4 24 "LoopMemo$State" "answers" "LLoopMemo$Answers;", Cond.methodLink RX4 162 yX0_find, Cond.instanceMethod yX0_find, Cond.selects RX0 yX0_find yX0_find, Cond.initialized RX0, Cond.code yX0_find cX0_find 7 none, Cond.fieldLink RX0 9 "LoopMemo$Answers" "rows" "[I"]
def wsX4_insertRow_r3 : List Cond := [Cond.fieldLink RX0 15 "LoopMemo$Answers" "sums" "[I", Cond.fieldLink RX0 18 "LoopMemo$Answers" "firstRows" "[I", Cond.methodLink RX0 25 yX5_size, Cond.methodLink RX0 31 yX5_value, Cond.instanceMethod yX5_value, Cond.selects RX5 yX5_value yX5_value, Cond.code yX5_value cX5_value 2 (some .int), Cond.methodLink RX0 35 yX5_key, Cond.instanceMethod yX5_key, Cond.selects RX5 yX5_key yX5_key, Cond.code yX5_key cX5_key 2 (some .int), Cond.methodLink RX4 137 yX4_throwAllOut, Cond.instanceMethod yX4_throwAllOut, Cond.selects RX4 yX4_throwAllOut yX4_throwAllOut, Cond.code yX4_throwAllOut cX4_throwAllOut 2 (some .int), Cond.fieldLink RX4 31 "LoopMemo$State" "memo" "LLoopMemo$Memo;", Cond.fieldLink RX4 47 "LoopMemo$State" "tallies" "[I", Cond.methodLink RX4 125 yX2_loseAll, Cond.instanceMethod yX2_loseAll, Cond.selects RX2 yX2_loseAll yX2_loseAll, Cond.initialized RX2, Cond.code yX2_loseAll cX2_loseAll 3 (some .int), Cond.fieldLink RX2 9 "LoopMemo$Memo" "uses" "[I", Cond.methodLink RX2 29 yX2_size]
def wsX4_insertRow_r4 : List Cond := [Cond.instanceMethod yX2_size, Cond.selects RX2 yX2_size yX2_size, Cond.code yX2_size cX2_size 3 (some .int), Cond.methodLink RX4 159 yX4_keepAnswerTrue, Cond.instanceMethod yX4_keepAnswerTrue, Cond.selects RX4 yX4_keepAnswerTrue yX4_keepAnswerTrue, Cond.code yX4_keepAnswerTrue cX4_keepAnswerTrue 2 none, Cond.methodLink RX4 75 yX2_holds, Cond.instanceMethod yX2_holds, Cond.selects RX2 yX2_holds yX2_holds, Cond.code yX2_holds cX2_holds 2 (some .boolean), Cond.methodLink RX4 156 yX2_lose, Cond.instanceMethod yX2_lose, Cond.selects RX2 yX2_lose yX2_lose, Cond.code yX2_lose cX2_lose 2 none]
def wsX4_insertRow : List Cond := .code yX4_insertRow cX4_insertRow 5 (some .int) :: ((wsX4_insertRow_r1 ++ (wsX4_insertRow_r2 ++ (wsX4_insertRow_r3 ++ wsX4_insertRow_r4))) ++ wsX40 ++ wsX50 ++ wsX00 ++ wsX20)
def wsX5_has : List Cond := .code yX5_has cX5_has 2 (some .boolean) :: ([.fieldLink RX5 22 "LoopMemo$Table" "size" "I"] ++ wsX50)
def wsX5_takeOut : List Cond := .code yX5_takeOut cX5_takeOut 3 none :: ([.fieldLink RX5 22 "LoopMemo$Table" "size" "I", .methodLink RX5 30 yX5_has, .instanceMethod yX5_has, .selects RX5 yX5_has yX5_has, .initialized RX5, .code yX5_has cX5_has 2 (some .boolean), .methodLink RX5 34 yX5_key, .instanceMethod yX5_key, .selects RX5 yX5_key yX5_key, .code yX5_key cX5_key 2 (some .int), .fieldLink RX5 9 "LoopMemo$Table" "keys" "[I", .methodLink RX5 38 yX5_value, .instanceMethod yX5_value, .selects RX5 yX5_value yX5_value, .code yX5_value cX5_value 2 (some .int), .fieldLink RX5 15 "LoopMemo$Table" "values" "[I", .methodLink RX5 26 yX5_put, .instanceMethod yX5_put, .selects RX5 yX5_put yX5_put, .code yX5_put cX5_put 4 none] ++ wsX50)
def wsX4_removeRow_r1 : List Cond := [Cond.fieldLink RX4 64 "LoopMemo$State" "place" "I", Cond.methodLink RX4 89 yX4_table, Cond.instanceMethod yX4_table, Cond.selects RX4 yX4_table yX4_table, Cond.initialized RX4, Cond.code yX4_table cX4_table 2 (some (.object "LoopMemo$Table")), Cond.fieldLink RX4 18 "LoopMemo$State" "inner" "LLoopMemo$Table;", Cond.fieldLink RX4 12 "LoopMemo$State" "outer" "LLoopMemo$Table;", Cond.methodLink RX4 104 yX5_has, Cond.instanceMethod yX5_has, Cond.selects RX5 yX5_has yX5_has, Cond.initialized RX5, Cond.code yX5_has cX5_has 2 (some .boolean), Cond.fieldLink RX5 22 "LoopMemo$Table" "size" "I", Cond.methodLink RX4 71 yX5_key, Cond.instanceMethod yX5_key, Cond.selects RX5 yX5_key yX5_key, Cond.code yX5_key cX5_key 2 (some .int), Cond.fieldLink RX5 9 "LoopMemo$Table" "keys" "[I", Cond.methodLink RX4 107 yX5_takeOut, Cond.instanceMethod yX5_takeOut, Cond.selects RX5 yX5_takeOut yX5_takeOut, Cond.code yX5_takeOut cX5_takeOut 3 none, Cond.methodLink RX5 30 yX5_has]
def wsX4_removeRow_r2 : List Cond := [Cond.methodLink RX5 34 yX5_key, Cond.methodLink RX5 38 yX5_value, Cond.instanceMethod yX5_value, Cond.selects RX5 yX5_value yX5_value, Cond.code yX5_value cX5_value 2 (some .int), Cond.fieldLink RX5 15 "LoopMemo$Table" "values" "[I", Cond.methodLink RX5 26 yX5_put, Cond.instanceMethod yX5_put, Cond.selects RX5 yX5_put yX5_put, Cond.code yX5_put cX5_put 4 none, Cond.methodLink RX4 101 yX4_keepTrue, Cond.instanceMethod yX4_keepTrue, Cond.selects RX4 yX4_keepTrue yX4_keepTrue, Cond.code yX4_keepTrue cX4_keepTrue 3 none, Cond.fieldLink RX4 44 "LoopMemo$State" "settings" "[I", Cond.methodLink RX4 134 yX4_findAnswers, Cond.instanceMethod yX4_findAnswers, Cond.selects RX4 yX4_findAnswers yX4_findAnswers, Cond.code yX4_findAnswers cX4_findAnswers 1 none, Cond.fieldLink RX4 24 "LoopMemo$State" "answers" "LLoopMemo$Answers;", Cond.methodLink RX4 162 yX0_find, Cond.instanceMethod yX0_find, Cond.selects RX0 yX0_find yX0_find, Cond.initialized RX0]
def wsX4_removeRow_r3 : List Cond := [Cond.code yX0_find cX0_find 7 none, Cond.fieldLink RX0 9 "LoopMemo$Answers" "rows" "[I", Cond.fieldLink RX0 15 "LoopMemo$Answers" "sums" "[I", Cond.fieldLink RX0 18 "LoopMemo$Answers" "firstRows" "[I", Cond.methodLink RX0 25 yX5_size, Cond.instanceMethod yX5_size, Cond.selects RX5 yX5_size yX5_size, Cond.code yX5_size cX5_size 1 (some .int), Cond.methodLink RX0 31 yX5_value, Cond.methodLink RX0 35 yX5_key, Cond.methodLink RX4 137 yX4_throwAllOut, Cond.instanceMethod yX4_throwAllOut, Cond.selects RX4 yX4_throwAllOut yX4_throwAllOut, Cond.code yX4_throwAllOut cX4_throwAllOut 2 (some .int), Cond.fieldLink RX4 31 "LoopMemo$State" "memo" "LLoopMemo$Memo;", Cond.fieldLink RX4 47 "LoopMemo$State" "tallies" "[I", Cond.methodLink RX4 125 yX2_loseAll, Cond.instanceMethod yX2_loseAll, Cond.selects RX2 yX2_loseAll yX2_loseAll, Cond.initialized RX2, Cond.code yX2_loseAll cX2_loseAll 3 (some .int), Cond.fieldLink RX2 9 "LoopMemo$Memo" "uses" "[I", Cond.methodLink RX2 29 yX2_size, Cond.instanceMethod yX2_size]
def wsX4_removeRow_r4 : List Cond := [Cond.selects RX2 yX2_size yX2_size, Cond.code yX2_size cX2_size 3 (some .int), Cond.methodLink RX4 159 yX4_keepAnswerTrue, Cond.instanceMethod yX4_keepAnswerTrue, Cond.selects RX4 yX4_keepAnswerTrue yX4_keepAnswerTrue, Cond.code yX4_keepAnswerTrue cX4_keepAnswerTrue 2 none, Cond.methodLink RX4 75 yX2_holds, Cond.instanceMethod yX2_holds, Cond.selects RX2 yX2_holds yX2_holds, Cond.code yX2_holds cX2_holds 2 (some .boolean), Cond.methodLink RX4 156 yX2_lose, Cond.instanceMethod yX2_lose, Cond.selects RX2 yX2_lose yX2_lose, Cond.code yX2_lose cX2_lose 2 none, Cond.methodLink RX4 111 yX4_isDone, Cond.instanceMethod yX4_isDone, Cond.selects RX4 yX4_isDone yX4_isDone, Cond.code yX4_isDone cX4_isDone 2 (some .boolean), Cond.methodLink RX4 93 yX5_size]
def wsX4_removeRow : List Cond := .code yX4_removeRow cX4_removeRow 5 (some .int) :: ((wsX4_removeRow_r1 ++ (wsX4_removeRow_r2 ++ (wsX4_removeRow_r3 ++ wsX4_removeRow_r4))) ++ wsX40 ++ wsX50 ++ wsX00 ++ wsX20)
def wsX4_rewriteRow_r1 : List Cond := [Cond.fieldLink RX4 18 "LoopMemo$State" "inner" "LLoopMemo$Table;", Cond.fieldLink RX4 31 "LoopMemo$State" "memo" "LLoopMemo$Memo;", Cond.methodLink RX4 104 yX5_has, Cond.instanceMethod yX5_has, Cond.selects RX5 yX5_has yX5_has, Cond.initialized RX5, Cond.code yX5_has cX5_has 2 (some .boolean), Cond.fieldLink RX5 22 "LoopMemo$Table" "size" "I", Cond.static yX6_isRow, Cond.initialized RX6, Cond.code yX6_isRow cX6_isRow 2 (some .boolean), Cond.methodLink RX6 147 yX6_isKey, Cond.static yX6_isKey, Cond.code yX6_isKey cX6_isKey 1 (some .boolean), Cond.methodLink RX6 76 yX6_isWithin, Cond.static yX6_isWithin, Cond.code yX6_isWithin cX6_isWithin 2 (some .boolean), Cond.methodLink RX4 71 yX5_key, Cond.instanceMethod yX5_key, Cond.selects RX5 yX5_key yX5_key, Cond.code yX5_key cX5_key 2 (some .int), Cond.fieldLink RX5 9 "LoopMemo$Table" "keys" "[I", Cond.methodLink RX4 114 yX5_put, Cond.instanceMethod yX5_put]
def wsX4_rewriteRow_r2 : List Cond := [Cond.selects RX5 yX5_put yX5_put, Cond.code yX5_put cX5_put 4 none, Cond.fieldLink RX5 15 "LoopMemo$Table" "values" "[I", Cond.methodLink RX4 101 yX4_keepTrue, Cond.instanceMethod yX4_keepTrue, Cond.selects RX4 yX4_keepTrue yX4_keepTrue, Cond.initialized RX4, Cond.code yX4_keepTrue cX4_keepTrue 3 none, Cond.fieldLink RX4 44 "LoopMemo$State" "settings" "[I", Cond.methodLink RX4 134 yX4_findAnswers, Cond.instanceMethod yX4_findAnswers, Cond.selects RX4 yX4_findAnswers yX4_findAnswers, Cond.code yX4_findAnswers cX4_findAnswers 1 none, Cond.fieldLink RX4 24 "LoopMemo$State" "answers" "LLoopMemo$Answers;", Cond.methodLink RX4 162 yX0_find, Cond.instanceMethod yX0_find, Cond.selects RX0 yX0_find yX0_find, Cond.initialized RX0, Cond.code yX0_find cX0_find 7 none, Cond.fieldLink RX0 9 "LoopMemo$Answers" "rows" "[I", Cond.fieldLink RX0 15 "LoopMemo$Answers" "sums" "[I", Cond.fieldLink RX0 18 "LoopMemo$Answers" "firstRows" "[I", Cond.methodLink RX0 25 yX5_size, Cond.instanceMethod yX5_size]
def wsX4_rewriteRow_r3 : List Cond := [Cond.selects RX5 yX5_size yX5_size, Cond.code yX5_size cX5_size 1 (some .int), Cond.methodLink RX0 31 yX5_value, Cond.instanceMethod yX5_value, Cond.selects RX5 yX5_value yX5_value, Cond.code yX5_value cX5_value 2 (some .int), Cond.methodLink RX0 35 yX5_key, Cond.methodLink RX4 137 yX4_throwAllOut, Cond.instanceMethod yX4_throwAllOut, Cond.selects RX4 yX4_throwAllOut yX4_throwAllOut, Cond.code yX4_throwAllOut cX4_throwAllOut 2 (some .int), Cond.fieldLink RX4 47 "LoopMemo$State" "tallies" "[I", Cond.methodLink RX4 125 yX2_loseAll, Cond.instanceMethod yX2_loseAll, Cond.selects RX2 yX2_loseAll yX2_loseAll, Cond.initialized RX2, Cond.code yX2_loseAll cX2_loseAll 3 (some .int), Cond.fieldLink RX2 9 "LoopMemo$Memo" "uses" "[I", Cond.methodLink RX2 29 yX2_size, Cond.instanceMethod yX2_size, Cond.selects RX2 yX2_size yX2_size, Cond.code yX2_size cX2_size 3 (some .int), Cond.methodLink RX4 159 yX4_keepAnswerTrue, Cond.instanceMethod yX4_keepAnswerTrue]
def wsX4_rewriteRow_r4 : List Cond := [Cond.selects RX4 yX4_keepAnswerTrue yX4_keepAnswerTrue, Cond.code yX4_keepAnswerTrue cX4_keepAnswerTrue 2 none, Cond.methodLink RX4 75 yX2_holds, Cond.instanceMethod yX2_holds, Cond.selects RX2 yX2_holds yX2_holds, Cond.code yX2_holds cX2_holds 2 (some .boolean), Cond.methodLink RX4 156 yX2_lose, Cond.instanceMethod yX2_lose, Cond.selects RX2 yX2_lose yX2_lose, Cond.code yX2_lose cX2_lose 2 none, Cond.methodLink RX4 118 yX2_size]
def wsX4_rewriteRow : List Cond := .code yX4_rewriteRow cX4_rewriteRow 5 (some .int) :: ((wsX4_rewriteRow_r1 ++ (wsX4_rewriteRow_r2 ++ (wsX4_rewriteRow_r3 ++ wsX4_rewriteRow_r4))) ++ wsX40 ++ wsX50 ++ wsX00 ++ wsX20)
def wsX4_weightTogether : List Cond := .code yX4_weightTogether cX4_weightTogether 3 (some .int) :: ([.fieldLink RX4 31 "LoopMemo$State" "memo" "LLoopMemo$Memo;", .fieldLink RX4 24 "LoopMemo$State" "answers" "LLoopMemo$Answers;", .methodLink RX4 75 yX2_holds, .instanceMethod yX2_holds, .selects RX2 yX2_holds yX2_holds, .initialized RX2, .code yX2_holds cX2_holds 2 (some .boolean), .fieldLink RX2 9 "LoopMemo$Memo" "uses" "[I", .methodLink RX4 140 yX0_weight, .instanceMethod yX0_weight, .selects RX0 yX0_weight yX0_weight, .initialized RX0, .code yX0_weight cX0_weight 2 (some .int), .fieldLink RX0 9 "LoopMemo$Answers" "rows" "[I"] ++ wsX40 ++ wsX20 ++ wsX00)
def wsX4_makeRoom_r1 : List Cond := [Cond.fieldLink RX4 44 "LoopMemo$State" "settings" "[I", Cond.fieldLink RX4 31 "LoopMemo$State" "memo" "LLoopMemo$Memo;", Cond.fieldLink RX4 24 "LoopMemo$State" "answers" "LLoopMemo$Answers;", Cond.fieldLink RX4 47 "LoopMemo$State" "tallies" "[I", Cond.methodLink RX4 149 yX4_weightTogether, Cond.instanceMethod yX4_weightTogether, Cond.selects RX4 yX4_weightTogether yX4_weightTogether, Cond.initialized RX4, Cond.code yX4_weightTogether cX4_weightTogether 3 (some .int), Cond.methodLink RX4 75 yX2_holds, Cond.instanceMethod yX2_holds, Cond.selects RX2 yX2_holds yX2_holds, Cond.initialized RX2, Cond.code yX2_holds cX2_holds 2 (some .boolean), Cond.fieldLink RX2 9 "LoopMemo$Memo" "uses" "[I", Cond.methodLink RX4 140 yX0_weight, Cond.instanceMethod yX0_weight, Cond.selects RX0 yX0_weight yX0_weight, Cond.initialized RX0, Cond.code yX0_weight cX0_weight 2 (some .int), Cond.fieldLink RX0 9 "LoopMemo$Answers" "rows" "[I", Cond.methodLink RX4 152 yX2_firstOut, Cond.instanceMethod yX2_firstOut, Cond.selects RX2 yX2_firstOut yX2_firstOut]
def wsX4_makeRoom_r2 : List Cond := [Cond.code yX2_firstOut cX2_firstOut 5 (some .int), Cond.methodLink RX2 33 yX2_rank, Cond.instanceMethod yX2_rank, Cond.selects RX2 yX2_rank yX2_rank, Cond.code yX2_rank cX2_rank 3 (some .long), Cond.fieldLink RX2 18 "LoopMemo$Memo" "firstLooks" "[I", Cond.fieldLink RX2 15 "LoopMemo$Memo" "lastLooks" "[I", Cond.methodLink RX4 156 yX2_lose, Cond.instanceMethod yX2_lose, Cond.selects RX2 yX2_lose yX2_lose, Cond.code yX2_lose cX2_lose 2 none]
def wsX4_makeRoom : List Cond := .code yX4_makeRoom cX4_makeRoom 5 (some .int) :: ((wsX4_makeRoom_r1 ++ wsX4_makeRoom_r2) ++ wsX40 ++ wsX20 ++ wsX00)
def wsX4_lookUp_r1 : List Cond := [Cond.fieldLink RX4 31 "LoopMemo$State" "memo" "LLoopMemo$Memo;", Cond.fieldLink RX4 47 "LoopMemo$State" "tallies" "[I", Cond.fieldLink RX4 18 "LoopMemo$State" "inner" "LLoopMemo$Table;", Cond.fieldLink RX4 24 "LoopMemo$State" "answers" "LLoopMemo$Answers;", Cond.fieldLink RX4 44 "LoopMemo$State" "settings" "[I", Cond.methodLink RX4 75 yX2_holds, Cond.instanceMethod yX2_holds, Cond.selects RX2 yX2_holds yX2_holds, Cond.initialized RX2, Cond.code yX2_holds cX2_holds 2 (some .boolean), Cond.fieldLink RX2 9 "LoopMemo$Memo" "uses" "[I", Cond.methodLink RX4 143 yX2_touch, Cond.instanceMethod yX2_touch, Cond.selects RX2 yX2_touch yX2_touch, Cond.code yX2_touch cX2_touch 2 none, Cond.fieldLink RX2 25 "LoopMemo$Memo" "looks" "I", Cond.fieldLink RX2 15 "LoopMemo$Memo" "lastLooks" "[I", Cond.methodLink RX4 93 yX5_size, Cond.instanceMethod yX5_size, Cond.selects RX5 yX5_size yX5_size, Cond.initialized RX5, Cond.code yX5_size cX5_size 1 (some .int), Cond.fieldLink RX5 22 "LoopMemo$Table" "size" "I", Cond.methodLink RX4 140 yX0_weight]
def wsX4_lookUp_r2 : List Cond := [Cond.instanceMethod yX0_weight, Cond.selects RX0 yX0_weight yX0_weight, Cond.initialized RX0, Cond.code yX0_weight cX0_weight 2 (some .int), Cond.fieldLink RX0 9 "LoopMemo$Answers" "rows" "[I", Cond.methodLink RX4 146 yX2_take, Cond.instanceMethod yX2_take, Cond.selects RX2 yX2_take yX2_take, Cond.code yX2_take cX2_take 2 none, Cond.fieldLink RX2 18 "LoopMemo$Memo" "firstLooks" "[I", Cond.methodLink RX4 131 yX4_makeRoom, Cond.instanceMethod yX4_makeRoom, Cond.selects RX4 yX4_makeRoom yX4_makeRoom, Cond.initialized RX4, Cond.code yX4_makeRoom cX4_makeRoom 5 (some .int), Cond.methodLink RX4 149 yX4_weightTogether, Cond.instanceMethod yX4_weightTogether, Cond.selects RX4 yX4_weightTogether yX4_weightTogether, Cond.code yX4_weightTogether cX4_weightTogether 3 (some .int), Cond.methodLink RX4 152 yX2_firstOut, Cond.instanceMethod yX2_firstOut, Cond.selects RX2 yX2_firstOut yX2_firstOut, Cond.code yX2_firstOut cX2_firstOut 5 (some .int), Cond.methodLink RX2 33 yX2_rank]
def wsX4_lookUp_r3 : List Cond := [Cond.instanceMethod yX2_rank, Cond.selects RX2 yX2_rank yX2_rank, Cond.code yX2_rank cX2_rank 3 (some .long), Cond.methodLink RX4 156 yX2_lose, Cond.instanceMethod yX2_lose, Cond.selects RX2 yX2_lose yX2_lose, Cond.code yX2_lose cX2_lose 2 none]
def wsX4_lookUp : List Cond := .code yX4_lookUp cX4_lookUp 2 none :: ((wsX4_lookUp_r1 ++ (wsX4_lookUp_r2 ++ wsX4_lookUp_r3)) ++ wsX40 ++ wsX20 ++ wsX50 ++ wsX00)
def wsX4_walk_r1 : List Cond := [Cond.fieldLink RX4 64 "LoopMemo$State" "place" "I", Cond.fieldLink RX4 12 "LoopMemo$State" "outer" "LLoopMemo$Table;", Cond.fieldLink RX4 47 "LoopMemo$State" "tallies" "[I", Cond.fieldLink RX4 68 "LoopMemo$State" "total" "I", Cond.fieldLink RX4 24 "LoopMemo$State" "answers" "LLoopMemo$Answers;", Cond.methodLink RX4 93 yX5_size, Cond.instanceMethod yX5_size, Cond.selects RX5 yX5_size yX5_size, Cond.initialized RX5, Cond.code yX5_size cX5_size 1 (some .int), Cond.fieldLink RX5 22 "LoopMemo$Table" "size" "I", Cond.methodLink RX4 71 yX5_key, Cond.instanceMethod yX5_key, Cond.selects RX5 yX5_key yX5_key, Cond.code yX5_key cX5_key 2 (some .int), Cond.fieldLink RX5 9 "LoopMemo$Table" "keys" "[I", Cond.methodLink RX4 119 yX4_lookUp, Cond.instanceMethod yX4_lookUp, Cond.selects RX4 yX4_lookUp yX4_lookUp, Cond.initialized RX4, Cond.code yX4_lookUp cX4_lookUp 2 none, Cond.fieldLink RX4 31 "LoopMemo$State" "memo" "LLoopMemo$Memo;", Cond.fieldLink RX4 18 "LoopMemo$State" "inner" "LLoopMemo$Table;", Cond.fieldLink RX4 44 "LoopMemo$State" "settings" "[I"]
def wsX4_walk_r2 : List Cond := [Cond.methodLink RX4 75 yX2_holds, Cond.instanceMethod yX2_holds, Cond.selects RX2 yX2_holds yX2_holds, Cond.initialized RX2, Cond.code yX2_holds cX2_holds 2 (some .boolean), Cond.fieldLink RX2 9 "LoopMemo$Memo" "uses" "[I", Cond.methodLink RX4 143 yX2_touch, Cond.instanceMethod yX2_touch, Cond.selects RX2 yX2_touch yX2_touch, Cond.code yX2_touch cX2_touch 2 none, Cond.fieldLink RX2 25 "LoopMemo$Memo" "looks" "I", Cond.fieldLink RX2 15 "LoopMemo$Memo" "lastLooks" "[I", Cond.methodLink RX4 140 yX0_weight, Cond.instanceMethod yX0_weight, Cond.selects RX0 yX0_weight yX0_weight, Cond.initialized RX0, Cond.code yX0_weight cX0_weight 2 (some .int), Cond.fieldLink RX0 9 "LoopMemo$Answers" "rows" "[I", Cond.methodLink RX4 146 yX2_take, Cond.instanceMethod yX2_take, Cond.selects RX2 yX2_take yX2_take, Cond.code yX2_take cX2_take 2 none, Cond.fieldLink RX2 18 "LoopMemo$Memo" "firstLooks" "[I", Cond.methodLink RX4 131 yX4_makeRoom]
def wsX4_walk_r3 : List Cond := [Cond.instanceMethod yX4_makeRoom, Cond.selects RX4 yX4_makeRoom yX4_makeRoom, Cond.code yX4_makeRoom cX4_makeRoom 5 (some .int), Cond.methodLink RX4 149 yX4_weightTogether, Cond.instanceMethod yX4_weightTogether, Cond.selects RX4 yX4_weightTogether yX4_weightTogether, Cond.code yX4_weightTogether cX4_weightTogether 3 (some .int), Cond.methodLink RX4 152 yX2_firstOut, Cond.instanceMethod yX2_firstOut, Cond.selects RX2 yX2_firstOut yX2_firstOut, Cond.code yX2_firstOut cX2_firstOut 5 (some .int), Cond.methodLink RX2 33 yX2_rank, Cond.instanceMethod yX2_rank, Cond.selects RX2 yX2_rank yX2_rank, Cond.code yX2_rank cX2_rank 3 (some .long), Cond.methodLink RX4 156 yX2_lose, Cond.instanceMethod yX2_lose, Cond.selects RX2 yX2_lose yX2_lose, Cond.code yX2_lose cX2_lose 2 none, Cond.methodLink RX4 79 yX5_value, Cond.instanceMethod yX5_value, Cond.selects RX5 yX5_value yX5_value, Cond.code yX5_value cX5_value 2 (some .int), Cond.fieldLink RX5 15 "LoopMemo$Table" "values" "[I"]
def wsX4_walk_r4 : List Cond := [Cond.methodLink RX4 122 yX0_sum, Cond.instanceMethod yX0_sum, Cond.selects RX0 yX0_sum yX0_sum, Cond.code yX0_sum cX0_sum 2 (some .int), Cond.fieldLink RX0 15 "LoopMemo$Answers" "sums" "[I"]
def wsX4_walk : List Cond := .code yX4_walk cX4_walk 5 (some .int) :: ((wsX4_walk_r1 ++ (wsX4_walk_r2 ++ (wsX4_walk_r3 ++ wsX4_walk_r4))) ++ wsX40 ++ wsX50 ++ wsX20 ++ wsX00)
def wsX4_beginAgain : List Cond := .code yX4_beginAgain cX4_beginAgain 2 (some .int) :: ([.fieldLink RX4 68 "LoopMemo$State" "total" "I", .fieldLink RX4 64 "LoopMemo$State" "place" "I"] ++ wsX40)
def wsX4_adjust_r1 : List Cond := [Cond.fieldLink RX4 128 "LoopMemo$State" "HIGHEST_SETTINGS" "[I", Cond.fieldLink RX4 44 "LoopMemo$State" "settings" "[I", Cond.methodLink RX4 131 yX4_makeRoom, Cond.instanceMethod yX4_makeRoom, Cond.selects RX4 yX4_makeRoom yX4_makeRoom, Cond.initialized RX4, Cond.code yX4_makeRoom cX4_makeRoom 5 (some .int), Cond.fieldLink RX4 31 "LoopMemo$State" "memo" "LLoopMemo$Memo;", Cond.fieldLink RX4 24 "LoopMemo$State" "answers" "LLoopMemo$Answers;", Cond.fieldLink RX4 47 "LoopMemo$State" "tallies" "[I", Cond.methodLink RX4 149 yX4_weightTogether, Cond.instanceMethod yX4_weightTogether, Cond.selects RX4 yX4_weightTogether yX4_weightTogether, Cond.code yX4_weightTogether cX4_weightTogether 3 (some .int), Cond.methodLink RX4 75 yX2_holds, Cond.instanceMethod yX2_holds, Cond.selects RX2 yX2_holds yX2_holds, Cond.initialized RX2, Cond.code yX2_holds cX2_holds 2 (some .boolean), Cond.fieldLink RX2 9 "LoopMemo$Memo" "uses" "[I", Cond.methodLink RX4 140 yX0_weight, Cond.instanceMethod yX0_weight, Cond.selects RX0 yX0_weight yX0_weight, Cond.initialized RX0]
def wsX4_adjust_r2 : List Cond := [Cond.code yX0_weight cX0_weight 2 (some .int), Cond.fieldLink RX0 9 "LoopMemo$Answers" "rows" "[I", Cond.methodLink RX4 152 yX2_firstOut, Cond.instanceMethod yX2_firstOut, Cond.selects RX2 yX2_firstOut yX2_firstOut, Cond.code yX2_firstOut cX2_firstOut 5 (some .int), Cond.methodLink RX2 33 yX2_rank, Cond.instanceMethod yX2_rank, Cond.selects RX2 yX2_rank yX2_rank, Cond.code yX2_rank cX2_rank 3 (some .long), Cond.fieldLink RX2 18 "LoopMemo$Memo" "firstLooks" "[I", Cond.fieldLink RX2 15 "LoopMemo$Memo" "lastLooks" "[I", Cond.methodLink RX4 156 yX2_lose, Cond.instanceMethod yX2_lose, Cond.selects RX2 yX2_lose yX2_lose, Cond.code yX2_lose cX2_lose 2 none, Cond.methodLink RX4 134 yX4_findAnswers, Cond.instanceMethod yX4_findAnswers, Cond.selects RX4 yX4_findAnswers yX4_findAnswers, Cond.code yX4_findAnswers cX4_findAnswers 1 none, Cond.fieldLink RX4 18 "LoopMemo$State" "inner" "LLoopMemo$Table;", Cond.methodLink RX4 162 yX0_find, Cond.instanceMethod yX0_find, Cond.selects RX0 yX0_find yX0_find]
def wsX4_adjust_r3 : List Cond := [Cond.code yX0_find cX0_find 7 none, Cond.fieldLink RX0 15 "LoopMemo$Answers" "sums" "[I", Cond.fieldLink RX0 18 "LoopMemo$Answers" "firstRows" "[I", Cond.methodLink RX0 25 yX5_size, Cond.instanceMethod yX5_size, Cond.selects RX5 yX5_size yX5_size, Cond.initialized RX5, Cond.code yX5_size cX5_size 1 (some .int), Cond.fieldLink RX5 22 "LoopMemo$Table" "size" "I", Cond.methodLink RX0 31 yX5_value, Cond.instanceMethod yX5_value, Cond.selects RX5 yX5_value yX5_value, Cond.code yX5_value cX5_value 2 (some .int), Cond.fieldLink RX5 15 "LoopMemo$Table" "values" "[I", Cond.methodLink RX0 35 yX5_key, Cond.instanceMethod yX5_key, Cond.selects RX5 yX5_key yX5_key, Cond.code yX5_key cX5_key 2 (some .int), Cond.fieldLink RX5 9 "LoopMemo$Table" "keys" "[I", Cond.methodLink RX4 137 yX4_throwAllOut, Cond.instanceMethod yX4_throwAllOut, Cond.selects RX4 yX4_throwAllOut yX4_throwAllOut, Cond.code yX4_throwAllOut cX4_throwAllOut 2 (some .int), Cond.methodLink RX4 125 yX2_loseAll]
def wsX4_adjust_r4 : List Cond := [Cond.instanceMethod yX2_loseAll, Cond.selects RX2 yX2_loseAll yX2_loseAll, Cond.code yX2_loseAll cX2_loseAll 3 (some .int), Cond.methodLink RX2 29 yX2_size, Cond.instanceMethod yX2_size, Cond.selects RX2 yX2_size yX2_size, Cond.code yX2_size cX2_size 3 (some .int)]
def wsX4_adjust : List Cond := .code yX4_adjust cX4_adjust 3 (some .int) :: ((wsX4_adjust_r1 ++ (wsX4_adjust_r2 ++ (wsX4_adjust_r3 ++ wsX4_adjust_r4))) ++ wsX40 ++ wsX20 ++ wsX00 ++ wsX50)
def wsX4_totalByAnswers : List Cond := .code yX4_totalByAnswers cX4_totalByAnswers 3 (some .int) :: ([.fieldLink RX4 12 "LoopMemo$State" "outer" "LLoopMemo$Table;", .fieldLink RX4 24 "LoopMemo$State" "answers" "LLoopMemo$Answers;", .methodLink RX4 93 yX5_size, .instanceMethod yX5_size, .selects RX5 yX5_size yX5_size, .initialized RX5, .code yX5_size cX5_size 1 (some .int), .fieldLink RX5 22 "LoopMemo$Table" "size" "I", .methodLink RX4 79 yX5_value, .instanceMethod yX5_value, .selects RX5 yX5_value yX5_value, .code yX5_value cX5_value 2 (some .int), .fieldLink RX5 15 "LoopMemo$Table" "values" "[I", .methodLink RX4 71 yX5_key, .instanceMethod yX5_key, .selects RX5 yX5_key yX5_key, .code yX5_key cX5_key 2 (some .int), .fieldLink RX5 9 "LoopMemo$Table" "keys" "[I", .methodLink RX4 122 yX0_sum, .instanceMethod yX0_sum, .selects RX0 yX0_sum yX0_sum, .initialized RX0, .code yX0_sum cX0_sum 2 (some .int), .fieldLink RX0 15 "LoopMemo$Answers" "sums" "[I"] ++ wsX40 ++ wsX50 ++ wsX00)
def wsX4_totalByRows : List Cond := .code yX4_totalByRows cX4_totalByRows 4 (some .int) :: ([.fieldLink RX4 12 "LoopMemo$State" "outer" "LLoopMemo$Table;", .fieldLink RX4 18 "LoopMemo$State" "inner" "LLoopMemo$Table;", .methodLink RX4 93 yX5_size, .instanceMethod yX5_size, .selects RX5 yX5_size yX5_size, .initialized RX5, .code yX5_size cX5_size 1 (some .int), .fieldLink RX5 22 "LoopMemo$Table" "size" "I", .methodLink RX4 71 yX5_key, .instanceMethod yX5_key, .selects RX5 yX5_key yX5_key, .code yX5_key cX5_key 2 (some .int), .fieldLink RX5 9 "LoopMemo$Table" "keys" "[I", .methodLink RX4 79 yX5_value, .instanceMethod yX5_value, .selects RX5 yX5_value yX5_value, .code yX5_value cX5_value 2 (some .int), .fieldLink RX5 15 "LoopMemo$Table" "values" "[I", .methodLink RX4 82 yX4_isInBand, .instanceMethod yX4_isInBand, .selects RX4 yX4_isInBand yX4_isInBand, .initialized RX4, .code yX4_isInBand cX4_isInBand 2 (some .boolean), .fieldLink RX4 44 "LoopMemo$State" "settings" "[I"] ++ wsX40 ++ wsX50)
def wsX5_swap : List Cond := .code yX5_swap cX5_swap 5 none :: ([.methodLink RX5 34 yX5_key, .instanceMethod yX5_key, .selects RX5 yX5_key yX5_key, .initialized RX5, .code yX5_key cX5_key 2 (some .int), .fieldLink RX5 9 "LoopMemo$Table" "keys" "[I", .methodLink RX5 38 yX5_value, .instanceMethod yX5_value, .selects RX5 yX5_value yX5_value, .code yX5_value cX5_value 2 (some .int), .fieldLink RX5 15 "LoopMemo$Table" "values" "[I", .methodLink RX5 26 yX5_put, .instanceMethod yX5_put, .selects RX5 yX5_put yX5_put, .code yX5_put cX5_put 4 none] ++ wsX50)
def wsX5_sortFrom : List Cond := .code yX5_sortFrom cX5_sortFrom 4 none :: ([.fieldLink RX5 22 "LoopMemo$Table" "size" "I", .methodLink RX5 34 yX5_key, .instanceMethod yX5_key, .selects RX5 yX5_key yX5_key, .initialized RX5, .code yX5_key cX5_key 2 (some .int), .fieldLink RX5 9 "LoopMemo$Table" "keys" "[I", .methodLink RX5 41 yX5_swap, .instanceMethod yX5_swap, .selects RX5 yX5_swap yX5_swap, .code yX5_swap cX5_swap 5 none, .methodLink RX5 38 yX5_value, .instanceMethod yX5_value, .selects RX5 yX5_value yX5_value, .code yX5_value cX5_value 2 (some .int), .fieldLink RX5 15 "LoopMemo$Table" "values" "[I", .methodLink RX5 26 yX5_put, .instanceMethod yX5_put, .selects RX5 yX5_put yX5_put, .code yX5_put cX5_put 4 none] ++ wsX50)
def wsX5_reverseFrom : List Cond := .code yX5_reverseFrom cX5_reverseFrom 4 none :: ([.fieldLink RX5 22 "LoopMemo$Table" "size" "I", .methodLink RX5 41 yX5_swap, .instanceMethod yX5_swap, .selects RX5 yX5_swap yX5_swap, .initialized RX5, .code yX5_swap cX5_swap 5 none, .methodLink RX5 34 yX5_key, .instanceMethod yX5_key, .selects RX5 yX5_key yX5_key, .code yX5_key cX5_key 2 (some .int), .fieldLink RX5 9 "LoopMemo$Table" "keys" "[I", .methodLink RX5 38 yX5_value, .instanceMethod yX5_value, .selects RX5 yX5_value yX5_value, .code yX5_value cX5_value 2 (some .int), .fieldLink RX5 15 "LoopMemo$Table" "values" "[I", .methodLink RX5 26 yX5_put, .instanceMethod yX5_put, .selects RX5 yX5_put yX5_put, .code yX5_put cX5_put 4 none] ++ wsX50)
def wsX6_init_r1 : List Cond := [Cond.methodLink RX6 1 objectInit, Cond.instanceMethod objectInit, Cond.code objectInit ⟨#[0xb1]⟩ 1 none, Cond.classLink RX6 7 RX4, Cond.instantiable RX4 8, Cond.initialized RX4, Cond.fieldLink RX6 10 "LoopMemo" "now" "LLoopMemo$State;", Cond.fieldLink RX6 16 "LoopMemo" "trial" "LLoopMemo$State;", Cond.fieldLink RX6 19 "LoopMemo" "snapshot" "LLoopMemo$State;", Cond.classLink RX6 22 RX1, Cond.instantiable RX1 3, Cond.initialized RX1, Cond.fieldLink RX6 25 "LoopMemo" "history" "LLoopMemo$History;", Cond.classLink RX6 29 RX3, Cond.instantiable RX3 9, Cond.initialized RX3, Cond.fieldLink RX6 32 "LoopMemo" "pad" "LLoopMemo$Pad;", Cond.methodLink RX6 9 yX4_init, Cond.instanceMethod yX4_init, Cond.code yX4_init cX4_init 1 none, Cond.methodLink RX4 3 objectInit, Cond.classLink RX4 9 RX5, Cond.instantiable RX5 3, Cond.initialized RX5]
def wsX6_init_r2 : List Cond := [Cond.fieldLink RX4 12 "LoopMemo$State" "outer" "LLoopMemo$Table;", Cond.fieldLink RX4 18 "LoopMemo$State" "inner" "LLoopMemo$Table;", Cond.classLink RX4 21 RX0, Cond.instantiable RX0 3, Cond.initialized RX0, Cond.fieldLink RX4 24 "LoopMemo$State" "answers" "LLoopMemo$Answers;", Cond.classLink RX4 28 RX2, Cond.instantiable RX2 4, Cond.initialized RX2, Cond.fieldLink RX4 31 "LoopMemo$State" "memo" "LLoopMemo$Memo;", Cond.fieldLink RX4 35 "LoopMemo$State" "FIRST_SETTINGS" "[I", Cond.methodLink RX4 39 ⟨"[I", "clone", "()Ljava/lang/Object;"⟩, Cond.sameMethod "[I" "java/lang/Object" "clone" "()Ljava/lang/Object;", Cond.native ⟨"java/lang/Object", "clone", "()Ljava/lang/Object;"⟩, Cond.instanceMethod ⟨"java/lang/Object", "clone", "()Ljava/lang/Object;"⟩, Cond.selects "[I" ⟨"[I", "clone", "()Ljava/lang/Object;"⟩ ⟨"java/lang/Object", "clone", "()Ljava/lang/Object;"⟩, Cond.classLink RX4 40 "[I", Cond.fieldLink RX4 44 "LoopMemo$State" "settings" "[I", Cond.arrayClass .int, Cond.fieldLink RX4 47 "LoopMemo$State" "tallies" "[I", Cond.methodLink RX4 11 yX5_init, Cond.instanceMethod yX5_init, Cond.code yX5_init cX5_init 1 none, Cond.methodLink RX5 3 objectInit]
def wsX6_init_r3 : List Cond := [Cond.fieldLink RX5 9 "LoopMemo$Table" "keys" "[I", Cond.fieldLink RX5 15 "LoopMemo$Table" "values" "[I", Cond.methodLink RX4 23 yX0_init, Cond.instanceMethod yX0_init, Cond.code yX0_init cX0_init 1 none, Cond.methodLink RX0 3 objectInit, Cond.fieldLink RX0 9 "LoopMemo$Answers" "rows" "[I", Cond.fieldLink RX0 15 "LoopMemo$Answers" "sums" "[I", Cond.fieldLink RX0 18 "LoopMemo$Answers" "firstRows" "[I", Cond.methodLink RX4 30 yX2_init, Cond.instanceMethod yX2_init, Cond.code yX2_init cX2_init 1 none, Cond.methodLink RX2 3 objectInit, Cond.fieldLink RX2 9 "LoopMemo$Memo" "uses" "[I", Cond.fieldLink RX2 15 "LoopMemo$Memo" "lastLooks" "[I", Cond.fieldLink RX2 18 "LoopMemo$Memo" "firstLooks" "[I", Cond.methodLink RX6 24 yX1_init, Cond.instanceMethod yX1_init, Cond.code yX1_init cX1_init 2 none, Cond.methodLink RX1 3 objectInit, Cond.classLink RX1 11 RX4, Cond.fieldLink RX1 13 "LoopMemo$History" "slots" "[LLoopMemo$State;", Cond.methodLink RX1 17 yX4_init, Cond.methodLink RX6 31 yX3_init]
def wsX6_init_r4 : List Cond := [Cond.instanceMethod yX3_init, Cond.code yX3_init cX3_init 1 none, Cond.methodLink RX3 3 objectInit, Cond.fieldLink RX3 9 "LoopMemo$Pad" "codes" "[I"]
def wsX6_init : List Cond := .code yX6_init cX6_init 1 none :: ((wsX6_init_r1 ++ (wsX6_init_r2 ++ (wsX6_init_r3 ++ wsX6_init_r4))) ++ wsX40 ++ wsX60 ++ wsX10 ++ wsX30 ++ wsX50 ++ wsX00 ++ wsX20)
def wsX6_add_r1 : List Cond := [Cond.fieldLink RX6 25 "LoopMemo" "history" "LLoopMemo$History;", Cond.fieldLink RX6 10 "LoopMemo" "now" "LLoopMemo$State;", Cond.methodLink RX6 36 yX1_prepare, Cond.instanceMethod yX1_prepare, Cond.selects RX1 yX1_prepare yX1_prepare, Cond.initialized RX1, Cond.code yX1_prepare cX1_prepare 3 none, Cond.fieldLink RX1 22 "LoopMemo$History" "next" "I", Cond.methodLink RX1 25 yX1_slot, Cond.instanceMethod yX1_slot, Cond.selects RX1 yX1_slot yX1_slot, Cond.code yX1_slot cX1_slot 2 (some (.object "LoopMemo$State")), Cond.fieldLink RX1 13 "LoopMemo$History" "slots" "[LLoopMemo$State;", Cond.methodLink RX1 29 yX4_copyFrom, Cond.instanceMethod yX4_copyFrom, Cond.selects RX4 yX4_copyFrom yX4_copyFrom, Cond.initialized RX4, Cond.code yX4_copyFrom cX4_copyFrom 2 none, Cond.fieldLink RX4 12 "LoopMemo$State" "outer" "LLoopMemo$Table;", Cond.fieldLink RX4 18 "LoopMemo$State" "inner" "LLoopMemo$Table;", Cond.fieldLink RX4 24 "LoopMemo$State" "answers" "LLoopMemo$Answers;", Cond.fieldLink RX4 31 "LoopMemo$State" "memo" "LLoopMemo$Memo;", Cond.fieldLink RX4 44 "LoopMemo$State" "settings" "[I", Cond.fieldLink RX4 47 "LoopMemo$State" "tallies" "[I"]
def wsX6_add_r2 : List Cond := [Cond.fieldLink RX4 64 "LoopMemo$State" "place" "I", Cond.fieldLink RX4 68 "LoopMemo$State" "total" "I", Cond.methodLink RX4 50 yX5_copyFrom, Cond.instanceMethod yX5_copyFrom, Cond.selects RX5 yX5_copyFrom yX5_copyFrom, Cond.initialized RX5, Cond.code yX5_copyFrom cX5_copyFrom 2 none, Cond.fieldLink RX5 9 "LoopMemo$Table" "keys" "[I", Cond.fieldLink RX5 15 "LoopMemo$Table" "values" "[I", Cond.fieldLink RX5 22 "LoopMemo$Table" "size" "I", Cond.static yX6_copyNumbers, Cond.initialized RX6, Cond.code yX6_copyNumbers cX6_copyNumbers 2 none, Cond.methodLink RX6 117 Lib.Math.min.name, Cond.static Lib.Math.min.name, Cond.initialized "java/lang/Math", Cond.code Lib.Math.min.name Lib.Math.min.code 2 (some .int), Cond.methodLink RX6 225 arraycopyName, Cond.native arraycopyName, Cond.static arraycopyName, Cond.initialized "java/lang/System", Cond.methodLink RX4 54 yX0_copyFrom, Cond.instanceMethod yX0_copyFrom, Cond.selects RX0 yX0_copyFrom yX0_copyFrom]
def wsX6_add_r3 : List Cond := [Cond.initialized RX0, Cond.code yX0_copyFrom cX0_copyFrom 2 none, Cond.fieldLink RX0 9 "LoopMemo$Answers" "rows" "[I", Cond.fieldLink RX0 15 "LoopMemo$Answers" "sums" "[I", Cond.fieldLink RX0 18 "LoopMemo$Answers" "firstRows" "[I", Cond.methodLink RX4 57 yX2_copyFrom, Cond.instanceMethod yX2_copyFrom, Cond.selects RX2 yX2_copyFrom yX2_copyFrom, Cond.initialized RX2, Cond.code yX2_copyFrom cX2_copyFrom 2 none, Cond.fieldLink RX2 9 "LoopMemo$Memo" "uses" "[I", Cond.fieldLink RX2 15 "LoopMemo$Memo" "lastLooks" "[I", Cond.fieldLink RX2 18 "LoopMemo$Memo" "firstLooks" "[I", Cond.fieldLink RX2 25 "LoopMemo$Memo" "looks" "I", Cond.methodLink RX6 40 yX4_insertRow, Cond.instanceMethod yX4_insertRow, Cond.selects RX4 yX4_insertRow yX4_insertRow, Cond.code yX4_insertRow cX4_insertRow 5 (some .int), Cond.static yX6_isRow, Cond.code yX6_isRow cX6_isRow 2 (some .boolean), Cond.methodLink RX6 147 yX6_isKey, Cond.static yX6_isKey, Cond.code yX6_isKey cX6_isKey 1 (some .boolean), Cond.methodLink RX6 76 yX6_isWithin]
def wsX6_add_r4 : List Cond := [Cond.static yX6_isWithin, Cond.code yX6_isWithin cX6_isWithin 2 (some .boolean), Cond.methodLink RX4 89 yX4_table, Cond.instanceMethod yX4_table, Cond.selects RX4 yX4_table yX4_table, Cond.code yX4_table cX4_table 2 (some (.object "LoopMemo$Table")), Cond.methodLink RX4 93 yX5_size, Cond.instanceMethod yX5_size, Cond.selects RX5 yX5_size yX5_size, Cond.code yX5_size cX5_size 1 (some .int), Cond.methodLink RX4 97 yX5_push, Cond.instanceMethod yX5_push, Cond.selects RX5 yX5_push yX5_push, Cond.code yX5_push cX5_push 3 none, Cond.methodLink RX5 26 yX5_put, Cond.instanceMethod yX5_put, Cond.selects RX5 yX5_put yX5_put, Cond.code yX5_put cX5_put 4 none, Cond.methodLink RX4 101 yX4_keepTrue, Cond.instanceMethod yX4_keepTrue, Cond.selects RX4 yX4_keepTrue yX4_keepTrue, Cond.code yX4_keepTrue cX4_keepTrue 3 none, Cond.methodLink RX4 134 yX4_findAnswers, Cond.instanceMethod yX4_findAnswers]
def wsX6_add_r5 : List Cond := [Cond.selects RX4 yX4_findAnswers yX4_findAnswers, Cond.code yX4_findAnswers cX4_findAnswers 1 none, Cond.methodLink RX4 162 yX0_find, Cond.instanceMethod yX0_find, Cond.selects RX0 yX0_find yX0_find, Cond.code yX0_find cX0_find 7 none, Cond.methodLink RX0 25 yX5_size, Cond.methodLink RX0 31 yX5_value, Cond.instanceMethod yX5_value, Cond.selects RX5 yX5_value yX5_value, Cond.code yX5_value cX5_value 2 (some .int), Cond.methodLink RX0 35 yX5_key, Cond.instanceMethod yX5_key, Cond.selects RX5 yX5_key yX5_key, Cond.code yX5_key cX5_key 2 (some .int), Cond.methodLink RX4 137 yX4_throwAllOut, Cond.instanceMethod yX4_throwAllOut, Cond.selects RX4 yX4_throwAllOut yX4_throwAllOut, Cond.code yX4_throwAllOut cX4_throwAllOut 2 (some .int), Cond.methodLink RX4 125 yX2_loseAll, Cond.instanceMethod yX2_loseAll, Cond.selects RX2 yX2_loseAll yX2_loseAll, Cond.code yX2_loseAll cX2_loseAll 3 (some .int), Cond.methodLink RX2 29 yX2_size]
def wsX6_add_r6 : List Cond := [Cond.instanceMethod yX2_size, Cond.selects RX2 yX2_size yX2_size, Cond.code yX2_size cX2_size 3 (some .int), Cond.methodLink RX4 159 yX4_keepAnswerTrue, Cond.instanceMethod yX4_keepAnswerTrue, Cond.selects RX4 yX4_keepAnswerTrue yX4_keepAnswerTrue, Cond.code yX4_keepAnswerTrue cX4_keepAnswerTrue 2 none, Cond.methodLink RX4 75 yX2_holds, Cond.instanceMethod yX2_holds, Cond.selects RX2 yX2_holds yX2_holds, Cond.code yX2_holds cX2_holds 2 (some .boolean), Cond.methodLink RX4 156 yX2_lose, Cond.instanceMethod yX2_lose, Cond.selects RX2 yX2_lose yX2_lose, Cond.code yX2_lose cX2_lose 2 none, Cond.methodLink RX6 44 yX1_commit, Cond.instanceMethod yX1_commit, Cond.selects RX1 yX1_commit yX1_commit, Cond.code yX1_commit cX1_commit 2 (some .int), Cond.fieldLink RX1 18 "LoopMemo$History" "size" "I", Cond.methodLink RX1 33 Lib.Math.min.name]
def wsX6_add : List Cond := .code yX6_add cX6_add 4 (some .int) :: ((wsX6_add_r1 ++ (wsX6_add_r2 ++ (wsX6_add_r3 ++ (wsX6_add_r4 ++ (wsX6_add_r5 ++ wsX6_add_r6))))) ++ wsX60 ++ wsX10 ++ wsX40 ++ wsX50 ++ wsX00 ++ wsX20)
def wsX6_drop_r1 : List Cond := [Cond.fieldLink RX6 25 "LoopMemo" "history" "LLoopMemo$History;", Cond.fieldLink RX6 10 "LoopMemo" "now" "LLoopMemo$State;", Cond.methodLink RX6 36 yX1_prepare, Cond.instanceMethod yX1_prepare, Cond.selects RX1 yX1_prepare yX1_prepare, Cond.initialized RX1, Cond.code yX1_prepare cX1_prepare 3 none, Cond.fieldLink RX1 22 "LoopMemo$History" "next" "I", Cond.methodLink RX1 25 yX1_slot, Cond.instanceMethod yX1_slot, Cond.selects RX1 yX1_slot yX1_slot, Cond.code yX1_slot cX1_slot 2 (some (.object "LoopMemo$State")), Cond.fieldLink RX1 13 "LoopMemo$History" "slots" "[LLoopMemo$State;", Cond.methodLink RX1 29 yX4_copyFrom, Cond.instanceMethod yX4_copyFrom, Cond.selects RX4 yX4_copyFrom yX4_copyFrom, Cond.initialized RX4, Cond.code yX4_copyFrom cX4_copyFrom 2 none, Cond.fieldLink RX4 12 "LoopMemo$State" "outer" "LLoopMemo$Table;", Cond.fieldLink RX4 18 "LoopMemo$State" "inner" "LLoopMemo$Table;", Cond.fieldLink RX4 24 "LoopMemo$State" "answers" "LLoopMemo$Answers;", Cond.fieldLink RX4 31 "LoopMemo$State" "memo" "LLoopMemo$Memo;", Cond.fieldLink RX4 44 "LoopMemo$State" "settings" "[I", Cond.fieldLink RX4 47 "LoopMemo$State" "tallies" "[I"]
def wsX6_drop_r2 : List Cond := [Cond.fieldLink RX4 64 "LoopMemo$State" "place" "I", Cond.fieldLink RX4 68 "LoopMemo$State" "total" "I", Cond.methodLink RX4 50 yX5_copyFrom, Cond.instanceMethod yX5_copyFrom, Cond.selects RX5 yX5_copyFrom yX5_copyFrom, Cond.initialized RX5, Cond.code yX5_copyFrom cX5_copyFrom 2 none, Cond.fieldLink RX5 9 "LoopMemo$Table" "keys" "[I", Cond.fieldLink RX5 15 "LoopMemo$Table" "values" "[I", Cond.fieldLink RX5 22 "LoopMemo$Table" "size" "I", Cond.static yX6_copyNumbers, Cond.initialized RX6, Cond.code yX6_copyNumbers cX6_copyNumbers 2 none, Cond.methodLink RX6 117 Lib.Math.min.name, Cond.static Lib.Math.min.name, Cond.initialized "java/lang/Math", Cond.code Lib.Math.min.name Lib.Math.min.code 2 (some .int), Cond.methodLink RX6 225 arraycopyName, Cond.native arraycopyName, Cond.static arraycopyName, Cond.initialized "java/lang/System", Cond.methodLink RX4 54 yX0_copyFrom, Cond.instanceMethod yX0_copyFrom, Cond.selects RX0 yX0_copyFrom yX0_copyFrom]
def wsX6_drop_r3 : List Cond := [Cond.initialized RX0, Cond.code yX0_copyFrom cX0_copyFrom 2 none, Cond.fieldLink RX0 9 "LoopMemo$Answers" "rows" "[I", Cond.fieldLink RX0 15 "LoopMemo$Answers" "sums" "[I", Cond.fieldLink RX0 18 "LoopMemo$Answers" "firstRows" "[I", Cond.methodLink RX4 57 yX2_copyFrom, Cond.instanceMethod yX2_copyFrom, Cond.selects RX2 yX2_copyFrom yX2_copyFrom, Cond.initialized RX2, Cond.code yX2_copyFrom cX2_copyFrom 2 none, Cond.fieldLink RX2 9 "LoopMemo$Memo" "uses" "[I", Cond.fieldLink RX2 15 "LoopMemo$Memo" "lastLooks" "[I", Cond.fieldLink RX2 18 "LoopMemo$Memo" "firstLooks" "[I", Cond.fieldLink RX2 25 "LoopMemo$Memo" "looks" "I", Cond.methodLink RX6 48 yX4_removeRow, Cond.instanceMethod yX4_removeRow, Cond.selects RX4 yX4_removeRow yX4_removeRow, Cond.code yX4_removeRow cX4_removeRow 5 (some .int), Cond.methodLink RX4 89 yX4_table, Cond.instanceMethod yX4_table, Cond.selects RX4 yX4_table yX4_table, Cond.code yX4_table cX4_table 2 (some (.object "LoopMemo$Table")), Cond.methodLink RX4 104 yX5_has, Cond.instanceMethod yX5_has]
def wsX6_drop_r4 : List Cond := [Cond.selects RX5 yX5_has yX5_has, Cond.code yX5_has cX5_has 2 (some .boolean), Cond.methodLink RX4 71 yX5_key, Cond.instanceMethod yX5_key, Cond.selects RX5 yX5_key yX5_key, Cond.code yX5_key cX5_key 2 (some .int), Cond.methodLink RX4 107 yX5_takeOut, Cond.instanceMethod yX5_takeOut, Cond.selects RX5 yX5_takeOut yX5_takeOut, Cond.code yX5_takeOut cX5_takeOut 3 none, Cond.methodLink RX5 30 yX5_has, Cond.methodLink RX5 34 yX5_key, Cond.methodLink RX5 38 yX5_value, Cond.instanceMethod yX5_value, Cond.selects RX5 yX5_value yX5_value, Cond.code yX5_value cX5_value 2 (some .int), Cond.methodLink RX5 26 yX5_put, Cond.instanceMethod yX5_put, Cond.selects RX5 yX5_put yX5_put, Cond.code yX5_put cX5_put 4 none, Cond.methodLink RX4 101 yX4_keepTrue, Cond.instanceMethod yX4_keepTrue, Cond.selects RX4 yX4_keepTrue yX4_keepTrue, Cond.code yX4_keepTrue cX4_keepTrue 3 none]
def wsX6_drop_r5 : List Cond := [Cond.methodLink RX4 134 yX4_findAnswers, Cond.instanceMethod yX4_findAnswers, Cond.selects RX4 yX4_findAnswers yX4_findAnswers, Cond.code yX4_findAnswers cX4_findAnswers 1 none, Cond.methodLink RX4 162 yX0_find, Cond.instanceMethod yX0_find, Cond.selects RX0 yX0_find yX0_find, Cond.code yX0_find cX0_find 7 none, Cond.methodLink RX0 25 yX5_size, Cond.instanceMethod yX5_size, Cond.selects RX5 yX5_size yX5_size, Cond.code yX5_size cX5_size 1 (some .int), Cond.methodLink RX0 31 yX5_value, Cond.methodLink RX0 35 yX5_key, Cond.methodLink RX4 137 yX4_throwAllOut, Cond.instanceMethod yX4_throwAllOut, Cond.selects RX4 yX4_throwAllOut yX4_throwAllOut, Cond.code yX4_throwAllOut cX4_throwAllOut 2 (some .int), Cond.methodLink RX4 125 yX2_loseAll, Cond.instanceMethod yX2_loseAll, Cond.selects RX2 yX2_loseAll yX2_loseAll, Cond.code yX2_loseAll cX2_loseAll 3 (some .int), Cond.methodLink RX2 29 yX2_size, Cond.instanceMethod yX2_size]
def wsX6_drop_r6 : List Cond := [Cond.selects RX2 yX2_size yX2_size, Cond.code yX2_size cX2_size 3 (some .int), Cond.methodLink RX4 159 yX4_keepAnswerTrue, Cond.instanceMethod yX4_keepAnswerTrue, Cond.selects RX4 yX4_keepAnswerTrue yX4_keepAnswerTrue, Cond.code yX4_keepAnswerTrue cX4_keepAnswerTrue 2 none, Cond.methodLink RX4 75 yX2_holds, Cond.instanceMethod yX2_holds, Cond.selects RX2 yX2_holds yX2_holds, Cond.code yX2_holds cX2_holds 2 (some .boolean), Cond.methodLink RX4 156 yX2_lose, Cond.instanceMethod yX2_lose, Cond.selects RX2 yX2_lose yX2_lose, Cond.code yX2_lose cX2_lose 2 none, Cond.methodLink RX4 111 yX4_isDone, Cond.instanceMethod yX4_isDone, Cond.selects RX4 yX4_isDone yX4_isDone, Cond.code yX4_isDone cX4_isDone 2 (some .boolean), Cond.methodLink RX4 93 yX5_size, Cond.methodLink RX6 44 yX1_commit, Cond.instanceMethod yX1_commit, Cond.selects RX1 yX1_commit yX1_commit, Cond.code yX1_commit cX1_commit 2 (some .int), Cond.fieldLink RX1 18 "LoopMemo$History" "size" "I"]
def wsX6_drop_r7 : List Cond := [Cond.methodLink RX1 33 Lib.Math.min.name]
def wsX6_drop : List Cond := .code yX6_drop cX6_drop 3 (some .int) :: ((wsX6_drop_r1 ++ (wsX6_drop_r2 ++ (wsX6_drop_r3 ++ (wsX6_drop_r4 ++ (wsX6_drop_r5 ++ (wsX6_drop_r6 ++ wsX6_drop_r7)))))) ++ wsX60 ++ wsX10 ++ wsX40 ++ wsX50 ++ wsX00 ++ wsX20)
def wsX6_change_r1 : List Cond := [Cond.fieldLink RX6 25 "LoopMemo" "history" "LLoopMemo$History;", Cond.fieldLink RX6 10 "LoopMemo" "now" "LLoopMemo$State;", Cond.methodLink RX6 36 yX1_prepare, Cond.instanceMethod yX1_prepare, Cond.selects RX1 yX1_prepare yX1_prepare, Cond.initialized RX1, Cond.code yX1_prepare cX1_prepare 3 none, Cond.fieldLink RX1 22 "LoopMemo$History" "next" "I", Cond.methodLink RX1 25 yX1_slot, Cond.instanceMethod yX1_slot, Cond.selects RX1 yX1_slot yX1_slot, Cond.code yX1_slot cX1_slot 2 (some (.object "LoopMemo$State")), Cond.fieldLink RX1 13 "LoopMemo$History" "slots" "[LLoopMemo$State;", Cond.methodLink RX1 29 yX4_copyFrom, Cond.instanceMethod yX4_copyFrom, Cond.selects RX4 yX4_copyFrom yX4_copyFrom, Cond.initialized RX4, Cond.code yX4_copyFrom cX4_copyFrom 2 none, Cond.fieldLink RX4 12 "LoopMemo$State" "outer" "LLoopMemo$Table;", Cond.fieldLink RX4 18 "LoopMemo$State" "inner" "LLoopMemo$Table;", Cond.fieldLink RX4 24 "LoopMemo$State" "answers" "LLoopMemo$Answers;", Cond.fieldLink RX4 31 "LoopMemo$State" "memo" "LLoopMemo$Memo;", Cond.fieldLink RX4 44 "LoopMemo$State" "settings" "[I", Cond.fieldLink RX4 47 "LoopMemo$State" "tallies" "[I"]
def wsX6_change_r2 : List Cond := [Cond.fieldLink RX4 64 "LoopMemo$State" "place" "I", Cond.fieldLink RX4 68 "LoopMemo$State" "total" "I", Cond.methodLink RX4 50 yX5_copyFrom, Cond.instanceMethod yX5_copyFrom, Cond.selects RX5 yX5_copyFrom yX5_copyFrom, Cond.initialized RX5, Cond.code yX5_copyFrom cX5_copyFrom 2 none, Cond.fieldLink RX5 9 "LoopMemo$Table" "keys" "[I", Cond.fieldLink RX5 15 "LoopMemo$Table" "values" "[I", Cond.fieldLink RX5 22 "LoopMemo$Table" "size" "I", Cond.static yX6_copyNumbers, Cond.initialized RX6, Cond.code yX6_copyNumbers cX6_copyNumbers 2 none, Cond.methodLink RX6 117 Lib.Math.min.name, Cond.static Lib.Math.min.name, Cond.initialized "java/lang/Math", Cond.code Lib.Math.min.name Lib.Math.min.code 2 (some .int), Cond.methodLink RX6 225 arraycopyName, Cond.native arraycopyName, Cond.static arraycopyName, Cond.initialized "java/lang/System", Cond.methodLink RX4 54 yX0_copyFrom, Cond.instanceMethod yX0_copyFrom, Cond.selects RX0 yX0_copyFrom yX0_copyFrom]
def wsX6_change_r3 : List Cond := [Cond.initialized RX0, Cond.code yX0_copyFrom cX0_copyFrom 2 none, Cond.fieldLink RX0 9 "LoopMemo$Answers" "rows" "[I", Cond.fieldLink RX0 15 "LoopMemo$Answers" "sums" "[I", Cond.fieldLink RX0 18 "LoopMemo$Answers" "firstRows" "[I", Cond.methodLink RX4 57 yX2_copyFrom, Cond.instanceMethod yX2_copyFrom, Cond.selects RX2 yX2_copyFrom yX2_copyFrom, Cond.initialized RX2, Cond.code yX2_copyFrom cX2_copyFrom 2 none, Cond.fieldLink RX2 9 "LoopMemo$Memo" "uses" "[I", Cond.fieldLink RX2 15 "LoopMemo$Memo" "lastLooks" "[I", Cond.fieldLink RX2 18 "LoopMemo$Memo" "firstLooks" "[I", Cond.fieldLink RX2 25 "LoopMemo$Memo" "looks" "I", Cond.methodLink RX6 52 yX4_rewriteRow, Cond.instanceMethod yX4_rewriteRow, Cond.selects RX4 yX4_rewriteRow yX4_rewriteRow, Cond.code yX4_rewriteRow cX4_rewriteRow 5 (some .int), Cond.methodLink RX4 104 yX5_has, Cond.instanceMethod yX5_has, Cond.selects RX5 yX5_has yX5_has, Cond.code yX5_has cX5_has 2 (some .boolean), Cond.static yX6_isRow, Cond.code yX6_isRow cX6_isRow 2 (some .boolean)]
def wsX6_change_r4 : List Cond := [Cond.methodLink RX6 147 yX6_isKey, Cond.static yX6_isKey, Cond.code yX6_isKey cX6_isKey 1 (some .boolean), Cond.methodLink RX6 76 yX6_isWithin, Cond.static yX6_isWithin, Cond.code yX6_isWithin cX6_isWithin 2 (some .boolean), Cond.methodLink RX4 71 yX5_key, Cond.instanceMethod yX5_key, Cond.selects RX5 yX5_key yX5_key, Cond.code yX5_key cX5_key 2 (some .int), Cond.methodLink RX4 114 yX5_put, Cond.instanceMethod yX5_put, Cond.selects RX5 yX5_put yX5_put, Cond.code yX5_put cX5_put 4 none, Cond.methodLink RX4 101 yX4_keepTrue, Cond.instanceMethod yX4_keepTrue, Cond.selects RX4 yX4_keepTrue yX4_keepTrue, Cond.code yX4_keepTrue cX4_keepTrue 3 none, Cond.methodLink RX4 134 yX4_findAnswers, Cond.instanceMethod yX4_findAnswers, Cond.selects RX4 yX4_findAnswers yX4_findAnswers, Cond.code yX4_findAnswers cX4_findAnswers 1 none, Cond.methodLink RX4 162 yX0_find, Cond.instanceMethod yX0_find]
def wsX6_change_r5 : List Cond := [Cond.selects RX0 yX0_find yX0_find, Cond.code yX0_find cX0_find 7 none, Cond.methodLink RX0 25 yX5_size, Cond.instanceMethod yX5_size, Cond.selects RX5 yX5_size yX5_size, Cond.code yX5_size cX5_size 1 (some .int), Cond.methodLink RX0 31 yX5_value, Cond.instanceMethod yX5_value, Cond.selects RX5 yX5_value yX5_value, Cond.code yX5_value cX5_value 2 (some .int), Cond.methodLink RX0 35 yX5_key, Cond.methodLink RX4 137 yX4_throwAllOut, Cond.instanceMethod yX4_throwAllOut, Cond.selects RX4 yX4_throwAllOut yX4_throwAllOut, Cond.code yX4_throwAllOut cX4_throwAllOut 2 (some .int), Cond.methodLink RX4 125 yX2_loseAll, Cond.instanceMethod yX2_loseAll, Cond.selects RX2 yX2_loseAll yX2_loseAll, Cond.code yX2_loseAll cX2_loseAll 3 (some .int), Cond.methodLink RX2 29 yX2_size, Cond.instanceMethod yX2_size, Cond.selects RX2 yX2_size yX2_size, Cond.code yX2_size cX2_size 3 (some .int), Cond.methodLink RX4 159 yX4_keepAnswerTrue]
def wsX6_change_r6 : List Cond := [Cond.instanceMethod yX4_keepAnswerTrue, Cond.selects RX4 yX4_keepAnswerTrue yX4_keepAnswerTrue, Cond.code yX4_keepAnswerTrue cX4_keepAnswerTrue 2 none, Cond.methodLink RX4 75 yX2_holds, Cond.instanceMethod yX2_holds, Cond.selects RX2 yX2_holds yX2_holds, Cond.code yX2_holds cX2_holds 2 (some .boolean), Cond.methodLink RX4 156 yX2_lose, Cond.instanceMethod yX2_lose, Cond.selects RX2 yX2_lose yX2_lose, Cond.code yX2_lose cX2_lose 2 none, Cond.methodLink RX4 118 yX2_size, Cond.methodLink RX6 44 yX1_commit, Cond.instanceMethod yX1_commit, Cond.selects RX1 yX1_commit yX1_commit, Cond.code yX1_commit cX1_commit 2 (some .int), Cond.fieldLink RX1 18 "LoopMemo$History" "size" "I", Cond.methodLink RX1 33 Lib.Math.min.name]
def wsX6_change : List Cond := .code yX6_change cX6_change 4 (some .int) :: ((wsX6_change_r1 ++ (wsX6_change_r2 ++ (wsX6_change_r3 ++ (wsX6_change_r4 ++ (wsX6_change_r5 ++ wsX6_change_r6))))) ++ wsX60 ++ wsX10 ++ wsX40 ++ wsX50 ++ wsX00 ++ wsX20)
def wsX6_step_r1 : List Cond := [Cond.fieldLink RX6 25 "LoopMemo" "history" "LLoopMemo$History;", Cond.fieldLink RX6 10 "LoopMemo" "now" "LLoopMemo$State;", Cond.methodLink RX6 36 yX1_prepare, Cond.instanceMethod yX1_prepare, Cond.selects RX1 yX1_prepare yX1_prepare, Cond.initialized RX1, Cond.code yX1_prepare cX1_prepare 3 none, Cond.fieldLink RX1 22 "LoopMemo$History" "next" "I", Cond.methodLink RX1 25 yX1_slot, Cond.instanceMethod yX1_slot, Cond.selects RX1 yX1_slot yX1_slot, Cond.code yX1_slot cX1_slot 2 (some (.object "LoopMemo$State")), Cond.fieldLink RX1 13 "LoopMemo$History" "slots" "[LLoopMemo$State;", Cond.methodLink RX1 29 yX4_copyFrom, Cond.instanceMethod yX4_copyFrom, Cond.selects RX4 yX4_copyFrom yX4_copyFrom, Cond.initialized RX4, Cond.code yX4_copyFrom cX4_copyFrom 2 none, Cond.fieldLink RX4 12 "LoopMemo$State" "outer" "LLoopMemo$Table;", Cond.fieldLink RX4 18 "LoopMemo$State" "inner" "LLoopMemo$Table;", Cond.fieldLink RX4 24 "LoopMemo$State" "answers" "LLoopMemo$Answers;", Cond.fieldLink RX4 31 "LoopMemo$State" "memo" "LLoopMemo$Memo;", Cond.fieldLink RX4 44 "LoopMemo$State" "settings" "[I", Cond.fieldLink RX4 47 "LoopMemo$State" "tallies" "[I"]
def wsX6_step_r2 : List Cond := [Cond.fieldLink RX4 64 "LoopMemo$State" "place" "I", Cond.fieldLink RX4 68 "LoopMemo$State" "total" "I", Cond.methodLink RX4 50 yX5_copyFrom, Cond.instanceMethod yX5_copyFrom, Cond.selects RX5 yX5_copyFrom yX5_copyFrom, Cond.initialized RX5, Cond.code yX5_copyFrom cX5_copyFrom 2 none, Cond.fieldLink RX5 9 "LoopMemo$Table" "keys" "[I", Cond.fieldLink RX5 15 "LoopMemo$Table" "values" "[I", Cond.fieldLink RX5 22 "LoopMemo$Table" "size" "I", Cond.static yX6_copyNumbers, Cond.initialized RX6, Cond.code yX6_copyNumbers cX6_copyNumbers 2 none, Cond.methodLink RX6 117 Lib.Math.min.name, Cond.static Lib.Math.min.name, Cond.initialized "java/lang/Math", Cond.code Lib.Math.min.name Lib.Math.min.code 2 (some .int), Cond.methodLink RX6 225 arraycopyName, Cond.native arraycopyName, Cond.static arraycopyName, Cond.initialized "java/lang/System", Cond.methodLink RX4 54 yX0_copyFrom, Cond.instanceMethod yX0_copyFrom, Cond.selects RX0 yX0_copyFrom yX0_copyFrom]
def wsX6_step_r3 : List Cond := [Cond.initialized RX0, Cond.code yX0_copyFrom cX0_copyFrom 2 none, Cond.fieldLink RX0 9 "LoopMemo$Answers" "rows" "[I", Cond.fieldLink RX0 15 "LoopMemo$Answers" "sums" "[I", Cond.fieldLink RX0 18 "LoopMemo$Answers" "firstRows" "[I", Cond.methodLink RX4 57 yX2_copyFrom, Cond.instanceMethod yX2_copyFrom, Cond.selects RX2 yX2_copyFrom yX2_copyFrom, Cond.initialized RX2, Cond.code yX2_copyFrom cX2_copyFrom 2 none, Cond.fieldLink RX2 9 "LoopMemo$Memo" "uses" "[I", Cond.fieldLink RX2 15 "LoopMemo$Memo" "lastLooks" "[I", Cond.fieldLink RX2 18 "LoopMemo$Memo" "firstLooks" "[I", Cond.fieldLink RX2 25 "LoopMemo$Memo" "looks" "I", Cond.methodLink RX6 56 yX4_walk, Cond.instanceMethod yX4_walk, Cond.selects RX4 yX4_walk yX4_walk, Cond.code yX4_walk cX4_walk 5 (some .int), Cond.methodLink RX4 93 yX5_size, Cond.instanceMethod yX5_size, Cond.selects RX5 yX5_size yX5_size, Cond.code yX5_size cX5_size 1 (some .int), Cond.methodLink RX4 71 yX5_key, Cond.instanceMethod yX5_key]
def wsX6_step_r4 : List Cond := [Cond.selects RX5 yX5_key yX5_key, Cond.code yX5_key cX5_key 2 (some .int), Cond.methodLink RX4 119 yX4_lookUp, Cond.instanceMethod yX4_lookUp, Cond.selects RX4 yX4_lookUp yX4_lookUp, Cond.code yX4_lookUp cX4_lookUp 2 none, Cond.methodLink RX4 75 yX2_holds, Cond.instanceMethod yX2_holds, Cond.selects RX2 yX2_holds yX2_holds, Cond.code yX2_holds cX2_holds 2 (some .boolean), Cond.methodLink RX4 143 yX2_touch, Cond.instanceMethod yX2_touch, Cond.selects RX2 yX2_touch yX2_touch, Cond.code yX2_touch cX2_touch 2 none, Cond.methodLink RX4 140 yX0_weight, Cond.instanceMethod yX0_weight, Cond.selects RX0 yX0_weight yX0_weight, Cond.code yX0_weight cX0_weight 2 (some .int), Cond.methodLink RX4 146 yX2_take, Cond.instanceMethod yX2_take, Cond.selects RX2 yX2_take yX2_take, Cond.code yX2_take cX2_take 2 none, Cond.methodLink RX4 131 yX4_makeRoom, Cond.instanceMethod yX4_makeRoom]
def wsX6_step_r5 : List Cond := [Cond.selects RX4 yX4_makeRoom yX4_makeRoom, Cond.code yX4_makeRoom cX4_makeRoom 5 (some .int), Cond.methodLink RX4 149 yX4_weightTogether, Cond.instanceMethod yX4_weightTogether, Cond.selects RX4 yX4_weightTogether yX4_weightTogether, Cond.code yX4_weightTogether cX4_weightTogether 3 (some .int), Cond.methodLink RX4 152 yX2_firstOut, Cond.instanceMethod yX2_firstOut, Cond.selects RX2 yX2_firstOut yX2_firstOut, Cond.code yX2_firstOut cX2_firstOut 5 (some .int), Cond.methodLink RX2 33 yX2_rank, Cond.instanceMethod yX2_rank, Cond.selects RX2 yX2_rank yX2_rank, Cond.code yX2_rank cX2_rank 3 (some .long), Cond.methodLink RX4 156 yX2_lose, Cond.instanceMethod yX2_lose, Cond.selects RX2 yX2_lose yX2_lose, Cond.code yX2_lose cX2_lose 2 none, Cond.methodLink RX4 79 yX5_value, Cond.instanceMethod yX5_value, Cond.selects RX5 yX5_value yX5_value, Cond.code yX5_value cX5_value 2 (some .int), Cond.methodLink RX4 122 yX0_sum, Cond.instanceMethod yX0_sum]
def wsX6_step_r6 : List Cond := [Cond.selects RX0 yX0_sum yX0_sum, Cond.code yX0_sum cX0_sum 2 (some .int), Cond.methodLink RX6 44 yX1_commit, Cond.instanceMethod yX1_commit, Cond.selects RX1 yX1_commit yX1_commit, Cond.code yX1_commit cX1_commit 2 (some .int), Cond.fieldLink RX1 18 "LoopMemo$History" "size" "I", Cond.methodLink RX1 33 Lib.Math.min.name]
def wsX6_step : List Cond := .code yX6_step cX6_step 2 (some .int) :: ((wsX6_step_r1 ++ (wsX6_step_r2 ++ (wsX6_step_r3 ++ (wsX6_step_r4 ++ (wsX6_step_r5 ++ wsX6_step_r6))))) ++ wsX60 ++ wsX10 ++ wsX40 ++ wsX50 ++ wsX00 ++ wsX20)
def wsX6_again_r1 : List Cond := [Cond.fieldLink RX6 25 "LoopMemo" "history" "LLoopMemo$History;", Cond.fieldLink RX6 10 "LoopMemo" "now" "LLoopMemo$State;", Cond.methodLink RX6 36 yX1_prepare, Cond.instanceMethod yX1_prepare, Cond.selects RX1 yX1_prepare yX1_prepare, Cond.initialized RX1, Cond.code yX1_prepare cX1_prepare 3 none, Cond.fieldLink RX1 22 "LoopMemo$History" "next" "I", Cond.methodLink RX1 25 yX1_slot, Cond.instanceMethod yX1_slot, Cond.selects RX1 yX1_slot yX1_slot, Cond.code yX1_slot cX1_slot 2 (some (.object "LoopMemo$State")), Cond.fieldLink RX1 13 "LoopMemo$History" "slots" "[LLoopMemo$State;", Cond.methodLink RX1 29 yX4_copyFrom, Cond.instanceMethod yX4_copyFrom, Cond.selects RX4 yX4_copyFrom yX4_copyFrom, Cond.initialized RX4, Cond.code yX4_copyFrom cX4_copyFrom 2 none, Cond.fieldLink RX4 12 "LoopMemo$State" "outer" "LLoopMemo$Table;", Cond.fieldLink RX4 18 "LoopMemo$State" "inner" "LLoopMemo$Table;", Cond.fieldLink RX4 24 "LoopMemo$State" "answers" "LLoopMemo$Answers;", Cond.fieldLink RX4 31 "LoopMemo$State" "memo" "LLoopMemo$Memo;", Cond.fieldLink RX4 44 "LoopMemo$State" "settings" "[I", Cond.fieldLink RX4 47 "LoopMemo$State" "tallies" "[I"]
def wsX6_again_r2 : List Cond := [Cond.fieldLink RX4 64 "LoopMemo$State" "place" "I", Cond.fieldLink RX4 68 "LoopMemo$State" "total" "I", Cond.methodLink RX4 50 yX5_copyFrom, Cond.instanceMethod yX5_copyFrom, Cond.selects RX5 yX5_copyFrom yX5_copyFrom, Cond.initialized RX5, Cond.code yX5_copyFrom cX5_copyFrom 2 none, Cond.fieldLink RX5 9 "LoopMemo$Table" "keys" "[I", Cond.fieldLink RX5 15 "LoopMemo$Table" "values" "[I", Cond.fieldLink RX5 22 "LoopMemo$Table" "size" "I", Cond.static yX6_copyNumbers, Cond.initialized RX6, Cond.code yX6_copyNumbers cX6_copyNumbers 2 none, Cond.methodLink RX6 117 Lib.Math.min.name, Cond.static Lib.Math.min.name, Cond.initialized "java/lang/Math", Cond.code Lib.Math.min.name Lib.Math.min.code 2 (some .int), Cond.methodLink RX6 225 arraycopyName, Cond.native arraycopyName, Cond.static arraycopyName, Cond.initialized "java/lang/System", Cond.methodLink RX4 54 yX0_copyFrom, Cond.instanceMethod yX0_copyFrom, Cond.selects RX0 yX0_copyFrom yX0_copyFrom]
def wsX6_again_r3 : List Cond := [Cond.initialized RX0, Cond.code yX0_copyFrom cX0_copyFrom 2 none, Cond.fieldLink RX0 9 "LoopMemo$Answers" "rows" "[I", Cond.fieldLink RX0 15 "LoopMemo$Answers" "sums" "[I", Cond.fieldLink RX0 18 "LoopMemo$Answers" "firstRows" "[I", Cond.methodLink RX4 57 yX2_copyFrom, Cond.instanceMethod yX2_copyFrom, Cond.selects RX2 yX2_copyFrom yX2_copyFrom, Cond.initialized RX2, Cond.code yX2_copyFrom cX2_copyFrom 2 none, Cond.fieldLink RX2 9 "LoopMemo$Memo" "uses" "[I", Cond.fieldLink RX2 15 "LoopMemo$Memo" "lastLooks" "[I", Cond.fieldLink RX2 18 "LoopMemo$Memo" "firstLooks" "[I", Cond.fieldLink RX2 25 "LoopMemo$Memo" "looks" "I", Cond.methodLink RX6 59 yX4_beginAgain, Cond.instanceMethod yX4_beginAgain, Cond.selects RX4 yX4_beginAgain yX4_beginAgain, Cond.code yX4_beginAgain cX4_beginAgain 2 (some .int), Cond.methodLink RX6 44 yX1_commit, Cond.instanceMethod yX1_commit, Cond.selects RX1 yX1_commit yX1_commit, Cond.code yX1_commit cX1_commit 2 (some .int), Cond.fieldLink RX1 18 "LoopMemo$History" "size" "I", Cond.methodLink RX1 33 Lib.Math.min.name]
def wsX6_again : List Cond := .code yX6_again cX6_again 1 (some .int) :: ((wsX6_again_r1 ++ (wsX6_again_r2 ++ wsX6_again_r3)) ++ wsX60 ++ wsX10 ++ wsX40 ++ wsX50 ++ wsX00 ++ wsX20)
def wsX6_forget_r1 : List Cond := [Cond.fieldLink RX6 25 "LoopMemo" "history" "LLoopMemo$History;", Cond.fieldLink RX6 10 "LoopMemo" "now" "LLoopMemo$State;", Cond.methodLink RX6 36 yX1_prepare, Cond.instanceMethod yX1_prepare, Cond.selects RX1 yX1_prepare yX1_prepare, Cond.initialized RX1, Cond.code yX1_prepare cX1_prepare 3 none, Cond.fieldLink RX1 22 "LoopMemo$History" "next" "I", Cond.methodLink RX1 25 yX1_slot, Cond.instanceMethod yX1_slot, Cond.selects RX1 yX1_slot yX1_slot, Cond.code yX1_slot cX1_slot 2 (some (.object "LoopMemo$State")), Cond.fieldLink RX1 13 "LoopMemo$History" "slots" "[LLoopMemo$State;", Cond.methodLink RX1 29 yX4_copyFrom, Cond.instanceMethod yX4_copyFrom, Cond.selects RX4 yX4_copyFrom yX4_copyFrom, Cond.initialized RX4, Cond.code yX4_copyFrom cX4_copyFrom 2 none, Cond.fieldLink RX4 12 "LoopMemo$State" "outer" "LLoopMemo$Table;", Cond.fieldLink RX4 18 "LoopMemo$State" "inner" "LLoopMemo$Table;", Cond.fieldLink RX4 24 "LoopMemo$State" "answers" "LLoopMemo$Answers;", Cond.fieldLink RX4 31 "LoopMemo$State" "memo" "LLoopMemo$Memo;", Cond.fieldLink RX4 44 "LoopMemo$State" "settings" "[I", Cond.fieldLink RX4 47 "LoopMemo$State" "tallies" "[I"]
end
section
def wsX6_forget_r2 : List Cond := [Cond.fieldLink RX4 64 "LoopMemo$State" "place" "I", Cond.fieldLink RX4 68 "LoopMemo$State" "total" "I", Cond.methodLink RX4 50 yX5_copyFrom, Cond.instanceMethod yX5_copyFrom, Cond.selects RX5 yX5_copyFrom yX5_copyFrom, Cond.initialized RX5, Cond.code yX5_copyFrom cX5_copyFrom 2 none, Cond.fieldLink RX5 9 "LoopMemo$Table" "keys" "[I", Cond.fieldLink RX5 15 "LoopMemo$Table" "values" "[I", Cond.fieldLink RX5 22 "LoopMemo$Table" "size" "I", Cond.static yX6_copyNumbers, Cond.initialized RX6, Cond.code yX6_copyNumbers cX6_copyNumbers 2 none, Cond.methodLink RX6 117 Lib.Math.min.name, Cond.static Lib.Math.min.name, Cond.initialized "java/lang/Math", Cond.code Lib.Math.min.name Lib.Math.min.code 2 (some .int), Cond.methodLink RX6 225 arraycopyName, Cond.native arraycopyName, Cond.static arraycopyName, Cond.initialized "java/lang/System", Cond.methodLink RX4 54 yX0_copyFrom, Cond.instanceMethod yX0_copyFrom, Cond.selects RX0 yX0_copyFrom yX0_copyFrom]
def wsX6_forget_r3 : List Cond := [Cond.initialized RX0, Cond.code yX0_copyFrom cX0_copyFrom 2 none, Cond.fieldLink RX0 9 "LoopMemo$Answers" "rows" "[I", Cond.fieldLink RX0 15 "LoopMemo$Answers" "sums" "[I", Cond.fieldLink RX0 18 "LoopMemo$Answers" "firstRows" "[I", Cond.methodLink RX4 57 yX2_copyFrom, Cond.instanceMethod yX2_copyFrom, Cond.selects RX2 yX2_copyFrom yX2_copyFrom, Cond.initialized RX2, Cond.code yX2_copyFrom cX2_copyFrom 2 none, Cond.fieldLink RX2 9 "LoopMemo$Memo" "uses" "[I", Cond.fieldLink RX2 15 "LoopMemo$Memo" "lastLooks" "[I", Cond.fieldLink RX2 18 "LoopMemo$Memo" "firstLooks" "[I", Cond.fieldLink RX2 25 "LoopMemo$Memo" "looks" "I", Cond.methodLink RX6 63 yX4_throwAllOut, Cond.instanceMethod yX4_throwAllOut, Cond.selects RX4 yX4_throwAllOut yX4_throwAllOut, Cond.code yX4_throwAllOut cX4_throwAllOut 2 (some .int), Cond.methodLink RX4 125 yX2_loseAll, Cond.instanceMethod yX2_loseAll, Cond.selects RX2 yX2_loseAll yX2_loseAll, Cond.code yX2_loseAll cX2_loseAll 3 (some .int), Cond.methodLink RX2 29 yX2_size, Cond.instanceMethod yX2_size]
def wsX6_forget_r4 : List Cond := [Cond.selects RX2 yX2_size yX2_size, Cond.code yX2_size cX2_size 3 (some .int), Cond.methodLink RX6 44 yX1_commit, Cond.instanceMethod yX1_commit, Cond.selects RX1 yX1_commit yX1_commit, Cond.code yX1_commit cX1_commit 2 (some .int), Cond.fieldLink RX1 18 "LoopMemo$History" "size" "I", Cond.methodLink RX1 33 Lib.Math.min.name]
def wsX6_forget : List Cond := .code yX6_forget cX6_forget 1 (some .int) :: ((wsX6_forget_r1 ++ (wsX6_forget_r2 ++ (wsX6_forget_r3 ++ wsX6_forget_r4))) ++ wsX60 ++ wsX10 ++ wsX40 ++ wsX50 ++ wsX00 ++ wsX20)
def wsX6_set_r1 : List Cond := [Cond.fieldLink RX6 25 "LoopMemo" "history" "LLoopMemo$History;", Cond.fieldLink RX6 10 "LoopMemo" "now" "LLoopMemo$State;", Cond.methodLink RX6 36 yX1_prepare, Cond.instanceMethod yX1_prepare, Cond.selects RX1 yX1_prepare yX1_prepare, Cond.initialized RX1, Cond.code yX1_prepare cX1_prepare 3 none, Cond.fieldLink RX1 22 "LoopMemo$History" "next" "I", Cond.methodLink RX1 25 yX1_slot, Cond.instanceMethod yX1_slot, Cond.selects RX1 yX1_slot yX1_slot, Cond.code yX1_slot cX1_slot 2 (some (.object "LoopMemo$State")), Cond.fieldLink RX1 13 "LoopMemo$History" "slots" "[LLoopMemo$State;", Cond.methodLink RX1 29 yX4_copyFrom, Cond.instanceMethod yX4_copyFrom, Cond.selects RX4 yX4_copyFrom yX4_copyFrom, Cond.initialized RX4, Cond.code yX4_copyFrom cX4_copyFrom 2 none, Cond.fieldLink RX4 12 "LoopMemo$State" "outer" "LLoopMemo$Table;", Cond.fieldLink RX4 18 "LoopMemo$State" "inner" "LLoopMemo$Table;", Cond.fieldLink RX4 24 "LoopMemo$State" "answers" "LLoopMemo$Answers;", Cond.fieldLink RX4 31 "LoopMemo$State" "memo" "LLoopMemo$Memo;", Cond.fieldLink RX4 44 "LoopMemo$State" "settings" "[I", Cond.fieldLink RX4 47 "LoopMemo$State" "tallies" "[I"]
def wsX6_set_r2 : List Cond := [Cond.fieldLink RX4 64 "LoopMemo$State" "place" "I", Cond.fieldLink RX4 68 "LoopMemo$State" "total" "I", Cond.methodLink RX4 50 yX5_copyFrom, Cond.instanceMethod yX5_copyFrom, Cond.selects RX5 yX5_copyFrom yX5_copyFrom, Cond.initialized RX5, Cond.code yX5_copyFrom cX5_copyFrom 2 none, Cond.fieldLink RX5 9 "LoopMemo$Table" "keys" "[I", Cond.fieldLink RX5 15 "LoopMemo$Table" "values" "[I", Cond.fieldLink RX5 22 "LoopMemo$Table" "size" "I", Cond.static yX6_copyNumbers, Cond.initialized RX6, Cond.code yX6_copyNumbers cX6_copyNumbers 2 none, Cond.methodLink RX6 117 Lib.Math.min.name, Cond.static Lib.Math.min.name, Cond.initialized "java/lang/Math", Cond.code Lib.Math.min.name Lib.Math.min.code 2 (some .int), Cond.methodLink RX6 225 arraycopyName, Cond.native arraycopyName, Cond.static arraycopyName, Cond.initialized "java/lang/System", Cond.methodLink RX4 54 yX0_copyFrom, Cond.instanceMethod yX0_copyFrom, Cond.selects RX0 yX0_copyFrom yX0_copyFrom]
def wsX6_set_r3 : List Cond := [Cond.initialized RX0, Cond.code yX0_copyFrom cX0_copyFrom 2 none, Cond.fieldLink RX0 9 "LoopMemo$Answers" "rows" "[I", Cond.fieldLink RX0 15 "LoopMemo$Answers" "sums" "[I", Cond.fieldLink RX0 18 "LoopMemo$Answers" "firstRows" "[I", Cond.methodLink RX4 57 yX2_copyFrom, Cond.instanceMethod yX2_copyFrom, Cond.selects RX2 yX2_copyFrom yX2_copyFrom, Cond.initialized RX2, Cond.code yX2_copyFrom cX2_copyFrom 2 none, Cond.fieldLink RX2 9 "LoopMemo$Memo" "uses" "[I", Cond.fieldLink RX2 15 "LoopMemo$Memo" "lastLooks" "[I", Cond.fieldLink RX2 18 "LoopMemo$Memo" "firstLooks" "[I", Cond.fieldLink RX2 25 "LoopMemo$Memo" "looks" "I", Cond.methodLink RX6 66 yX4_adjust, Cond.instanceMethod yX4_adjust, Cond.selects RX4 yX4_adjust yX4_adjust, Cond.code yX4_adjust cX4_adjust 3 (some .int), Cond.fieldLink RX4 128 "LoopMemo$State" "HIGHEST_SETTINGS" "[I", Cond.methodLink RX4 131 yX4_makeRoom, Cond.instanceMethod yX4_makeRoom, Cond.selects RX4 yX4_makeRoom yX4_makeRoom, Cond.code yX4_makeRoom cX4_makeRoom 5 (some .int), Cond.methodLink RX4 149 yX4_weightTogether]
def wsX6_set_r4 : List Cond := [Cond.instanceMethod yX4_weightTogether, Cond.selects RX4 yX4_weightTogether yX4_weightTogether, Cond.code yX4_weightTogether cX4_weightTogether 3 (some .int), Cond.methodLink RX4 75 yX2_holds, Cond.instanceMethod yX2_holds, Cond.selects RX2 yX2_holds yX2_holds, Cond.code yX2_holds cX2_holds 2 (some .boolean), Cond.methodLink RX4 140 yX0_weight, Cond.instanceMethod yX0_weight, Cond.selects RX0 yX0_weight yX0_weight, Cond.code yX0_weight cX0_weight 2 (some .int), Cond.methodLink RX4 152 yX2_firstOut, Cond.instanceMethod yX2_firstOut, Cond.selects RX2 yX2_firstOut yX2_firstOut, Cond.code yX2_firstOut cX2_firstOut 5 (some .int), Cond.methodLink RX2 33 yX2_rank, Cond.instanceMethod yX2_rank, Cond.selects RX2 yX2_rank yX2_rank, Cond.code yX2_rank cX2_rank 3 (some .long), Cond.methodLink RX4 156 yX2_lose, Cond.instanceMethod yX2_lose, Cond.selects RX2 yX2_lose yX2_lose, Cond.code yX2_lose cX2_lose 2 none, Cond.methodLink RX4 134 yX4_findAnswers]
def wsX6_set_r5 : List Cond := [Cond.instanceMethod yX4_findAnswers, Cond.selects RX4 yX4_findAnswers yX4_findAnswers, Cond.code yX4_findAnswers cX4_findAnswers 1 none, Cond.methodLink RX4 162 yX0_find, Cond.instanceMethod yX0_find, Cond.selects RX0 yX0_find yX0_find, Cond.code yX0_find cX0_find 7 none, Cond.methodLink RX0 25 yX5_size, Cond.instanceMethod yX5_size, Cond.selects RX5 yX5_size yX5_size, Cond.code yX5_size cX5_size 1 (some .int), Cond.methodLink RX0 31 yX5_value, Cond.instanceMethod yX5_value, Cond.selects RX5 yX5_value yX5_value, Cond.code yX5_value cX5_value 2 (some .int), Cond.methodLink RX0 35 yX5_key, Cond.instanceMethod yX5_key, Cond.selects RX5 yX5_key yX5_key, Cond.code yX5_key cX5_key 2 (some .int), Cond.methodLink RX4 137 yX4_throwAllOut, Cond.instanceMethod yX4_throwAllOut, Cond.selects RX4 yX4_throwAllOut yX4_throwAllOut, Cond.code yX4_throwAllOut cX4_throwAllOut 2 (some .int), Cond.methodLink RX4 125 yX2_loseAll]
def wsX6_set_r6 : List Cond := [Cond.instanceMethod yX2_loseAll, Cond.selects RX2 yX2_loseAll yX2_loseAll, Cond.code yX2_loseAll cX2_loseAll 3 (some .int), Cond.methodLink RX2 29 yX2_size, Cond.instanceMethod yX2_size, Cond.selects RX2 yX2_size yX2_size, Cond.code yX2_size cX2_size 3 (some .int), Cond.methodLink RX6 44 yX1_commit, Cond.instanceMethod yX1_commit, Cond.selects RX1 yX1_commit yX1_commit, Cond.code yX1_commit cX1_commit 2 (some .int), Cond.fieldLink RX1 18 "LoopMemo$History" "size" "I", Cond.methodLink RX1 33 Lib.Math.min.name]
def wsX6_set : List Cond := .code yX6_set cX6_set 3 (some .int) :: ((wsX6_set_r1 ++ (wsX6_set_r2 ++ (wsX6_set_r3 ++ (wsX6_set_r4 ++ (wsX6_set_r5 ++ wsX6_set_r6))))) ++ wsX60 ++ wsX10 ++ wsX40 ++ wsX50 ++ wsX00 ++ wsX20)
def wsX6_append : List Cond := .code yX6_append cX6_append 2 (some .int) :: ([.fieldLink RX6 32 "LoopMemo" "pad" "LLoopMemo$Pad;", .methodLink RX6 70 yX3_push, .instanceMethod yX3_push, .selects RX3 yX3_push yX3_push, .initialized RX3, .code yX3_push cX3_push 2 (some .int), .fieldLink RX3 15 "LoopMemo$Pad" "size" "I", .fieldLink RX3 9 "LoopMemo$Pad" "codes" "[I"] ++ wsX60 ++ wsX30)
def wsX6_clear : List Cond := .code yX6_clear cX6_clear 1 (some .int) :: ([.fieldLink RX6 32 "LoopMemo" "pad" "LLoopMemo$Pad;", .methodLink RX6 73 yX3_empty, .instanceMethod yX3_empty, .selects RX3 yX3_empty yX3_empty, .initialized RX3, .code yX3_empty cX3_empty 2 (some .int), .fieldLink RX3 15 "LoopMemo$Pad" "size" "I"] ++ wsX60 ++ wsX30)
def wsX6_fault_r1 : List Cond := [Cond.fieldLink RX6 32 "LoopMemo" "pad" "LLoopMemo$Pad;", Cond.methodLink RX6 76 yX6_isWithin, Cond.static yX6_isWithin, Cond.initialized RX6, Cond.code yX6_isWithin cX6_isWithin 2 (some .boolean), Cond.methodLink RX6 80 yX3_findFault, Cond.instanceMethod yX3_findFault, Cond.selects RX3 yX3_findFault yX3_findFault, Cond.initialized RX3, Cond.code yX3_findFault cX3_findFault 2 (some .int), Cond.fieldLink RX3 23 "LoopMemo$Pad" "items" "I", Cond.fieldLink RX3 30 "LoopMemo$Pad" "at" "I", Cond.fieldLink RX3 15 "LoopMemo$Pad" "size" "I", Cond.methodLink RX3 19 yX3_open, Cond.instanceMethod yX3_open, Cond.selects RX3 yX3_open yX3_open, Cond.code yX3_open cX3_open 2 none, Cond.fieldLink RX3 33 "LoopMemo$Pad" "isReadAsDeeds" "Z", Cond.methodLink RX3 26 yX3_next, Cond.instanceMethod yX3_next, Cond.selects RX3 yX3_next yX3_next, Cond.code yX3_next cX3_next 1 (some .boolean), Cond.fieldLink RX3 41 "LoopMemo$Pad" "start" "I", Cond.methodLink RX3 37 yX3_takes]
def wsX6_fault_r2 : List Cond := [Cond.instanceMethod yX3_takes, Cond.selects RX3 yX3_takes yX3_takes, Cond.code yX3_takes cX3_takes 2 (some .boolean), Cond.methodLink RX3 59 yX3_code, Cond.instanceMethod yX3_code, Cond.selects RX3 yX3_code yX3_code, Cond.code yX3_code cX3_code 2 (some .int), Cond.fieldLink RX3 9 "LoopMemo$Pad" "codes" "[I", Cond.methodLink RX3 44 yX3_readDeed, Cond.instanceMethod yX3_readDeed, Cond.selects RX3 yX3_readDeed yX3_readDeed, Cond.code yX3_readDeed cX3_readDeed 1 (some .boolean), Cond.fieldLink RX3 50 "LoopMemo$Pad" "sign" "I", Cond.fieldLink RX3 53 "LoopMemo$Pad" "first" "I", Cond.methodLink RX3 63 yX3_readNumber, Cond.instanceMethod yX3_readNumber, Cond.selects RX3 yX3_readNumber yX3_readNumber, Cond.code yX3_readNumber cX3_readNumber 5 (some .int), Cond.methodLink RX3 47 yX3_readRow, Cond.instanceMethod yX3_readRow, Cond.selects RX3 yX3_readRow yX3_readRow, Cond.code yX3_readRow cX3_readRow 1 (some .boolean), Cond.fieldLink RX3 56 "LoopMemo$Pad" "second" "I"]
def wsX6_fault : List Cond := .code yX6_fault cX6_fault 2 (some .int) :: ((wsX6_fault_r1 ++ wsX6_fault_r2) ++ wsX60 ++ wsX30)
def wsX6_fill_r1 : List Cond := [Cond.fieldLink RX6 32 "LoopMemo" "pad" "LLoopMemo$Pad;", Cond.fieldLink RX6 10 "LoopMemo" "now" "LLoopMemo$State;", Cond.fieldLink RX6 25 "LoopMemo" "history" "LLoopMemo$History;", Cond.methodLink RX6 80 yX3_findFault, Cond.instanceMethod yX3_findFault, Cond.selects RX3 yX3_findFault yX3_findFault, Cond.initialized RX3, Cond.code yX3_findFault cX3_findFault 2 (some .int), Cond.fieldLink RX3 23 "LoopMemo$Pad" "items" "I", Cond.fieldLink RX3 30 "LoopMemo$Pad" "at" "I", Cond.fieldLink RX3 15 "LoopMemo$Pad" "size" "I", Cond.methodLink RX3 19 yX3_open, Cond.instanceMethod yX3_open, Cond.selects RX3 yX3_open yX3_open, Cond.code yX3_open cX3_open 2 none, Cond.fieldLink RX3 33 "LoopMemo$Pad" "isReadAsDeeds" "Z", Cond.methodLink RX3 26 yX3_next, Cond.instanceMethod yX3_next, Cond.selects RX3 yX3_next yX3_next, Cond.code yX3_next cX3_next 1 (some .boolean), Cond.fieldLink RX3 41 "LoopMemo$Pad" "start" "I", Cond.methodLink RX3 37 yX3_takes, Cond.instanceMethod yX3_takes, Cond.selects RX3 yX3_takes yX3_takes]
def wsX6_fill_r2 : List Cond := [Cond.code yX3_takes cX3_takes 2 (some .boolean), Cond.methodLink RX3 59 yX3_code, Cond.instanceMethod yX3_code, Cond.selects RX3 yX3_code yX3_code, Cond.code yX3_code cX3_code 2 (some .int), Cond.fieldLink RX3 9 "LoopMemo$Pad" "codes" "[I", Cond.methodLink RX3 44 yX3_readDeed, Cond.instanceMethod yX3_readDeed, Cond.selects RX3 yX3_readDeed yX3_readDeed, Cond.code yX3_readDeed cX3_readDeed 1 (some .boolean), Cond.fieldLink RX3 50 "LoopMemo$Pad" "sign" "I", Cond.fieldLink RX3 53 "LoopMemo$Pad" "first" "I", Cond.methodLink RX3 63 yX3_readNumber, Cond.instanceMethod yX3_readNumber, Cond.selects RX3 yX3_readNumber yX3_readNumber, Cond.code yX3_readNumber cX3_readNumber 5 (some .int), Cond.methodLink RX3 47 yX3_readRow, Cond.instanceMethod yX3_readRow, Cond.selects RX3 yX3_readRow yX3_readRow, Cond.code yX3_readRow cX3_readRow 1 (some .boolean), Cond.fieldLink RX3 56 "LoopMemo$Pad" "second" "I", Cond.methodLink RX6 84 yX3_items, Cond.instanceMethod yX3_items, Cond.selects RX3 yX3_items yX3_items]
def wsX6_fill_r3 : List Cond := [Cond.code yX3_items cX3_items 1 (some .int), Cond.methodLink RX6 87 yX4_table, Cond.instanceMethod yX4_table, Cond.selects RX4 yX4_table yX4_table, Cond.initialized RX4, Cond.code yX4_table cX4_table 2 (some (.object "LoopMemo$Table")), Cond.fieldLink RX4 18 "LoopMemo$State" "inner" "LLoopMemo$Table;", Cond.fieldLink RX4 12 "LoopMemo$State" "outer" "LLoopMemo$Table;", Cond.methodLink RX6 91 yX5_size, Cond.instanceMethod yX5_size, Cond.selects RX5 yX5_size yX5_size, Cond.initialized RX5, Cond.code yX5_size cX5_size 1 (some .int), Cond.fieldLink RX5 22 "LoopMemo$Table" "size" "I", Cond.methodLink RX6 36 yX1_prepare, Cond.instanceMethod yX1_prepare, Cond.selects RX1 yX1_prepare yX1_prepare, Cond.initialized RX1, Cond.code yX1_prepare cX1_prepare 3 none, Cond.fieldLink RX1 22 "LoopMemo$History" "next" "I", Cond.methodLink RX1 25 yX1_slot, Cond.instanceMethod yX1_slot, Cond.selects RX1 yX1_slot yX1_slot, Cond.code yX1_slot cX1_slot 2 (some (.object "LoopMemo$State"))]
def wsX6_fill_r4 : List Cond := [Cond.fieldLink RX1 13 "LoopMemo$History" "slots" "[LLoopMemo$State;", Cond.methodLink RX1 29 yX4_copyFrom, Cond.instanceMethod yX4_copyFrom, Cond.selects RX4 yX4_copyFrom yX4_copyFrom, Cond.code yX4_copyFrom cX4_copyFrom 2 none, Cond.fieldLink RX4 24 "LoopMemo$State" "answers" "LLoopMemo$Answers;", Cond.fieldLink RX4 31 "LoopMemo$State" "memo" "LLoopMemo$Memo;", Cond.fieldLink RX4 44 "LoopMemo$State" "settings" "[I", Cond.fieldLink RX4 47 "LoopMemo$State" "tallies" "[I", Cond.fieldLink RX4 64 "LoopMemo$State" "place" "I", Cond.fieldLink RX4 68 "LoopMemo$State" "total" "I", Cond.methodLink RX4 50 yX5_copyFrom, Cond.instanceMethod yX5_copyFrom, Cond.selects RX5 yX5_copyFrom yX5_copyFrom, Cond.code yX5_copyFrom cX5_copyFrom 2 none, Cond.fieldLink RX5 9 "LoopMemo$Table" "keys" "[I", Cond.fieldLink RX5 15 "LoopMemo$Table" "values" "[I", Cond.static yX6_copyNumbers, Cond.initialized RX6, Cond.code yX6_copyNumbers cX6_copyNumbers 2 none, Cond.methodLink RX6 117 Lib.Math.min.name, Cond.static Lib.Math.min.name, Cond.initialized "java/lang/Math", Cond.code Lib.Math.min.name Lib.Math.min.code 2 (some .int)]
def wsX6_fill_r5 : List Cond := [Cond.methodLink RX6 225 arraycopyName, Cond.native arraycopyName, Cond.static arraycopyName, Cond.initialized "java/lang/System", Cond.methodLink RX4 54 yX0_copyFrom, Cond.instanceMethod yX0_copyFrom, Cond.selects RX0 yX0_copyFrom yX0_copyFrom, Cond.initialized RX0, Cond.code yX0_copyFrom cX0_copyFrom 2 none, Cond.fieldLink RX0 9 "LoopMemo$Answers" "rows" "[I", Cond.fieldLink RX0 15 "LoopMemo$Answers" "sums" "[I", Cond.fieldLink RX0 18 "LoopMemo$Answers" "firstRows" "[I", Cond.methodLink RX4 57 yX2_copyFrom, Cond.instanceMethod yX2_copyFrom, Cond.selects RX2 yX2_copyFrom yX2_copyFrom, Cond.initialized RX2, Cond.code yX2_copyFrom cX2_copyFrom 2 none, Cond.fieldLink RX2 9 "LoopMemo$Memo" "uses" "[I", Cond.fieldLink RX2 15 "LoopMemo$Memo" "lastLooks" "[I", Cond.fieldLink RX2 18 "LoopMemo$Memo" "firstLooks" "[I", Cond.fieldLink RX2 25 "LoopMemo$Memo" "looks" "I", Cond.methodLink RX6 96 yX3_open, Cond.methodLink RX6 100 yX3_next, Cond.methodLink RX6 104 yX3_first]
def wsX6_fill_r6 : List Cond := [Cond.instanceMethod yX3_first, Cond.selects RX3 yX3_first yX3_first, Cond.code yX3_first cX3_first 1 (some .int), Cond.methodLink RX6 107 yX3_second, Cond.instanceMethod yX3_second, Cond.selects RX3 yX3_second yX3_second, Cond.code yX3_second cX3_second 1 (some .int), Cond.methodLink RX6 40 yX4_insertRow, Cond.instanceMethod yX4_insertRow, Cond.selects RX4 yX4_insertRow yX4_insertRow, Cond.code yX4_insertRow cX4_insertRow 5 (some .int), Cond.static yX6_isRow, Cond.code yX6_isRow cX6_isRow 2 (some .boolean), Cond.methodLink RX6 147 yX6_isKey, Cond.static yX6_isKey, Cond.code yX6_isKey cX6_isKey 1 (some .boolean), Cond.methodLink RX6 76 yX6_isWithin, Cond.static yX6_isWithin, Cond.code yX6_isWithin cX6_isWithin 2 (some .boolean), Cond.methodLink RX4 89 yX4_table, Cond.methodLink RX4 93 yX5_size, Cond.methodLink RX4 97 yX5_push, Cond.instanceMethod yX5_push, Cond.selects RX5 yX5_push yX5_push]
def wsX6_fill_r7 : List Cond := [Cond.code yX5_push cX5_push 3 none, Cond.methodLink RX5 26 yX5_put, Cond.instanceMethod yX5_put, Cond.selects RX5 yX5_put yX5_put, Cond.code yX5_put cX5_put 4 none, Cond.methodLink RX4 101 yX4_keepTrue, Cond.instanceMethod yX4_keepTrue, Cond.selects RX4 yX4_keepTrue yX4_keepTrue, Cond.code yX4_keepTrue cX4_keepTrue 3 none, Cond.methodLink RX4 134 yX4_findAnswers, Cond.instanceMethod yX4_findAnswers, Cond.selects RX4 yX4_findAnswers yX4_findAnswers, Cond.code yX4_findAnswers cX4_findAnswers 1 none, Cond.methodLink RX4 162 yX0_find, Cond.instanceMethod yX0_find, Cond.selects RX0 yX0_find yX0_find, Cond.code yX0_find cX0_find 7 none, Cond.methodLink RX0 25 yX5_size, Cond.methodLink RX0 31 yX5_value, Cond.instanceMethod yX5_value, Cond.selects RX5 yX5_value yX5_value, Cond.code yX5_value cX5_value 2 (some .int), Cond.methodLink RX0 35 yX5_key, Cond.instanceMethod yX5_key]
def wsX6_fill_r8 : List Cond := [Cond.selects RX5 yX5_key yX5_key, Cond.code yX5_key cX5_key 2 (some .int), Cond.methodLink RX4 137 yX4_throwAllOut, Cond.instanceMethod yX4_throwAllOut, Cond.selects RX4 yX4_throwAllOut yX4_throwAllOut, Cond.code yX4_throwAllOut cX4_throwAllOut 2 (some .int), Cond.methodLink RX4 125 yX2_loseAll, Cond.instanceMethod yX2_loseAll, Cond.selects RX2 yX2_loseAll yX2_loseAll, Cond.code yX2_loseAll cX2_loseAll 3 (some .int), Cond.methodLink RX2 29 yX2_size, Cond.instanceMethod yX2_size, Cond.selects RX2 yX2_size yX2_size, Cond.code yX2_size cX2_size 3 (some .int), Cond.methodLink RX4 159 yX4_keepAnswerTrue, Cond.instanceMethod yX4_keepAnswerTrue, Cond.selects RX4 yX4_keepAnswerTrue yX4_keepAnswerTrue, Cond.code yX4_keepAnswerTrue cX4_keepAnswerTrue 2 none, Cond.methodLink RX4 75 yX2_holds, Cond.instanceMethod yX2_holds, Cond.selects RX2 yX2_holds yX2_holds, Cond.code yX2_holds cX2_holds 2 (some .boolean), Cond.methodLink RX4 156 yX2_lose, Cond.instanceMethod yX2_lose]
def wsX6_fill_r9 : List Cond := [Cond.selects RX2 yX2_lose yX2_lose, Cond.code yX2_lose cX2_lose 2 none, Cond.methodLink RX6 73 yX3_empty, Cond.instanceMethod yX3_empty, Cond.selects RX3 yX3_empty yX3_empty, Cond.code yX3_empty cX3_empty 2 (some .int), Cond.methodLink RX6 44 yX1_commit, Cond.instanceMethod yX1_commit, Cond.selects RX1 yX1_commit yX1_commit, Cond.code yX1_commit cX1_commit 2 (some .int), Cond.fieldLink RX1 18 "LoopMemo$History" "size" "I", Cond.methodLink RX1 33 Lib.Math.min.name]
def wsX6_fill : List Cond := .code yX6_fill cX6_fill 4 (some .int) :: ((wsX6_fill_r1 ++ (wsX6_fill_r2 ++ (wsX6_fill_r3 ++ (wsX6_fill_r4 ++ (wsX6_fill_r5 ++ (wsX6_fill_r6 ++ (wsX6_fill_r7 ++ (wsX6_fill_r8 ++ wsX6_fill_r9)))))))) ++ wsX60 ++ wsX30 ++ wsX40 ++ wsX50 ++ wsX10 ++ wsX00 ++ wsX20)
def wsX6_obey_r1 : List Cond := [Cond.fieldLink RX6 32 "LoopMemo" "pad" "LLoopMemo$Pad;", Cond.fieldLink RX6 10 "LoopMemo" "now" "LLoopMemo$State;", Cond.methodLink RX6 222 yX3_sign, Cond.instanceMethod yX3_sign, Cond.selects RX3 yX3_sign yX3_sign, Cond.initialized RX3, Cond.code yX3_sign cX3_sign 1 (some .int), Cond.fieldLink RX3 50 "LoopMemo$Pad" "sign" "I", Cond.methodLink RX6 104 yX3_first, Cond.instanceMethod yX3_first, Cond.selects RX3 yX3_first yX3_first, Cond.code yX3_first cX3_first 1 (some .int), Cond.fieldLink RX3 53 "LoopMemo$Pad" "first" "I", Cond.methodLink RX6 56 yX4_walk, Cond.instanceMethod yX4_walk, Cond.selects RX4 yX4_walk yX4_walk, Cond.initialized RX4, Cond.code yX4_walk cX4_walk 5 (some .int), Cond.fieldLink RX4 64 "LoopMemo$State" "place" "I", Cond.fieldLink RX4 12 "LoopMemo$State" "outer" "LLoopMemo$Table;", Cond.fieldLink RX4 47 "LoopMemo$State" "tallies" "[I", Cond.fieldLink RX4 68 "LoopMemo$State" "total" "I", Cond.fieldLink RX4 24 "LoopMemo$State" "answers" "LLoopMemo$Answers;", Cond.methodLink RX4 93 yX5_size]
def wsX6_obey_r2 : List Cond := [Cond.instanceMethod yX5_size, Cond.selects RX5 yX5_size yX5_size, Cond.initialized RX5, Cond.code yX5_size cX5_size 1 (some .int), Cond.fieldLink RX5 22 "LoopMemo$Table" "size" "I", Cond.methodLink RX4 71 yX5_key, Cond.instanceMethod yX5_key, Cond.selects RX5 yX5_key yX5_key, Cond.code yX5_key cX5_key 2 (some .int), Cond.fieldLink RX5 9 "LoopMemo$Table" "keys" "[I", Cond.methodLink RX4 119 yX4_lookUp, Cond.instanceMethod yX4_lookUp, Cond.selects RX4 yX4_lookUp yX4_lookUp, Cond.code yX4_lookUp cX4_lookUp 2 none, Cond.fieldLink RX4 31 "LoopMemo$State" "memo" "LLoopMemo$Memo;", Cond.fieldLink RX4 18 "LoopMemo$State" "inner" "LLoopMemo$Table;", Cond.fieldLink RX4 44 "LoopMemo$State" "settings" "[I", Cond.methodLink RX4 75 yX2_holds, Cond.instanceMethod yX2_holds, Cond.selects RX2 yX2_holds yX2_holds, Cond.initialized RX2, Cond.code yX2_holds cX2_holds 2 (some .boolean), Cond.fieldLink RX2 9 "LoopMemo$Memo" "uses" "[I", Cond.methodLink RX4 143 yX2_touch]
def wsX6_obey_r3 : List Cond := [Cond.instanceMethod yX2_touch, Cond.selects RX2 yX2_touch yX2_touch, Cond.code yX2_touch cX2_touch 2 none, Cond.fieldLink RX2 25 "LoopMemo$Memo" "looks" "I", Cond.fieldLink RX2 15 "LoopMemo$Memo" "lastLooks" "[I", Cond.methodLink RX4 140 yX0_weight, Cond.instanceMethod yX0_weight, Cond.selects RX0 yX0_weight yX0_weight, Cond.initialized RX0, Cond.code yX0_weight cX0_weight 2 (some .int), Cond.fieldLink RX0 9 "LoopMemo$Answers" "rows" "[I", Cond.methodLink RX4 146 yX2_take, Cond.instanceMethod yX2_take, Cond.selects RX2 yX2_take yX2_take, Cond.code yX2_take cX2_take 2 none, Cond.fieldLink RX2 18 "LoopMemo$Memo" "firstLooks" "[I", Cond.methodLink RX4 131 yX4_makeRoom, Cond.instanceMethod yX4_makeRoom, Cond.selects RX4 yX4_makeRoom yX4_makeRoom, Cond.code yX4_makeRoom cX4_makeRoom 5 (some .int), Cond.methodLink RX4 149 yX4_weightTogether, Cond.instanceMethod yX4_weightTogether, Cond.selects RX4 yX4_weightTogether yX4_weightTogether, Cond.code yX4_weightTogether cX4_weightTogether 3 (some .int)]
def wsX6_obey_r4 : List Cond := [Cond.methodLink RX4 152 yX2_firstOut, Cond.instanceMethod yX2_firstOut, Cond.selects RX2 yX2_firstOut yX2_firstOut, Cond.code yX2_firstOut cX2_firstOut 5 (some .int), Cond.methodLink RX2 33 yX2_rank, Cond.instanceMethod yX2_rank, Cond.selects RX2 yX2_rank yX2_rank, Cond.code yX2_rank cX2_rank 3 (some .long), Cond.methodLink RX4 156 yX2_lose, Cond.instanceMethod yX2_lose, Cond.selects RX2 yX2_lose yX2_lose, Cond.code yX2_lose cX2_lose 2 none, Cond.methodLink RX4 79 yX5_value, Cond.instanceMethod yX5_value, Cond.selects RX5 yX5_value yX5_value, Cond.code yX5_value cX5_value 2 (some .int), Cond.fieldLink RX5 15 "LoopMemo$Table" "values" "[I", Cond.methodLink RX4 122 yX0_sum, Cond.instanceMethod yX0_sum, Cond.selects RX0 yX0_sum yX0_sum, Cond.code yX0_sum cX0_sum 2 (some .int), Cond.fieldLink RX0 15 "LoopMemo$Answers" "sums" "[I", Cond.methodLink RX6 107 yX3_second, Cond.instanceMethod yX3_second]
def wsX6_obey_r5 : List Cond := [Cond.selects RX3 yX3_second yX3_second, Cond.code yX3_second cX3_second 1 (some .int), Cond.fieldLink RX3 56 "LoopMemo$Pad" "second" "I", Cond.methodLink RX6 40 yX4_insertRow, Cond.instanceMethod yX4_insertRow, Cond.selects RX4 yX4_insertRow yX4_insertRow, Cond.code yX4_insertRow cX4_insertRow 5 (some .int), Cond.static yX6_isRow, Cond.initialized RX6, Cond.code yX6_isRow cX6_isRow 2 (some .boolean), Cond.methodLink RX6 147 yX6_isKey, Cond.static yX6_isKey, Cond.code yX6_isKey cX6_isKey 1 (some .boolean), Cond.methodLink RX6 76 yX6_isWithin, Cond.static yX6_isWithin, Cond.code yX6_isWithin cX6_isWithin 2 (some .boolean), Cond.methodLink RX4 89 yX4_table, Cond.instanceMethod yX4_table, Cond.selects RX4 yX4_table yX4_table, Cond.code yX4_table cX4_table 2 (some (.object "LoopMemo$Table")), Cond.methodLink RX4 97 yX5_push, Cond.instanceMethod yX5_push, Cond.selects RX5 yX5_push yX5_push, Cond.code yX5_push cX5_push 3 none]
def wsX6_obey_r6 : List Cond := [Cond.methodLink RX5 26 yX5_put, Cond.instanceMethod yX5_put, Cond.selects RX5 yX5_put yX5_put, Cond.code yX5_put cX5_put 4 none, Cond.methodLink RX4 101 yX4_keepTrue, Cond.instanceMethod yX4_keepTrue, Cond.selects RX4 yX4_keepTrue yX4_keepTrue, Cond.code yX4_keepTrue cX4_keepTrue 3 none, Cond.methodLink RX4 134 yX4_findAnswers, Cond.instanceMethod yX4_findAnswers, Cond.selects RX4 yX4_findAnswers yX4_findAnswers, Cond.code yX4_findAnswers cX4_findAnswers 1 none, Cond.methodLink RX4 162 yX0_find, Cond.instanceMethod yX0_find, Cond.selects RX0 yX0_find yX0_find, Cond.code yX0_find cX0_find 7 none, Cond.fieldLink RX0 18 "LoopMemo$Answers" "firstRows" "[I", Cond.methodLink RX0 25 yX5_size, Cond.methodLink RX0 31 yX5_value, Cond.methodLink RX0 35 yX5_key, Cond.methodLink RX4 137 yX4_throwAllOut, Cond.instanceMethod yX4_throwAllOut, Cond.selects RX4 yX4_throwAllOut yX4_throwAllOut, Cond.code yX4_throwAllOut cX4_throwAllOut 2 (some .int)]
def wsX6_obey_r7 : List Cond := [Cond.methodLink RX4 125 yX2_loseAll, Cond.instanceMethod yX2_loseAll, Cond.selects RX2 yX2_loseAll yX2_loseAll, Cond.code yX2_loseAll cX2_loseAll 3 (some .int), Cond.methodLink RX2 29 yX2_size, Cond.instanceMethod yX2_size, Cond.selects RX2 yX2_size yX2_size, Cond.code yX2_size cX2_size 3 (some .int), Cond.methodLink RX4 159 yX4_keepAnswerTrue, Cond.instanceMethod yX4_keepAnswerTrue, Cond.selects RX4 yX4_keepAnswerTrue yX4_keepAnswerTrue, Cond.code yX4_keepAnswerTrue cX4_keepAnswerTrue 2 none, Cond.methodLink RX6 48 yX4_removeRow, Cond.instanceMethod yX4_removeRow, Cond.selects RX4 yX4_removeRow yX4_removeRow, Cond.code yX4_removeRow cX4_removeRow 5 (some .int), Cond.methodLink RX4 104 yX5_has, Cond.instanceMethod yX5_has, Cond.selects RX5 yX5_has yX5_has, Cond.code yX5_has cX5_has 2 (some .boolean), Cond.methodLink RX4 107 yX5_takeOut, Cond.instanceMethod yX5_takeOut, Cond.selects RX5 yX5_takeOut yX5_takeOut, Cond.code yX5_takeOut cX5_takeOut 3 none]
def wsX6_obey_r8 : List Cond := [Cond.methodLink RX5 30 yX5_has, Cond.methodLink RX5 34 yX5_key, Cond.methodLink RX5 38 yX5_value, Cond.methodLink RX4 111 yX4_isDone, Cond.instanceMethod yX4_isDone, Cond.selects RX4 yX4_isDone yX4_isDone, Cond.code yX4_isDone cX4_isDone 2 (some .boolean), Cond.methodLink RX6 59 yX4_beginAgain, Cond.instanceMethod yX4_beginAgain, Cond.selects RX4 yX4_beginAgain yX4_beginAgain, Cond.code yX4_beginAgain cX4_beginAgain 2 (some .int)]
def wsX6_obey : List Cond := .code yX6_obey cX6_obey 1 (some .int) :: ((wsX6_obey_r1 ++ (wsX6_obey_r2 ++ (wsX6_obey_r3 ++ (wsX6_obey_r4 ++ (wsX6_obey_r5 ++ (wsX6_obey_r6 ++ (wsX6_obey_r7 ++ wsX6_obey_r8))))))) ++ wsX60 ++ wsX30 ++ wsX40 ++ wsX50 ++ wsX20 ++ wsX00)
def wsX6_carryOut_r1 : List Cond := [Cond.fieldLink RX6 32 "LoopMemo" "pad" "LLoopMemo$Pad;", Cond.fieldLink RX6 25 "LoopMemo" "history" "LLoopMemo$History;", Cond.fieldLink RX6 10 "LoopMemo" "now" "LLoopMemo$State;", Cond.fieldLink RX6 110 "LoopMemo" "stopError" "I", Cond.methodLink RX6 117 Lib.Math.min.name, Cond.static Lib.Math.min.name, Cond.initialized "java/lang/Math", Cond.code Lib.Math.min.name Lib.Math.min.code 2 (some .int), Cond.fieldLink RX6 122 "LoopMemo" "stopNumber" "I", Cond.fieldLink RX6 128 "LoopMemo" "stopPosition" "I", Cond.methodLink RX6 80 yX3_findFault, Cond.instanceMethod yX3_findFault, Cond.selects RX3 yX3_findFault yX3_findFault, Cond.initialized RX3, Cond.code yX3_findFault cX3_findFault 2 (some .int), Cond.fieldLink RX3 23 "LoopMemo$Pad" "items" "I", Cond.fieldLink RX3 30 "LoopMemo$Pad" "at" "I", Cond.fieldLink RX3 15 "LoopMemo$Pad" "size" "I", Cond.methodLink RX3 19 yX3_open, Cond.instanceMethod yX3_open, Cond.selects RX3 yX3_open yX3_open, Cond.code yX3_open cX3_open 2 none, Cond.fieldLink RX3 33 "LoopMemo$Pad" "isReadAsDeeds" "Z", Cond.methodLink RX3 26 yX3_next]
def wsX6_carryOut_r2 : List Cond := [Cond.instanceMethod yX3_next, Cond.selects RX3 yX3_next yX3_next, Cond.code yX3_next cX3_next 1 (some .boolean), Cond.fieldLink RX3 41 "LoopMemo$Pad" "start" "I", Cond.methodLink RX3 37 yX3_takes, Cond.instanceMethod yX3_takes, Cond.selects RX3 yX3_takes yX3_takes, Cond.code yX3_takes cX3_takes 2 (some .boolean), Cond.methodLink RX3 59 yX3_code, Cond.instanceMethod yX3_code, Cond.selects RX3 yX3_code yX3_code, Cond.code yX3_code cX3_code 2 (some .int), Cond.fieldLink RX3 9 "LoopMemo$Pad" "codes" "[I", Cond.methodLink RX3 44 yX3_readDeed, Cond.instanceMethod yX3_readDeed, Cond.selects RX3 yX3_readDeed yX3_readDeed, Cond.code yX3_readDeed cX3_readDeed 1 (some .boolean), Cond.fieldLink RX3 50 "LoopMemo$Pad" "sign" "I", Cond.fieldLink RX3 53 "LoopMemo$Pad" "first" "I", Cond.methodLink RX3 63 yX3_readNumber, Cond.instanceMethod yX3_readNumber, Cond.selects RX3 yX3_readNumber yX3_readNumber, Cond.code yX3_readNumber cX3_readNumber 5 (some .int), Cond.methodLink RX3 47 yX3_readRow]
def wsX6_carryOut_r3 : List Cond := [Cond.instanceMethod yX3_readRow, Cond.selects RX3 yX3_readRow yX3_readRow, Cond.code yX3_readRow cX3_readRow 1 (some .boolean), Cond.fieldLink RX3 56 "LoopMemo$Pad" "second" "I", Cond.methodLink RX6 84 yX3_items, Cond.instanceMethod yX3_items, Cond.selects RX3 yX3_items yX3_items, Cond.code yX3_items cX3_items 1 (some .int), Cond.methodLink RX6 36 yX1_prepare, Cond.instanceMethod yX1_prepare, Cond.selects RX1 yX1_prepare yX1_prepare, Cond.initialized RX1, Cond.code yX1_prepare cX1_prepare 3 none, Cond.fieldLink RX1 22 "LoopMemo$History" "next" "I", Cond.methodLink RX1 25 yX1_slot, Cond.instanceMethod yX1_slot, Cond.selects RX1 yX1_slot yX1_slot, Cond.code yX1_slot cX1_slot 2 (some (.object "LoopMemo$State")), Cond.fieldLink RX1 13 "LoopMemo$History" "slots" "[LLoopMemo$State;", Cond.methodLink RX1 29 yX4_copyFrom, Cond.instanceMethod yX4_copyFrom, Cond.selects RX4 yX4_copyFrom yX4_copyFrom, Cond.initialized RX4, Cond.code yX4_copyFrom cX4_copyFrom 2 none]
def wsX6_carryOut_r4 : List Cond := [Cond.fieldLink RX4 12 "LoopMemo$State" "outer" "LLoopMemo$Table;", Cond.fieldLink RX4 18 "LoopMemo$State" "inner" "LLoopMemo$Table;", Cond.fieldLink RX4 24 "LoopMemo$State" "answers" "LLoopMemo$Answers;", Cond.fieldLink RX4 31 "LoopMemo$State" "memo" "LLoopMemo$Memo;", Cond.fieldLink RX4 44 "LoopMemo$State" "settings" "[I", Cond.fieldLink RX4 47 "LoopMemo$State" "tallies" "[I", Cond.fieldLink RX4 64 "LoopMemo$State" "place" "I", Cond.fieldLink RX4 68 "LoopMemo$State" "total" "I", Cond.methodLink RX4 50 yX5_copyFrom, Cond.instanceMethod yX5_copyFrom, Cond.selects RX5 yX5_copyFrom yX5_copyFrom, Cond.initialized RX5, Cond.code yX5_copyFrom cX5_copyFrom 2 none, Cond.fieldLink RX5 9 "LoopMemo$Table" "keys" "[I", Cond.fieldLink RX5 15 "LoopMemo$Table" "values" "[I", Cond.fieldLink RX5 22 "LoopMemo$Table" "size" "I", Cond.static yX6_copyNumbers, Cond.initialized RX6, Cond.code yX6_copyNumbers cX6_copyNumbers 2 none, Cond.methodLink RX6 225 arraycopyName, Cond.native arraycopyName, Cond.static arraycopyName, Cond.initialized "java/lang/System", Cond.methodLink RX4 54 yX0_copyFrom]
def wsX6_carryOut_r5 : List Cond := [Cond.instanceMethod yX0_copyFrom, Cond.selects RX0 yX0_copyFrom yX0_copyFrom, Cond.initialized RX0, Cond.code yX0_copyFrom cX0_copyFrom 2 none, Cond.fieldLink RX0 9 "LoopMemo$Answers" "rows" "[I", Cond.fieldLink RX0 15 "LoopMemo$Answers" "sums" "[I", Cond.fieldLink RX0 18 "LoopMemo$Answers" "firstRows" "[I", Cond.methodLink RX4 57 yX2_copyFrom, Cond.instanceMethod yX2_copyFrom, Cond.selects RX2 yX2_copyFrom yX2_copyFrom, Cond.initialized RX2, Cond.code yX2_copyFrom cX2_copyFrom 2 none, Cond.fieldLink RX2 9 "LoopMemo$Memo" "uses" "[I", Cond.fieldLink RX2 15 "LoopMemo$Memo" "lastLooks" "[I", Cond.fieldLink RX2 18 "LoopMemo$Memo" "firstLooks" "[I", Cond.fieldLink RX2 25 "LoopMemo$Memo" "looks" "I", Cond.methodLink RX6 96 yX3_open, Cond.methodLink RX6 100 yX3_next, Cond.methodLink RX6 114 yX6_obey, Cond.instanceMethod yX6_obey, Cond.selects RX6 yX6_obey yX6_obey, Cond.code yX6_obey cX6_obey 1 (some .int), Cond.methodLink RX6 222 yX3_sign, Cond.instanceMethod yX3_sign]
def wsX6_carryOut_r6 : List Cond := [Cond.selects RX3 yX3_sign yX3_sign, Cond.code yX3_sign cX3_sign 1 (some .int), Cond.methodLink RX6 104 yX3_first, Cond.instanceMethod yX3_first, Cond.selects RX3 yX3_first yX3_first, Cond.code yX3_first cX3_first 1 (some .int), Cond.methodLink RX6 56 yX4_walk, Cond.instanceMethod yX4_walk, Cond.selects RX4 yX4_walk yX4_walk, Cond.code yX4_walk cX4_walk 5 (some .int), Cond.methodLink RX4 93 yX5_size, Cond.instanceMethod yX5_size, Cond.selects RX5 yX5_size yX5_size, Cond.code yX5_size cX5_size 1 (some .int), Cond.methodLink RX4 71 yX5_key, Cond.instanceMethod yX5_key, Cond.selects RX5 yX5_key yX5_key, Cond.code yX5_key cX5_key 2 (some .int), Cond.methodLink RX4 119 yX4_lookUp, Cond.instanceMethod yX4_lookUp, Cond.selects RX4 yX4_lookUp yX4_lookUp, Cond.code yX4_lookUp cX4_lookUp 2 none, Cond.methodLink RX4 75 yX2_holds, Cond.instanceMethod yX2_holds]
def wsX6_carryOut_r7 : List Cond := [Cond.selects RX2 yX2_holds yX2_holds, Cond.code yX2_holds cX2_holds 2 (some .boolean), Cond.methodLink RX4 143 yX2_touch, Cond.instanceMethod yX2_touch, Cond.selects RX2 yX2_touch yX2_touch, Cond.code yX2_touch cX2_touch 2 none, Cond.methodLink RX4 140 yX0_weight, Cond.instanceMethod yX0_weight, Cond.selects RX0 yX0_weight yX0_weight, Cond.code yX0_weight cX0_weight 2 (some .int), Cond.methodLink RX4 146 yX2_take, Cond.instanceMethod yX2_take, Cond.selects RX2 yX2_take yX2_take, Cond.code yX2_take cX2_take 2 none, Cond.methodLink RX4 131 yX4_makeRoom, Cond.instanceMethod yX4_makeRoom, Cond.selects RX4 yX4_makeRoom yX4_makeRoom, Cond.code yX4_makeRoom cX4_makeRoom 5 (some .int), Cond.methodLink RX4 149 yX4_weightTogether, Cond.instanceMethod yX4_weightTogether, Cond.selects RX4 yX4_weightTogether yX4_weightTogether, Cond.code yX4_weightTogether cX4_weightTogether 3 (some .int), Cond.methodLink RX4 152 yX2_firstOut, Cond.instanceMethod yX2_firstOut]
def wsX6_carryOut_r8 : List Cond := [Cond.selects RX2 yX2_firstOut yX2_firstOut, Cond.code yX2_firstOut cX2_firstOut 5 (some .int), Cond.methodLink RX2 33 yX2_rank, Cond.instanceMethod yX2_rank, Cond.selects RX2 yX2_rank yX2_rank, Cond.code yX2_rank cX2_rank 3 (some .long), Cond.methodLink RX4 156 yX2_lose, Cond.instanceMethod yX2_lose, Cond.selects RX2 yX2_lose yX2_lose, Cond.code yX2_lose cX2_lose 2 none, Cond.methodLink RX4 79 yX5_value, Cond.instanceMethod yX5_value, Cond.selects RX5 yX5_value yX5_value, Cond.code yX5_value cX5_value 2 (some .int), Cond.methodLink RX4 122 yX0_sum, Cond.instanceMethod yX0_sum, Cond.selects RX0 yX0_sum yX0_sum, Cond.code yX0_sum cX0_sum 2 (some .int), Cond.methodLink RX6 107 yX3_second, Cond.instanceMethod yX3_second, Cond.selects RX3 yX3_second yX3_second, Cond.code yX3_second cX3_second 1 (some .int), Cond.methodLink RX6 40 yX4_insertRow, Cond.instanceMethod yX4_insertRow]
def wsX6_carryOut_r9 : List Cond := [Cond.selects RX4 yX4_insertRow yX4_insertRow, Cond.code yX4_insertRow cX4_insertRow 5 (some .int), Cond.static yX6_isRow, Cond.code yX6_isRow cX6_isRow 2 (some .boolean), Cond.methodLink RX6 147 yX6_isKey, Cond.static yX6_isKey, Cond.code yX6_isKey cX6_isKey 1 (some .boolean), Cond.methodLink RX6 76 yX6_isWithin, Cond.static yX6_isWithin, Cond.code yX6_isWithin cX6_isWithin 2 (some .boolean), Cond.methodLink RX4 89 yX4_table, Cond.instanceMethod yX4_table, Cond.selects RX4 yX4_table yX4_table, Cond.code yX4_table cX4_table 2 (some (.object "LoopMemo$Table")), Cond.methodLink RX4 97 yX5_push, Cond.instanceMethod yX5_push, Cond.selects RX5 yX5_push yX5_push, Cond.code yX5_push cX5_push 3 none, Cond.methodLink RX5 26 yX5_put, Cond.instanceMethod yX5_put, Cond.selects RX5 yX5_put yX5_put, Cond.code yX5_put cX5_put 4 none, Cond.methodLink RX4 101 yX4_keepTrue, Cond.instanceMethod yX4_keepTrue]
def wsX6_carryOut_r10 : List Cond := [Cond.selects RX4 yX4_keepTrue yX4_keepTrue, Cond.code yX4_keepTrue cX4_keepTrue 3 none, Cond.methodLink RX4 134 yX4_findAnswers, Cond.instanceMethod yX4_findAnswers, Cond.selects RX4 yX4_findAnswers yX4_findAnswers, Cond.code yX4_findAnswers cX4_findAnswers 1 none, Cond.methodLink RX4 162 yX0_find, Cond.instanceMethod yX0_find, Cond.selects RX0 yX0_find yX0_find, Cond.code yX0_find cX0_find 7 none, Cond.methodLink RX0 25 yX5_size, Cond.methodLink RX0 31 yX5_value, Cond.methodLink RX0 35 yX5_key, Cond.methodLink RX4 137 yX4_throwAllOut, Cond.instanceMethod yX4_throwAllOut, Cond.selects RX4 yX4_throwAllOut yX4_throwAllOut, Cond.code yX4_throwAllOut cX4_throwAllOut 2 (some .int), Cond.methodLink RX4 125 yX2_loseAll, Cond.instanceMethod yX2_loseAll, Cond.selects RX2 yX2_loseAll yX2_loseAll, Cond.code yX2_loseAll cX2_loseAll 3 (some .int), Cond.methodLink RX2 29 yX2_size, Cond.instanceMethod yX2_size, Cond.selects RX2 yX2_size yX2_size]
def wsX6_carryOut_r11 : List Cond := [Cond.code yX2_size cX2_size 3 (some .int), Cond.methodLink RX4 159 yX4_keepAnswerTrue, Cond.instanceMethod yX4_keepAnswerTrue, Cond.selects RX4 yX4_keepAnswerTrue yX4_keepAnswerTrue, Cond.code yX4_keepAnswerTrue cX4_keepAnswerTrue 2 none, Cond.methodLink RX6 48 yX4_removeRow, Cond.instanceMethod yX4_removeRow, Cond.selects RX4 yX4_removeRow yX4_removeRow, Cond.code yX4_removeRow cX4_removeRow 5 (some .int), Cond.methodLink RX4 104 yX5_has, Cond.instanceMethod yX5_has, Cond.selects RX5 yX5_has yX5_has, Cond.code yX5_has cX5_has 2 (some .boolean), Cond.methodLink RX4 107 yX5_takeOut, Cond.instanceMethod yX5_takeOut, Cond.selects RX5 yX5_takeOut yX5_takeOut, Cond.code yX5_takeOut cX5_takeOut 3 none, Cond.methodLink RX5 30 yX5_has, Cond.methodLink RX5 34 yX5_key, Cond.methodLink RX5 38 yX5_value, Cond.methodLink RX4 111 yX4_isDone, Cond.instanceMethod yX4_isDone, Cond.selects RX4 yX4_isDone yX4_isDone, Cond.code yX4_isDone cX4_isDone 2 (some .boolean)]
def wsX6_carryOut_r12 : List Cond := [Cond.methodLink RX6 59 yX4_beginAgain, Cond.instanceMethod yX4_beginAgain, Cond.selects RX4 yX4_beginAgain yX4_beginAgain, Cond.code yX4_beginAgain cX4_beginAgain 2 (some .int), Cond.methodLink RX6 125 yX3_start, Cond.instanceMethod yX3_start, Cond.selects RX3 yX3_start yX3_start, Cond.code yX3_start cX3_start 1 (some .int), Cond.methodLink RX6 73 yX3_empty, Cond.instanceMethod yX3_empty, Cond.selects RX3 yX3_empty yX3_empty, Cond.code yX3_empty cX3_empty 2 (some .int), Cond.methodLink RX6 44 yX1_commit, Cond.instanceMethod yX1_commit, Cond.selects RX1 yX1_commit yX1_commit, Cond.code yX1_commit cX1_commit 2 (some .int), Cond.fieldLink RX1 18 "LoopMemo$History" "size" "I", Cond.methodLink RX1 33 Lib.Math.min.name]
def wsX6_carryOut : List Cond := .code yX6_carryOut cX6_carryOut 3 (some .int) :: ((wsX6_carryOut_r1 ++ (wsX6_carryOut_r2 ++ (wsX6_carryOut_r3 ++ (wsX6_carryOut_r4 ++ (wsX6_carryOut_r5 ++ (wsX6_carryOut_r6 ++ (wsX6_carryOut_r7 ++ (wsX6_carryOut_r8 ++ (wsX6_carryOut_r9 ++ (wsX6_carryOut_r10 ++ (wsX6_carryOut_r11 ++ wsX6_carryOut_r12))))))))))) ++ wsX60 ++ wsX30 ++ wsX10 ++ wsX40 ++ wsX50 ++ wsX00 ++ wsX20)
def wsX6_why : List Cond := .code yX6_why cX6_why 2 (some .int) :: ([.fieldLink RX6 110 "LoopMemo" "stopError" "I", .fieldLink RX6 122 "LoopMemo" "stopNumber" "I", .fieldLink RX6 128 "LoopMemo" "stopPosition" "I", .methodLink RX6 76 yX6_isWithin, .static yX6_isWithin, .initialized RX6, .code yX6_isWithin cX6_isWithin 2 (some .boolean)] ++ wsX60)
def wsX6_row_r1 : List Cond := [Cond.fieldLink RX6 10 "LoopMemo" "now" "LLoopMemo$State;", Cond.methodLink RX6 87 yX4_table, Cond.instanceMethod yX4_table, Cond.selects RX4 yX4_table yX4_table, Cond.initialized RX4, Cond.code yX4_table cX4_table 2 (some (.object "LoopMemo$Table")), Cond.fieldLink RX4 18 "LoopMemo$State" "inner" "LLoopMemo$Table;", Cond.fieldLink RX4 12 "LoopMemo$State" "outer" "LLoopMemo$Table;", Cond.methodLink RX6 131 yX5_has, Cond.instanceMethod yX5_has, Cond.selects RX5 yX5_has yX5_has, Cond.initialized RX5, Cond.code yX5_has cX5_has 2 (some .boolean), Cond.fieldLink RX5 22 "LoopMemo$Table" "size" "I", Cond.methodLink RX6 76 yX6_isWithin, Cond.static yX6_isWithin, Cond.initialized RX6, Cond.code yX6_isWithin cX6_isWithin 2 (some .boolean), Cond.methodLink RX6 135 yX5_key, Cond.instanceMethod yX5_key, Cond.selects RX5 yX5_key yX5_key, Cond.code yX5_key cX5_key 2 (some .int), Cond.fieldLink RX5 9 "LoopMemo$Table" "keys" "[I", Cond.methodLink RX6 138 yX5_value]
def wsX6_row_r2 : List Cond := [Cond.instanceMethod yX5_value, Cond.selects RX5 yX5_value yX5_value, Cond.code yX5_value cX5_value 2 (some .int), Cond.fieldLink RX5 15 "LoopMemo$Table" "values" "[I", Cond.methodLink RX6 141 yX4_isInRememberedAnswer, Cond.instanceMethod yX4_isInRememberedAnswer, Cond.selects RX4 yX4_isInRememberedAnswer yX4_isInRememberedAnswer, Cond.code yX4_isInRememberedAnswer cX4_isInRememberedAnswer 2 (some .boolean), Cond.fieldLink RX4 31 "LoopMemo$State" "memo" "LLoopMemo$Memo;", Cond.methodLink RX4 71 yX5_key, Cond.methodLink RX4 75 yX2_holds, Cond.instanceMethod yX2_holds, Cond.selects RX2 yX2_holds yX2_holds, Cond.initialized RX2, Cond.code yX2_holds cX2_holds 2 (some .boolean), Cond.fieldLink RX2 9 "LoopMemo$Memo" "uses" "[I", Cond.methodLink RX4 79 yX5_value, Cond.methodLink RX4 82 yX4_isInBand, Cond.instanceMethod yX4_isInBand, Cond.selects RX4 yX4_isInBand yX4_isInBand, Cond.code yX4_isInBand cX4_isInBand 2 (some .boolean), Cond.fieldLink RX4 44 "LoopMemo$State" "settings" "[I", Cond.methodLink RX6 144 yX4_isDone, Cond.instanceMethod yX4_isDone]
def wsX6_row_r3 : List Cond := [Cond.selects RX4 yX4_isDone yX4_isDone, Cond.code yX4_isDone cX4_isDone 2 (some .boolean), Cond.fieldLink RX4 64 "LoopMemo$State" "place" "I"]
def wsX6_row : List Cond := .code yX6_row cX6_row 5 (some .int) :: ((wsX6_row_r1 ++ (wsX6_row_r2 ++ wsX6_row_r3)) ++ wsX60 ++ wsX40 ++ wsX50 ++ wsX20)
def wsX6_answer_r1 : List Cond := [Cond.fieldLink RX6 10 "LoopMemo" "now" "LLoopMemo$State;", Cond.methodLink RX6 147 yX6_isKey, Cond.static yX6_isKey, Cond.initialized RX6, Cond.code yX6_isKey cX6_isKey 1 (some .boolean), Cond.methodLink RX6 76 yX6_isWithin, Cond.static yX6_isWithin, Cond.code yX6_isWithin cX6_isWithin 2 (some .boolean), Cond.methodLink RX6 150 yX4_answers, Cond.instanceMethod yX4_answers, Cond.selects RX4 yX4_answers yX4_answers, Cond.initialized RX4, Cond.code yX4_answers cX4_answers 1 (some (.object "LoopMemo$Answers")), Cond.fieldLink RX4 24 "LoopMemo$State" "answers" "LLoopMemo$Answers;", Cond.methodLink RX6 154 yX0_tell, Cond.instanceMethod yX0_tell, Cond.selects RX0 yX0_tell yX0_tell, Cond.initialized RX0, Cond.code yX0_tell cX0_tell 3 (some .int), Cond.fieldLink RX0 9 "LoopMemo$Answers" "rows" "[I", Cond.fieldLink RX0 15 "LoopMemo$Answers" "sums" "[I", Cond.fieldLink RX0 18 "LoopMemo$Answers" "firstRows" "[I", Cond.methodLink RX0 38 yX0_weight, Cond.instanceMethod yX0_weight]
def wsX6_answer_r2 : List Cond := [Cond.selects RX0 yX0_weight yX0_weight, Cond.code yX0_weight cX0_weight 2 (some .int)]
def wsX6_answer : List Cond := .code yX6_answer cX6_answer 3 (some .int) :: ((wsX6_answer_r1 ++ wsX6_answer_r2) ++ wsX60 ++ wsX40 ++ wsX00)
def wsX6_remembered_r1 : List Cond := [Cond.fieldLink RX6 10 "LoopMemo" "now" "LLoopMemo$State;", Cond.methodLink RX6 147 yX6_isKey, Cond.static yX6_isKey, Cond.initialized RX6, Cond.code yX6_isKey cX6_isKey 1 (some .boolean), Cond.methodLink RX6 76 yX6_isWithin, Cond.static yX6_isWithin, Cond.code yX6_isWithin cX6_isWithin 2 (some .boolean), Cond.methodLink RX6 159 yX4_memo, Cond.instanceMethod yX4_memo, Cond.selects RX4 yX4_memo yX4_memo, Cond.initialized RX4, Cond.code yX4_memo cX4_memo 1 (some (.object "LoopMemo$Memo")), Cond.fieldLink RX4 31 "LoopMemo$State" "memo" "LLoopMemo$Memo;", Cond.methodLink RX6 163 yX2_holds, Cond.instanceMethod yX2_holds, Cond.selects RX2 yX2_holds yX2_holds, Cond.initialized RX2, Cond.code yX2_holds cX2_holds 2 (some .boolean), Cond.fieldLink RX2 9 "LoopMemo$Memo" "uses" "[I", Cond.methodLink RX6 168 yX2_uses, Cond.instanceMethod yX2_uses, Cond.selects RX2 yX2_uses yX2_uses, Cond.code yX2_uses cX2_uses 2 (some .int)]
def wsX6_remembered_r2 : List Cond := [Cond.methodLink RX6 171 yX4_setting, Cond.instanceMethod yX4_setting, Cond.selects RX4 yX4_setting yX4_setting, Cond.code yX4_setting cX4_setting 2 (some .int), Cond.fieldLink RX4 44 "LoopMemo$State" "settings" "[I", Cond.methodLink RX6 174 yX2_placeOf, Cond.instanceMethod yX2_placeOf, Cond.selects RX2 yX2_placeOf yX2_placeOf, Cond.code yX2_placeOf cX2_placeOf 5 (some .int), Cond.methodLink RX2 33 yX2_rank, Cond.instanceMethod yX2_rank, Cond.selects RX2 yX2_rank yX2_rank, Cond.code yX2_rank cX2_rank 3 (some .long), Cond.fieldLink RX2 18 "LoopMemo$Memo" "firstLooks" "[I", Cond.fieldLink RX2 15 "LoopMemo$Memo" "lastLooks" "[I", Cond.methodLink RX6 150 yX4_answers, Cond.instanceMethod yX4_answers, Cond.selects RX4 yX4_answers yX4_answers, Cond.code yX4_answers cX4_answers 1 (some (.object "LoopMemo$Answers")), Cond.fieldLink RX4 24 "LoopMemo$State" "answers" "LLoopMemo$Answers;", Cond.methodLink RX6 154 yX0_tell, Cond.instanceMethod yX0_tell, Cond.selects RX0 yX0_tell yX0_tell, Cond.initialized RX0]
def wsX6_remembered_r3 : List Cond := [Cond.code yX0_tell cX0_tell 3 (some .int), Cond.fieldLink RX0 9 "LoopMemo$Answers" "rows" "[I", Cond.fieldLink RX0 15 "LoopMemo$Answers" "sums" "[I", Cond.fieldLink RX0 18 "LoopMemo$Answers" "firstRows" "[I", Cond.methodLink RX0 38 yX0_weight, Cond.instanceMethod yX0_weight, Cond.selects RX0 yX0_weight yX0_weight, Cond.code yX0_weight cX0_weight 2 (some .int)]
def wsX6_remembered : List Cond := .code yX6_remembered cX6_remembered 3 (some .int) :: ((wsX6_remembered_r1 ++ (wsX6_remembered_r2 ++ wsX6_remembered_r3)) ++ wsX60 ++ wsX40 ++ wsX20 ++ wsX00)
def wsX6_count_r1 : List Cond := [Cond.fieldLink RX6 10 "LoopMemo" "now" "LLoopMemo$State;", Cond.fieldLink RX6 32 "LoopMemo" "pad" "LLoopMemo$Pad;", Cond.fieldLink RX6 25 "LoopMemo" "history" "LLoopMemo$History;", Cond.methodLink RX6 87 yX4_table, Cond.instanceMethod yX4_table, Cond.selects RX4 yX4_table yX4_table, Cond.initialized RX4, Cond.code yX4_table cX4_table 2 (some (.object "LoopMemo$Table")), Cond.fieldLink RX4 18 "LoopMemo$State" "inner" "LLoopMemo$Table;", Cond.fieldLink RX4 12 "LoopMemo$State" "outer" "LLoopMemo$Table;", Cond.methodLink RX6 91 yX5_size, Cond.instanceMethod yX5_size, Cond.selects RX5 yX5_size yX5_size, Cond.initialized RX5, Cond.code yX5_size cX5_size 1 (some .int), Cond.fieldLink RX5 22 "LoopMemo$Table" "size" "I", Cond.methodLink RX6 159 yX4_memo, Cond.instanceMethod yX4_memo, Cond.selects RX4 yX4_memo yX4_memo, Cond.code yX4_memo cX4_memo 1 (some (.object "LoopMemo$Memo")), Cond.fieldLink RX4 31 "LoopMemo$State" "memo" "LLoopMemo$Memo;", Cond.methodLink RX6 177 yX2_size, Cond.instanceMethod yX2_size, Cond.selects RX2 yX2_size yX2_size]
def wsX6_count_r2 : List Cond := [Cond.initialized RX2, Cond.code yX2_size cX2_size 3 (some .int), Cond.fieldLink RX2 9 "LoopMemo$Memo" "uses" "[I", Cond.methodLink RX6 178 yX4_weightTogether, Cond.instanceMethod yX4_weightTogether, Cond.selects RX4 yX4_weightTogether yX4_weightTogether, Cond.code yX4_weightTogether cX4_weightTogether 3 (some .int), Cond.fieldLink RX4 24 "LoopMemo$State" "answers" "LLoopMemo$Answers;", Cond.methodLink RX4 75 yX2_holds, Cond.instanceMethod yX2_holds, Cond.selects RX2 yX2_holds yX2_holds, Cond.code yX2_holds cX2_holds 2 (some .boolean), Cond.methodLink RX4 140 yX0_weight, Cond.instanceMethod yX0_weight, Cond.selects RX0 yX0_weight yX0_weight, Cond.initialized RX0, Cond.code yX0_weight cX0_weight 2 (some .int), Cond.fieldLink RX0 9 "LoopMemo$Answers" "rows" "[I", Cond.methodLink RX6 181 yX4_place, Cond.instanceMethod yX4_place, Cond.selects RX4 yX4_place yX4_place, Cond.code yX4_place cX4_place 1 (some .int), Cond.fieldLink RX4 64 "LoopMemo$State" "place" "I", Cond.methodLink RX6 184 yX4_totalSoFar]
def wsX6_count_r3 : List Cond := [Cond.instanceMethod yX4_totalSoFar, Cond.selects RX4 yX4_totalSoFar yX4_totalSoFar, Cond.code yX4_totalSoFar cX4_totalSoFar 1 (some .int), Cond.fieldLink RX4 68 "LoopMemo$State" "total" "I", Cond.methodLink RX6 171 yX4_setting, Cond.instanceMethod yX4_setting, Cond.selects RX4 yX4_setting yX4_setting, Cond.code yX4_setting cX4_setting 2 (some .int), Cond.fieldLink RX4 44 "LoopMemo$State" "settings" "[I", Cond.methodLink RX6 187 yX3_size, Cond.instanceMethod yX3_size, Cond.selects RX3 yX3_size yX3_size, Cond.initialized RX3, Cond.code yX3_size cX3_size 1 (some .int), Cond.fieldLink RX3 15 "LoopMemo$Pad" "size" "I", Cond.methodLink RX6 188 yX1_size, Cond.instanceMethod yX1_size, Cond.selects RX1 yX1_size yX1_size, Cond.initialized RX1, Cond.code yX1_size cX1_size 1 (some .int), Cond.fieldLink RX1 18 "LoopMemo$History" "size" "I", Cond.methodLink RX6 76 yX6_isWithin, Cond.static yX6_isWithin, Cond.initialized RX6]
def wsX6_count_r4 : List Cond := [Cond.code yX6_isWithin cX6_isWithin 2 (some .boolean), Cond.methodLink RX6 189 yX4_tally, Cond.instanceMethod yX4_tally, Cond.selects RX4 yX4_tally yX4_tally, Cond.code yX4_tally cX4_tally 2 (some .int), Cond.fieldLink RX4 47 "LoopMemo$State" "tallies" "[I"]
def wsX6_count : List Cond := .code yX6_count cX6_count 2 (some .int) :: ((wsX6_count_r1 ++ (wsX6_count_r2 ++ (wsX6_count_r3 ++ wsX6_count_r4))) ++ wsX60 ++ wsX40 ++ wsX50 ++ wsX20 ++ wsX00 ++ wsX30 ++ wsX10)
def wsX6_total_r1 : List Cond := [Cond.fieldLink RX6 10 "LoopMemo" "now" "LLoopMemo$State;", Cond.methodLink RX6 76 yX6_isWithin, Cond.static yX6_isWithin, Cond.initialized RX6, Cond.code yX6_isWithin cX6_isWithin 2 (some .boolean), Cond.methodLink RX6 192 yX4_totalByAnswers, Cond.instanceMethod yX4_totalByAnswers, Cond.selects RX4 yX4_totalByAnswers yX4_totalByAnswers, Cond.initialized RX4, Cond.code yX4_totalByAnswers cX4_totalByAnswers 3 (some .int), Cond.fieldLink RX4 12 "LoopMemo$State" "outer" "LLoopMemo$Table;", Cond.fieldLink RX4 24 "LoopMemo$State" "answers" "LLoopMemo$Answers;", Cond.methodLink RX4 93 yX5_size, Cond.instanceMethod yX5_size, Cond.selects RX5 yX5_size yX5_size, Cond.initialized RX5, Cond.code yX5_size cX5_size 1 (some .int), Cond.fieldLink RX5 22 "LoopMemo$Table" "size" "I", Cond.methodLink RX4 79 yX5_value, Cond.instanceMethod yX5_value, Cond.selects RX5 yX5_value yX5_value, Cond.code yX5_value cX5_value 2 (some .int), Cond.fieldLink RX5 15 "LoopMemo$Table" "values" "[I", Cond.methodLink RX4 71 yX5_key]
def wsX6_total_r2 : List Cond := [Cond.instanceMethod yX5_key, Cond.selects RX5 yX5_key yX5_key, Cond.code yX5_key cX5_key 2 (some .int), Cond.fieldLink RX5 9 "LoopMemo$Table" "keys" "[I", Cond.methodLink RX4 122 yX0_sum, Cond.instanceMethod yX0_sum, Cond.selects RX0 yX0_sum yX0_sum, Cond.initialized RX0, Cond.code yX0_sum cX0_sum 2 (some .int), Cond.fieldLink RX0 15 "LoopMemo$Answers" "sums" "[I", Cond.methodLink RX6 195 yX4_totalByRows, Cond.instanceMethod yX4_totalByRows, Cond.selects RX4 yX4_totalByRows yX4_totalByRows, Cond.code yX4_totalByRows cX4_totalByRows 4 (some .int), Cond.fieldLink RX4 18 "LoopMemo$State" "inner" "LLoopMemo$Table;", Cond.methodLink RX4 82 yX4_isInBand, Cond.instanceMethod yX4_isInBand, Cond.selects RX4 yX4_isInBand yX4_isInBand, Cond.code yX4_isInBand cX4_isInBand 2 (some .boolean), Cond.fieldLink RX4 44 "LoopMemo$State" "settings" "[I"]
def wsX6_total : List Cond := .code yX6_total cX6_total 2 (some .int) :: ((wsX6_total_r1 ++ wsX6_total_r2) ++ wsX60 ++ wsX40 ++ wsX50 ++ wsX00)
def wsX6_rate : List Cond := .code yX6_rate cX6_rate 3 (some .double) :: ([.fieldLink RX6 10 "LoopMemo" "now" "LLoopMemo$State;", .methodLink RX6 189 yX4_tally, .instanceMethod yX4_tally, .selects RX4 yX4_tally yX4_tally, .initialized RX4, .code yX4_tally cX4_tally 2 (some .int), .fieldLink RX4 47 "LoopMemo$State" "tallies" "[I"] ++ wsX60 ++ wsX40)
def wsX6_tryBound_r1 : List Cond := [Cond.fieldLink RX6 16 "LoopMemo" "trial" "LLoopMemo$State;", Cond.fieldLink RX6 10 "LoopMemo" "now" "LLoopMemo$State;", Cond.methodLink RX6 205 yX4_copyFrom, Cond.instanceMethod yX4_copyFrom, Cond.selects RX4 yX4_copyFrom yX4_copyFrom, Cond.initialized RX4, Cond.code yX4_copyFrom cX4_copyFrom 2 none, Cond.fieldLink RX4 12 "LoopMemo$State" "outer" "LLoopMemo$Table;", Cond.fieldLink RX4 18 "LoopMemo$State" "inner" "LLoopMemo$Table;", Cond.fieldLink RX4 24 "LoopMemo$State" "answers" "LLoopMemo$Answers;", Cond.fieldLink RX4 31 "LoopMemo$State" "memo" "LLoopMemo$Memo;", Cond.fieldLink RX4 44 "LoopMemo$State" "settings" "[I", Cond.fieldLink RX4 47 "LoopMemo$State" "tallies" "[I", Cond.fieldLink RX4 64 "LoopMemo$State" "place" "I", Cond.fieldLink RX4 68 "LoopMemo$State" "total" "I", Cond.methodLink RX4 50 yX5_copyFrom, Cond.instanceMethod yX5_copyFrom, Cond.selects RX5 yX5_copyFrom yX5_copyFrom, Cond.initialized RX5, Cond.code yX5_copyFrom cX5_copyFrom 2 none, Cond.fieldLink RX5 9 "LoopMemo$Table" "keys" "[I", Cond.fieldLink RX5 15 "LoopMemo$Table" "values" "[I", Cond.fieldLink RX5 22 "LoopMemo$Table" "size" "I", Cond.static yX6_copyNumbers]
def wsX6_tryBound_r2 : List Cond := [Cond.initialized RX6, Cond.code yX6_copyNumbers cX6_copyNumbers 2 none, Cond.methodLink RX6 117 Lib.Math.min.name, Cond.static Lib.Math.min.name, Cond.initialized "java/lang/Math", Cond.code Lib.Math.min.name Lib.Math.min.code 2 (some .int), Cond.methodLink RX6 225 arraycopyName, Cond.native arraycopyName, Cond.static arraycopyName, Cond.initialized "java/lang/System", Cond.methodLink RX4 54 yX0_copyFrom, Cond.instanceMethod yX0_copyFrom, Cond.selects RX0 yX0_copyFrom yX0_copyFrom, Cond.initialized RX0, Cond.code yX0_copyFrom cX0_copyFrom 2 none, Cond.fieldLink RX0 9 "LoopMemo$Answers" "rows" "[I", Cond.fieldLink RX0 15 "LoopMemo$Answers" "sums" "[I", Cond.fieldLink RX0 18 "LoopMemo$Answers" "firstRows" "[I", Cond.methodLink RX4 57 yX2_copyFrom, Cond.instanceMethod yX2_copyFrom, Cond.selects RX2 yX2_copyFrom yX2_copyFrom, Cond.initialized RX2, Cond.code yX2_copyFrom cX2_copyFrom 2 none, Cond.fieldLink RX2 9 "LoopMemo$Memo" "uses" "[I"]
def wsX6_tryBound_r3 : List Cond := [Cond.fieldLink RX2 15 "LoopMemo$Memo" "lastLooks" "[I", Cond.fieldLink RX2 18 "LoopMemo$Memo" "firstLooks" "[I", Cond.fieldLink RX2 25 "LoopMemo$Memo" "looks" "I", Cond.methodLink RX6 66 yX4_adjust, Cond.instanceMethod yX4_adjust, Cond.selects RX4 yX4_adjust yX4_adjust, Cond.code yX4_adjust cX4_adjust 3 (some .int), Cond.fieldLink RX4 128 "LoopMemo$State" "HIGHEST_SETTINGS" "[I", Cond.methodLink RX4 131 yX4_makeRoom, Cond.instanceMethod yX4_makeRoom, Cond.selects RX4 yX4_makeRoom yX4_makeRoom, Cond.code yX4_makeRoom cX4_makeRoom 5 (some .int), Cond.methodLink RX4 149 yX4_weightTogether, Cond.instanceMethod yX4_weightTogether, Cond.selects RX4 yX4_weightTogether yX4_weightTogether, Cond.code yX4_weightTogether cX4_weightTogether 3 (some .int), Cond.methodLink RX4 75 yX2_holds, Cond.instanceMethod yX2_holds, Cond.selects RX2 yX2_holds yX2_holds, Cond.code yX2_holds cX2_holds 2 (some .boolean), Cond.methodLink RX4 140 yX0_weight, Cond.instanceMethod yX0_weight, Cond.selects RX0 yX0_weight yX0_weight, Cond.code yX0_weight cX0_weight 2 (some .int)]
def wsX6_tryBound_r4 : List Cond := [Cond.methodLink RX4 152 yX2_firstOut, Cond.instanceMethod yX2_firstOut, Cond.selects RX2 yX2_firstOut yX2_firstOut, Cond.code yX2_firstOut cX2_firstOut 5 (some .int), Cond.methodLink RX2 33 yX2_rank, Cond.instanceMethod yX2_rank, Cond.selects RX2 yX2_rank yX2_rank, Cond.code yX2_rank cX2_rank 3 (some .long), Cond.methodLink RX4 156 yX2_lose, Cond.instanceMethod yX2_lose, Cond.selects RX2 yX2_lose yX2_lose, Cond.code yX2_lose cX2_lose 2 none, Cond.methodLink RX4 134 yX4_findAnswers, Cond.instanceMethod yX4_findAnswers, Cond.selects RX4 yX4_findAnswers yX4_findAnswers, Cond.code yX4_findAnswers cX4_findAnswers 1 none, Cond.methodLink RX4 162 yX0_find, Cond.instanceMethod yX0_find, Cond.selects RX0 yX0_find yX0_find, Cond.code yX0_find cX0_find 7 none, Cond.methodLink RX0 25 yX5_size, Cond.instanceMethod yX5_size, Cond.selects RX5 yX5_size yX5_size, Cond.code yX5_size cX5_size 1 (some .int)]
def wsX6_tryBound_r5 : List Cond := [Cond.methodLink RX0 31 yX5_value, Cond.instanceMethod yX5_value, Cond.selects RX5 yX5_value yX5_value, Cond.code yX5_value cX5_value 2 (some .int), Cond.methodLink RX0 35 yX5_key, Cond.instanceMethod yX5_key, Cond.selects RX5 yX5_key yX5_key, Cond.code yX5_key cX5_key 2 (some .int), Cond.methodLink RX4 137 yX4_throwAllOut, Cond.instanceMethod yX4_throwAllOut, Cond.selects RX4 yX4_throwAllOut yX4_throwAllOut, Cond.code yX4_throwAllOut cX4_throwAllOut 2 (some .int), Cond.methodLink RX4 125 yX2_loseAll, Cond.instanceMethod yX2_loseAll, Cond.selects RX2 yX2_loseAll yX2_loseAll, Cond.code yX2_loseAll cX2_loseAll 3 (some .int), Cond.methodLink RX2 29 yX2_size, Cond.instanceMethod yX2_size, Cond.selects RX2 yX2_size yX2_size, Cond.code yX2_size cX2_size 3 (some .int), Cond.methodLink RX6 56 yX4_walk, Cond.instanceMethod yX4_walk, Cond.selects RX4 yX4_walk yX4_walk, Cond.code yX4_walk cX4_walk 5 (some .int)]
def wsX6_tryBound_r6 : List Cond := [Cond.methodLink RX4 93 yX5_size, Cond.methodLink RX4 71 yX5_key, Cond.methodLink RX4 119 yX4_lookUp, Cond.instanceMethod yX4_lookUp, Cond.selects RX4 yX4_lookUp yX4_lookUp, Cond.code yX4_lookUp cX4_lookUp 2 none, Cond.methodLink RX4 143 yX2_touch, Cond.instanceMethod yX2_touch, Cond.selects RX2 yX2_touch yX2_touch, Cond.code yX2_touch cX2_touch 2 none, Cond.methodLink RX4 146 yX2_take, Cond.instanceMethod yX2_take, Cond.selects RX2 yX2_take yX2_take, Cond.code yX2_take cX2_take 2 none, Cond.methodLink RX4 79 yX5_value, Cond.methodLink RX4 122 yX0_sum, Cond.instanceMethod yX0_sum, Cond.selects RX0 yX0_sum yX0_sum, Cond.code yX0_sum cX0_sum 2 (some .int)]
def wsX6_tryBound : List Cond := .code yX6_tryBound cX6_tryBound 2 none :: ((wsX6_tryBound_r1 ++ (wsX6_tryBound_r2 ++ (wsX6_tryBound_r3 ++ (wsX6_tryBound_r4 ++ (wsX6_tryBound_r5 ++ wsX6_tryBound_r6))))) ++ wsX60 ++ wsX40 ++ wsX50 ++ wsX00 ++ wsX20)
def wsX6_brought : List Cond := .code yX6_brought cX6_brought 2 (some .int) :: ([.fieldLink RX6 16 "LoopMemo" "trial" "LLoopMemo$State;", .fieldLink RX6 10 "LoopMemo" "now" "LLoopMemo$State;", .methodLink RX6 189 yX4_tally, .instanceMethod yX4_tally, .selects RX4 yX4_tally yX4_tally, .initialized RX4, .code yX4_tally cX4_tally 2 (some .int), .fieldLink RX4 47 "LoopMemo$State" "tallies" "[I"] ++ wsX60 ++ wsX40)
def wsX6_ifBound_r1 : List Cond := [Cond.methodLink RX6 76 yX6_isWithin, Cond.static yX6_isWithin, Cond.initialized RX6, Cond.code yX6_isWithin cX6_isWithin 2 (some .boolean), Cond.methodLink RX6 198 yX6_tryBound, Cond.instanceMethod yX6_tryBound, Cond.selects RX6 yX6_tryBound yX6_tryBound, Cond.code yX6_tryBound cX6_tryBound 2 none, Cond.fieldLink RX6 16 "LoopMemo" "trial" "LLoopMemo$State;", Cond.fieldLink RX6 10 "LoopMemo" "now" "LLoopMemo$State;", Cond.methodLink RX6 205 yX4_copyFrom, Cond.instanceMethod yX4_copyFrom, Cond.selects RX4 yX4_copyFrom yX4_copyFrom, Cond.initialized RX4, Cond.code yX4_copyFrom cX4_copyFrom 2 none, Cond.fieldLink RX4 12 "LoopMemo$State" "outer" "LLoopMemo$Table;", Cond.fieldLink RX4 18 "LoopMemo$State" "inner" "LLoopMemo$Table;", Cond.fieldLink RX4 24 "LoopMemo$State" "answers" "LLoopMemo$Answers;", Cond.fieldLink RX4 31 "LoopMemo$State" "memo" "LLoopMemo$Memo;", Cond.fieldLink RX4 44 "LoopMemo$State" "settings" "[I", Cond.fieldLink RX4 47 "LoopMemo$State" "tallies" "[I", Cond.fieldLink RX4 64 "LoopMemo$State" "place" "I", Cond.fieldLink RX4 68 "LoopMemo$State" "total" "I", Cond.methodLink RX4 50 yX5_copyFrom]
def wsX6_ifBound_r2 : List Cond := [Cond.instanceMethod yX5_copyFrom, Cond.selects RX5 yX5_copyFrom yX5_copyFrom, Cond.initialized RX5, Cond.code yX5_copyFrom cX5_copyFrom 2 none, Cond.fieldLink RX5 9 "LoopMemo$Table" "keys" "[I", Cond.fieldLink RX5 15 "LoopMemo$Table" "values" "[I", Cond.fieldLink RX5 22 "LoopMemo$Table" "size" "I", Cond.static yX6_copyNumbers, Cond.code yX6_copyNumbers cX6_copyNumbers 2 none, Cond.methodLink RX6 117 Lib.Math.min.name, Cond.static Lib.Math.min.name, Cond.initialized "java/lang/Math", Cond.code Lib.Math.min.name Lib.Math.min.code 2 (some .int), Cond.methodLink RX6 225 arraycopyName, Cond.native arraycopyName, Cond.static arraycopyName, Cond.initialized "java/lang/System", Cond.methodLink RX4 54 yX0_copyFrom, Cond.instanceMethod yX0_copyFrom, Cond.selects RX0 yX0_copyFrom yX0_copyFrom, Cond.initialized RX0, Cond.code yX0_copyFrom cX0_copyFrom 2 none, Cond.fieldLink RX0 9 "LoopMemo$Answers" "rows" "[I", Cond.fieldLink RX0 15 "LoopMemo$Answers" "sums" "[I"]
def wsX6_ifBound_r3 : List Cond := [Cond.fieldLink RX0 18 "LoopMemo$Answers" "firstRows" "[I", Cond.methodLink RX4 57 yX2_copyFrom, Cond.instanceMethod yX2_copyFrom, Cond.selects RX2 yX2_copyFrom yX2_copyFrom, Cond.initialized RX2, Cond.code yX2_copyFrom cX2_copyFrom 2 none, Cond.fieldLink RX2 9 "LoopMemo$Memo" "uses" "[I", Cond.fieldLink RX2 15 "LoopMemo$Memo" "lastLooks" "[I", Cond.fieldLink RX2 18 "LoopMemo$Memo" "firstLooks" "[I", Cond.fieldLink RX2 25 "LoopMemo$Memo" "looks" "I", Cond.methodLink RX6 66 yX4_adjust, Cond.instanceMethod yX4_adjust, Cond.selects RX4 yX4_adjust yX4_adjust, Cond.code yX4_adjust cX4_adjust 3 (some .int), Cond.fieldLink RX4 128 "LoopMemo$State" "HIGHEST_SETTINGS" "[I", Cond.methodLink RX4 131 yX4_makeRoom, Cond.instanceMethod yX4_makeRoom, Cond.selects RX4 yX4_makeRoom yX4_makeRoom, Cond.code yX4_makeRoom cX4_makeRoom 5 (some .int), Cond.methodLink RX4 149 yX4_weightTogether, Cond.instanceMethod yX4_weightTogether, Cond.selects RX4 yX4_weightTogether yX4_weightTogether, Cond.code yX4_weightTogether cX4_weightTogether 3 (some .int), Cond.methodLink RX4 75 yX2_holds]
def wsX6_ifBound_r4 : List Cond := [Cond.instanceMethod yX2_holds, Cond.selects RX2 yX2_holds yX2_holds, Cond.code yX2_holds cX2_holds 2 (some .boolean), Cond.methodLink RX4 140 yX0_weight, Cond.instanceMethod yX0_weight, Cond.selects RX0 yX0_weight yX0_weight, Cond.code yX0_weight cX0_weight 2 (some .int), Cond.methodLink RX4 152 yX2_firstOut, Cond.instanceMethod yX2_firstOut, Cond.selects RX2 yX2_firstOut yX2_firstOut, Cond.code yX2_firstOut cX2_firstOut 5 (some .int), Cond.methodLink RX2 33 yX2_rank, Cond.instanceMethod yX2_rank, Cond.selects RX2 yX2_rank yX2_rank, Cond.code yX2_rank cX2_rank 3 (some .long), Cond.methodLink RX4 156 yX2_lose, Cond.instanceMethod yX2_lose, Cond.selects RX2 yX2_lose yX2_lose, Cond.code yX2_lose cX2_lose 2 none, Cond.methodLink RX4 134 yX4_findAnswers, Cond.instanceMethod yX4_findAnswers, Cond.selects RX4 yX4_findAnswers yX4_findAnswers, Cond.code yX4_findAnswers cX4_findAnswers 1 none, Cond.methodLink RX4 162 yX0_find]
def wsX6_ifBound_r5 : List Cond := [Cond.instanceMethod yX0_find, Cond.selects RX0 yX0_find yX0_find, Cond.code yX0_find cX0_find 7 none, Cond.methodLink RX0 25 yX5_size, Cond.instanceMethod yX5_size, Cond.selects RX5 yX5_size yX5_size, Cond.code yX5_size cX5_size 1 (some .int), Cond.methodLink RX0 31 yX5_value, Cond.instanceMethod yX5_value, Cond.selects RX5 yX5_value yX5_value, Cond.code yX5_value cX5_value 2 (some .int), Cond.methodLink RX0 35 yX5_key, Cond.instanceMethod yX5_key, Cond.selects RX5 yX5_key yX5_key, Cond.code yX5_key cX5_key 2 (some .int), Cond.methodLink RX4 137 yX4_throwAllOut, Cond.instanceMethod yX4_throwAllOut, Cond.selects RX4 yX4_throwAllOut yX4_throwAllOut, Cond.code yX4_throwAllOut cX4_throwAllOut 2 (some .int), Cond.methodLink RX4 125 yX2_loseAll, Cond.instanceMethod yX2_loseAll, Cond.selects RX2 yX2_loseAll yX2_loseAll, Cond.code yX2_loseAll cX2_loseAll 3 (some .int), Cond.methodLink RX2 29 yX2_size]
def wsX6_ifBound_r6 : List Cond := [Cond.instanceMethod yX2_size, Cond.selects RX2 yX2_size yX2_size, Cond.code yX2_size cX2_size 3 (some .int), Cond.methodLink RX6 56 yX4_walk, Cond.instanceMethod yX4_walk, Cond.selects RX4 yX4_walk yX4_walk, Cond.code yX4_walk cX4_walk 5 (some .int), Cond.methodLink RX4 93 yX5_size, Cond.methodLink RX4 71 yX5_key, Cond.methodLink RX4 119 yX4_lookUp, Cond.instanceMethod yX4_lookUp, Cond.selects RX4 yX4_lookUp yX4_lookUp, Cond.code yX4_lookUp cX4_lookUp 2 none, Cond.methodLink RX4 143 yX2_touch, Cond.instanceMethod yX2_touch, Cond.selects RX2 yX2_touch yX2_touch, Cond.code yX2_touch cX2_touch 2 none, Cond.methodLink RX4 146 yX2_take, Cond.instanceMethod yX2_take, Cond.selects RX2 yX2_take yX2_take, Cond.code yX2_take cX2_take 2 none, Cond.methodLink RX4 79 yX5_value, Cond.methodLink RX4 122 yX0_sum, Cond.instanceMethod yX0_sum]
def wsX6_ifBound_r7 : List Cond := [Cond.selects RX0 yX0_sum yX0_sum, Cond.code yX0_sum cX0_sum 2 (some .int), Cond.methodLink RX6 202 yX6_brought, Cond.instanceMethod yX6_brought, Cond.selects RX6 yX6_brought yX6_brought, Cond.code yX6_brought cX6_brought 2 (some .int), Cond.methodLink RX6 189 yX4_tally, Cond.instanceMethod yX4_tally, Cond.selects RX4 yX4_tally yX4_tally, Cond.code yX4_tally cX4_tally 2 (some .int)]
def wsX6_ifBound : List Cond := .code yX6_ifBound cX6_ifBound 3 (some .int) :: ((wsX6_ifBound_r1 ++ (wsX6_ifBound_r2 ++ (wsX6_ifBound_r3 ++ (wsX6_ifBound_r4 ++ (wsX6_ifBound_r5 ++ (wsX6_ifBound_r6 ++ wsX6_ifBound_r7)))))) ++ wsX60 ++ wsX40 ++ wsX50 ++ wsX00 ++ wsX20)
def wsX6_ifOrdered_r1 : List Cond := [Cond.fieldLink RX6 16 "LoopMemo" "trial" "LLoopMemo$State;", Cond.fieldLink RX6 10 "LoopMemo" "now" "LLoopMemo$State;", Cond.methodLink RX6 76 yX6_isWithin, Cond.static yX6_isWithin, Cond.initialized RX6, Cond.code yX6_isWithin cX6_isWithin 2 (some .boolean), Cond.methodLink RX6 205 yX4_copyFrom, Cond.instanceMethod yX4_copyFrom, Cond.selects RX4 yX4_copyFrom yX4_copyFrom, Cond.initialized RX4, Cond.code yX4_copyFrom cX4_copyFrom 2 none, Cond.fieldLink RX4 12 "LoopMemo$State" "outer" "LLoopMemo$Table;", Cond.fieldLink RX4 18 "LoopMemo$State" "inner" "LLoopMemo$Table;", Cond.fieldLink RX4 24 "LoopMemo$State" "answers" "LLoopMemo$Answers;", Cond.fieldLink RX4 31 "LoopMemo$State" "memo" "LLoopMemo$Memo;", Cond.fieldLink RX4 44 "LoopMemo$State" "settings" "[I", Cond.fieldLink RX4 47 "LoopMemo$State" "tallies" "[I", Cond.fieldLink RX4 64 "LoopMemo$State" "place" "I", Cond.fieldLink RX4 68 "LoopMemo$State" "total" "I", Cond.methodLink RX4 50 yX5_copyFrom, Cond.instanceMethod yX5_copyFrom, Cond.selects RX5 yX5_copyFrom yX5_copyFrom, Cond.initialized RX5, Cond.code yX5_copyFrom cX5_copyFrom 2 none]
def wsX6_ifOrdered_r2 : List Cond := [Cond.fieldLink RX5 9 "LoopMemo$Table" "keys" "[I", Cond.fieldLink RX5 15 "LoopMemo$Table" "values" "[I", Cond.fieldLink RX5 22 "LoopMemo$Table" "size" "I", Cond.static yX6_copyNumbers, Cond.code yX6_copyNumbers cX6_copyNumbers 2 none, Cond.methodLink RX6 117 Lib.Math.min.name, Cond.static Lib.Math.min.name, Cond.initialized "java/lang/Math", Cond.code Lib.Math.min.name Lib.Math.min.code 2 (some .int), Cond.methodLink RX6 225 arraycopyName, Cond.native arraycopyName, Cond.static arraycopyName, Cond.initialized "java/lang/System", Cond.methodLink RX4 54 yX0_copyFrom, Cond.instanceMethod yX0_copyFrom, Cond.selects RX0 yX0_copyFrom yX0_copyFrom, Cond.initialized RX0, Cond.code yX0_copyFrom cX0_copyFrom 2 none, Cond.fieldLink RX0 9 "LoopMemo$Answers" "rows" "[I", Cond.fieldLink RX0 15 "LoopMemo$Answers" "sums" "[I", Cond.fieldLink RX0 18 "LoopMemo$Answers" "firstRows" "[I", Cond.methodLink RX4 57 yX2_copyFrom, Cond.instanceMethod yX2_copyFrom, Cond.selects RX2 yX2_copyFrom yX2_copyFrom]
def wsX6_ifOrdered_r3 : List Cond := [Cond.initialized RX2, Cond.code yX2_copyFrom cX2_copyFrom 2 none, Cond.fieldLink RX2 9 "LoopMemo$Memo" "uses" "[I", Cond.fieldLink RX2 15 "LoopMemo$Memo" "lastLooks" "[I", Cond.fieldLink RX2 18 "LoopMemo$Memo" "firstLooks" "[I", Cond.fieldLink RX2 25 "LoopMemo$Memo" "looks" "I", Cond.methodLink RX6 87 yX4_table, Cond.instanceMethod yX4_table, Cond.selects RX4 yX4_table yX4_table, Cond.code yX4_table cX4_table 2 (some (.object "LoopMemo$Table")), Cond.methodLink RX6 181 yX4_place, Cond.instanceMethod yX4_place, Cond.selects RX4 yX4_place yX4_place, Cond.code yX4_place cX4_place 1 (some .int), Cond.methodLink RX6 208 yX5_sortFrom, Cond.instanceMethod yX5_sortFrom, Cond.selects RX5 yX5_sortFrom yX5_sortFrom, Cond.code yX5_sortFrom cX5_sortFrom 4 none, Cond.methodLink RX5 34 yX5_key, Cond.instanceMethod yX5_key, Cond.selects RX5 yX5_key yX5_key, Cond.code yX5_key cX5_key 2 (some .int), Cond.methodLink RX5 41 yX5_swap, Cond.instanceMethod yX5_swap]
def wsX6_ifOrdered_r4 : List Cond := [Cond.selects RX5 yX5_swap yX5_swap, Cond.code yX5_swap cX5_swap 5 none, Cond.methodLink RX5 38 yX5_value, Cond.instanceMethod yX5_value, Cond.selects RX5 yX5_value yX5_value, Cond.code yX5_value cX5_value 2 (some .int), Cond.methodLink RX5 26 yX5_put, Cond.instanceMethod yX5_put, Cond.selects RX5 yX5_put yX5_put, Cond.code yX5_put cX5_put 4 none, Cond.methodLink RX6 211 yX5_reverseFrom, Cond.instanceMethod yX5_reverseFrom, Cond.selects RX5 yX5_reverseFrom yX5_reverseFrom, Cond.code yX5_reverseFrom cX5_reverseFrom 4 none, Cond.methodLink RX6 56 yX4_walk, Cond.instanceMethod yX4_walk, Cond.selects RX4 yX4_walk yX4_walk, Cond.code yX4_walk cX4_walk 5 (some .int), Cond.methodLink RX4 93 yX5_size, Cond.instanceMethod yX5_size, Cond.selects RX5 yX5_size yX5_size, Cond.code yX5_size cX5_size 1 (some .int), Cond.methodLink RX4 71 yX5_key, Cond.methodLink RX4 119 yX4_lookUp]
def wsX6_ifOrdered_r5 : List Cond := [Cond.instanceMethod yX4_lookUp, Cond.selects RX4 yX4_lookUp yX4_lookUp, Cond.code yX4_lookUp cX4_lookUp 2 none, Cond.methodLink RX4 75 yX2_holds, Cond.instanceMethod yX2_holds, Cond.selects RX2 yX2_holds yX2_holds, Cond.code yX2_holds cX2_holds 2 (some .boolean), Cond.methodLink RX4 143 yX2_touch, Cond.instanceMethod yX2_touch, Cond.selects RX2 yX2_touch yX2_touch, Cond.code yX2_touch cX2_touch 2 none, Cond.methodLink RX4 140 yX0_weight, Cond.instanceMethod yX0_weight, Cond.selects RX0 yX0_weight yX0_weight, Cond.code yX0_weight cX0_weight 2 (some .int), Cond.methodLink RX4 146 yX2_take, Cond.instanceMethod yX2_take, Cond.selects RX2 yX2_take yX2_take, Cond.code yX2_take cX2_take 2 none, Cond.methodLink RX4 131 yX4_makeRoom, Cond.instanceMethod yX4_makeRoom, Cond.selects RX4 yX4_makeRoom yX4_makeRoom, Cond.code yX4_makeRoom cX4_makeRoom 5 (some .int), Cond.methodLink RX4 149 yX4_weightTogether]
def wsX6_ifOrdered_r6 : List Cond := [Cond.instanceMethod yX4_weightTogether, Cond.selects RX4 yX4_weightTogether yX4_weightTogether, Cond.code yX4_weightTogether cX4_weightTogether 3 (some .int), Cond.methodLink RX4 152 yX2_firstOut, Cond.instanceMethod yX2_firstOut, Cond.selects RX2 yX2_firstOut yX2_firstOut, Cond.code yX2_firstOut cX2_firstOut 5 (some .int), Cond.methodLink RX2 33 yX2_rank, Cond.instanceMethod yX2_rank, Cond.selects RX2 yX2_rank yX2_rank, Cond.code yX2_rank cX2_rank 3 (some .long), Cond.methodLink RX4 156 yX2_lose, Cond.instanceMethod yX2_lose, Cond.selects RX2 yX2_lose yX2_lose, Cond.code yX2_lose cX2_lose 2 none, Cond.methodLink RX4 79 yX5_value, Cond.methodLink RX4 122 yX0_sum, Cond.instanceMethod yX0_sum, Cond.selects RX0 yX0_sum yX0_sum, Cond.code yX0_sum cX0_sum 2 (some .int), Cond.methodLink RX6 202 yX6_brought, Cond.instanceMethod yX6_brought, Cond.selects RX6 yX6_brought yX6_brought, Cond.code yX6_brought cX6_brought 2 (some .int)]
def wsX6_ifOrdered_r7 : List Cond := [Cond.methodLink RX6 189 yX4_tally, Cond.instanceMethod yX4_tally, Cond.selects RX4 yX4_tally yX4_tally, Cond.code yX4_tally cX4_tally 2 (some .int)]
def wsX6_ifOrdered : List Cond := .code yX6_ifOrdered cX6_ifOrdered 2 (some .int) :: ((wsX6_ifOrdered_r1 ++ (wsX6_ifOrdered_r2 ++ (wsX6_ifOrdered_r3 ++ (wsX6_ifOrdered_r4 ++ (wsX6_ifOrdered_r5 ++ (wsX6_ifOrdered_r6 ++ wsX6_ifOrdered_r7)))))) ++ wsX60 ++ wsX40 ++ wsX50 ++ wsX00 ++ wsX20)
def wsX6_leastBound_r1 : List Cond := [Cond.methodLink RX6 198 yX6_tryBound, Cond.instanceMethod yX6_tryBound, Cond.selects RX6 yX6_tryBound yX6_tryBound, Cond.initialized RX6, Cond.code yX6_tryBound cX6_tryBound 2 none, Cond.fieldLink RX6 16 "LoopMemo" "trial" "LLoopMemo$State;", Cond.fieldLink RX6 10 "LoopMemo" "now" "LLoopMemo$State;", Cond.methodLink RX6 205 yX4_copyFrom, Cond.instanceMethod yX4_copyFrom, Cond.selects RX4 yX4_copyFrom yX4_copyFrom, Cond.initialized RX4, Cond.code yX4_copyFrom cX4_copyFrom 2 none, Cond.fieldLink RX4 12 "LoopMemo$State" "outer" "LLoopMemo$Table;", Cond.fieldLink RX4 18 "LoopMemo$State" "inner" "LLoopMemo$Table;", Cond.fieldLink RX4 24 "LoopMemo$State" "answers" "LLoopMemo$Answers;", Cond.fieldLink RX4 31 "LoopMemo$State" "memo" "LLoopMemo$Memo;", Cond.fieldLink RX4 44 "LoopMemo$State" "settings" "[I", Cond.fieldLink RX4 47 "LoopMemo$State" "tallies" "[I", Cond.fieldLink RX4 64 "LoopMemo$State" "place" "I", Cond.fieldLink RX4 68 "LoopMemo$State" "total" "I", Cond.methodLink RX4 50 yX5_copyFrom, Cond.instanceMethod yX5_copyFrom, Cond.selects RX5 yX5_copyFrom yX5_copyFrom, Cond.initialized RX5]
def wsX6_leastBound_r2 : List Cond := [Cond.code yX5_copyFrom cX5_copyFrom 2 none, Cond.fieldLink RX5 9 "LoopMemo$Table" "keys" "[I", Cond.fieldLink RX5 15 "LoopMemo$Table" "values" "[I", Cond.fieldLink RX5 22 "LoopMemo$Table" "size" "I", Cond.static yX6_copyNumbers, Cond.code yX6_copyNumbers cX6_copyNumbers 2 none, Cond.methodLink RX6 117 Lib.Math.min.name, Cond.static Lib.Math.min.name, Cond.initialized "java/lang/Math", Cond.code Lib.Math.min.name Lib.Math.min.code 2 (some .int), Cond.methodLink RX6 225 arraycopyName, Cond.native arraycopyName, Cond.static arraycopyName, Cond.initialized "java/lang/System", Cond.methodLink RX4 54 yX0_copyFrom, Cond.instanceMethod yX0_copyFrom, Cond.selects RX0 yX0_copyFrom yX0_copyFrom, Cond.initialized RX0, Cond.code yX0_copyFrom cX0_copyFrom 2 none, Cond.fieldLink RX0 9 "LoopMemo$Answers" "rows" "[I", Cond.fieldLink RX0 15 "LoopMemo$Answers" "sums" "[I", Cond.fieldLink RX0 18 "LoopMemo$Answers" "firstRows" "[I", Cond.methodLink RX4 57 yX2_copyFrom, Cond.instanceMethod yX2_copyFrom]
def wsX6_leastBound_r3 : List Cond := [Cond.selects RX2 yX2_copyFrom yX2_copyFrom, Cond.initialized RX2, Cond.code yX2_copyFrom cX2_copyFrom 2 none, Cond.fieldLink RX2 9 "LoopMemo$Memo" "uses" "[I", Cond.fieldLink RX2 15 "LoopMemo$Memo" "lastLooks" "[I", Cond.fieldLink RX2 18 "LoopMemo$Memo" "firstLooks" "[I", Cond.fieldLink RX2 25 "LoopMemo$Memo" "looks" "I", Cond.methodLink RX6 66 yX4_adjust, Cond.instanceMethod yX4_adjust, Cond.selects RX4 yX4_adjust yX4_adjust, Cond.code yX4_adjust cX4_adjust 3 (some .int), Cond.fieldLink RX4 128 "LoopMemo$State" "HIGHEST_SETTINGS" "[I", Cond.methodLink RX4 131 yX4_makeRoom, Cond.instanceMethod yX4_makeRoom, Cond.selects RX4 yX4_makeRoom yX4_makeRoom, Cond.code yX4_makeRoom cX4_makeRoom 5 (some .int), Cond.methodLink RX4 149 yX4_weightTogether, Cond.instanceMethod yX4_weightTogether, Cond.selects RX4 yX4_weightTogether yX4_weightTogether, Cond.code yX4_weightTogether cX4_weightTogether 3 (some .int), Cond.methodLink RX4 75 yX2_holds, Cond.instanceMethod yX2_holds, Cond.selects RX2 yX2_holds yX2_holds, Cond.code yX2_holds cX2_holds 2 (some .boolean)]
def wsX6_leastBound_r4 : List Cond := [Cond.methodLink RX4 140 yX0_weight, Cond.instanceMethod yX0_weight, Cond.selects RX0 yX0_weight yX0_weight, Cond.code yX0_weight cX0_weight 2 (some .int), Cond.methodLink RX4 152 yX2_firstOut, Cond.instanceMethod yX2_firstOut, Cond.selects RX2 yX2_firstOut yX2_firstOut, Cond.code yX2_firstOut cX2_firstOut 5 (some .int), Cond.methodLink RX2 33 yX2_rank, Cond.instanceMethod yX2_rank, Cond.selects RX2 yX2_rank yX2_rank, Cond.code yX2_rank cX2_rank 3 (some .long), Cond.methodLink RX4 156 yX2_lose, Cond.instanceMethod yX2_lose, Cond.selects RX2 yX2_lose yX2_lose, Cond.code yX2_lose cX2_lose 2 none, Cond.methodLink RX4 134 yX4_findAnswers, Cond.instanceMethod yX4_findAnswers, Cond.selects RX4 yX4_findAnswers yX4_findAnswers, Cond.code yX4_findAnswers cX4_findAnswers 1 none, Cond.methodLink RX4 162 yX0_find, Cond.instanceMethod yX0_find, Cond.selects RX0 yX0_find yX0_find, Cond.code yX0_find cX0_find 7 none]
def wsX6_leastBound_r5 : List Cond := [Cond.methodLink RX0 25 yX5_size, Cond.instanceMethod yX5_size, Cond.selects RX5 yX5_size yX5_size, Cond.code yX5_size cX5_size 1 (some .int), Cond.methodLink RX0 31 yX5_value, Cond.instanceMethod yX5_value, Cond.selects RX5 yX5_value yX5_value, Cond.code yX5_value cX5_value 2 (some .int), Cond.methodLink RX0 35 yX5_key, Cond.instanceMethod yX5_key, Cond.selects RX5 yX5_key yX5_key, Cond.code yX5_key cX5_key 2 (some .int), Cond.methodLink RX4 137 yX4_throwAllOut, Cond.instanceMethod yX4_throwAllOut, Cond.selects RX4 yX4_throwAllOut yX4_throwAllOut, Cond.code yX4_throwAllOut cX4_throwAllOut 2 (some .int), Cond.methodLink RX4 125 yX2_loseAll, Cond.instanceMethod yX2_loseAll, Cond.selects RX2 yX2_loseAll yX2_loseAll, Cond.code yX2_loseAll cX2_loseAll 3 (some .int), Cond.methodLink RX2 29 yX2_size, Cond.instanceMethod yX2_size, Cond.selects RX2 yX2_size yX2_size, Cond.code yX2_size cX2_size 3 (some .int)]
def wsX6_leastBound_r6 : List Cond := [Cond.methodLink RX6 56 yX4_walk, Cond.instanceMethod yX4_walk, Cond.selects RX4 yX4_walk yX4_walk, Cond.code yX4_walk cX4_walk 5 (some .int), Cond.methodLink RX4 93 yX5_size, Cond.methodLink RX4 71 yX5_key, Cond.methodLink RX4 119 yX4_lookUp, Cond.instanceMethod yX4_lookUp, Cond.selects RX4 yX4_lookUp yX4_lookUp, Cond.code yX4_lookUp cX4_lookUp 2 none, Cond.methodLink RX4 143 yX2_touch, Cond.instanceMethod yX2_touch, Cond.selects RX2 yX2_touch yX2_touch, Cond.code yX2_touch cX2_touch 2 none, Cond.methodLink RX4 146 yX2_take, Cond.instanceMethod yX2_take, Cond.selects RX2 yX2_take yX2_take, Cond.code yX2_take cX2_take 2 none, Cond.methodLink RX4 79 yX5_value, Cond.methodLink RX4 122 yX0_sum, Cond.instanceMethod yX0_sum, Cond.selects RX0 yX0_sum yX0_sum, Cond.code yX0_sum cX0_sum 2 (some .int), Cond.methodLink RX6 202 yX6_brought]
def wsX6_leastBound_r7 : List Cond := [Cond.instanceMethod yX6_brought, Cond.selects RX6 yX6_brought yX6_brought, Cond.code yX6_brought cX6_brought 2 (some .int), Cond.methodLink RX6 189 yX4_tally, Cond.instanceMethod yX4_tally, Cond.selects RX4 yX4_tally yX4_tally, Cond.code yX4_tally cX4_tally 2 (some .int)]
def wsX6_leastBound : List Cond := .code yX6_leastBound cX6_leastBound 5 (some .int) :: ((wsX6_leastBound_r1 ++ (wsX6_leastBound_r2 ++ (wsX6_leastBound_r3 ++ (wsX6_leastBound_r4 ++ (wsX6_leastBound_r5 ++ (wsX6_leastBound_r6 ++ wsX6_leastBound_r7)))))) ++ wsX60 ++ wsX40 ++ wsX50 ++ wsX00 ++ wsX20)
def wsX6_undo_r1 : List Cond := [Cond.fieldLink RX6 25 "LoopMemo" "history" "LLoopMemo$History;", Cond.fieldLink RX6 10 "LoopMemo" "now" "LLoopMemo$State;", Cond.methodLink RX6 214 yX1_pop, Cond.instanceMethod yX1_pop, Cond.selects RX1 yX1_pop yX1_pop, Cond.initialized RX1, Cond.code yX1_pop cX1_pop 1 (some (.object "LoopMemo$State")), Cond.fieldLink RX1 18 "LoopMemo$History" "size" "I", Cond.fieldLink RX1 22 "LoopMemo$History" "next" "I", Cond.methodLink RX1 25 yX1_slot, Cond.instanceMethod yX1_slot, Cond.selects RX1 yX1_slot yX1_slot, Cond.code yX1_slot cX1_slot 2 (some (.object "LoopMemo$State")), Cond.fieldLink RX1 13 "LoopMemo$History" "slots" "[LLoopMemo$State;", Cond.methodLink RX6 205 yX4_copyFrom, Cond.instanceMethod yX4_copyFrom, Cond.selects RX4 yX4_copyFrom yX4_copyFrom, Cond.initialized RX4, Cond.code yX4_copyFrom cX4_copyFrom 2 none, Cond.fieldLink RX4 12 "LoopMemo$State" "outer" "LLoopMemo$Table;", Cond.fieldLink RX4 18 "LoopMemo$State" "inner" "LLoopMemo$Table;", Cond.fieldLink RX4 24 "LoopMemo$State" "answers" "LLoopMemo$Answers;", Cond.fieldLink RX4 31 "LoopMemo$State" "memo" "LLoopMemo$Memo;", Cond.fieldLink RX4 44 "LoopMemo$State" "settings" "[I"]
def wsX6_undo_r2 : List Cond := [Cond.fieldLink RX4 47 "LoopMemo$State" "tallies" "[I", Cond.fieldLink RX4 64 "LoopMemo$State" "place" "I", Cond.fieldLink RX4 68 "LoopMemo$State" "total" "I", Cond.methodLink RX4 50 yX5_copyFrom, Cond.instanceMethod yX5_copyFrom, Cond.selects RX5 yX5_copyFrom yX5_copyFrom, Cond.initialized RX5, Cond.code yX5_copyFrom cX5_copyFrom 2 none, Cond.fieldLink RX5 9 "LoopMemo$Table" "keys" "[I", Cond.fieldLink RX5 15 "LoopMemo$Table" "values" "[I", Cond.fieldLink RX5 22 "LoopMemo$Table" "size" "I", Cond.static yX6_copyNumbers, Cond.initialized RX6, Cond.code yX6_copyNumbers cX6_copyNumbers 2 none, Cond.methodLink RX6 117 Lib.Math.min.name, Cond.static Lib.Math.min.name, Cond.initialized "java/lang/Math", Cond.code Lib.Math.min.name Lib.Math.min.code 2 (some .int), Cond.methodLink RX6 225 arraycopyName, Cond.native arraycopyName, Cond.static arraycopyName, Cond.initialized "java/lang/System", Cond.methodLink RX4 54 yX0_copyFrom, Cond.instanceMethod yX0_copyFrom]
def wsX6_undo_r3 : List Cond := [Cond.selects RX0 yX0_copyFrom yX0_copyFrom, Cond.initialized RX0, Cond.code yX0_copyFrom cX0_copyFrom 2 none, Cond.fieldLink RX0 9 "LoopMemo$Answers" "rows" "[I", Cond.fieldLink RX0 15 "LoopMemo$Answers" "sums" "[I", Cond.fieldLink RX0 18 "LoopMemo$Answers" "firstRows" "[I", Cond.methodLink RX4 57 yX2_copyFrom, Cond.instanceMethod yX2_copyFrom, Cond.selects RX2 yX2_copyFrom yX2_copyFrom, Cond.initialized RX2, Cond.code yX2_copyFrom cX2_copyFrom 2 none, Cond.fieldLink RX2 9 "LoopMemo$Memo" "uses" "[I", Cond.fieldLink RX2 15 "LoopMemo$Memo" "lastLooks" "[I", Cond.fieldLink RX2 18 "LoopMemo$Memo" "firstLooks" "[I", Cond.fieldLink RX2 25 "LoopMemo$Memo" "looks" "I", Cond.methodLink RX6 188 yX1_size, Cond.instanceMethod yX1_size, Cond.selects RX1 yX1_size yX1_size, Cond.code yX1_size cX1_size 1 (some .int)]
def wsX6_undo : List Cond := .code yX6_undo cX6_undo 2 (some .int) :: ((wsX6_undo_r1 ++ (wsX6_undo_r2 ++ wsX6_undo_r3)) ++ wsX60 ++ wsX10 ++ wsX40 ++ wsX50 ++ wsX00 ++ wsX20)
def wsX6_save_r1 : List Cond := [Cond.fieldLink RX6 19 "LoopMemo" "snapshot" "LLoopMemo$State;", Cond.fieldLink RX6 10 "LoopMemo" "now" "LLoopMemo$State;", Cond.fieldLink RX6 218 "LoopMemo" "hasSnapshot" "Z", Cond.methodLink RX6 205 yX4_copyFrom, Cond.instanceMethod yX4_copyFrom, Cond.selects RX4 yX4_copyFrom yX4_copyFrom, Cond.initialized RX4, Cond.code yX4_copyFrom cX4_copyFrom 2 none, Cond.fieldLink RX4 12 "LoopMemo$State" "outer" "LLoopMemo$Table;", Cond.fieldLink RX4 18 "LoopMemo$State" "inner" "LLoopMemo$Table;", Cond.fieldLink RX4 24 "LoopMemo$State" "answers" "LLoopMemo$Answers;", Cond.fieldLink RX4 31 "LoopMemo$State" "memo" "LLoopMemo$Memo;", Cond.fieldLink RX4 44 "LoopMemo$State" "settings" "[I", Cond.fieldLink RX4 47 "LoopMemo$State" "tallies" "[I", Cond.fieldLink RX4 64 "LoopMemo$State" "place" "I", Cond.fieldLink RX4 68 "LoopMemo$State" "total" "I", Cond.methodLink RX4 50 yX5_copyFrom, Cond.instanceMethod yX5_copyFrom, Cond.selects RX5 yX5_copyFrom yX5_copyFrom, Cond.initialized RX5, Cond.code yX5_copyFrom cX5_copyFrom 2 none, Cond.fieldLink RX5 9 "LoopMemo$Table" "keys" "[I", Cond.fieldLink RX5 15 "LoopMemo$Table" "values" "[I", Cond.fieldLink RX5 22 "LoopMemo$Table" "size" "I"]
def wsX6_save_r2 : List Cond := [Cond.static yX6_copyNumbers, Cond.initialized RX6, Cond.code yX6_copyNumbers cX6_copyNumbers 2 none, Cond.methodLink RX6 117 Lib.Math.min.name, Cond.static Lib.Math.min.name, Cond.initialized "java/lang/Math", Cond.code Lib.Math.min.name Lib.Math.min.code 2 (some .int), Cond.methodLink RX6 225 arraycopyName, Cond.native arraycopyName, Cond.static arraycopyName, Cond.initialized "java/lang/System", Cond.methodLink RX4 54 yX0_copyFrom, Cond.instanceMethod yX0_copyFrom, Cond.selects RX0 yX0_copyFrom yX0_copyFrom, Cond.initialized RX0, Cond.code yX0_copyFrom cX0_copyFrom 2 none, Cond.fieldLink RX0 9 "LoopMemo$Answers" "rows" "[I", Cond.fieldLink RX0 15 "LoopMemo$Answers" "sums" "[I", Cond.fieldLink RX0 18 "LoopMemo$Answers" "firstRows" "[I", Cond.methodLink RX4 57 yX2_copyFrom, Cond.instanceMethod yX2_copyFrom, Cond.selects RX2 yX2_copyFrom yX2_copyFrom, Cond.initialized RX2, Cond.code yX2_copyFrom cX2_copyFrom 2 none]
def wsX6_save_r3 : List Cond := [Cond.fieldLink RX2 9 "LoopMemo$Memo" "uses" "[I", Cond.fieldLink RX2 15 "LoopMemo$Memo" "lastLooks" "[I", Cond.fieldLink RX2 18 "LoopMemo$Memo" "firstLooks" "[I", Cond.fieldLink RX2 25 "LoopMemo$Memo" "looks" "I", Cond.methodLink RX6 159 yX4_memo, Cond.instanceMethod yX4_memo, Cond.selects RX4 yX4_memo yX4_memo, Cond.code yX4_memo cX4_memo 1 (some (.object "LoopMemo$Memo")), Cond.methodLink RX6 177 yX2_size, Cond.instanceMethod yX2_size, Cond.selects RX2 yX2_size yX2_size, Cond.code yX2_size cX2_size 3 (some .int)]
def wsX6_save : List Cond := .code yX6_save cX6_save 1 (some .int) :: ((wsX6_save_r1 ++ (wsX6_save_r2 ++ wsX6_save_r3)) ++ wsX60 ++ wsX40 ++ wsX50 ++ wsX00 ++ wsX20)
def wsX6_restore_r1 : List Cond := [Cond.fieldLink RX6 218 "LoopMemo" "hasSnapshot" "Z", Cond.fieldLink RX6 25 "LoopMemo" "history" "LLoopMemo$History;", Cond.fieldLink RX6 10 "LoopMemo" "now" "LLoopMemo$State;", Cond.fieldLink RX6 19 "LoopMemo" "snapshot" "LLoopMemo$State;", Cond.methodLink RX6 36 yX1_prepare, Cond.instanceMethod yX1_prepare, Cond.selects RX1 yX1_prepare yX1_prepare, Cond.initialized RX1, Cond.code yX1_prepare cX1_prepare 3 none, Cond.fieldLink RX1 22 "LoopMemo$History" "next" "I", Cond.methodLink RX1 25 yX1_slot, Cond.instanceMethod yX1_slot, Cond.selects RX1 yX1_slot yX1_slot, Cond.code yX1_slot cX1_slot 2 (some (.object "LoopMemo$State")), Cond.fieldLink RX1 13 "LoopMemo$History" "slots" "[LLoopMemo$State;", Cond.methodLink RX1 29 yX4_copyFrom, Cond.instanceMethod yX4_copyFrom, Cond.selects RX4 yX4_copyFrom yX4_copyFrom, Cond.initialized RX4, Cond.code yX4_copyFrom cX4_copyFrom 2 none, Cond.fieldLink RX4 12 "LoopMemo$State" "outer" "LLoopMemo$Table;", Cond.fieldLink RX4 18 "LoopMemo$State" "inner" "LLoopMemo$Table;", Cond.fieldLink RX4 24 "LoopMemo$State" "answers" "LLoopMemo$Answers;", Cond.fieldLink RX4 31 "LoopMemo$State" "memo" "LLoopMemo$Memo;"]
def wsX6_restore_r2 : List Cond := [Cond.fieldLink RX4 44 "LoopMemo$State" "settings" "[I", Cond.fieldLink RX4 47 "LoopMemo$State" "tallies" "[I", Cond.fieldLink RX4 64 "LoopMemo$State" "place" "I", Cond.fieldLink RX4 68 "LoopMemo$State" "total" "I", Cond.methodLink RX4 50 yX5_copyFrom, Cond.instanceMethod yX5_copyFrom, Cond.selects RX5 yX5_copyFrom yX5_copyFrom, Cond.initialized RX5, Cond.code yX5_copyFrom cX5_copyFrom 2 none, Cond.fieldLink RX5 9 "LoopMemo$Table" "keys" "[I", Cond.fieldLink RX5 15 "LoopMemo$Table" "values" "[I", Cond.fieldLink RX5 22 "LoopMemo$Table" "size" "I", Cond.static yX6_copyNumbers, Cond.initialized RX6, Cond.code yX6_copyNumbers cX6_copyNumbers 2 none, Cond.methodLink RX6 117 Lib.Math.min.name, Cond.static Lib.Math.min.name, Cond.initialized "java/lang/Math", Cond.code Lib.Math.min.name Lib.Math.min.code 2 (some .int), Cond.methodLink RX6 225 arraycopyName, Cond.native arraycopyName, Cond.static arraycopyName, Cond.initialized "java/lang/System", Cond.methodLink RX4 54 yX0_copyFrom]
def wsX6_restore_r3 : List Cond := [Cond.instanceMethod yX0_copyFrom, Cond.selects RX0 yX0_copyFrom yX0_copyFrom, Cond.initialized RX0, Cond.code yX0_copyFrom cX0_copyFrom 2 none, Cond.fieldLink RX0 9 "LoopMemo$Answers" "rows" "[I", Cond.fieldLink RX0 15 "LoopMemo$Answers" "sums" "[I", Cond.fieldLink RX0 18 "LoopMemo$Answers" "firstRows" "[I", Cond.methodLink RX4 57 yX2_copyFrom, Cond.instanceMethod yX2_copyFrom, Cond.selects RX2 yX2_copyFrom yX2_copyFrom, Cond.initialized RX2, Cond.code yX2_copyFrom cX2_copyFrom 2 none, Cond.fieldLink RX2 9 "LoopMemo$Memo" "uses" "[I", Cond.fieldLink RX2 15 "LoopMemo$Memo" "lastLooks" "[I", Cond.fieldLink RX2 18 "LoopMemo$Memo" "firstLooks" "[I", Cond.fieldLink RX2 25 "LoopMemo$Memo" "looks" "I", Cond.methodLink RX6 205 yX4_copyFrom, Cond.methodLink RX6 159 yX4_memo, Cond.instanceMethod yX4_memo, Cond.selects RX4 yX4_memo yX4_memo, Cond.code yX4_memo cX4_memo 1 (some (.object "LoopMemo$Memo")), Cond.methodLink RX6 177 yX2_size, Cond.instanceMethod yX2_size, Cond.selects RX2 yX2_size yX2_size]
def wsX6_restore_r4 : List Cond := [Cond.code yX2_size cX2_size 3 (some .int), Cond.methodLink RX6 44 yX1_commit, Cond.instanceMethod yX1_commit, Cond.selects RX1 yX1_commit yX1_commit, Cond.code yX1_commit cX1_commit 2 (some .int), Cond.fieldLink RX1 18 "LoopMemo$History" "size" "I", Cond.methodLink RX1 33 Lib.Math.min.name]
def wsX6_restore : List Cond := .code yX6_restore cX6_restore 1 (some .int) :: ((wsX6_restore_r1 ++ (wsX6_restore_r2 ++ (wsX6_restore_r3 ++ wsX6_restore_r4))) ++ wsX60 ++ wsX10 ++ wsX40 ++ wsX50 ++ wsX00 ++ wsX20)
def wsX7_init : List Cond := .code yX7_init cX7_init 1 none :: ([.methodLink RX7 1 objectInit, .instanceMethod objectInit, .code objectInit ⟨#[0xb1]⟩ 1 none, .arrayClass .int, .fieldLink RX7 7 "LoopMemoModel" "s" "[I", .fieldLink RX7 13 "LoopMemoModel" "past" "[I", .fieldLink RX7 16 "LoopMemoModel" "kept" "[I", .fieldLink RX7 19 "LoopMemoModel" "spare" "[I", .fieldLink RX7 22 "LoopMemoModel" "pad" "[I", .fieldLink RX7 25 "LoopMemoModel" "stop" "[I", .fieldLink RX7 28 "LoopMemoModel" "read" "[I"] ++ wsX70)
def wsX7_in : List Cond := .code yX7_in cX7_in 3 (some .boolean) :: ([])
def wsX7_changes : List Cond := .code yX7_changes cX7_changes 2 none :: ([.fieldLink RX7 31 "LoopMemoModel" "runs" "Z", .fieldLink RX7 35 "LoopMemoModel" "pasts" "I", .fieldLink RX7 13 "LoopMemoModel" "past" "[I", .fieldLink RX7 7 "LoopMemoModel" "s" "[I"] ++ wsX70)
def wsX7_putsAside : List Cond := .code yX7_putsAside cX7_putsAside 2 none :: ([.fieldLink RX7 19 "LoopMemoModel" "spare" "[I", .fieldLink RX7 7 "LoopMemoModel" "s" "[I"] ++ wsX70)
def wsX7_putsBack : List Cond := .code yX7_putsBack cX7_putsBack 2 none :: ([.fieldLink RX7 7 "LoopMemoModel" "s" "[I", .fieldLink RX7 19 "LoopMemoModel" "spare" "[I"] ++ wsX70)
def wsX7_isRowOf : List Cond := .code yX7_isRowOf cX7_isRowOf 2 (some .boolean) :: ([.methodLink RX7 39 yX7_in, .static yX7_in, .initialized RX7, .code yX7_in cX7_in 3 (some .boolean)])
def wsX7_isInner : List Cond := .code yX7_isInner cX7_isInner 2 (some .boolean) :: ([.fieldLink RX7 7 "LoopMemoModel" "s" "[I", .methodLink RX7 39 yX7_in, .static yX7_in, .initialized RX7, .code yX7_in cX7_in 3 (some .boolean)] ++ wsX70)
def wsX7_isOuter : List Cond := .code yX7_isOuter cX7_isOuter 2 (some .boolean) :: ([.fieldLink RX7 7 "LoopMemoModel" "s" "[I", .methodLink RX7 39 yX7_in, .static yX7_in, .initialized RX7, .code yX7_in cX7_in 3 (some .boolean)] ++ wsX70)
def wsX7_innerKey : List Cond := .code yX7_innerKey cX7_innerKey 2 (some .int) :: ([.fieldLink RX7 7 "LoopMemoModel" "s" "[I"] ++ wsX70)
def wsX7_innerValue : List Cond := .code yX7_innerValue cX7_innerValue 2 (some .int) :: ([.fieldLink RX7 7 "LoopMemoModel" "s" "[I"] ++ wsX70)
def wsX7_isFound : List Cond := .code yX7_isFound cX7_isFound 3 (some .boolean) :: ([.fieldLink RX7 7 "LoopMemoModel" "s" "[I", .methodLink RX7 43 yX7_innerKey, .instanceMethod yX7_innerKey, .selects RX7 yX7_innerKey yX7_innerKey, .initialized RX7, .code yX7_innerKey cX7_innerKey 2 (some .int), .methodLink RX7 47 yX7_innerValue, .instanceMethod yX7_innerValue, .selects RX7 yX7_innerValue yX7_innerValue, .code yX7_innerValue cX7_innerValue 2 (some .int), .methodLink RX7 39 yX7_in, .static yX7_in, .code yX7_in cX7_in 3 (some .boolean)] ++ wsX70)
def wsX7_found : List Cond := .code yX7_found cX7_found 4 (some .int) :: ([.fieldLink RX7 7 "LoopMemoModel" "s" "[I", .methodLink RX7 50 yX7_isFound, .instanceMethod yX7_isFound, .selects RX7 yX7_isFound yX7_isFound, .initialized RX7, .code yX7_isFound cX7_isFound 3 (some .boolean), .methodLink RX7 43 yX7_innerKey, .instanceMethod yX7_innerKey, .selects RX7 yX7_innerKey yX7_innerKey, .code yX7_innerKey cX7_innerKey 2 (some .int), .methodLink RX7 47 yX7_innerValue, .instanceMethod yX7_innerValue, .selects RX7 yX7_innerValue yX7_innerValue, .code yX7_innerValue cX7_innerValue 2 (some .int), .methodLink RX7 39 yX7_in, .static yX7_in, .code yX7_in cX7_in 3 (some .boolean)] ++ wsX70)
def wsX7_weight : List Cond := .code yX7_weight cX7_weight 2 (some .int) :: ([.methodLink RX7 54 yX7_found, .instanceMethod yX7_found, .selects RX7 yX7_found yX7_found, .initialized RX7, .code yX7_found cX7_found 4 (some .int), .fieldLink RX7 7 "LoopMemoModel" "s" "[I", .methodLink RX7 50 yX7_isFound, .instanceMethod yX7_isFound, .selects RX7 yX7_isFound yX7_isFound, .code yX7_isFound cX7_isFound 3 (some .boolean), .methodLink RX7 43 yX7_innerKey, .instanceMethod yX7_innerKey, .selects RX7 yX7_innerKey yX7_innerKey, .code yX7_innerKey cX7_innerKey 2 (some .int), .methodLink RX7 47 yX7_innerValue, .instanceMethod yX7_innerValue, .selects RX7 yX7_innerValue yX7_innerValue, .code yX7_innerValue cX7_innerValue 2 (some .int), .methodLink RX7 39 yX7_in, .static yX7_in, .code yX7_in cX7_in 3 (some .boolean)] ++ wsX70)
def wsX7_sum : List Cond := .code yX7_sum cX7_sum 4 (some .int) :: ([.fieldLink RX7 7 "LoopMemoModel" "s" "[I", .methodLink RX7 50 yX7_isFound, .instanceMethod yX7_isFound, .selects RX7 yX7_isFound yX7_isFound, .initialized RX7, .code yX7_isFound cX7_isFound 3 (some .boolean), .methodLink RX7 43 yX7_innerKey, .instanceMethod yX7_innerKey, .selects RX7 yX7_innerKey yX7_innerKey, .code yX7_innerKey cX7_innerKey 2 (some .int), .methodLink RX7 47 yX7_innerValue, .instanceMethod yX7_innerValue, .selects RX7 yX7_innerValue yX7_innerValue, .code yX7_innerValue cX7_innerValue 2 (some .int), .methodLink RX7 39 yX7_in, .static yX7_in, .code yX7_in cX7_in 3 (some .boolean)] ++ wsX70)
def wsX7_firstRow : List Cond := .code yX7_firstRow cX7_firstRow 3 (some .int) :: ([.fieldLink RX7 7 "LoopMemoModel" "s" "[I", .methodLink RX7 50 yX7_isFound, .instanceMethod yX7_isFound, .selects RX7 yX7_isFound yX7_isFound, .initialized RX7, .code yX7_isFound cX7_isFound 3 (some .boolean), .methodLink RX7 43 yX7_innerKey, .instanceMethod yX7_innerKey, .selects RX7 yX7_innerKey yX7_innerKey, .code yX7_innerKey cX7_innerKey 2 (some .int), .methodLink RX7 47 yX7_innerValue, .instanceMethod yX7_innerValue, .selects RX7 yX7_innerValue yX7_innerValue, .code yX7_innerValue cX7_innerValue 2 (some .int), .methodLink RX7 39 yX7_in, .static yX7_in, .code yX7_in cX7_in 3 (some .boolean)] ++ wsX70)
def wsX7_tell_r1 : List Cond := [Cond.methodLink RX7 54 yX7_found, Cond.instanceMethod yX7_found, Cond.selects RX7 yX7_found yX7_found, Cond.initialized RX7, Cond.code yX7_found cX7_found 4 (some .int), Cond.fieldLink RX7 7 "LoopMemoModel" "s" "[I", Cond.methodLink RX7 50 yX7_isFound, Cond.instanceMethod yX7_isFound, Cond.selects RX7 yX7_isFound yX7_isFound, Cond.code yX7_isFound cX7_isFound 3 (some .boolean), Cond.methodLink RX7 43 yX7_innerKey, Cond.instanceMethod yX7_innerKey, Cond.selects RX7 yX7_innerKey yX7_innerKey, Cond.code yX7_innerKey cX7_innerKey 2 (some .int), Cond.methodLink RX7 47 yX7_innerValue, Cond.instanceMethod yX7_innerValue, Cond.selects RX7 yX7_innerValue yX7_innerValue, Cond.code yX7_innerValue cX7_innerValue 2 (some .int), Cond.methodLink RX7 39 yX7_in, Cond.static yX7_in, Cond.code yX7_in cX7_in 3 (some .boolean), Cond.methodLink RX7 57 yX7_weight, Cond.instanceMethod yX7_weight, Cond.selects RX7 yX7_weight yX7_weight]
def wsX7_tell_r2 : List Cond := [Cond.code yX7_weight cX7_weight 2 (some .int), Cond.methodLink RX7 60 yX7_sum, Cond.instanceMethod yX7_sum, Cond.selects RX7 yX7_sum yX7_sum, Cond.code yX7_sum cX7_sum 4 (some .int), Cond.methodLink RX7 63 yX7_firstRow, Cond.instanceMethod yX7_firstRow, Cond.selects RX7 yX7_firstRow yX7_firstRow, Cond.code yX7_firstRow cX7_firstRow 3 (some .int)]
def wsX7_tell : List Cond := .code yX7_tell cX7_tell 3 (some .int) :: ((wsX7_tell_r1 ++ wsX7_tell_r2) ++ wsX70)
def wsX7_isKnown : List Cond := .code yX7_isKnown cX7_isKnown 2 (some .boolean) :: ([.fieldLink RX7 7 "LoopMemoModel" "s" "[I"] ++ wsX70)
def wsX7_known : List Cond := .code yX7_known cX7_known 3 (some .int) :: ([.methodLink RX7 66 yX7_isKnown, .instanceMethod yX7_isKnown, .selects RX7 yX7_isKnown yX7_isKnown, .initialized RX7, .code yX7_isKnown cX7_isKnown 2 (some .boolean), .fieldLink RX7 7 "LoopMemoModel" "s" "[I"] ++ wsX70)
def wsX7_weights_r1 : List Cond := [Cond.methodLink RX7 66 yX7_isKnown, Cond.instanceMethod yX7_isKnown, Cond.selects RX7 yX7_isKnown yX7_isKnown, Cond.initialized RX7, Cond.code yX7_isKnown cX7_isKnown 2 (some .boolean), Cond.fieldLink RX7 7 "LoopMemoModel" "s" "[I", Cond.methodLink RX7 57 yX7_weight, Cond.instanceMethod yX7_weight, Cond.selects RX7 yX7_weight yX7_weight, Cond.code yX7_weight cX7_weight 2 (some .int), Cond.methodLink RX7 54 yX7_found, Cond.instanceMethod yX7_found, Cond.selects RX7 yX7_found yX7_found, Cond.code yX7_found cX7_found 4 (some .int), Cond.methodLink RX7 50 yX7_isFound, Cond.instanceMethod yX7_isFound, Cond.selects RX7 yX7_isFound yX7_isFound, Cond.code yX7_isFound cX7_isFound 3 (some .boolean), Cond.methodLink RX7 43 yX7_innerKey, Cond.instanceMethod yX7_innerKey, Cond.selects RX7 yX7_innerKey yX7_innerKey, Cond.code yX7_innerKey cX7_innerKey 2 (some .int), Cond.methodLink RX7 47 yX7_innerValue, Cond.instanceMethod yX7_innerValue]
def wsX7_weights_r2 : List Cond := [Cond.selects RX7 yX7_innerValue yX7_innerValue, Cond.code yX7_innerValue cX7_innerValue 2 (some .int), Cond.methodLink RX7 39 yX7_in, Cond.static yX7_in, Cond.code yX7_in cX7_in 3 (some .boolean)]
def wsX7_weights : List Cond := .code yX7_weights cX7_weights 3 (some .int) :: ((wsX7_weights_r1 ++ wsX7_weights_r2) ++ wsX70)
def wsX7_isAhead : List Cond := .code yX7_isAhead cX7_isAhead 4 (some .boolean) :: ([.fieldLink RX7 7 "LoopMemoModel" "s" "[I"] ++ wsX70)
def wsX7_orderOf : List Cond := .code yX7_orderOf cX7_orderOf 4 (some .int) :: ([.methodLink RX7 66 yX7_isKnown, .instanceMethod yX7_isKnown, .selects RX7 yX7_isKnown yX7_isKnown, .initialized RX7, .code yX7_isKnown cX7_isKnown 2 (some .boolean), .fieldLink RX7 7 "LoopMemoModel" "s" "[I", .methodLink RX7 70 yX7_isAhead, .instanceMethod yX7_isAhead, .selects RX7 yX7_isAhead yX7_isAhead, .code yX7_isAhead cX7_isAhead 4 (some .boolean)] ++ wsX70)
def wsX7_first : List Cond := .code yX7_first cX7_first 4 (some .int) :: ([.methodLink RX7 66 yX7_isKnown, .instanceMethod yX7_isKnown, .selects RX7 yX7_isKnown yX7_isKnown, .initialized RX7, .code yX7_isKnown cX7_isKnown 2 (some .boolean), .fieldLink RX7 7 "LoopMemoModel" "s" "[I", .methodLink RX7 70 yX7_isAhead, .instanceMethod yX7_isAhead, .selects RX7 yX7_isAhead yX7_isAhead, .code yX7_isAhead cX7_isAhead 4 (some .boolean)] ++ wsX70)
def wsX7_makesRoom_r1 : List Cond := [Cond.fieldLink RX7 7 "LoopMemoModel" "s" "[I", Cond.methodLink RX7 73 yX7_first, Cond.instanceMethod yX7_first, Cond.selects RX7 yX7_first yX7_first, Cond.initialized RX7, Cond.code yX7_first cX7_first 4 (some .int), Cond.methodLink RX7 66 yX7_isKnown, Cond.instanceMethod yX7_isKnown, Cond.selects RX7 yX7_isKnown yX7_isKnown, Cond.code yX7_isKnown cX7_isKnown 2 (some .boolean), Cond.methodLink RX7 70 yX7_isAhead, Cond.instanceMethod yX7_isAhead, Cond.selects RX7 yX7_isAhead yX7_isAhead, Cond.code yX7_isAhead cX7_isAhead 4 (some .boolean), Cond.methodLink RX7 76 yX7_weights, Cond.instanceMethod yX7_weights, Cond.selects RX7 yX7_weights yX7_weights, Cond.code yX7_weights cX7_weights 3 (some .int), Cond.methodLink RX7 57 yX7_weight, Cond.instanceMethod yX7_weight, Cond.selects RX7 yX7_weight yX7_weight, Cond.code yX7_weight cX7_weight 2 (some .int), Cond.methodLink RX7 54 yX7_found, Cond.instanceMethod yX7_found]
def wsX7_makesRoom_r2 : List Cond := [Cond.selects RX7 yX7_found yX7_found, Cond.code yX7_found cX7_found 4 (some .int), Cond.methodLink RX7 50 yX7_isFound, Cond.instanceMethod yX7_isFound, Cond.selects RX7 yX7_isFound yX7_isFound, Cond.code yX7_isFound cX7_isFound 3 (some .boolean), Cond.methodLink RX7 43 yX7_innerKey, Cond.instanceMethod yX7_innerKey, Cond.selects RX7 yX7_innerKey yX7_innerKey, Cond.code yX7_innerKey cX7_innerKey 2 (some .int), Cond.methodLink RX7 47 yX7_innerValue, Cond.instanceMethod yX7_innerValue, Cond.selects RX7 yX7_innerValue yX7_innerValue, Cond.code yX7_innerValue cX7_innerValue 2 (some .int), Cond.methodLink RX7 39 yX7_in, Cond.static yX7_in, Cond.code yX7_in cX7_in 3 (some .boolean)]
def wsX7_makesRoom : List Cond := .code yX7_makesRoom cX7_makesRoom 4 (some .int) :: ((wsX7_makesRoom_r1 ++ wsX7_makesRoom_r2) ++ wsX70)
def wsX7_throwsOut : List Cond := .code yX7_throwsOut cX7_throwsOut 2 (some .int) :: ([.fieldLink RX7 7 "LoopMemoModel" "s" "[I", .methodLink RX7 66 yX7_isKnown, .instanceMethod yX7_isKnown, .selects RX7 yX7_isKnown yX7_isKnown, .initialized RX7, .code yX7_isKnown cX7_isKnown 2 (some .boolean)] ++ wsX70)
def wsX7_throwsAll : List Cond := .code yX7_throwsAll cX7_throwsAll 3 (some .int) :: ([.methodLink RX7 80 yX7_throwsOut, .instanceMethod yX7_throwsOut, .selects RX7 yX7_throwsOut yX7_throwsOut, .initialized RX7, .code yX7_throwsOut cX7_throwsOut 2 (some .int), .fieldLink RX7 7 "LoopMemoModel" "s" "[I", .methodLink RX7 66 yX7_isKnown, .instanceMethod yX7_isKnown, .selects RX7 yX7_isKnown yX7_isKnown, .code yX7_isKnown cX7_isKnown 2 (some .boolean)] ++ wsX70)
def wsX7_keeps : List Cond := .code yX7_keeps cX7_keeps 5 none :: ([.fieldLink RX7 7 "LoopMemoModel" "s" "[I", .methodLink RX7 83 yX7_throwsAll, .instanceMethod yX7_throwsAll, .selects RX7 yX7_throwsAll yX7_throwsAll, .initialized RX7, .code yX7_throwsAll cX7_throwsAll 3 (some .int), .methodLink RX7 80 yX7_throwsOut, .instanceMethod yX7_throwsOut, .selects RX7 yX7_throwsOut yX7_throwsOut, .code yX7_throwsOut cX7_throwsOut 2 (some .int), .methodLink RX7 66 yX7_isKnown, .instanceMethod yX7_isKnown, .selects RX7 yX7_isKnown yX7_isKnown, .code yX7_isKnown cX7_isKnown 2 (some .boolean)] ++ wsX70)
def wsX7_looks_r1 : List Cond := [Cond.fieldLink RX7 7 "LoopMemoModel" "s" "[I", Cond.methodLink RX7 66 yX7_isKnown, Cond.instanceMethod yX7_isKnown, Cond.selects RX7 yX7_isKnown yX7_isKnown, Cond.initialized RX7, Cond.code yX7_isKnown cX7_isKnown 2 (some .boolean), Cond.methodLink RX7 57 yX7_weight, Cond.instanceMethod yX7_weight, Cond.selects RX7 yX7_weight yX7_weight, Cond.code yX7_weight cX7_weight 2 (some .int), Cond.methodLink RX7 54 yX7_found, Cond.instanceMethod yX7_found, Cond.selects RX7 yX7_found yX7_found, Cond.code yX7_found cX7_found 4 (some .int), Cond.methodLink RX7 50 yX7_isFound, Cond.instanceMethod yX7_isFound, Cond.selects RX7 yX7_isFound yX7_isFound, Cond.code yX7_isFound cX7_isFound 3 (some .boolean), Cond.methodLink RX7 43 yX7_innerKey, Cond.instanceMethod yX7_innerKey, Cond.selects RX7 yX7_innerKey yX7_innerKey, Cond.code yX7_innerKey cX7_innerKey 2 (some .int), Cond.methodLink RX7 47 yX7_innerValue, Cond.instanceMethod yX7_innerValue]
def wsX7_looks_r2 : List Cond := [Cond.selects RX7 yX7_innerValue yX7_innerValue, Cond.code yX7_innerValue cX7_innerValue 2 (some .int), Cond.methodLink RX7 39 yX7_in, Cond.static yX7_in, Cond.code yX7_in cX7_in 3 (some .boolean), Cond.methodLink RX7 86 yX7_makesRoom, Cond.instanceMethod yX7_makesRoom, Cond.selects RX7 yX7_makesRoom yX7_makesRoom, Cond.code yX7_makesRoom cX7_makesRoom 4 (some .int), Cond.methodLink RX7 73 yX7_first, Cond.instanceMethod yX7_first, Cond.selects RX7 yX7_first yX7_first, Cond.code yX7_first cX7_first 4 (some .int), Cond.methodLink RX7 70 yX7_isAhead, Cond.instanceMethod yX7_isAhead, Cond.selects RX7 yX7_isAhead yX7_isAhead, Cond.code yX7_isAhead cX7_isAhead 4 (some .boolean), Cond.methodLink RX7 76 yX7_weights, Cond.instanceMethod yX7_weights, Cond.selects RX7 yX7_weights yX7_weights, Cond.code yX7_weights cX7_weights 3 (some .int)]
def wsX7_looks : List Cond := .code yX7_looks cX7_looks 2 (some .int) :: ((wsX7_looks_r1 ++ wsX7_looks_r2) ++ wsX70)
def wsX7_adds : List Cond := .code yX7_adds cX7_adds 6 (some .int) :: ([.fieldLink RX7 7 "LoopMemoModel" "s" "[I", .methodLink RX7 89 yX7_keeps, .instanceMethod yX7_keeps, .selects RX7 yX7_keeps yX7_keeps, .initialized RX7, .code yX7_keeps cX7_keeps 5 none, .methodLink RX7 83 yX7_throwsAll, .instanceMethod yX7_throwsAll, .selects RX7 yX7_throwsAll yX7_throwsAll, .code yX7_throwsAll cX7_throwsAll 3 (some .int), .methodLink RX7 80 yX7_throwsOut, .instanceMethod yX7_throwsOut, .selects RX7 yX7_throwsOut yX7_throwsOut, .code yX7_throwsOut cX7_throwsOut 2 (some .int), .methodLink RX7 66 yX7_isKnown, .instanceMethod yX7_isKnown, .selects RX7 yX7_isKnown yX7_isKnown, .code yX7_isKnown cX7_isKnown 2 (some .boolean)] ++ wsX70)
def wsX7_add_r1 : List Cond := [Cond.fieldLink RX7 7 "LoopMemoModel" "s" "[I", Cond.methodLink RX7 93 yX7_isRowOf, Cond.static yX7_isRowOf, Cond.initialized RX7, Cond.code yX7_isRowOf cX7_isRowOf 2 (some .boolean), Cond.methodLink RX7 39 yX7_in, Cond.static yX7_in, Cond.code yX7_in cX7_in 3 (some .boolean), Cond.methodLink RX7 96 yX7_changes, Cond.instanceMethod yX7_changes, Cond.selects RX7 yX7_changes yX7_changes, Cond.code yX7_changes cX7_changes 2 none, Cond.fieldLink RX7 31 "LoopMemoModel" "runs" "Z", Cond.fieldLink RX7 35 "LoopMemoModel" "pasts" "I", Cond.fieldLink RX7 13 "LoopMemoModel" "past" "[I", Cond.methodLink RX7 99 yX7_adds, Cond.instanceMethod yX7_adds, Cond.selects RX7 yX7_adds yX7_adds, Cond.code yX7_adds cX7_adds 6 (some .int), Cond.methodLink RX7 89 yX7_keeps, Cond.instanceMethod yX7_keeps, Cond.selects RX7 yX7_keeps yX7_keeps, Cond.code yX7_keeps cX7_keeps 5 none, Cond.methodLink RX7 83 yX7_throwsAll]
def wsX7_add_r2 : List Cond := [Cond.instanceMethod yX7_throwsAll, Cond.selects RX7 yX7_throwsAll yX7_throwsAll, Cond.code yX7_throwsAll cX7_throwsAll 3 (some .int), Cond.methodLink RX7 80 yX7_throwsOut, Cond.instanceMethod yX7_throwsOut, Cond.selects RX7 yX7_throwsOut yX7_throwsOut, Cond.code yX7_throwsOut cX7_throwsOut 2 (some .int), Cond.methodLink RX7 66 yX7_isKnown, Cond.instanceMethod yX7_isKnown, Cond.selects RX7 yX7_isKnown yX7_isKnown, Cond.code yX7_isKnown cX7_isKnown 2 (some .boolean)]
def wsX7_add : List Cond := .code yX7_add cX7_add 4 (some .int) :: ((wsX7_add_r1 ++ wsX7_add_r2) ++ wsX70)
def wsX7_drop_r1 : List Cond := [Cond.fieldLink RX7 7 "LoopMemoModel" "s" "[I", Cond.methodLink RX7 103 yX7_isInner, Cond.instanceMethod yX7_isInner, Cond.selects RX7 yX7_isInner yX7_isInner, Cond.initialized RX7, Cond.code yX7_isInner cX7_isInner 2 (some .boolean), Cond.methodLink RX7 39 yX7_in, Cond.static yX7_in, Cond.code yX7_in cX7_in 3 (some .boolean), Cond.methodLink RX7 106 yX7_isOuter, Cond.instanceMethod yX7_isOuter, Cond.selects RX7 yX7_isOuter yX7_isOuter, Cond.code yX7_isOuter cX7_isOuter 2 (some .boolean), Cond.methodLink RX7 96 yX7_changes, Cond.instanceMethod yX7_changes, Cond.selects RX7 yX7_changes yX7_changes, Cond.code yX7_changes cX7_changes 2 none, Cond.fieldLink RX7 31 "LoopMemoModel" "runs" "Z", Cond.fieldLink RX7 35 "LoopMemoModel" "pasts" "I", Cond.fieldLink RX7 13 "LoopMemoModel" "past" "[I", Cond.methodLink RX7 89 yX7_keeps, Cond.instanceMethod yX7_keeps, Cond.selects RX7 yX7_keeps yX7_keeps, Cond.code yX7_keeps cX7_keeps 5 none]
def wsX7_drop_r2 : List Cond := [Cond.methodLink RX7 83 yX7_throwsAll, Cond.instanceMethod yX7_throwsAll, Cond.selects RX7 yX7_throwsAll yX7_throwsAll, Cond.code yX7_throwsAll cX7_throwsAll 3 (some .int), Cond.methodLink RX7 80 yX7_throwsOut, Cond.instanceMethod yX7_throwsOut, Cond.selects RX7 yX7_throwsOut yX7_throwsOut, Cond.code yX7_throwsOut cX7_throwsOut 2 (some .int), Cond.methodLink RX7 66 yX7_isKnown, Cond.instanceMethod yX7_isKnown, Cond.selects RX7 yX7_isKnown yX7_isKnown, Cond.code yX7_isKnown cX7_isKnown 2 (some .boolean)]
def wsX7_drop : List Cond := .code yX7_drop cX7_drop 7 (some .int) :: ((wsX7_drop_r1 ++ wsX7_drop_r2) ++ wsX70)
def wsX7_change_r1 : List Cond := [Cond.fieldLink RX7 7 "LoopMemoModel" "s" "[I", Cond.methodLink RX7 103 yX7_isInner, Cond.instanceMethod yX7_isInner, Cond.selects RX7 yX7_isInner yX7_isInner, Cond.initialized RX7, Cond.code yX7_isInner cX7_isInner 2 (some .boolean), Cond.methodLink RX7 39 yX7_in, Cond.static yX7_in, Cond.code yX7_in cX7_in 3 (some .boolean), Cond.methodLink RX7 93 yX7_isRowOf, Cond.static yX7_isRowOf, Cond.code yX7_isRowOf cX7_isRowOf 2 (some .boolean), Cond.methodLink RX7 96 yX7_changes, Cond.instanceMethod yX7_changes, Cond.selects RX7 yX7_changes yX7_changes, Cond.code yX7_changes cX7_changes 2 none, Cond.fieldLink RX7 31 "LoopMemoModel" "runs" "Z", Cond.fieldLink RX7 35 "LoopMemoModel" "pasts" "I", Cond.fieldLink RX7 13 "LoopMemoModel" "past" "[I", Cond.methodLink RX7 43 yX7_innerKey, Cond.instanceMethod yX7_innerKey, Cond.selects RX7 yX7_innerKey yX7_innerKey, Cond.code yX7_innerKey cX7_innerKey 2 (some .int), Cond.methodLink RX7 89 yX7_keeps]
def wsX7_change_r2 : List Cond := [Cond.instanceMethod yX7_keeps, Cond.selects RX7 yX7_keeps yX7_keeps, Cond.code yX7_keeps cX7_keeps 5 none, Cond.methodLink RX7 83 yX7_throwsAll, Cond.instanceMethod yX7_throwsAll, Cond.selects RX7 yX7_throwsAll yX7_throwsAll, Cond.code yX7_throwsAll cX7_throwsAll 3 (some .int), Cond.methodLink RX7 80 yX7_throwsOut, Cond.instanceMethod yX7_throwsOut, Cond.selects RX7 yX7_throwsOut yX7_throwsOut, Cond.code yX7_throwsOut cX7_throwsOut 2 (some .int), Cond.methodLink RX7 66 yX7_isKnown, Cond.instanceMethod yX7_isKnown, Cond.selects RX7 yX7_isKnown yX7_isKnown, Cond.code yX7_isKnown cX7_isKnown 2 (some .boolean), Cond.methodLink RX7 109 yX7_known, Cond.instanceMethod yX7_known, Cond.selects RX7 yX7_known yX7_known, Cond.code yX7_known cX7_known 3 (some .int)]
def wsX7_change : List Cond := .code yX7_change cX7_change 5 (some .int) :: ((wsX7_change_r1 ++ wsX7_change_r2) ++ wsX70)
def wsX7_steps_r1 : List Cond := [Cond.fieldLink RX7 7 "LoopMemoModel" "s" "[I", Cond.methodLink RX7 112 yX7_looks, Cond.instanceMethod yX7_looks, Cond.selects RX7 yX7_looks yX7_looks, Cond.initialized RX7, Cond.code yX7_looks cX7_looks 2 (some .int), Cond.methodLink RX7 66 yX7_isKnown, Cond.instanceMethod yX7_isKnown, Cond.selects RX7 yX7_isKnown yX7_isKnown, Cond.code yX7_isKnown cX7_isKnown 2 (some .boolean), Cond.methodLink RX7 57 yX7_weight, Cond.instanceMethod yX7_weight, Cond.selects RX7 yX7_weight yX7_weight, Cond.code yX7_weight cX7_weight 2 (some .int), Cond.methodLink RX7 54 yX7_found, Cond.instanceMethod yX7_found, Cond.selects RX7 yX7_found yX7_found, Cond.code yX7_found cX7_found 4 (some .int), Cond.methodLink RX7 50 yX7_isFound, Cond.instanceMethod yX7_isFound, Cond.selects RX7 yX7_isFound yX7_isFound, Cond.code yX7_isFound cX7_isFound 3 (some .boolean), Cond.methodLink RX7 43 yX7_innerKey, Cond.instanceMethod yX7_innerKey]
def wsX7_steps_r2 : List Cond := [Cond.selects RX7 yX7_innerKey yX7_innerKey, Cond.code yX7_innerKey cX7_innerKey 2 (some .int), Cond.methodLink RX7 47 yX7_innerValue, Cond.instanceMethod yX7_innerValue, Cond.selects RX7 yX7_innerValue yX7_innerValue, Cond.code yX7_innerValue cX7_innerValue 2 (some .int), Cond.methodLink RX7 39 yX7_in, Cond.static yX7_in, Cond.code yX7_in cX7_in 3 (some .boolean), Cond.methodLink RX7 86 yX7_makesRoom, Cond.instanceMethod yX7_makesRoom, Cond.selects RX7 yX7_makesRoom yX7_makesRoom, Cond.code yX7_makesRoom cX7_makesRoom 4 (some .int), Cond.methodLink RX7 73 yX7_first, Cond.instanceMethod yX7_first, Cond.selects RX7 yX7_first yX7_first, Cond.code yX7_first cX7_first 4 (some .int), Cond.methodLink RX7 70 yX7_isAhead, Cond.instanceMethod yX7_isAhead, Cond.selects RX7 yX7_isAhead yX7_isAhead, Cond.code yX7_isAhead cX7_isAhead 4 (some .boolean), Cond.methodLink RX7 76 yX7_weights, Cond.instanceMethod yX7_weights, Cond.selects RX7 yX7_weights yX7_weights]
def wsX7_steps_r3 : List Cond := [Cond.code yX7_weights cX7_weights 3 (some .int), Cond.methodLink RX7 60 yX7_sum, Cond.instanceMethod yX7_sum, Cond.selects RX7 yX7_sum yX7_sum, Cond.code yX7_sum cX7_sum 4 (some .int)]
def wsX7_steps : List Cond := .code yX7_steps cX7_steps 5 (some .int) :: ((wsX7_steps_r1 ++ (wsX7_steps_r2 ++ wsX7_steps_r3)) ++ wsX70)
def wsX7_step_r1 : List Cond := [Cond.fieldLink RX7 7 "LoopMemoModel" "s" "[I", Cond.methodLink RX7 39 yX7_in, Cond.static yX7_in, Cond.initialized RX7, Cond.code yX7_in cX7_in 3 (some .boolean), Cond.methodLink RX7 96 yX7_changes, Cond.instanceMethod yX7_changes, Cond.selects RX7 yX7_changes yX7_changes, Cond.code yX7_changes cX7_changes 2 none, Cond.fieldLink RX7 31 "LoopMemoModel" "runs" "Z", Cond.fieldLink RX7 35 "LoopMemoModel" "pasts" "I", Cond.fieldLink RX7 13 "LoopMemoModel" "past" "[I", Cond.methodLink RX7 115 yX7_steps, Cond.instanceMethod yX7_steps, Cond.selects RX7 yX7_steps yX7_steps, Cond.code yX7_steps cX7_steps 5 (some .int), Cond.methodLink RX7 112 yX7_looks, Cond.instanceMethod yX7_looks, Cond.selects RX7 yX7_looks yX7_looks, Cond.code yX7_looks cX7_looks 2 (some .int), Cond.methodLink RX7 66 yX7_isKnown, Cond.instanceMethod yX7_isKnown, Cond.selects RX7 yX7_isKnown yX7_isKnown, Cond.code yX7_isKnown cX7_isKnown 2 (some .boolean)]
def wsX7_step_r2 : List Cond := [Cond.methodLink RX7 57 yX7_weight, Cond.instanceMethod yX7_weight, Cond.selects RX7 yX7_weight yX7_weight, Cond.code yX7_weight cX7_weight 2 (some .int), Cond.methodLink RX7 54 yX7_found, Cond.instanceMethod yX7_found, Cond.selects RX7 yX7_found yX7_found, Cond.code yX7_found cX7_found 4 (some .int), Cond.methodLink RX7 50 yX7_isFound, Cond.instanceMethod yX7_isFound, Cond.selects RX7 yX7_isFound yX7_isFound, Cond.code yX7_isFound cX7_isFound 3 (some .boolean), Cond.methodLink RX7 43 yX7_innerKey, Cond.instanceMethod yX7_innerKey, Cond.selects RX7 yX7_innerKey yX7_innerKey, Cond.code yX7_innerKey cX7_innerKey 2 (some .int), Cond.methodLink RX7 47 yX7_innerValue, Cond.instanceMethod yX7_innerValue, Cond.selects RX7 yX7_innerValue yX7_innerValue, Cond.code yX7_innerValue cX7_innerValue 2 (some .int), Cond.methodLink RX7 86 yX7_makesRoom, Cond.instanceMethod yX7_makesRoom, Cond.selects RX7 yX7_makesRoom yX7_makesRoom, Cond.code yX7_makesRoom cX7_makesRoom 4 (some .int)]
def wsX7_step_r3 : List Cond := [Cond.methodLink RX7 73 yX7_first, Cond.instanceMethod yX7_first, Cond.selects RX7 yX7_first yX7_first, Cond.code yX7_first cX7_first 4 (some .int), Cond.methodLink RX7 70 yX7_isAhead, Cond.instanceMethod yX7_isAhead, Cond.selects RX7 yX7_isAhead yX7_isAhead, Cond.code yX7_isAhead cX7_isAhead 4 (some .boolean), Cond.methodLink RX7 76 yX7_weights, Cond.instanceMethod yX7_weights, Cond.selects RX7 yX7_weights yX7_weights, Cond.code yX7_weights cX7_weights 3 (some .int), Cond.methodLink RX7 60 yX7_sum, Cond.instanceMethod yX7_sum, Cond.selects RX7 yX7_sum yX7_sum, Cond.code yX7_sum cX7_sum 4 (some .int)]
def wsX7_step : List Cond := .code yX7_step cX7_step 2 (some .int) :: ((wsX7_step_r1 ++ (wsX7_step_r2 ++ wsX7_step_r3)) ++ wsX70)
def wsX7_again : List Cond := .code yX7_again cX7_again 2 (some .int) :: ([.fieldLink RX7 7 "LoopMemoModel" "s" "[I", .methodLink RX7 96 yX7_changes, .instanceMethod yX7_changes, .selects RX7 yX7_changes yX7_changes, .initialized RX7, .code yX7_changes cX7_changes 2 none, .fieldLink RX7 31 "LoopMemoModel" "runs" "Z", .fieldLink RX7 35 "LoopMemoModel" "pasts" "I", .fieldLink RX7 13 "LoopMemoModel" "past" "[I"] ++ wsX70)
def wsX7_forget : List Cond := .code yX7_forget cX7_forget 1 (some .int) :: ([.methodLink RX7 96 yX7_changes, .instanceMethod yX7_changes, .selects RX7 yX7_changes yX7_changes, .initialized RX7, .code yX7_changes cX7_changes 2 none, .fieldLink RX7 31 "LoopMemoModel" "runs" "Z", .fieldLink RX7 35 "LoopMemoModel" "pasts" "I", .fieldLink RX7 13 "LoopMemoModel" "past" "[I", .fieldLink RX7 7 "LoopMemoModel" "s" "[I", .methodLink RX7 83 yX7_throwsAll, .instanceMethod yX7_throwsAll, .selects RX7 yX7_throwsAll yX7_throwsAll, .code yX7_throwsAll cX7_throwsAll 3 (some .int), .methodLink RX7 80 yX7_throwsOut, .instanceMethod yX7_throwsOut, .selects RX7 yX7_throwsOut yX7_throwsOut, .code yX7_throwsOut cX7_throwsOut 2 (some .int), .methodLink RX7 66 yX7_isKnown, .instanceMethod yX7_isKnown, .selects RX7 yX7_isKnown yX7_isKnown, .code yX7_isKnown cX7_isKnown 2 (some .boolean)] ++ wsX70)
def wsX7_sets_r1 : List Cond := [Cond.fieldLink RX7 7 "LoopMemoModel" "s" "[I", Cond.methodLink RX7 86 yX7_makesRoom, Cond.instanceMethod yX7_makesRoom, Cond.selects RX7 yX7_makesRoom yX7_makesRoom, Cond.initialized RX7, Cond.code yX7_makesRoom cX7_makesRoom 4 (some .int), Cond.methodLink RX7 73 yX7_first, Cond.instanceMethod yX7_first, Cond.selects RX7 yX7_first yX7_first, Cond.code yX7_first cX7_first 4 (some .int), Cond.methodLink RX7 66 yX7_isKnown, Cond.instanceMethod yX7_isKnown, Cond.selects RX7 yX7_isKnown yX7_isKnown, Cond.code yX7_isKnown cX7_isKnown 2 (some .boolean), Cond.methodLink RX7 70 yX7_isAhead, Cond.instanceMethod yX7_isAhead, Cond.selects RX7 yX7_isAhead yX7_isAhead, Cond.code yX7_isAhead cX7_isAhead 4 (some .boolean), Cond.methodLink RX7 76 yX7_weights, Cond.instanceMethod yX7_weights, Cond.selects RX7 yX7_weights yX7_weights, Cond.code yX7_weights cX7_weights 3 (some .int), Cond.methodLink RX7 57 yX7_weight, Cond.instanceMethod yX7_weight]
def wsX7_sets_r2 : List Cond := [Cond.selects RX7 yX7_weight yX7_weight, Cond.code yX7_weight cX7_weight 2 (some .int), Cond.methodLink RX7 54 yX7_found, Cond.instanceMethod yX7_found, Cond.selects RX7 yX7_found yX7_found, Cond.code yX7_found cX7_found 4 (some .int), Cond.methodLink RX7 50 yX7_isFound, Cond.instanceMethod yX7_isFound, Cond.selects RX7 yX7_isFound yX7_isFound, Cond.code yX7_isFound cX7_isFound 3 (some .boolean), Cond.methodLink RX7 43 yX7_innerKey, Cond.instanceMethod yX7_innerKey, Cond.selects RX7 yX7_innerKey yX7_innerKey, Cond.code yX7_innerKey cX7_innerKey 2 (some .int), Cond.methodLink RX7 47 yX7_innerValue, Cond.instanceMethod yX7_innerValue, Cond.selects RX7 yX7_innerValue yX7_innerValue, Cond.code yX7_innerValue cX7_innerValue 2 (some .int), Cond.methodLink RX7 39 yX7_in, Cond.static yX7_in, Cond.code yX7_in cX7_in 3 (some .boolean), Cond.methodLink RX7 83 yX7_throwsAll, Cond.instanceMethod yX7_throwsAll, Cond.selects RX7 yX7_throwsAll yX7_throwsAll]
def wsX7_sets_r3 : List Cond := [Cond.code yX7_throwsAll cX7_throwsAll 3 (some .int), Cond.methodLink RX7 80 yX7_throwsOut, Cond.instanceMethod yX7_throwsOut, Cond.selects RX7 yX7_throwsOut yX7_throwsOut, Cond.code yX7_throwsOut cX7_throwsOut 2 (some .int)]
def wsX7_sets : List Cond := .code yX7_sets cX7_sets 3 (some .int) :: ((wsX7_sets_r1 ++ (wsX7_sets_r2 ++ wsX7_sets_r3)) ++ wsX70)
def wsX7_set_r1 : List Cond := [Cond.methodLink RX7 39 yX7_in, Cond.static yX7_in, Cond.initialized RX7, Cond.code yX7_in cX7_in 3 (some .boolean), Cond.methodLink RX7 96 yX7_changes, Cond.instanceMethod yX7_changes, Cond.selects RX7 yX7_changes yX7_changes, Cond.code yX7_changes cX7_changes 2 none, Cond.fieldLink RX7 31 "LoopMemoModel" "runs" "Z", Cond.fieldLink RX7 35 "LoopMemoModel" "pasts" "I", Cond.fieldLink RX7 13 "LoopMemoModel" "past" "[I", Cond.fieldLink RX7 7 "LoopMemoModel" "s" "[I", Cond.methodLink RX7 118 yX7_sets, Cond.instanceMethod yX7_sets, Cond.selects RX7 yX7_sets yX7_sets, Cond.code yX7_sets cX7_sets 3 (some .int), Cond.methodLink RX7 86 yX7_makesRoom, Cond.instanceMethod yX7_makesRoom, Cond.selects RX7 yX7_makesRoom yX7_makesRoom, Cond.code yX7_makesRoom cX7_makesRoom 4 (some .int), Cond.methodLink RX7 73 yX7_first, Cond.instanceMethod yX7_first, Cond.selects RX7 yX7_first yX7_first, Cond.code yX7_first cX7_first 4 (some .int)]
def wsX7_set_r2 : List Cond := [Cond.methodLink RX7 66 yX7_isKnown, Cond.instanceMethod yX7_isKnown, Cond.selects RX7 yX7_isKnown yX7_isKnown, Cond.code yX7_isKnown cX7_isKnown 2 (some .boolean), Cond.methodLink RX7 70 yX7_isAhead, Cond.instanceMethod yX7_isAhead, Cond.selects RX7 yX7_isAhead yX7_isAhead, Cond.code yX7_isAhead cX7_isAhead 4 (some .boolean), Cond.methodLink RX7 76 yX7_weights, Cond.instanceMethod yX7_weights, Cond.selects RX7 yX7_weights yX7_weights, Cond.code yX7_weights cX7_weights 3 (some .int), Cond.methodLink RX7 57 yX7_weight, Cond.instanceMethod yX7_weight, Cond.selects RX7 yX7_weight yX7_weight, Cond.code yX7_weight cX7_weight 2 (some .int), Cond.methodLink RX7 54 yX7_found, Cond.instanceMethod yX7_found, Cond.selects RX7 yX7_found yX7_found, Cond.code yX7_found cX7_found 4 (some .int), Cond.methodLink RX7 50 yX7_isFound, Cond.instanceMethod yX7_isFound, Cond.selects RX7 yX7_isFound yX7_isFound, Cond.code yX7_isFound cX7_isFound 3 (some .boolean)]
def wsX7_set_r3 : List Cond := [Cond.methodLink RX7 43 yX7_innerKey, Cond.instanceMethod yX7_innerKey, Cond.selects RX7 yX7_innerKey yX7_innerKey, Cond.code yX7_innerKey cX7_innerKey 2 (some .int), Cond.methodLink RX7 47 yX7_innerValue, Cond.instanceMethod yX7_innerValue, Cond.selects RX7 yX7_innerValue yX7_innerValue, Cond.code yX7_innerValue cX7_innerValue 2 (some .int), Cond.methodLink RX7 83 yX7_throwsAll, Cond.instanceMethod yX7_throwsAll, Cond.selects RX7 yX7_throwsAll yX7_throwsAll, Cond.code yX7_throwsAll cX7_throwsAll 3 (some .int), Cond.methodLink RX7 80 yX7_throwsOut, Cond.instanceMethod yX7_throwsOut, Cond.selects RX7 yX7_throwsOut yX7_throwsOut, Cond.code yX7_throwsOut cX7_throwsOut 2 (some .int)]
def wsX7_set : List Cond := .code yX7_set cX7_set 3 (some .int) :: ((wsX7_set_r1 ++ (wsX7_set_r2 ++ wsX7_set_r3)) ++ wsX70)
def wsX7_append : List Cond := .code yX7_append cX7_append 2 (some .int) :: ([.fieldLink RX7 122 "LoopMemoModel" "typed" "I", .fieldLink RX7 22 "LoopMemoModel" "pad" "[I", .methodLink RX7 39 yX7_in, .static yX7_in, .initialized RX7, .code yX7_in cX7_in 3 (some .boolean)] ++ wsX70)
def wsX7_clear : List Cond := .code yX7_clear cX7_clear 2 (some .int) :: ([.fieldLink RX7 122 "LoopMemoModel" "typed" "I"] ++ wsX70)
def wsX7_isAt : List Cond := .code yX7_isAt cX7_isAt 3 (some .boolean) :: ([.fieldLink RX7 125 "LoopMemoModel" "spot" "I", .fieldLink RX7 122 "LoopMemoModel" "typed" "I", .fieldLink RX7 22 "LoopMemoModel" "pad" "[I", .methodLink RX7 39 yX7_in, .static yX7_in, .initialized RX7, .code yX7_in cX7_in 3 (some .boolean)] ++ wsX70)
def wsX7_sign : List Cond := .code yX7_sign cX7_sign 3 (some .boolean) :: ([.fieldLink RX7 125 "LoopMemoModel" "spot" "I", .methodLink RX7 128 yX7_isAt, .instanceMethod yX7_isAt, .selects RX7 yX7_isAt yX7_isAt, .initialized RX7, .code yX7_isAt cX7_isAt 3 (some .boolean), .fieldLink RX7 122 "LoopMemoModel" "typed" "I", .fieldLink RX7 22 "LoopMemoModel" "pad" "[I", .methodLink RX7 39 yX7_in, .static yX7_in, .code yX7_in cX7_in 3 (some .boolean)] ++ wsX70)
def wsX7_number : List Cond := .code yX7_number cX7_number 5 (some .boolean) :: ([.fieldLink RX7 22 "LoopMemoModel" "pad" "[I", .fieldLink RX7 125 "LoopMemoModel" "spot" "I", .fieldLink RX7 28 "LoopMemoModel" "read" "[I", .fieldLink RX7 131 "LoopMemoModel" "many" "I", .methodLink RX7 128 yX7_isAt, .instanceMethod yX7_isAt, .selects RX7 yX7_isAt yX7_isAt, .initialized RX7, .code yX7_isAt cX7_isAt 3 (some .boolean), .fieldLink RX7 122 "LoopMemoModel" "typed" "I", .methodLink RX7 39 yX7_in, .static yX7_in, .code yX7_in cX7_in 3 (some .boolean)] ++ wsX70)
def wsX7_readsRow : List Cond := .code yX7_readsRow cX7_readsRow 1 (some .boolean) :: ([.methodLink RX7 134 yX7_number, .instanceMethod yX7_number, .selects RX7 yX7_number yX7_number, .initialized RX7, .code yX7_number cX7_number 5 (some .boolean), .fieldLink RX7 22 "LoopMemoModel" "pad" "[I", .fieldLink RX7 125 "LoopMemoModel" "spot" "I", .fieldLink RX7 28 "LoopMemoModel" "read" "[I", .fieldLink RX7 131 "LoopMemoModel" "many" "I", .methodLink RX7 128 yX7_isAt, .instanceMethod yX7_isAt, .selects RX7 yX7_isAt yX7_isAt, .code yX7_isAt cX7_isAt 3 (some .boolean), .fieldLink RX7 122 "LoopMemoModel" "typed" "I", .methodLink RX7 39 yX7_in, .static yX7_in, .code yX7_in cX7_in 3 (some .boolean), .methodLink RX7 137 yX7_sign, .instanceMethod yX7_sign, .selects RX7 yX7_sign yX7_sign, .code yX7_sign cX7_sign 3 (some .boolean)] ++ wsX70)
def wsX7_deed_r1 : List Cond := [Cond.fieldLink RX7 125 "LoopMemoModel" "spot" "I", Cond.fieldLink RX7 122 "LoopMemoModel" "typed" "I", Cond.fieldLink RX7 22 "LoopMemoModel" "pad" "[I", Cond.fieldLink RX7 28 "LoopMemoModel" "read" "[I", Cond.fieldLink RX7 131 "LoopMemoModel" "many" "I", Cond.methodLink RX7 140 yX7_readsRow, Cond.instanceMethod yX7_readsRow, Cond.selects RX7 yX7_readsRow yX7_readsRow, Cond.initialized RX7, Cond.code yX7_readsRow cX7_readsRow 1 (some .boolean), Cond.methodLink RX7 134 yX7_number, Cond.instanceMethod yX7_number, Cond.selects RX7 yX7_number yX7_number, Cond.code yX7_number cX7_number 5 (some .boolean), Cond.methodLink RX7 128 yX7_isAt, Cond.instanceMethod yX7_isAt, Cond.selects RX7 yX7_isAt yX7_isAt, Cond.code yX7_isAt cX7_isAt 3 (some .boolean), Cond.methodLink RX7 39 yX7_in, Cond.static yX7_in, Cond.code yX7_in cX7_in 3 (some .boolean), Cond.methodLink RX7 137 yX7_sign, Cond.instanceMethod yX7_sign, Cond.selects RX7 yX7_sign yX7_sign]
def wsX7_deed_r2 : List Cond := [Cond.code yX7_sign cX7_sign 3 (some .boolean)]
def wsX7_deed : List Cond := .code yX7_deed cX7_deed 2 (some .boolean) :: ((wsX7_deed_r1 ++ wsX7_deed_r2) ++ wsX70)
def wsX7_fault_r1 : List Cond := [Cond.fieldLink RX7 125 "LoopMemoModel" "spot" "I", Cond.fieldLink RX7 131 "LoopMemoModel" "many" "I", Cond.fieldLink RX7 122 "LoopMemoModel" "typed" "I", Cond.methodLink RX7 39 yX7_in, Cond.static yX7_in, Cond.initialized RX7, Cond.code yX7_in cX7_in 3 (some .boolean), Cond.methodLink RX7 140 yX7_readsRow, Cond.instanceMethod yX7_readsRow, Cond.selects RX7 yX7_readsRow yX7_readsRow, Cond.code yX7_readsRow cX7_readsRow 1 (some .boolean), Cond.methodLink RX7 134 yX7_number, Cond.instanceMethod yX7_number, Cond.selects RX7 yX7_number yX7_number, Cond.code yX7_number cX7_number 5 (some .boolean), Cond.fieldLink RX7 22 "LoopMemoModel" "pad" "[I", Cond.fieldLink RX7 28 "LoopMemoModel" "read" "[I", Cond.methodLink RX7 128 yX7_isAt, Cond.instanceMethod yX7_isAt, Cond.selects RX7 yX7_isAt yX7_isAt, Cond.code yX7_isAt cX7_isAt 3 (some .boolean), Cond.methodLink RX7 137 yX7_sign, Cond.instanceMethod yX7_sign, Cond.selects RX7 yX7_sign yX7_sign]
def wsX7_fault_r2 : List Cond := [Cond.code yX7_sign cX7_sign 3 (some .boolean), Cond.methodLink RX7 144 yX7_deed, Cond.instanceMethod yX7_deed, Cond.selects RX7 yX7_deed yX7_deed, Cond.code yX7_deed cX7_deed 2 (some .boolean)]
def wsX7_fault : List Cond := .code yX7_fault cX7_fault 3 (some .int) :: ((wsX7_fault_r1 ++ wsX7_fault_r2) ++ wsX70)
def wsX7_fill_r1 : List Cond := [Cond.fieldLink RX7 7 "LoopMemoModel" "s" "[I", Cond.fieldLink RX7 131 "LoopMemoModel" "many" "I", Cond.fieldLink RX7 28 "LoopMemoModel" "read" "[I", Cond.fieldLink RX7 122 "LoopMemoModel" "typed" "I", Cond.methodLink RX7 147 yX7_fault, Cond.instanceMethod yX7_fault, Cond.selects RX7 yX7_fault yX7_fault, Cond.initialized RX7, Cond.code yX7_fault cX7_fault 3 (some .int), Cond.fieldLink RX7 125 "LoopMemoModel" "spot" "I", Cond.methodLink RX7 39 yX7_in, Cond.static yX7_in, Cond.code yX7_in cX7_in 3 (some .boolean), Cond.methodLink RX7 140 yX7_readsRow, Cond.instanceMethod yX7_readsRow, Cond.selects RX7 yX7_readsRow yX7_readsRow, Cond.code yX7_readsRow cX7_readsRow 1 (some .boolean), Cond.methodLink RX7 134 yX7_number, Cond.instanceMethod yX7_number, Cond.selects RX7 yX7_number yX7_number, Cond.code yX7_number cX7_number 5 (some .boolean), Cond.fieldLink RX7 22 "LoopMemoModel" "pad" "[I", Cond.methodLink RX7 128 yX7_isAt, Cond.instanceMethod yX7_isAt]
def wsX7_fill_r2 : List Cond := [Cond.selects RX7 yX7_isAt yX7_isAt, Cond.code yX7_isAt cX7_isAt 3 (some .boolean), Cond.methodLink RX7 137 yX7_sign, Cond.instanceMethod yX7_sign, Cond.selects RX7 yX7_sign yX7_sign, Cond.code yX7_sign cX7_sign 3 (some .boolean), Cond.methodLink RX7 144 yX7_deed, Cond.instanceMethod yX7_deed, Cond.selects RX7 yX7_deed yX7_deed, Cond.code yX7_deed cX7_deed 2 (some .boolean), Cond.methodLink RX7 96 yX7_changes, Cond.instanceMethod yX7_changes, Cond.selects RX7 yX7_changes yX7_changes, Cond.code yX7_changes cX7_changes 2 none, Cond.fieldLink RX7 31 "LoopMemoModel" "runs" "Z", Cond.fieldLink RX7 35 "LoopMemoModel" "pasts" "I", Cond.fieldLink RX7 13 "LoopMemoModel" "past" "[I", Cond.methodLink RX7 99 yX7_adds, Cond.instanceMethod yX7_adds, Cond.selects RX7 yX7_adds yX7_adds, Cond.code yX7_adds cX7_adds 6 (some .int), Cond.methodLink RX7 89 yX7_keeps, Cond.instanceMethod yX7_keeps, Cond.selects RX7 yX7_keeps yX7_keeps]
def wsX7_fill_r3 : List Cond := [Cond.code yX7_keeps cX7_keeps 5 none, Cond.methodLink RX7 83 yX7_throwsAll, Cond.instanceMethod yX7_throwsAll, Cond.selects RX7 yX7_throwsAll yX7_throwsAll, Cond.code yX7_throwsAll cX7_throwsAll 3 (some .int), Cond.methodLink RX7 80 yX7_throwsOut, Cond.instanceMethod yX7_throwsOut, Cond.selects RX7 yX7_throwsOut yX7_throwsOut, Cond.code yX7_throwsOut cX7_throwsOut 2 (some .int), Cond.methodLink RX7 66 yX7_isKnown, Cond.instanceMethod yX7_isKnown, Cond.selects RX7 yX7_isKnown yX7_isKnown, Cond.code yX7_isKnown cX7_isKnown 2 (some .boolean)]
def wsX7_fill : List Cond := .code yX7_fill cX7_fill 5 (some .int) :: ((wsX7_fill_r1 ++ (wsX7_fill_r2 ++ wsX7_fill_r3)) ++ wsX70)
def wsX7_does_r1 : List Cond := [Cond.fieldLink RX7 28 "LoopMemoModel" "read" "[I", Cond.methodLink RX7 150 yX7_step, Cond.instanceMethod yX7_step, Cond.selects RX7 yX7_step yX7_step, Cond.initialized RX7, Cond.code yX7_step cX7_step 2 (some .int), Cond.fieldLink RX7 7 "LoopMemoModel" "s" "[I", Cond.methodLink RX7 39 yX7_in, Cond.static yX7_in, Cond.code yX7_in cX7_in 3 (some .boolean), Cond.methodLink RX7 96 yX7_changes, Cond.instanceMethod yX7_changes, Cond.selects RX7 yX7_changes yX7_changes, Cond.code yX7_changes cX7_changes 2 none, Cond.fieldLink RX7 31 "LoopMemoModel" "runs" "Z", Cond.fieldLink RX7 35 "LoopMemoModel" "pasts" "I", Cond.fieldLink RX7 13 "LoopMemoModel" "past" "[I", Cond.methodLink RX7 115 yX7_steps, Cond.instanceMethod yX7_steps, Cond.selects RX7 yX7_steps yX7_steps, Cond.code yX7_steps cX7_steps 5 (some .int), Cond.methodLink RX7 112 yX7_looks, Cond.instanceMethod yX7_looks, Cond.selects RX7 yX7_looks yX7_looks]
def wsX7_does_r2 : List Cond := [Cond.code yX7_looks cX7_looks 2 (some .int), Cond.methodLink RX7 66 yX7_isKnown, Cond.instanceMethod yX7_isKnown, Cond.selects RX7 yX7_isKnown yX7_isKnown, Cond.code yX7_isKnown cX7_isKnown 2 (some .boolean), Cond.methodLink RX7 57 yX7_weight, Cond.instanceMethod yX7_weight, Cond.selects RX7 yX7_weight yX7_weight, Cond.code yX7_weight cX7_weight 2 (some .int), Cond.methodLink RX7 54 yX7_found, Cond.instanceMethod yX7_found, Cond.selects RX7 yX7_found yX7_found, Cond.code yX7_found cX7_found 4 (some .int), Cond.methodLink RX7 50 yX7_isFound, Cond.instanceMethod yX7_isFound, Cond.selects RX7 yX7_isFound yX7_isFound, Cond.code yX7_isFound cX7_isFound 3 (some .boolean), Cond.methodLink RX7 43 yX7_innerKey, Cond.instanceMethod yX7_innerKey, Cond.selects RX7 yX7_innerKey yX7_innerKey, Cond.code yX7_innerKey cX7_innerKey 2 (some .int), Cond.methodLink RX7 47 yX7_innerValue, Cond.instanceMethod yX7_innerValue, Cond.selects RX7 yX7_innerValue yX7_innerValue]
def wsX7_does_r3 : List Cond := [Cond.code yX7_innerValue cX7_innerValue 2 (some .int), Cond.methodLink RX7 86 yX7_makesRoom, Cond.instanceMethod yX7_makesRoom, Cond.selects RX7 yX7_makesRoom yX7_makesRoom, Cond.code yX7_makesRoom cX7_makesRoom 4 (some .int), Cond.methodLink RX7 73 yX7_first, Cond.instanceMethod yX7_first, Cond.selects RX7 yX7_first yX7_first, Cond.code yX7_first cX7_first 4 (some .int), Cond.methodLink RX7 70 yX7_isAhead, Cond.instanceMethod yX7_isAhead, Cond.selects RX7 yX7_isAhead yX7_isAhead, Cond.code yX7_isAhead cX7_isAhead 4 (some .boolean), Cond.methodLink RX7 76 yX7_weights, Cond.instanceMethod yX7_weights, Cond.selects RX7 yX7_weights yX7_weights, Cond.code yX7_weights cX7_weights 3 (some .int), Cond.methodLink RX7 60 yX7_sum, Cond.instanceMethod yX7_sum, Cond.selects RX7 yX7_sum yX7_sum, Cond.code yX7_sum cX7_sum 4 (some .int), Cond.methodLink RX7 153 yX7_add, Cond.instanceMethod yX7_add, Cond.selects RX7 yX7_add yX7_add]
def wsX7_does_r4 : List Cond := [Cond.code yX7_add cX7_add 4 (some .int), Cond.methodLink RX7 93 yX7_isRowOf, Cond.static yX7_isRowOf, Cond.code yX7_isRowOf cX7_isRowOf 2 (some .boolean), Cond.methodLink RX7 99 yX7_adds, Cond.instanceMethod yX7_adds, Cond.selects RX7 yX7_adds yX7_adds, Cond.code yX7_adds cX7_adds 6 (some .int), Cond.methodLink RX7 89 yX7_keeps, Cond.instanceMethod yX7_keeps, Cond.selects RX7 yX7_keeps yX7_keeps, Cond.code yX7_keeps cX7_keeps 5 none, Cond.methodLink RX7 83 yX7_throwsAll, Cond.instanceMethod yX7_throwsAll, Cond.selects RX7 yX7_throwsAll yX7_throwsAll, Cond.code yX7_throwsAll cX7_throwsAll 3 (some .int), Cond.methodLink RX7 80 yX7_throwsOut, Cond.instanceMethod yX7_throwsOut, Cond.selects RX7 yX7_throwsOut yX7_throwsOut, Cond.code yX7_throwsOut cX7_throwsOut 2 (some .int), Cond.methodLink RX7 156 yX7_drop, Cond.instanceMethod yX7_drop, Cond.selects RX7 yX7_drop yX7_drop, Cond.code yX7_drop cX7_drop 7 (some .int)]
def wsX7_does_r5 : List Cond := [Cond.methodLink RX7 103 yX7_isInner, Cond.instanceMethod yX7_isInner, Cond.selects RX7 yX7_isInner yX7_isInner, Cond.code yX7_isInner cX7_isInner 2 (some .boolean), Cond.methodLink RX7 106 yX7_isOuter, Cond.instanceMethod yX7_isOuter, Cond.selects RX7 yX7_isOuter yX7_isOuter, Cond.code yX7_isOuter cX7_isOuter 2 (some .boolean), Cond.methodLink RX7 160 yX7_again, Cond.instanceMethod yX7_again, Cond.selects RX7 yX7_again yX7_again, Cond.code yX7_again cX7_again 2 (some .int)]
def wsX7_does : List Cond := .code yX7_does cX7_does 3 (some .int) :: ((wsX7_does_r1 ++ (wsX7_does_r2 ++ (wsX7_does_r3 ++ (wsX7_does_r4 ++ wsX7_does_r5)))) ++ wsX70)
def wsX7_carryOut_r1 : List Cond := [Cond.fieldLink RX7 122 "LoopMemoModel" "typed" "I", Cond.fieldLink RX7 31 "LoopMemoModel" "runs" "Z", Cond.fieldLink RX7 163 "LoopMemoModel" "isStopped" "Z", Cond.fieldLink RX7 131 "LoopMemoModel" "many" "I", Cond.fieldLink RX7 25 "LoopMemoModel" "stop" "[I", Cond.fieldLink RX7 28 "LoopMemoModel" "read" "[I", Cond.methodLink RX7 147 yX7_fault, Cond.instanceMethod yX7_fault, Cond.selects RX7 yX7_fault yX7_fault, Cond.initialized RX7, Cond.code yX7_fault cX7_fault 3 (some .int), Cond.fieldLink RX7 125 "LoopMemoModel" "spot" "I", Cond.methodLink RX7 39 yX7_in, Cond.static yX7_in, Cond.code yX7_in cX7_in 3 (some .boolean), Cond.methodLink RX7 140 yX7_readsRow, Cond.instanceMethod yX7_readsRow, Cond.selects RX7 yX7_readsRow yX7_readsRow, Cond.code yX7_readsRow cX7_readsRow 1 (some .boolean), Cond.methodLink RX7 134 yX7_number, Cond.instanceMethod yX7_number, Cond.selects RX7 yX7_number yX7_number, Cond.code yX7_number cX7_number 5 (some .boolean), Cond.fieldLink RX7 22 "LoopMemoModel" "pad" "[I"]
def wsX7_carryOut_r2 : List Cond := [Cond.methodLink RX7 128 yX7_isAt, Cond.instanceMethod yX7_isAt, Cond.selects RX7 yX7_isAt yX7_isAt, Cond.code yX7_isAt cX7_isAt 3 (some .boolean), Cond.methodLink RX7 137 yX7_sign, Cond.instanceMethod yX7_sign, Cond.selects RX7 yX7_sign yX7_sign, Cond.code yX7_sign cX7_sign 3 (some .boolean), Cond.methodLink RX7 144 yX7_deed, Cond.instanceMethod yX7_deed, Cond.selects RX7 yX7_deed yX7_deed, Cond.code yX7_deed cX7_deed 2 (some .boolean), Cond.methodLink RX7 96 yX7_changes, Cond.instanceMethod yX7_changes, Cond.selects RX7 yX7_changes yX7_changes, Cond.code yX7_changes cX7_changes 2 none, Cond.fieldLink RX7 35 "LoopMemoModel" "pasts" "I", Cond.fieldLink RX7 13 "LoopMemoModel" "past" "[I", Cond.fieldLink RX7 7 "LoopMemoModel" "s" "[I", Cond.methodLink RX7 166 yX7_does, Cond.instanceMethod yX7_does, Cond.selects RX7 yX7_does yX7_does, Cond.code yX7_does cX7_does 3 (some .int), Cond.methodLink RX7 150 yX7_step]
def wsX7_carryOut_r3 : List Cond := [Cond.instanceMethod yX7_step, Cond.selects RX7 yX7_step yX7_step, Cond.code yX7_step cX7_step 2 (some .int), Cond.methodLink RX7 115 yX7_steps, Cond.instanceMethod yX7_steps, Cond.selects RX7 yX7_steps yX7_steps, Cond.code yX7_steps cX7_steps 5 (some .int), Cond.methodLink RX7 112 yX7_looks, Cond.instanceMethod yX7_looks, Cond.selects RX7 yX7_looks yX7_looks, Cond.code yX7_looks cX7_looks 2 (some .int), Cond.methodLink RX7 66 yX7_isKnown, Cond.instanceMethod yX7_isKnown, Cond.selects RX7 yX7_isKnown yX7_isKnown, Cond.code yX7_isKnown cX7_isKnown 2 (some .boolean), Cond.methodLink RX7 57 yX7_weight, Cond.instanceMethod yX7_weight, Cond.selects RX7 yX7_weight yX7_weight, Cond.code yX7_weight cX7_weight 2 (some .int), Cond.methodLink RX7 54 yX7_found, Cond.instanceMethod yX7_found, Cond.selects RX7 yX7_found yX7_found, Cond.code yX7_found cX7_found 4 (some .int), Cond.methodLink RX7 50 yX7_isFound]
def wsX7_carryOut_r4 : List Cond := [Cond.instanceMethod yX7_isFound, Cond.selects RX7 yX7_isFound yX7_isFound, Cond.code yX7_isFound cX7_isFound 3 (some .boolean), Cond.methodLink RX7 43 yX7_innerKey, Cond.instanceMethod yX7_innerKey, Cond.selects RX7 yX7_innerKey yX7_innerKey, Cond.code yX7_innerKey cX7_innerKey 2 (some .int), Cond.methodLink RX7 47 yX7_innerValue, Cond.instanceMethod yX7_innerValue, Cond.selects RX7 yX7_innerValue yX7_innerValue, Cond.code yX7_innerValue cX7_innerValue 2 (some .int), Cond.methodLink RX7 86 yX7_makesRoom, Cond.instanceMethod yX7_makesRoom, Cond.selects RX7 yX7_makesRoom yX7_makesRoom, Cond.code yX7_makesRoom cX7_makesRoom 4 (some .int), Cond.methodLink RX7 73 yX7_first, Cond.instanceMethod yX7_first, Cond.selects RX7 yX7_first yX7_first, Cond.code yX7_first cX7_first 4 (some .int), Cond.methodLink RX7 70 yX7_isAhead, Cond.instanceMethod yX7_isAhead, Cond.selects RX7 yX7_isAhead yX7_isAhead, Cond.code yX7_isAhead cX7_isAhead 4 (some .boolean), Cond.methodLink RX7 76 yX7_weights]
def wsX7_carryOut_r5 : List Cond := [Cond.instanceMethod yX7_weights, Cond.selects RX7 yX7_weights yX7_weights, Cond.code yX7_weights cX7_weights 3 (some .int), Cond.methodLink RX7 60 yX7_sum, Cond.instanceMethod yX7_sum, Cond.selects RX7 yX7_sum yX7_sum, Cond.code yX7_sum cX7_sum 4 (some .int), Cond.methodLink RX7 153 yX7_add, Cond.instanceMethod yX7_add, Cond.selects RX7 yX7_add yX7_add, Cond.code yX7_add cX7_add 4 (some .int), Cond.methodLink RX7 93 yX7_isRowOf, Cond.static yX7_isRowOf, Cond.code yX7_isRowOf cX7_isRowOf 2 (some .boolean), Cond.methodLink RX7 99 yX7_adds, Cond.instanceMethod yX7_adds, Cond.selects RX7 yX7_adds yX7_adds, Cond.code yX7_adds cX7_adds 6 (some .int), Cond.methodLink RX7 89 yX7_keeps, Cond.instanceMethod yX7_keeps, Cond.selects RX7 yX7_keeps yX7_keeps, Cond.code yX7_keeps cX7_keeps 5 none, Cond.methodLink RX7 83 yX7_throwsAll, Cond.instanceMethod yX7_throwsAll]
def wsX7_carryOut_r6 : List Cond := [Cond.selects RX7 yX7_throwsAll yX7_throwsAll, Cond.code yX7_throwsAll cX7_throwsAll 3 (some .int), Cond.methodLink RX7 80 yX7_throwsOut, Cond.instanceMethod yX7_throwsOut, Cond.selects RX7 yX7_throwsOut yX7_throwsOut, Cond.code yX7_throwsOut cX7_throwsOut 2 (some .int), Cond.methodLink RX7 156 yX7_drop, Cond.instanceMethod yX7_drop, Cond.selects RX7 yX7_drop yX7_drop, Cond.code yX7_drop cX7_drop 7 (some .int), Cond.methodLink RX7 103 yX7_isInner, Cond.instanceMethod yX7_isInner, Cond.selects RX7 yX7_isInner yX7_isInner, Cond.code yX7_isInner cX7_isInner 2 (some .boolean), Cond.methodLink RX7 106 yX7_isOuter, Cond.instanceMethod yX7_isOuter, Cond.selects RX7 yX7_isOuter yX7_isOuter, Cond.code yX7_isOuter cX7_isOuter 2 (some .boolean), Cond.methodLink RX7 160 yX7_again, Cond.instanceMethod yX7_again, Cond.selects RX7 yX7_again yX7_again, Cond.code yX7_again cX7_again 2 (some .int)]
def wsX7_carryOut : List Cond := .code yX7_carryOut cX7_carryOut 3 (some .int) :: ((wsX7_carryOut_r1 ++ (wsX7_carryOut_r2 ++ (wsX7_carryOut_r3 ++ (wsX7_carryOut_r4 ++ (wsX7_carryOut_r5 ++ wsX7_carryOut_r6))))) ++ wsX70)
def wsX7_why : List Cond := .code yX7_why cX7_why 2 (some .int) :: ([.fieldLink RX7 163 "LoopMemoModel" "isStopped" "Z", .fieldLink RX7 25 "LoopMemoModel" "stop" "[I", .methodLink RX7 39 yX7_in, .static yX7_in, .initialized RX7, .code yX7_in cX7_in 3 (some .boolean)] ++ wsX70)
def wsX7_row_r1 : List Cond := [Cond.fieldLink RX7 7 "LoopMemoModel" "s" "[I", Cond.methodLink RX7 103 yX7_isInner, Cond.instanceMethod yX7_isInner, Cond.selects RX7 yX7_isInner yX7_isInner, Cond.initialized RX7, Cond.code yX7_isInner cX7_isInner 2 (some .boolean), Cond.methodLink RX7 39 yX7_in, Cond.static yX7_in, Cond.code yX7_in cX7_in 3 (some .boolean), Cond.methodLink RX7 106 yX7_isOuter, Cond.instanceMethod yX7_isOuter, Cond.selects RX7 yX7_isOuter yX7_isOuter, Cond.code yX7_isOuter cX7_isOuter 2 (some .boolean), Cond.methodLink RX7 43 yX7_innerKey, Cond.instanceMethod yX7_innerKey, Cond.selects RX7 yX7_innerKey yX7_innerKey, Cond.code yX7_innerKey cX7_innerKey 2 (some .int), Cond.methodLink RX7 66 yX7_isKnown, Cond.instanceMethod yX7_isKnown, Cond.selects RX7 yX7_isKnown yX7_isKnown, Cond.code yX7_isKnown cX7_isKnown 2 (some .boolean), Cond.methodLink RX7 50 yX7_isFound, Cond.instanceMethod yX7_isFound, Cond.selects RX7 yX7_isFound yX7_isFound]
def wsX7_row_r2 : List Cond := [Cond.code yX7_isFound cX7_isFound 3 (some .boolean), Cond.methodLink RX7 47 yX7_innerValue, Cond.instanceMethod yX7_innerValue, Cond.selects RX7 yX7_innerValue yX7_innerValue, Cond.code yX7_innerValue cX7_innerValue 2 (some .int)]
def wsX7_row : List Cond := .code yX7_row cX7_row 5 (some .int) :: ((wsX7_row_r1 ++ wsX7_row_r2) ++ wsX70)
def wsX7_answer_r1 : List Cond := [Cond.methodLink RX7 39 yX7_in, Cond.static yX7_in, Cond.initialized RX7, Cond.code yX7_in cX7_in 3 (some .boolean), Cond.methodLink RX7 169 yX7_tell, Cond.instanceMethod yX7_tell, Cond.selects RX7 yX7_tell yX7_tell, Cond.code yX7_tell cX7_tell 3 (some .int), Cond.methodLink RX7 54 yX7_found, Cond.instanceMethod yX7_found, Cond.selects RX7 yX7_found yX7_found, Cond.code yX7_found cX7_found 4 (some .int), Cond.fieldLink RX7 7 "LoopMemoModel" "s" "[I", Cond.methodLink RX7 50 yX7_isFound, Cond.instanceMethod yX7_isFound, Cond.selects RX7 yX7_isFound yX7_isFound, Cond.code yX7_isFound cX7_isFound 3 (some .boolean), Cond.methodLink RX7 43 yX7_innerKey, Cond.instanceMethod yX7_innerKey, Cond.selects RX7 yX7_innerKey yX7_innerKey, Cond.code yX7_innerKey cX7_innerKey 2 (some .int), Cond.methodLink RX7 47 yX7_innerValue, Cond.instanceMethod yX7_innerValue, Cond.selects RX7 yX7_innerValue yX7_innerValue]
def wsX7_answer_r2 : List Cond := [Cond.code yX7_innerValue cX7_innerValue 2 (some .int), Cond.methodLink RX7 57 yX7_weight, Cond.instanceMethod yX7_weight, Cond.selects RX7 yX7_weight yX7_weight, Cond.code yX7_weight cX7_weight 2 (some .int), Cond.methodLink RX7 60 yX7_sum, Cond.instanceMethod yX7_sum, Cond.selects RX7 yX7_sum yX7_sum, Cond.code yX7_sum cX7_sum 4 (some .int), Cond.methodLink RX7 63 yX7_firstRow, Cond.instanceMethod yX7_firstRow, Cond.selects RX7 yX7_firstRow yX7_firstRow, Cond.code yX7_firstRow cX7_firstRow 3 (some .int)]
def wsX7_answer : List Cond := .code yX7_answer cX7_answer 3 (some .int) :: ((wsX7_answer_r1 ++ wsX7_answer_r2) ++ wsX70)
def wsX7_remembered_r1 : List Cond := [Cond.fieldLink RX7 7 "LoopMemoModel" "s" "[I", Cond.methodLink RX7 39 yX7_in, Cond.static yX7_in, Cond.initialized RX7, Cond.code yX7_in cX7_in 3 (some .boolean), Cond.methodLink RX7 66 yX7_isKnown, Cond.instanceMethod yX7_isKnown, Cond.selects RX7 yX7_isKnown yX7_isKnown, Cond.code yX7_isKnown cX7_isKnown 2 (some .boolean), Cond.methodLink RX7 172 yX7_orderOf, Cond.instanceMethod yX7_orderOf, Cond.selects RX7 yX7_orderOf yX7_orderOf, Cond.code yX7_orderOf cX7_orderOf 4 (some .int), Cond.methodLink RX7 70 yX7_isAhead, Cond.instanceMethod yX7_isAhead, Cond.selects RX7 yX7_isAhead yX7_isAhead, Cond.code yX7_isAhead cX7_isAhead 4 (some .boolean), Cond.methodLink RX7 169 yX7_tell, Cond.instanceMethod yX7_tell, Cond.selects RX7 yX7_tell yX7_tell, Cond.code yX7_tell cX7_tell 3 (some .int), Cond.methodLink RX7 54 yX7_found, Cond.instanceMethod yX7_found, Cond.selects RX7 yX7_found yX7_found]
def wsX7_remembered_r2 : List Cond := [Cond.code yX7_found cX7_found 4 (some .int), Cond.methodLink RX7 50 yX7_isFound, Cond.instanceMethod yX7_isFound, Cond.selects RX7 yX7_isFound yX7_isFound, Cond.code yX7_isFound cX7_isFound 3 (some .boolean), Cond.methodLink RX7 43 yX7_innerKey, Cond.instanceMethod yX7_innerKey, Cond.selects RX7 yX7_innerKey yX7_innerKey, Cond.code yX7_innerKey cX7_innerKey 2 (some .int), Cond.methodLink RX7 47 yX7_innerValue, Cond.instanceMethod yX7_innerValue, Cond.selects RX7 yX7_innerValue yX7_innerValue, Cond.code yX7_innerValue cX7_innerValue 2 (some .int), Cond.methodLink RX7 57 yX7_weight, Cond.instanceMethod yX7_weight, Cond.selects RX7 yX7_weight yX7_weight, Cond.code yX7_weight cX7_weight 2 (some .int), Cond.methodLink RX7 60 yX7_sum, Cond.instanceMethod yX7_sum, Cond.selects RX7 yX7_sum yX7_sum, Cond.code yX7_sum cX7_sum 4 (some .int), Cond.methodLink RX7 63 yX7_firstRow, Cond.instanceMethod yX7_firstRow, Cond.selects RX7 yX7_firstRow yX7_firstRow]
end
section
def wsX7_remembered_r3 : List Cond := [Cond.code yX7_firstRow cX7_firstRow 3 (some .int)]
def wsX7_remembered : List Cond := .code yX7_remembered cX7_remembered 3 (some .int) :: ((wsX7_remembered_r1 ++ (wsX7_remembered_r2 ++ wsX7_remembered_r3)) ++ wsX70)
def wsX7_count_r1 : List Cond := [Cond.fieldLink RX7 7 "LoopMemoModel" "s" "[I", Cond.fieldLink RX7 122 "LoopMemoModel" "typed" "I", Cond.fieldLink RX7 35 "LoopMemoModel" "pasts" "I", Cond.methodLink RX7 109 yX7_known, Cond.instanceMethod yX7_known, Cond.selects RX7 yX7_known yX7_known, Cond.initialized RX7, Cond.code yX7_known cX7_known 3 (some .int), Cond.methodLink RX7 66 yX7_isKnown, Cond.instanceMethod yX7_isKnown, Cond.selects RX7 yX7_isKnown yX7_isKnown, Cond.code yX7_isKnown cX7_isKnown 2 (some .boolean), Cond.methodLink RX7 76 yX7_weights, Cond.instanceMethod yX7_weights, Cond.selects RX7 yX7_weights yX7_weights, Cond.code yX7_weights cX7_weights 3 (some .int), Cond.methodLink RX7 57 yX7_weight, Cond.instanceMethod yX7_weight, Cond.selects RX7 yX7_weight yX7_weight, Cond.code yX7_weight cX7_weight 2 (some .int), Cond.methodLink RX7 54 yX7_found, Cond.instanceMethod yX7_found, Cond.selects RX7 yX7_found yX7_found, Cond.code yX7_found cX7_found 4 (some .int)]
def wsX7_count_r2 : List Cond := [Cond.methodLink RX7 50 yX7_isFound, Cond.instanceMethod yX7_isFound, Cond.selects RX7 yX7_isFound yX7_isFound, Cond.code yX7_isFound cX7_isFound 3 (some .boolean), Cond.methodLink RX7 43 yX7_innerKey, Cond.instanceMethod yX7_innerKey, Cond.selects RX7 yX7_innerKey yX7_innerKey, Cond.code yX7_innerKey cX7_innerKey 2 (some .int), Cond.methodLink RX7 47 yX7_innerValue, Cond.instanceMethod yX7_innerValue, Cond.selects RX7 yX7_innerValue yX7_innerValue, Cond.code yX7_innerValue cX7_innerValue 2 (some .int), Cond.methodLink RX7 39 yX7_in, Cond.static yX7_in, Cond.code yX7_in cX7_in 3 (some .boolean)]
def wsX7_count : List Cond := .code yX7_count cX7_count 2 (some .int) :: ((wsX7_count_r1 ++ wsX7_count_r2) ++ wsX70)
def wsX7_total : List Cond := .code yX7_total cX7_total 4 (some .int) :: ([.fieldLink RX7 7 "LoopMemoModel" "s" "[I", .methodLink RX7 39 yX7_in, .static yX7_in, .initialized RX7, .code yX7_in cX7_in 3 (some .boolean), .methodLink RX7 60 yX7_sum, .instanceMethod yX7_sum, .selects RX7 yX7_sum yX7_sum, .code yX7_sum cX7_sum 4 (some .int), .methodLink RX7 50 yX7_isFound, .instanceMethod yX7_isFound, .selects RX7 yX7_isFound yX7_isFound, .code yX7_isFound cX7_isFound 3 (some .boolean), .methodLink RX7 43 yX7_innerKey, .instanceMethod yX7_innerKey, .selects RX7 yX7_innerKey yX7_innerKey, .code yX7_innerKey cX7_innerKey 2 (some .int), .methodLink RX7 47 yX7_innerValue, .instanceMethod yX7_innerValue, .selects RX7 yX7_innerValue yX7_innerValue, .code yX7_innerValue cX7_innerValue 2 (some .int)] ++ wsX70)
def wsX7_rate : List Cond := .code yX7_rate cX7_rate 4 (some .double) :: ([.fieldLink RX7 7 "LoopMemoModel" "s" "[I"] ++ wsX70)
def wsX7_ifBound_r1 : List Cond := [Cond.fieldLink RX7 7 "LoopMemoModel" "s" "[I", Cond.methodLink RX7 39 yX7_in, Cond.static yX7_in, Cond.initialized RX7, Cond.code yX7_in cX7_in 3 (some .boolean), Cond.methodLink RX7 175 yX7_putsAside, Cond.instanceMethod yX7_putsAside, Cond.selects RX7 yX7_putsAside yX7_putsAside, Cond.code yX7_putsAside cX7_putsAside 2 none, Cond.fieldLink RX7 19 "LoopMemoModel" "spare" "[I", Cond.methodLink RX7 118 yX7_sets, Cond.instanceMethod yX7_sets, Cond.selects RX7 yX7_sets yX7_sets, Cond.code yX7_sets cX7_sets 3 (some .int), Cond.methodLink RX7 86 yX7_makesRoom, Cond.instanceMethod yX7_makesRoom, Cond.selects RX7 yX7_makesRoom yX7_makesRoom, Cond.code yX7_makesRoom cX7_makesRoom 4 (some .int), Cond.methodLink RX7 73 yX7_first, Cond.instanceMethod yX7_first, Cond.selects RX7 yX7_first yX7_first, Cond.code yX7_first cX7_first 4 (some .int), Cond.methodLink RX7 66 yX7_isKnown, Cond.instanceMethod yX7_isKnown]
def wsX7_ifBound_r2 : List Cond := [Cond.selects RX7 yX7_isKnown yX7_isKnown, Cond.code yX7_isKnown cX7_isKnown 2 (some .boolean), Cond.methodLink RX7 70 yX7_isAhead, Cond.instanceMethod yX7_isAhead, Cond.selects RX7 yX7_isAhead yX7_isAhead, Cond.code yX7_isAhead cX7_isAhead 4 (some .boolean), Cond.methodLink RX7 76 yX7_weights, Cond.instanceMethod yX7_weights, Cond.selects RX7 yX7_weights yX7_weights, Cond.code yX7_weights cX7_weights 3 (some .int), Cond.methodLink RX7 57 yX7_weight, Cond.instanceMethod yX7_weight, Cond.selects RX7 yX7_weight yX7_weight, Cond.code yX7_weight cX7_weight 2 (some .int), Cond.methodLink RX7 54 yX7_found, Cond.instanceMethod yX7_found, Cond.selects RX7 yX7_found yX7_found, Cond.code yX7_found cX7_found 4 (some .int), Cond.methodLink RX7 50 yX7_isFound, Cond.instanceMethod yX7_isFound, Cond.selects RX7 yX7_isFound yX7_isFound, Cond.code yX7_isFound cX7_isFound 3 (some .boolean), Cond.methodLink RX7 43 yX7_innerKey, Cond.instanceMethod yX7_innerKey]
def wsX7_ifBound_r3 : List Cond := [Cond.selects RX7 yX7_innerKey yX7_innerKey, Cond.code yX7_innerKey cX7_innerKey 2 (some .int), Cond.methodLink RX7 47 yX7_innerValue, Cond.instanceMethod yX7_innerValue, Cond.selects RX7 yX7_innerValue yX7_innerValue, Cond.code yX7_innerValue cX7_innerValue 2 (some .int), Cond.methodLink RX7 83 yX7_throwsAll, Cond.instanceMethod yX7_throwsAll, Cond.selects RX7 yX7_throwsAll yX7_throwsAll, Cond.code yX7_throwsAll cX7_throwsAll 3 (some .int), Cond.methodLink RX7 80 yX7_throwsOut, Cond.instanceMethod yX7_throwsOut, Cond.selects RX7 yX7_throwsOut yX7_throwsOut, Cond.code yX7_throwsOut cX7_throwsOut 2 (some .int), Cond.methodLink RX7 115 yX7_steps, Cond.instanceMethod yX7_steps, Cond.selects RX7 yX7_steps yX7_steps, Cond.code yX7_steps cX7_steps 5 (some .int), Cond.methodLink RX7 112 yX7_looks, Cond.instanceMethod yX7_looks, Cond.selects RX7 yX7_looks yX7_looks, Cond.code yX7_looks cX7_looks 2 (some .int), Cond.methodLink RX7 60 yX7_sum, Cond.instanceMethod yX7_sum]
def wsX7_ifBound_r4 : List Cond := [Cond.selects RX7 yX7_sum yX7_sum, Cond.code yX7_sum cX7_sum 4 (some .int), Cond.methodLink RX7 178 yX7_putsBack, Cond.instanceMethod yX7_putsBack, Cond.selects RX7 yX7_putsBack yX7_putsBack, Cond.code yX7_putsBack cX7_putsBack 2 none]
def wsX7_ifBound : List Cond := .code yX7_ifBound cX7_ifBound 9 (some .int) :: ((wsX7_ifBound_r1 ++ (wsX7_ifBound_r2 ++ (wsX7_ifBound_r3 ++ wsX7_ifBound_r4))) ++ wsX70)
def wsX7_swaps : List Cond := .code yX7_swaps cX7_swaps 5 none :: ([.fieldLink RX7 7 "LoopMemoModel" "s" "[I"] ++ wsX70)
def wsX7_sorts : List Cond := .code yX7_sorts cX7_sorts 3 none :: ([.fieldLink RX7 7 "LoopMemoModel" "s" "[I", .methodLink RX7 181 yX7_swaps, .instanceMethod yX7_swaps, .selects RX7 yX7_swaps yX7_swaps, .initialized RX7, .code yX7_swaps cX7_swaps 5 none] ++ wsX70)
def wsX7_turns : List Cond := .code yX7_turns cX7_turns 3 none :: ([.fieldLink RX7 7 "LoopMemoModel" "s" "[I", .methodLink RX7 181 yX7_swaps, .instanceMethod yX7_swaps, .selects RX7 yX7_swaps yX7_swaps, .initialized RX7, .code yX7_swaps cX7_swaps 5 none] ++ wsX70)
def wsX7_ifOrdered_r1 : List Cond := [Cond.methodLink RX7 39 yX7_in, Cond.static yX7_in, Cond.initialized RX7, Cond.code yX7_in cX7_in 3 (some .boolean), Cond.methodLink RX7 175 yX7_putsAside, Cond.instanceMethod yX7_putsAside, Cond.selects RX7 yX7_putsAside yX7_putsAside, Cond.code yX7_putsAside cX7_putsAside 2 none, Cond.fieldLink RX7 19 "LoopMemoModel" "spare" "[I", Cond.fieldLink RX7 7 "LoopMemoModel" "s" "[I", Cond.methodLink RX7 184 yX7_sorts, Cond.instanceMethod yX7_sorts, Cond.selects RX7 yX7_sorts yX7_sorts, Cond.code yX7_sorts cX7_sorts 3 none, Cond.methodLink RX7 181 yX7_swaps, Cond.instanceMethod yX7_swaps, Cond.selects RX7 yX7_swaps yX7_swaps, Cond.code yX7_swaps cX7_swaps 5 none, Cond.methodLink RX7 187 yX7_turns, Cond.instanceMethod yX7_turns, Cond.selects RX7 yX7_turns yX7_turns, Cond.code yX7_turns cX7_turns 3 none, Cond.methodLink RX7 115 yX7_steps, Cond.instanceMethod yX7_steps]
def wsX7_ifOrdered_r2 : List Cond := [Cond.selects RX7 yX7_steps yX7_steps, Cond.code yX7_steps cX7_steps 5 (some .int), Cond.methodLink RX7 112 yX7_looks, Cond.instanceMethod yX7_looks, Cond.selects RX7 yX7_looks yX7_looks, Cond.code yX7_looks cX7_looks 2 (some .int), Cond.methodLink RX7 66 yX7_isKnown, Cond.instanceMethod yX7_isKnown, Cond.selects RX7 yX7_isKnown yX7_isKnown, Cond.code yX7_isKnown cX7_isKnown 2 (some .boolean), Cond.methodLink RX7 57 yX7_weight, Cond.instanceMethod yX7_weight, Cond.selects RX7 yX7_weight yX7_weight, Cond.code yX7_weight cX7_weight 2 (some .int), Cond.methodLink RX7 54 yX7_found, Cond.instanceMethod yX7_found, Cond.selects RX7 yX7_found yX7_found, Cond.code yX7_found cX7_found 4 (some .int), Cond.methodLink RX7 50 yX7_isFound, Cond.instanceMethod yX7_isFound, Cond.selects RX7 yX7_isFound yX7_isFound, Cond.code yX7_isFound cX7_isFound 3 (some .boolean), Cond.methodLink RX7 43 yX7_innerKey, Cond.instanceMethod yX7_innerKey]
def wsX7_ifOrdered_r3 : List Cond := [Cond.selects RX7 yX7_innerKey yX7_innerKey, Cond.code yX7_innerKey cX7_innerKey 2 (some .int), Cond.methodLink RX7 47 yX7_innerValue, Cond.instanceMethod yX7_innerValue, Cond.selects RX7 yX7_innerValue yX7_innerValue, Cond.code yX7_innerValue cX7_innerValue 2 (some .int), Cond.methodLink RX7 86 yX7_makesRoom, Cond.instanceMethod yX7_makesRoom, Cond.selects RX7 yX7_makesRoom yX7_makesRoom, Cond.code yX7_makesRoom cX7_makesRoom 4 (some .int), Cond.methodLink RX7 73 yX7_first, Cond.instanceMethod yX7_first, Cond.selects RX7 yX7_first yX7_first, Cond.code yX7_first cX7_first 4 (some .int), Cond.methodLink RX7 70 yX7_isAhead, Cond.instanceMethod yX7_isAhead, Cond.selects RX7 yX7_isAhead yX7_isAhead, Cond.code yX7_isAhead cX7_isAhead 4 (some .boolean), Cond.methodLink RX7 76 yX7_weights, Cond.instanceMethod yX7_weights, Cond.selects RX7 yX7_weights yX7_weights, Cond.code yX7_weights cX7_weights 3 (some .int), Cond.methodLink RX7 60 yX7_sum, Cond.instanceMethod yX7_sum]
def wsX7_ifOrdered_r4 : List Cond := [Cond.selects RX7 yX7_sum yX7_sum, Cond.code yX7_sum cX7_sum 4 (some .int), Cond.methodLink RX7 178 yX7_putsBack, Cond.instanceMethod yX7_putsBack, Cond.selects RX7 yX7_putsBack yX7_putsBack, Cond.code yX7_putsBack cX7_putsBack 2 none]
def wsX7_ifOrdered : List Cond := .code yX7_ifOrdered cX7_ifOrdered 3 (some .int) :: ((wsX7_ifOrdered_r1 ++ (wsX7_ifOrdered_r2 ++ (wsX7_ifOrdered_r3 ++ wsX7_ifOrdered_r4))) ++ wsX70)
def wsX7_leastBound_r1 : List Cond := [Cond.methodLink RX7 190 yX7_ifBound, Cond.instanceMethod yX7_ifBound, Cond.selects RX7 yX7_ifBound yX7_ifBound, Cond.initialized RX7, Cond.code yX7_ifBound cX7_ifBound 9 (some .int), Cond.fieldLink RX7 7 "LoopMemoModel" "s" "[I", Cond.methodLink RX7 39 yX7_in, Cond.static yX7_in, Cond.code yX7_in cX7_in 3 (some .boolean), Cond.methodLink RX7 175 yX7_putsAside, Cond.instanceMethod yX7_putsAside, Cond.selects RX7 yX7_putsAside yX7_putsAside, Cond.code yX7_putsAside cX7_putsAside 2 none, Cond.fieldLink RX7 19 "LoopMemoModel" "spare" "[I", Cond.methodLink RX7 118 yX7_sets, Cond.instanceMethod yX7_sets, Cond.selects RX7 yX7_sets yX7_sets, Cond.code yX7_sets cX7_sets 3 (some .int), Cond.methodLink RX7 86 yX7_makesRoom, Cond.instanceMethod yX7_makesRoom, Cond.selects RX7 yX7_makesRoom yX7_makesRoom, Cond.code yX7_makesRoom cX7_makesRoom 4 (some .int), Cond.methodLink RX7 73 yX7_first, Cond.instanceMethod yX7_first]
def wsX7_leastBound_r2 : List Cond := [Cond.selects RX7 yX7_first yX7_first, Cond.code yX7_first cX7_first 4 (some .int), Cond.methodLink RX7 66 yX7_isKnown, Cond.instanceMethod yX7_isKnown, Cond.selects RX7 yX7_isKnown yX7_isKnown, Cond.code yX7_isKnown cX7_isKnown 2 (some .boolean), Cond.methodLink RX7 70 yX7_isAhead, Cond.instanceMethod yX7_isAhead, Cond.selects RX7 yX7_isAhead yX7_isAhead, Cond.code yX7_isAhead cX7_isAhead 4 (some .boolean), Cond.methodLink RX7 76 yX7_weights, Cond.instanceMethod yX7_weights, Cond.selects RX7 yX7_weights yX7_weights, Cond.code yX7_weights cX7_weights 3 (some .int), Cond.methodLink RX7 57 yX7_weight, Cond.instanceMethod yX7_weight, Cond.selects RX7 yX7_weight yX7_weight, Cond.code yX7_weight cX7_weight 2 (some .int), Cond.methodLink RX7 54 yX7_found, Cond.instanceMethod yX7_found, Cond.selects RX7 yX7_found yX7_found, Cond.code yX7_found cX7_found 4 (some .int), Cond.methodLink RX7 50 yX7_isFound, Cond.instanceMethod yX7_isFound]
def wsX7_leastBound_r3 : List Cond := [Cond.selects RX7 yX7_isFound yX7_isFound, Cond.code yX7_isFound cX7_isFound 3 (some .boolean), Cond.methodLink RX7 43 yX7_innerKey, Cond.instanceMethod yX7_innerKey, Cond.selects RX7 yX7_innerKey yX7_innerKey, Cond.code yX7_innerKey cX7_innerKey 2 (some .int), Cond.methodLink RX7 47 yX7_innerValue, Cond.instanceMethod yX7_innerValue, Cond.selects RX7 yX7_innerValue yX7_innerValue, Cond.code yX7_innerValue cX7_innerValue 2 (some .int), Cond.methodLink RX7 83 yX7_throwsAll, Cond.instanceMethod yX7_throwsAll, Cond.selects RX7 yX7_throwsAll yX7_throwsAll, Cond.code yX7_throwsAll cX7_throwsAll 3 (some .int), Cond.methodLink RX7 80 yX7_throwsOut, Cond.instanceMethod yX7_throwsOut, Cond.selects RX7 yX7_throwsOut yX7_throwsOut, Cond.code yX7_throwsOut cX7_throwsOut 2 (some .int), Cond.methodLink RX7 115 yX7_steps, Cond.instanceMethod yX7_steps, Cond.selects RX7 yX7_steps yX7_steps, Cond.code yX7_steps cX7_steps 5 (some .int), Cond.methodLink RX7 112 yX7_looks, Cond.instanceMethod yX7_looks]
def wsX7_leastBound_r4 : List Cond := [Cond.selects RX7 yX7_looks yX7_looks, Cond.code yX7_looks cX7_looks 2 (some .int), Cond.methodLink RX7 60 yX7_sum, Cond.instanceMethod yX7_sum, Cond.selects RX7 yX7_sum yX7_sum, Cond.code yX7_sum cX7_sum 4 (some .int), Cond.methodLink RX7 178 yX7_putsBack, Cond.instanceMethod yX7_putsBack, Cond.selects RX7 yX7_putsBack yX7_putsBack, Cond.code yX7_putsBack cX7_putsBack 2 none]
def wsX7_leastBound : List Cond := .code yX7_leastBound cX7_leastBound 5 (some .int) :: ((wsX7_leastBound_r1 ++ (wsX7_leastBound_r2 ++ (wsX7_leastBound_r3 ++ wsX7_leastBound_r4))) ++ wsX70)
def wsX7_undo : List Cond := .code yX7_undo cX7_undo 2 (some .int) :: ([.fieldLink RX7 35 "LoopMemoModel" "pasts" "I", .fieldLink RX7 7 "LoopMemoModel" "s" "[I", .fieldLink RX7 13 "LoopMemoModel" "past" "[I"] ++ wsX70)
def wsX7_save : List Cond := .code yX7_save cX7_save 2 (some .int) :: ([.fieldLink RX7 193 "LoopMemoModel" "isKept" "Z", .fieldLink RX7 16 "LoopMemoModel" "kept" "[I", .fieldLink RX7 7 "LoopMemoModel" "s" "[I", .methodLink RX7 109 yX7_known, .instanceMethod yX7_known, .selects RX7 yX7_known yX7_known, .initialized RX7, .code yX7_known cX7_known 3 (some .int), .methodLink RX7 66 yX7_isKnown, .instanceMethod yX7_isKnown, .selects RX7 yX7_isKnown yX7_isKnown, .code yX7_isKnown cX7_isKnown 2 (some .boolean)] ++ wsX70)
def wsX7_restore : List Cond := .code yX7_restore cX7_restore 2 (some .int) :: ([.fieldLink RX7 193 "LoopMemoModel" "isKept" "Z", .fieldLink RX7 7 "LoopMemoModel" "s" "[I", .fieldLink RX7 16 "LoopMemoModel" "kept" "[I", .methodLink RX7 96 yX7_changes, .instanceMethod yX7_changes, .selects RX7 yX7_changes yX7_changes, .initialized RX7, .code yX7_changes cX7_changes 2 none, .fieldLink RX7 31 "LoopMemoModel" "runs" "Z", .fieldLink RX7 35 "LoopMemoModel" "pasts" "I", .fieldLink RX7 13 "LoopMemoModel" "past" "[I", .methodLink RX7 109 yX7_known, .instanceMethod yX7_known, .selects RX7 yX7_known yX7_known, .code yX7_known cX7_known 3 (some .int), .methodLink RX7 66 yX7_isKnown, .instanceMethod yX7_isKnown, .selects RX7 yX7_isKnown yX7_isKnown, .code yX7_isKnown cX7_isKnown 2 (some .boolean)] ++ wsX70)
def wsJ9_min_7cf53 : List Cond := .code yJ9_min_7cf53 cJ9_min_7cf53 2 (some .int) :: ([])
theorem inJx8e188 : ∀ w ∈ wsJx8e1880, w ∈ lw_tbl := by decide +kernel
theorem inJ9 : ∀ w ∈ wsJ90, w ∈ lw_tbl := by decide +kernel
theorem inJ10 : ∀ w ∈ wsJ100, w ∈ lw_tbl := by decide +kernel
theorem dX0_init_0 : decode cX0_init 0 = .ok (.aload_n 0, 1) := by decide +kernel
theorem dX0_init_1 : decode cX0_init 1 = .ok (.invokespecial 3, 3) := by decide +kernel
theorem dX0_init_4 : decode cX0_init 4 = .ok (.aload_n 0, 1) := by decide +kernel
theorem dX0_init_5 : decode cX0_init 5 = .ok (.bipush 10, 2) := by decide +kernel
theorem dX0_init_7 : decode cX0_init 7 = .ok (.newarray .int, 2) := by decide +kernel
theorem dX0_init_9 : decode cX0_init 9 = .ok (.putfield 9, 3) := by decide +kernel
theorem dX0_init_12 : decode cX0_init 12 = .ok (.aload_n 0, 1) := by decide +kernel
theorem dX0_init_13 : decode cX0_init 13 = .ok (.bipush 10, 2) := by decide +kernel
theorem dX0_init_15 : decode cX0_init 15 = .ok (.newarray .int, 2) := by decide +kernel
theorem dX0_init_17 : decode cX0_init 17 = .ok (.putfield 15, 3) := by decide +kernel
theorem dX0_init_20 : decode cX0_init 20 = .ok (.aload_n 0, 1) := by decide +kernel
theorem dX0_init_21 : decode cX0_init 21 = .ok (.bipush 10, 2) := by decide +kernel
theorem dX0_init_23 : decode cX0_init 23 = .ok (.newarray .int, 2) := by decide +kernel
theorem dX0_init_25 : decode cX0_init 25 = .ok (.putfield 18, 3) := by decide +kernel
theorem dX0_init_28 : decode cX0_init 28 = .ok (.return_, 1) := by decide +kernel
set_option maxRecDepth 20000 in
theorem ggX0_copyFrom_X6_copyNumbers : GoodIn wsX0_copyFrom wsX6_copyNumbers := goodIn_r _ [6, 7, 8, 9, 10, 11, 12, 13, 14] (by decide +kernel) (by decide +kernel)
set_option maxRecDepth 20000 in
theorem gX0_copyFrom_X6_copyNumbers_n21 : GoodIn wsX0_copyFrom (wsX6_copyNumbers) := ggX0_copyFrom_X6_copyNumbers
theorem dX0_copyFrom_0 : decode cX0_copyFrom 0 = .ok (.aload_n 1, 1) := by decide +kernel
theorem dX0_copyFrom_1 : decode cX0_copyFrom 1 = .ok (.getfield 9, 3) := by decide +kernel
theorem dX0_copyFrom_4 : decode cX0_copyFrom 4 = .ok (.aload_n 0, 1) := by decide +kernel
theorem dX0_copyFrom_5 : decode cX0_copyFrom 5 = .ok (.getfield 9, 3) := by decide +kernel
theorem dX0_copyFrom_8 : decode cX0_copyFrom 8 = .ok (.invokestatic 21, 3) := by decide +kernel
theorem dX0_copyFrom_11 : decode cX0_copyFrom 11 = .ok (.aload_n 1, 1) := by decide +kernel
theorem dX0_copyFrom_12 : decode cX0_copyFrom 12 = .ok (.getfield 15, 3) := by decide +kernel
theorem dX0_copyFrom_15 : decode cX0_copyFrom 15 = .ok (.aload_n 0, 1) := by decide +kernel
theorem dX0_copyFrom_16 : decode cX0_copyFrom 16 = .ok (.getfield 15, 3) := by decide +kernel
theorem dX0_copyFrom_19 : decode cX0_copyFrom 19 = .ok (.invokestatic 21, 3) := by decide +kernel
theorem dX0_copyFrom_22 : decode cX0_copyFrom 22 = .ok (.aload_n 1, 1) := by decide +kernel
theorem dX0_copyFrom_23 : decode cX0_copyFrom 23 = .ok (.getfield 18, 3) := by decide +kernel
theorem dX0_copyFrom_26 : decode cX0_copyFrom 26 = .ok (.aload_n 0, 1) := by decide +kernel
theorem dX0_copyFrom_27 : decode cX0_copyFrom 27 = .ok (.getfield 18, 3) := by decide +kernel
theorem dX0_copyFrom_30 : decode cX0_copyFrom 30 = .ok (.invokestatic 21, 3) := by decide +kernel
theorem dX0_copyFrom_33 : decode cX0_copyFrom 33 = .ok (.return_, 1) := by decide +kernel
set_option maxRecDepth 20000 in
theorem ggX0_find_X5_size : GoodIn wsX0_find wsX5_size := goodIn_r _ [8, 9, 23, 24, 25] (by decide +kernel) (by decide +kernel)
set_option maxRecDepth 20000 in
theorem gX0_find_X5_size : GoodIn wsX0_find (wsV RX0 25 RX5 yX5_size wsX5_size) := goodIn_app (goodIn_of _ (by decide +kernel)) ggX0_find_X5_size
set_option maxRecDepth 20000 in
theorem ggX0_find_X5_value : GoodIn wsX0_find wsX5_value := goodIn_r _ [13, 14, 23, 24, 25] (by decide +kernel) (by decide +kernel)
set_option maxRecDepth 20000 in
theorem gX0_find_X5_value : GoodIn wsX0_find (wsV RX0 31 RX5 yX5_value wsX5_value) := goodIn_app (goodIn_of _ (by decide +kernel)) ggX0_find_X5_value
set_option maxRecDepth 20000 in
theorem ggX0_find_X5_key : GoodIn wsX0_find wsX5_key := goodIn_r _ [18, 19, 23, 24, 25] (by decide +kernel) (by decide +kernel)
set_option maxRecDepth 20000 in
theorem gX0_find_X5_key : GoodIn wsX0_find (wsV RX0 35 RX5 yX5_key wsX5_key) := goodIn_app (goodIn_of _ (by decide +kernel)) ggX0_find_X5_key
theorem dX0_find_0 : decode cX0_find 0 = .ok (.iconst 0, 1) := by decide +kernel
theorem dX0_find_1 : decode cX0_find 1 = .ok (.istore 4, 2) := by decide +kernel
theorem dX0_find_3 : decode cX0_find 3 = .ok (.iload 4, 2) := by decide +kernel
theorem dX0_find_5 : decode cX0_find 5 = .ok (.bipush 10, 2) := by decide +kernel
theorem dX0_find_7 : decode cX0_find 7 = .ok (.if_icmp .ge 25, 3) := by decide +kernel
theorem dX0_find_10 : decode cX0_find 10 = .ok (.aload_n 0, 1) := by decide +kernel
theorem dX0_find_11 : decode cX0_find 11 = .ok (.getfield 9, 3) := by decide +kernel
theorem dX0_find_14 : decode cX0_find 14 = .ok (.iload 4, 2) := by decide +kernel
theorem dX0_find_16 : decode cX0_find 16 = .ok (.iconst 0, 1) := by decide +kernel
theorem dX0_find_17 : decode cX0_find 17 = .ok (.iastore, 1) := by decide +kernel
theorem dX0_find_18 : decode cX0_find 18 = .ok (.aload_n 0, 1) := by decide +kernel
theorem dX0_find_19 : decode cX0_find 19 = .ok (.getfield 15, 3) := by decide +kernel
theorem dX0_find_22 : decode cX0_find 22 = .ok (.iload 4, 2) := by decide +kernel
theorem dX0_find_24 : decode cX0_find 24 = .ok (.iconst 0, 1) := by decide +kernel
theorem dX0_find_25 : decode cX0_find 25 = .ok (.iastore, 1) := by decide +kernel
theorem dX0_find_26 : decode cX0_find 26 = .ok (.iinc 4 1, 3) := by decide +kernel
theorem dX0_find_29 : decode cX0_find 29 = .ok (.goto (-26), 3) := by decide +kernel
theorem dX0_find_32 : decode cX0_find 32 = .ok (.aload_n 1, 1) := by decide +kernel
theorem dX0_find_33 : decode cX0_find 33 = .ok (.invokevirtual 25, 3) := by decide +kernel
theorem dX0_find_36 : decode cX0_find 36 = .ok (.iconst 1, 1) := by decide +kernel
theorem dX0_find_37 : decode cX0_find 37 = .ok (.isub, 1) := by decide +kernel
theorem dX0_find_38 : decode cX0_find 38 = .ok (.istore 4, 2) := by decide +kernel
theorem dX0_find_40 : decode cX0_find 40 = .ok (.iload 4, 2) := by decide +kernel
theorem dX0_find_42 : decode cX0_find 42 = .ok (.ifCond .lt 81, 3) := by decide +kernel
theorem dX0_find_45 : decode cX0_find 45 = .ok (.aload_n 1, 1) := by decide +kernel
theorem dX0_find_46 : decode cX0_find 46 = .ok (.iload 4, 2) := by decide +kernel
theorem dX0_find_48 : decode cX0_find 48 = .ok (.invokevirtual 31, 3) := by decide +kernel
theorem dX0_find_51 : decode cX0_find 51 = .ok (.istore 5, 2) := by decide +kernel
theorem dX0_find_53 : decode cX0_find 53 = .ok (.aload_n 1, 1) := by decide +kernel
theorem dX0_find_54 : decode cX0_find 54 = .ok (.iload 4, 2) := by decide +kernel
theorem dX0_find_56 : decode cX0_find 56 = .ok (.invokevirtual 35, 3) := by decide +kernel
theorem dX0_find_59 : decode cX0_find 59 = .ok (.istore 6, 2) := by decide +kernel
theorem dX0_find_61 : decode cX0_find 61 = .ok (.iload 6, 2) := by decide +kernel
theorem dX0_find_63 : decode cX0_find 63 = .ok (.ifCond .lt 54, 3) := by decide +kernel
theorem dX0_find_66 : decode cX0_find 66 = .ok (.iload 6, 2) := by decide +kernel
theorem dX0_find_68 : decode cX0_find 68 = .ok (.bipush 10, 2) := by decide +kernel
theorem dX0_find_70 : decode cX0_find 70 = .ok (.if_icmp .ge 47, 3) := by decide +kernel
theorem dX0_find_73 : decode cX0_find 73 = .ok (.iload 5, 2) := by decide +kernel
theorem dX0_find_75 : decode cX0_find 75 = .ok (.iload_n 2, 1) := by decide +kernel
theorem dX0_find_76 : decode cX0_find 76 = .ok (.if_icmp .lt 41, 3) := by decide +kernel
theorem dX0_find_79 : decode cX0_find 79 = .ok (.iload 5, 2) := by decide +kernel
theorem dX0_find_81 : decode cX0_find 81 = .ok (.iload_n 3, 1) := by decide +kernel
theorem dX0_find_82 : decode cX0_find 82 = .ok (.if_icmp .gt 35, 3) := by decide +kernel
theorem dX0_find_85 : decode cX0_find 85 = .ok (.aload_n 0, 1) := by decide +kernel
theorem dX0_find_86 : decode cX0_find 86 = .ok (.getfield 9, 3) := by decide +kernel
theorem dX0_find_89 : decode cX0_find 89 = .ok (.iload 6, 2) := by decide +kernel
theorem dX0_find_91 : decode cX0_find 91 = .ok (.dup2, 1) := by decide +kernel
theorem dX0_find_92 : decode cX0_find 92 = .ok (.iaload, 1) := by decide +kernel
theorem dX0_find_93 : decode cX0_find 93 = .ok (.iconst 1, 1) := by decide +kernel
theorem dX0_find_94 : decode cX0_find 94 = .ok (.iadd, 1) := by decide +kernel
theorem dX0_find_95 : decode cX0_find 95 = .ok (.iastore, 1) := by decide +kernel
theorem dX0_find_96 : decode cX0_find 96 = .ok (.aload_n 0, 1) := by decide +kernel
theorem dX0_find_97 : decode cX0_find 97 = .ok (.getfield 15, 3) := by decide +kernel
theorem dX0_find_100 : decode cX0_find 100 = .ok (.iload 6, 2) := by decide +kernel
theorem dX0_find_102 : decode cX0_find 102 = .ok (.dup2, 1) := by decide +kernel
theorem dX0_find_103 : decode cX0_find 103 = .ok (.iaload, 1) := by decide +kernel
theorem dX0_find_104 : decode cX0_find 104 = .ok (.iload 5, 2) := by decide +kernel
theorem dX0_find_106 : decode cX0_find 106 = .ok (.iadd, 1) := by decide +kernel
theorem dX0_find_107 : decode cX0_find 107 = .ok (.iastore, 1) := by decide +kernel
theorem dX0_find_108 : decode cX0_find 108 = .ok (.aload_n 0, 1) := by decide +kernel
theorem dX0_find_109 : decode cX0_find 109 = .ok (.getfield 18, 3) := by decide +kernel
theorem dX0_find_112 : decode cX0_find 112 = .ok (.iload 6, 2) := by decide +kernel
theorem dX0_find_114 : decode cX0_find 114 = .ok (.iload 4, 2) := by decide +kernel
theorem dX0_find_116 : decode cX0_find 116 = .ok (.iastore, 1) := by decide +kernel
theorem dX0_find_117 : decode cX0_find 117 = .ok (.iinc 4 (-1), 3) := by decide +kernel
theorem dX0_find_120 : decode cX0_find 120 = .ok (.goto (-80), 3) := by decide +kernel
theorem dX0_find_123 : decode cX0_find 123 = .ok (.return_, 1) := by decide +kernel
theorem dX0_weight_0 : decode cX0_weight 0 = .ok (.iconst 2, 1) := by decide +kernel
theorem dX0_weight_1 : decode cX0_weight 1 = .ok (.iload_n 1, 1) := by decide +kernel
theorem dX0_weight_2 : decode cX0_weight 2 = .ok (.ifCond .lt 21, 3) := by decide +kernel
theorem dX0_weight_5 : decode cX0_weight 5 = .ok (.iload_n 1, 1) := by decide +kernel
theorem dX0_weight_6 : decode cX0_weight 6 = .ok (.aload_n 0, 1) := by decide +kernel
theorem dX0_weight_7 : decode cX0_weight 7 = .ok (.getfield 9, 3) := by decide +kernel
theorem dX0_weight_10 : decode cX0_weight 10 = .ok (.arraylength, 1) := by decide +kernel
theorem dX0_weight_11 : decode cX0_weight 11 = .ok (.if_icmp .ge 12, 3) := by decide +kernel
theorem dX0_weight_14 : decode cX0_weight 14 = .ok (.aload_n 0, 1) := by decide +kernel
theorem dX0_weight_15 : decode cX0_weight 15 = .ok (.getfield 9, 3) := by decide +kernel
theorem dX0_weight_18 : decode cX0_weight 18 = .ok (.iload_n 1, 1) := by decide +kernel
theorem dX0_weight_19 : decode cX0_weight 19 = .ok (.iaload, 1) := by decide +kernel
theorem dX0_weight_20 : decode cX0_weight 20 = .ok (.goto 4, 3) := by decide +kernel
theorem dX0_weight_23 : decode cX0_weight 23 = .ok (.iconst 0, 1) := by decide +kernel
theorem dX0_weight_24 : decode cX0_weight 24 = .ok (.iadd, 1) := by decide +kernel
theorem dX0_weight_25 : decode cX0_weight 25 = .ok (.ireturn, 1) := by decide +kernel
theorem dX0_sum_0 : decode cX0_sum 0 = .ok (.iload_n 1, 1) := by decide +kernel
theorem dX0_sum_1 : decode cX0_sum 1 = .ok (.ifCond .lt 21, 3) := by decide +kernel
theorem dX0_sum_4 : decode cX0_sum 4 = .ok (.iload_n 1, 1) := by decide +kernel
theorem dX0_sum_5 : decode cX0_sum 5 = .ok (.aload_n 0, 1) := by decide +kernel
theorem dX0_sum_6 : decode cX0_sum 6 = .ok (.getfield 15, 3) := by decide +kernel
theorem dX0_sum_9 : decode cX0_sum 9 = .ok (.arraylength, 1) := by decide +kernel
theorem dX0_sum_10 : decode cX0_sum 10 = .ok (.if_icmp .ge 12, 3) := by decide +kernel
theorem dX0_sum_13 : decode cX0_sum 13 = .ok (.aload_n 0, 1) := by decide +kernel
theorem dX0_sum_14 : decode cX0_sum 14 = .ok (.getfield 15, 3) := by decide +kernel
theorem dX0_sum_17 : decode cX0_sum 17 = .ok (.iload_n 1, 1) := by decide +kernel
theorem dX0_sum_18 : decode cX0_sum 18 = .ok (.iaload, 1) := by decide +kernel
theorem dX0_sum_19 : decode cX0_sum 19 = .ok (.goto 4, 3) := by decide +kernel
theorem dX0_sum_22 : decode cX0_sum 22 = .ok (.iconst 0, 1) := by decide +kernel
theorem dX0_sum_23 : decode cX0_sum 23 = .ok (.ireturn, 1) := by decide +kernel
set_option maxRecDepth 20000 in
theorem ggX0_tell_X0_weight : GoodIn wsX0_tell wsX0_weight := goodIn_r _ [8, 1, 9, 10, 11] (by decide +kernel) (by decide +kernel)
set_option maxRecDepth 20000 in
theorem gX0_tell_X0_weight : GoodIn wsX0_tell (wsV RX0 38 RX0 yX0_weight wsX0_weight) := goodIn_app (goodIn_of _ (by decide +kernel)) ggX0_tell_X0_weight
theorem dX0_tell_0 : decode cX0_tell 0 = .ok (.iload_n 1, 1) := by decide +kernel
theorem dX0_tell_1 : decode cX0_tell 1 = .ok (.ifCond .lt 9, 3) := by decide +kernel
theorem dX0_tell_4 : decode cX0_tell 4 = .ok (.iload_n 1, 1) := by decide +kernel
theorem dX0_tell_5 : decode cX0_tell 5 = .ok (.bipush 10, 2) := by decide +kernel
theorem dX0_tell_7 : decode cX0_tell 7 = .ok (.if_icmp .lt 5, 3) := by decide +kernel
theorem dX0_tell_10 : decode cX0_tell 10 = .ok (.iconst (-1), 1) := by decide +kernel
theorem dX0_tell_11 : decode cX0_tell 11 = .ok (.ireturn, 1) := by decide +kernel
theorem dX0_tell_12 : decode cX0_tell 12 = .ok (.iload_n 2, 1) := by decide +kernel
theorem dX0_tell_13 : decode cX0_tell 13 = .ok (.tableswitch 47 0 2 #[27, 34, 40], 27) := by decide +kernel
theorem dX0_tell_40 : decode cX0_tell 40 = .ok (.aload_n 0, 1) := by decide +kernel
theorem dX0_tell_41 : decode cX0_tell 41 = .ok (.getfield 9, 3) := by decide +kernel
theorem dX0_tell_44 : decode cX0_tell 44 = .ok (.iload_n 1, 1) := by decide +kernel
theorem dX0_tell_45 : decode cX0_tell 45 = .ok (.iaload, 1) := by decide +kernel
theorem dX0_tell_46 : decode cX0_tell 46 = .ok (.ireturn, 1) := by decide +kernel
theorem dX0_tell_47 : decode cX0_tell 47 = .ok (.aload_n 0, 1) := by decide +kernel
theorem dX0_tell_48 : decode cX0_tell 48 = .ok (.iload_n 1, 1) := by decide +kernel
theorem dX0_tell_49 : decode cX0_tell 49 = .ok (.invokevirtual 38, 3) := by decide +kernel
theorem dX0_tell_52 : decode cX0_tell 52 = .ok (.ireturn, 1) := by decide +kernel
theorem dX0_tell_53 : decode cX0_tell 53 = .ok (.aload_n 0, 1) := by decide +kernel
theorem dX0_tell_54 : decode cX0_tell 54 = .ok (.getfield 15, 3) := by decide +kernel
theorem dX0_tell_57 : decode cX0_tell 57 = .ok (.iload_n 1, 1) := by decide +kernel
theorem dX0_tell_58 : decode cX0_tell 58 = .ok (.iaload, 1) := by decide +kernel
theorem dX0_tell_59 : decode cX0_tell 59 = .ok (.ireturn, 1) := by decide +kernel
theorem dX0_tell_60 : decode cX0_tell 60 = .ok (.aload_n 0, 1) := by decide +kernel
theorem dX0_tell_61 : decode cX0_tell 61 = .ok (.getfield 9, 3) := by decide +kernel
theorem dX0_tell_64 : decode cX0_tell 64 = .ok (.iload_n 1, 1) := by decide +kernel
theorem dX0_tell_65 : decode cX0_tell 65 = .ok (.iaload, 1) := by decide +kernel
theorem dX0_tell_66 : decode cX0_tell 66 = .ok (.ifCond .ne 8, 3) := by decide +kernel
theorem dX0_tell_69 : decode cX0_tell 69 = .ok (.bipush (-4), 2) := by decide +kernel
theorem dX0_tell_71 : decode cX0_tell 71 = .ok (.goto 9, 3) := by decide +kernel
theorem dX0_tell_74 : decode cX0_tell 74 = .ok (.aload_n 0, 1) := by decide +kernel
theorem dX0_tell_75 : decode cX0_tell 75 = .ok (.getfield 18, 3) := by decide +kernel
theorem dX0_tell_78 : decode cX0_tell 78 = .ok (.iload_n 1, 1) := by decide +kernel
theorem dX0_tell_79 : decode cX0_tell 79 = .ok (.iaload, 1) := by decide +kernel
theorem dX0_tell_80 : decode cX0_tell 80 = .ok (.ireturn, 1) := by decide +kernel
set_option maxRecDepth 20000 in
theorem ggX1_init_X4_init : GoodIn wsX1_init wsX4_init := goodIn_r _ [10, 11, 2, 3, 12, 13, 14, 15, 16, 17, 18, 19, 20, 21, 22, 23, 24, 25, 26, 27, 28, 29, 30, 31, 32, 33, 34, 35, 36, 37, 38, 39, 40, 41, 42, 43, 44, 45, 46, 47, 48, 49, 50, 51, 52, 53, 54, 66, 67, 68, 58, 59, 60, 61, 62, 63, 64, 65, 69, 70, 71, 72, 73, 74, 75] (by decide +kernel) (by decide +kernel)
set_option maxRecDepth 20000 in
theorem gX1_init_X4_init : GoodIn wsX1_init (wsX4_init) := ggX1_init_X4_init
theorem dX1_init_0 : decode cX1_init 0 = .ok (.aload_n 0, 1) := by decide +kernel
theorem dX1_init_1 : decode cX1_init 1 = .ok (.invokespecial 3, 3) := by decide +kernel
theorem dX1_init_4 : decode cX1_init 4 = .ok (.aload_n 0, 1) := by decide +kernel
theorem dX1_init_5 : decode cX1_init 5 = .ok (.iconst 5, 1) := by decide +kernel
theorem dX1_init_6 : decode cX1_init 6 = .ok (.anewarray 11, 3) := by decide +kernel
theorem dX1_init_9 : decode cX1_init 9 = .ok (.putfield 13, 3) := by decide +kernel
theorem dX1_init_12 : decode cX1_init 12 = .ok (.iconst 0, 1) := by decide +kernel
theorem dX1_init_13 : decode cX1_init 13 = .ok (.istore_n 1, 1) := by decide +kernel
theorem dX1_init_14 : decode cX1_init 14 = .ok (.iload_n 1, 1) := by decide +kernel
theorem dX1_init_15 : decode cX1_init 15 = .ok (.iconst 5, 1) := by decide +kernel
theorem dX1_init_16 : decode cX1_init 16 = .ok (.if_icmp .ge 22, 3) := by decide +kernel
theorem dX1_init_19 : decode cX1_init 19 = .ok (.aload_n 0, 1) := by decide +kernel
theorem dX1_init_20 : decode cX1_init 20 = .ok (.getfield 13, 3) := by decide +kernel
theorem dX1_init_23 : decode cX1_init 23 = .ok (.iload_n 1, 1) := by decide +kernel
theorem dX1_init_24 : decode cX1_init 24 = .ok (.new 11, 3) := by decide +kernel
theorem dX1_init_27 : decode cX1_init 27 = .ok (.dup, 1) := by decide +kernel
theorem dX1_init_28 : decode cX1_init 28 = .ok (.invokespecial 17, 3) := by decide +kernel
theorem dX1_init_31 : decode cX1_init 31 = .ok (.aastore, 1) := by decide +kernel
theorem dX1_init_32 : decode cX1_init 32 = .ok (.iinc 1 1, 3) := by decide +kernel
theorem dX1_init_35 : decode cX1_init 35 = .ok (.goto (-21), 3) := by decide +kernel
theorem dX1_init_38 : decode cX1_init 38 = .ok (.return_, 1) := by decide +kernel
theorem dX1_size_0 : decode cX1_size 0 = .ok (.aload_n 0, 1) := by decide +kernel
theorem dX1_size_1 : decode cX1_size 1 = .ok (.getfield 18, 3) := by decide +kernel
theorem dX1_size_4 : decode cX1_size 4 = .ok (.ireturn, 1) := by decide +kernel
set_option maxRecDepth 20000 in
theorem ggX1_prepare_X1_slot : GoodIn wsX1_prepare wsX1_slot := goodIn_r _ [6, 7, 57, 58, 59] (by decide +kernel) (by decide +kernel)
set_option maxRecDepth 20000 in
theorem gX1_prepare_X1_slot : GoodIn wsX1_prepare (wsV RX1 25 RX1 yX1_slot wsX1_slot) := goodIn_app (goodIn_of _ (by decide +kernel)) ggX1_prepare_X1_slot
set_option maxRecDepth 20000 in
theorem ggX1_prepare_X4_copyFrom : GoodIn wsX1_prepare wsX4_copyFrom := goodIn_r _ [12, 13, 14, 15, 16, 17, 18, 19, 20, 21, 22, 23, 24, 25, 26, 27, 28, 29, 30, 31, 32, 33, 34, 35, 36, 37, 38, 39, 40, 41, 42, 43, 44, 45, 46, 47, 48, 49, 50, 51, 52, 53, 54, 55, 56, 60, 61, 62, 63, 64, 65, 66, 67, 68, 69, 70, 71, 72, 73, 74, 75, 76, 77] (by decide +kernel) (by decide +kernel)
set_option maxRecDepth 20000 in
theorem gX1_prepare_X4_copyFrom : GoodIn wsX1_prepare (wsV RX1 29 RX4 yX4_copyFrom wsX4_copyFrom) := goodIn_app (goodIn_of _ (by decide +kernel)) ggX1_prepare_X4_copyFrom
theorem dX1_prepare_0 : decode cX1_prepare 0 = .ok (.aload_n 0, 1) := by decide +kernel
theorem dX1_prepare_1 : decode cX1_prepare 1 = .ok (.aload_n 0, 1) := by decide +kernel
theorem dX1_prepare_2 : decode cX1_prepare 2 = .ok (.getfield 22, 3) := by decide +kernel
theorem dX1_prepare_5 : decode cX1_prepare 5 = .ok (.invokevirtual 25, 3) := by decide +kernel
theorem dX1_prepare_8 : decode cX1_prepare 8 = .ok (.astore_n 2, 1) := by decide +kernel
theorem dX1_prepare_9 : decode cX1_prepare 9 = .ok (.aload_n 2, 1) := by decide +kernel
theorem dX1_prepare_10 : decode cX1_prepare 10 = .ok (.ifnull 8, 3) := by decide +kernel
theorem dX1_prepare_13 : decode cX1_prepare 13 = .ok (.aload_n 2, 1) := by decide +kernel
theorem dX1_prepare_14 : decode cX1_prepare 14 = .ok (.aload_n 1, 1) := by decide +kernel
theorem dX1_prepare_15 : decode cX1_prepare 15 = .ok (.invokevirtual 29, 3) := by decide +kernel
theorem dX1_prepare_18 : decode cX1_prepare 18 = .ok (.return_, 1) := by decide +kernel
theorem dX1_commit_0 : decode cX1_commit 0 = .ok (.iload_n 1, 1) := by decide +kernel
theorem dX1_commit_1 : decode cX1_commit 1 = .ok (.ifCond .lt 29, 3) := by decide +kernel
theorem dX1_commit_4 : decode cX1_commit 4 = .ok (.aload_n 0, 1) := by decide +kernel
theorem dX1_commit_5 : decode cX1_commit 5 = .ok (.aload_n 0, 1) := by decide +kernel
theorem dX1_commit_6 : decode cX1_commit 6 = .ok (.getfield 22, 3) := by decide +kernel
theorem dX1_commit_9 : decode cX1_commit 9 = .ok (.iconst 1, 1) := by decide +kernel
theorem dX1_commit_10 : decode cX1_commit 10 = .ok (.iadd, 1) := by decide +kernel
theorem dX1_commit_11 : decode cX1_commit 11 = .ok (.iconst 5, 1) := by decide +kernel
theorem dX1_commit_12 : decode cX1_commit 12 = .ok (.irem, 1) := by decide +kernel
theorem dX1_commit_13 : decode cX1_commit 13 = .ok (.putfield 22, 3) := by decide +kernel
theorem dX1_commit_16 : decode cX1_commit 16 = .ok (.aload_n 0, 1) := by decide +kernel
theorem dX1_commit_17 : decode cX1_commit 17 = .ok (.aload_n 0, 1) := by decide +kernel
theorem dX1_commit_18 : decode cX1_commit 18 = .ok (.getfield 18, 3) := by decide +kernel
theorem dX1_commit_21 : decode cX1_commit 21 = .ok (.iconst 1, 1) := by decide +kernel
theorem dX1_commit_22 : decode cX1_commit 22 = .ok (.iadd, 1) := by decide +kernel
theorem dX1_commit_23 : decode cX1_commit 23 = .ok (.iconst 4, 1) := by decide +kernel
theorem dX1_commit_24 : decode cX1_commit 24 = .ok (.invokestatic 33, 3) := by decide +kernel
theorem dX1_commit_27 : decode cX1_commit 27 = .ok (.putfield 18, 3) := by decide +kernel
theorem dX1_commit_30 : decode cX1_commit 30 = .ok (.iload_n 1, 1) := by decide +kernel
theorem dX1_commit_31 : decode cX1_commit 31 = .ok (.ireturn, 1) := by decide +kernel
set_option maxRecDepth 20000 in
theorem ggX1_pop_X1_slot : GoodIn wsX1_pop wsX1_slot := goodIn_r _ [7, 8, 9, 10, 11] (by decide +kernel) (by decide +kernel)
set_option maxRecDepth 20000 in
theorem gX1_pop_X1_slot : GoodIn wsX1_pop (wsV RX1 25 RX1 yX1_slot wsX1_slot) := goodIn_app (goodIn_of _ (by decide +kernel)) ggX1_pop_X1_slot
theorem dX1_pop_0 : decode cX1_pop 0 = .ok (.aload_n 0, 1) := by decide +kernel
theorem dX1_pop_1 : decode cX1_pop 1 = .ok (.getfield 18, 3) := by decide +kernel
theorem dX1_pop_4 : decode cX1_pop 4 = .ok (.ifCond .ne 5, 3) := by decide +kernel
theorem dX1_pop_7 : decode cX1_pop 7 = .ok (.aconst_null, 1) := by decide +kernel
theorem dX1_pop_8 : decode cX1_pop 8 = .ok (.areturn, 1) := by decide +kernel
theorem dX1_pop_9 : decode cX1_pop 9 = .ok (.aload_n 0, 1) := by decide +kernel
theorem dX1_pop_10 : decode cX1_pop 10 = .ok (.aload_n 0, 1) := by decide +kernel
theorem dX1_pop_11 : decode cX1_pop 11 = .ok (.getfield 22, 3) := by decide +kernel
theorem dX1_pop_14 : decode cX1_pop 14 = .ok (.iconst 5, 1) := by decide +kernel
theorem dX1_pop_15 : decode cX1_pop 15 = .ok (.iadd, 1) := by decide +kernel
theorem dX1_pop_16 : decode cX1_pop 16 = .ok (.iconst 1, 1) := by decide +kernel
theorem dX1_pop_17 : decode cX1_pop 17 = .ok (.isub, 1) := by decide +kernel
theorem dX1_pop_18 : decode cX1_pop 18 = .ok (.iconst 5, 1) := by decide +kernel
theorem dX1_pop_19 : decode cX1_pop 19 = .ok (.irem, 1) := by decide +kernel
theorem dX1_pop_20 : decode cX1_pop 20 = .ok (.putfield 22, 3) := by decide +kernel
theorem dX1_pop_23 : decode cX1_pop 23 = .ok (.aload_n 0, 1) := by decide +kernel
theorem dX1_pop_24 : decode cX1_pop 24 = .ok (.dup, 1) := by decide +kernel
theorem dX1_pop_25 : decode cX1_pop 25 = .ok (.getfield 18, 3) := by decide +kernel
theorem dX1_pop_28 : decode cX1_pop 28 = .ok (.iconst 1, 1) := by decide +kernel
theorem dX1_pop_29 : decode cX1_pop 29 = .ok (.isub, 1) := by decide +kernel
theorem dX1_pop_30 : decode cX1_pop 30 = .ok (.putfield 18, 3) := by decide +kernel
theorem dX1_pop_33 : decode cX1_pop 33 = .ok (.aload_n 0, 1) := by decide +kernel
theorem dX1_pop_34 : decode cX1_pop 34 = .ok (.aload_n 0, 1) := by decide +kernel
theorem dX1_pop_35 : decode cX1_pop 35 = .ok (.getfield 22, 3) := by decide +kernel
theorem dX1_pop_38 : decode cX1_pop 38 = .ok (.invokevirtual 25, 3) := by decide +kernel
theorem dX1_pop_41 : decode cX1_pop 41 = .ok (.areturn, 1) := by decide +kernel
theorem dX1_slot_0 : decode cX1_slot 0 = .ok (.iload_n 1, 1) := by decide +kernel
theorem dX1_slot_1 : decode cX1_slot 1 = .ok (.ifCond .lt 21, 3) := by decide +kernel
theorem dX1_slot_4 : decode cX1_slot 4 = .ok (.iload_n 1, 1) := by decide +kernel
theorem dX1_slot_5 : decode cX1_slot 5 = .ok (.aload_n 0, 1) := by decide +kernel
theorem dX1_slot_6 : decode cX1_slot 6 = .ok (.getfield 13, 3) := by decide +kernel
theorem dX1_slot_9 : decode cX1_slot 9 = .ok (.arraylength, 1) := by decide +kernel
theorem dX1_slot_10 : decode cX1_slot 10 = .ok (.if_icmp .ge 12, 3) := by decide +kernel
theorem dX1_slot_13 : decode cX1_slot 13 = .ok (.aload_n 0, 1) := by decide +kernel
theorem dX1_slot_14 : decode cX1_slot 14 = .ok (.getfield 13, 3) := by decide +kernel
theorem dX1_slot_17 : decode cX1_slot 17 = .ok (.iload_n 1, 1) := by decide +kernel
theorem dX1_slot_18 : decode cX1_slot 18 = .ok (.aaload, 1) := by decide +kernel
theorem dX1_slot_19 : decode cX1_slot 19 = .ok (.goto 4, 3) := by decide +kernel
theorem dX1_slot_22 : decode cX1_slot 22 = .ok (.aconst_null, 1) := by decide +kernel
theorem dX1_slot_23 : decode cX1_slot 23 = .ok (.areturn, 1) := by decide +kernel
theorem dX2_init_0 : decode cX2_init 0 = .ok (.aload_n 0, 1) := by decide +kernel
theorem dX2_init_1 : decode cX2_init 1 = .ok (.invokespecial 3, 3) := by decide +kernel
theorem dX2_init_4 : decode cX2_init 4 = .ok (.aload_n 0, 1) := by decide +kernel
theorem dX2_init_5 : decode cX2_init 5 = .ok (.bipush 10, 2) := by decide +kernel
theorem dX2_init_7 : decode cX2_init 7 = .ok (.newarray .int, 2) := by decide +kernel
theorem dX2_init_9 : decode cX2_init 9 = .ok (.putfield 9, 3) := by decide +kernel
theorem dX2_init_12 : decode cX2_init 12 = .ok (.aload_n 0, 1) := by decide +kernel
theorem dX2_init_13 : decode cX2_init 13 = .ok (.bipush 10, 2) := by decide +kernel
theorem dX2_init_15 : decode cX2_init 15 = .ok (.newarray .int, 2) := by decide +kernel
theorem dX2_init_17 : decode cX2_init 17 = .ok (.putfield 15, 3) := by decide +kernel
theorem dX2_init_20 : decode cX2_init 20 = .ok (.aload_n 0, 1) := by decide +kernel
theorem dX2_init_21 : decode cX2_init 21 = .ok (.bipush 10, 2) := by decide +kernel
theorem dX2_init_23 : decode cX2_init 23 = .ok (.newarray .int, 2) := by decide +kernel
theorem dX2_init_25 : decode cX2_init 25 = .ok (.putfield 18, 3) := by decide +kernel
theorem dX2_init_28 : decode cX2_init 28 = .ok (.return_, 1) := by decide +kernel
set_option maxRecDepth 20000 in
theorem ggX2_copyFrom_X6_copyNumbers : GoodIn wsX2_copyFrom wsX6_copyNumbers := goodIn_r _ [7, 8, 9, 10, 11, 12, 13, 14, 15] (by decide +kernel) (by decide +kernel)
set_option maxRecDepth 20000 in
theorem gX2_copyFrom_X6_copyNumbers_n21 : GoodIn wsX2_copyFrom (wsX6_copyNumbers) := ggX2_copyFrom_X6_copyNumbers
theorem dX2_copyFrom_0 : decode cX2_copyFrom 0 = .ok (.aload_n 1, 1) := by decide +kernel
theorem dX2_copyFrom_1 : decode cX2_copyFrom 1 = .ok (.getfield 9, 3) := by decide +kernel
theorem dX2_copyFrom_4 : decode cX2_copyFrom 4 = .ok (.aload_n 0, 1) := by decide +kernel
theorem dX2_copyFrom_5 : decode cX2_copyFrom 5 = .ok (.getfield 9, 3) := by decide +kernel
theorem dX2_copyFrom_8 : decode cX2_copyFrom 8 = .ok (.invokestatic 21, 3) := by decide +kernel
theorem dX2_copyFrom_11 : decode cX2_copyFrom 11 = .ok (.aload_n 1, 1) := by decide +kernel
theorem dX2_copyFrom_12 : decode cX2_copyFrom 12 = .ok (.getfield 15, 3) := by decide +kernel
theorem dX2_copyFrom_15 : decode cX2_copyFrom 15 = .ok (.aload_n 0, 1) := by decide +kernel
theorem dX2_copyFrom_16 : decode cX2_copyFrom 16 = .ok (.getfield 15, 3) := by decide +kernel
theorem dX2_copyFrom_19 : decode cX2_copyFrom 19 = .ok (.invokestatic 21, 3) := by decide +kernel
theorem dX2_copyFrom_22 : decode cX2_copyFrom 22 = .ok (.aload_n 1, 1) := by decide +kernel
theorem dX2_copyFrom_23 : decode cX2_copyFrom 23 = .ok (.getfield 18, 3) := by decide +kernel
theorem dX2_copyFrom_26 : decode cX2_copyFrom 26 = .ok (.aload_n 0, 1) := by decide +kernel
theorem dX2_copyFrom_27 : decode cX2_copyFrom 27 = .ok (.getfield 18, 3) := by decide +kernel
theorem dX2_copyFrom_30 : decode cX2_copyFrom 30 = .ok (.invokestatic 21, 3) := by decide +kernel
theorem dX2_copyFrom_33 : decode cX2_copyFrom 33 = .ok (.aload_n 0, 1) := by decide +kernel
theorem dX2_copyFrom_34 : decode cX2_copyFrom 34 = .ok (.aload_n 1, 1) := by decide +kernel
theorem dX2_copyFrom_35 : decode cX2_copyFrom 35 = .ok (.getfield 25, 3) := by decide +kernel
theorem dX2_copyFrom_38 : decode cX2_copyFrom 38 = .ok (.putfield 25, 3) := by decide +kernel
theorem dX2_copyFrom_41 : decode cX2_copyFrom 41 = .ok (.return_, 1) := by decide +kernel
theorem dX2_holds_0 : decode cX2_holds 0 = .ok (.iload_n 1, 1) := by decide +kernel
theorem dX2_holds_1 : decode cX2_holds 1 = .ok (.ifCond .lt 25, 3) := by decide +kernel
theorem dX2_holds_4 : decode cX2_holds 4 = .ok (.iload_n 1, 1) := by decide +kernel
theorem dX2_holds_5 : decode cX2_holds 5 = .ok (.aload_n 0, 1) := by decide +kernel
theorem dX2_holds_6 : decode cX2_holds 6 = .ok (.getfield 9, 3) := by decide +kernel
theorem dX2_holds_9 : decode cX2_holds 9 = .ok (.arraylength, 1) := by decide +kernel
theorem dX2_holds_10 : decode cX2_holds 10 = .ok (.if_icmp .ge 16, 3) := by decide +kernel
theorem dX2_holds_13 : decode cX2_holds 13 = .ok (.aload_n 0, 1) := by decide +kernel
theorem dX2_holds_14 : decode cX2_holds 14 = .ok (.getfield 9, 3) := by decide +kernel
theorem dX2_holds_17 : decode cX2_holds 17 = .ok (.iload_n 1, 1) := by decide +kernel
theorem dX2_holds_18 : decode cX2_holds 18 = .ok (.iaload, 1) := by decide +kernel
theorem dX2_holds_19 : decode cX2_holds 19 = .ok (.ifCond .le 7, 3) := by decide +kernel
theorem dX2_holds_22 : decode cX2_holds 22 = .ok (.iconst 1, 1) := by decide +kernel
theorem dX2_holds_23 : decode cX2_holds 23 = .ok (.goto 4, 3) := by decide +kernel
theorem dX2_holds_26 : decode cX2_holds 26 = .ok (.iconst 0, 1) := by decide +kernel
theorem dX2_holds_27 : decode cX2_holds 27 = .ok (.ireturn, 1) := by decide +kernel
theorem dX2_uses_0 : decode cX2_uses 0 = .ok (.iload_n 1, 1) := by decide +kernel
theorem dX2_uses_1 : decode cX2_uses 1 = .ok (.ifCond .lt 21, 3) := by decide +kernel
theorem dX2_uses_4 : decode cX2_uses 4 = .ok (.iload_n 1, 1) := by decide +kernel
theorem dX2_uses_5 : decode cX2_uses 5 = .ok (.aload_n 0, 1) := by decide +kernel
theorem dX2_uses_6 : decode cX2_uses 6 = .ok (.getfield 9, 3) := by decide +kernel
theorem dX2_uses_9 : decode cX2_uses 9 = .ok (.arraylength, 1) := by decide +kernel
theorem dX2_uses_10 : decode cX2_uses 10 = .ok (.if_icmp .ge 12, 3) := by decide +kernel
theorem dX2_uses_13 : decode cX2_uses 13 = .ok (.aload_n 0, 1) := by decide +kernel
theorem dX2_uses_14 : decode cX2_uses 14 = .ok (.getfield 9, 3) := by decide +kernel
theorem dX2_uses_17 : decode cX2_uses 17 = .ok (.iload_n 1, 1) := by decide +kernel
theorem dX2_uses_18 : decode cX2_uses 18 = .ok (.iaload, 1) := by decide +kernel
theorem dX2_uses_19 : decode cX2_uses 19 = .ok (.goto 4, 3) := by decide +kernel
theorem dX2_uses_22 : decode cX2_uses 22 = .ok (.iconst 0, 1) := by decide +kernel
theorem dX2_uses_23 : decode cX2_uses 23 = .ok (.ireturn, 1) := by decide +kernel
theorem dX2_size_0 : decode cX2_size 0 = .ok (.iconst 0, 1) := by decide +kernel
theorem dX2_size_1 : decode cX2_size 1 = .ok (.istore_n 1, 1) := by decide +kernel
theorem dX2_size_2 : decode cX2_size 2 = .ok (.iconst 0, 1) := by decide +kernel
theorem dX2_size_3 : decode cX2_size 3 = .ok (.istore_n 2, 1) := by decide +kernel
theorem dX2_size_4 : decode cX2_size 4 = .ok (.iload_n 2, 1) := by decide +kernel
theorem dX2_size_5 : decode cX2_size 5 = .ok (.bipush 10, 2) := by decide +kernel
theorem dX2_size_7 : decode cX2_size 7 = .ok (.if_icmp .ge 26, 3) := by decide +kernel
theorem dX2_size_10 : decode cX2_size 10 = .ok (.iload_n 1, 1) := by decide +kernel
theorem dX2_size_11 : decode cX2_size 11 = .ok (.aload_n 0, 1) := by decide +kernel
theorem dX2_size_12 : decode cX2_size 12 = .ok (.getfield 9, 3) := by decide +kernel
theorem dX2_size_15 : decode cX2_size 15 = .ok (.iload_n 2, 1) := by decide +kernel
theorem dX2_size_16 : decode cX2_size 16 = .ok (.iaload, 1) := by decide +kernel
theorem dX2_size_17 : decode cX2_size 17 = .ok (.ifCond .le 7, 3) := by decide +kernel
theorem dX2_size_20 : decode cX2_size 20 = .ok (.iconst 1, 1) := by decide +kernel
theorem dX2_size_21 : decode cX2_size 21 = .ok (.goto 4, 3) := by decide +kernel
theorem dX2_size_24 : decode cX2_size 24 = .ok (.iconst 0, 1) := by decide +kernel
theorem dX2_size_25 : decode cX2_size 25 = .ok (.iadd, 1) := by decide +kernel
theorem dX2_size_26 : decode cX2_size 26 = .ok (.istore_n 1, 1) := by decide +kernel
theorem dX2_size_27 : decode cX2_size 27 = .ok (.iinc 2 1, 3) := by decide +kernel
theorem dX2_size_30 : decode cX2_size 30 = .ok (.goto (-26), 3) := by decide +kernel
theorem dX2_size_33 : decode cX2_size 33 = .ok (.iload_n 1, 1) := by decide +kernel
theorem dX2_size_34 : decode cX2_size 34 = .ok (.ireturn, 1) := by decide +kernel
theorem dX2_take_0 : decode cX2_take 0 = .ok (.iload_n 1, 1) := by decide +kernel
theorem dX2_take_1 : decode cX2_take 1 = .ok (.ifCond .lt 46, 3) := by decide +kernel
theorem dX2_take_4 : decode cX2_take 4 = .ok (.iload_n 1, 1) := by decide +kernel
theorem dX2_take_5 : decode cX2_take 5 = .ok (.bipush 10, 2) := by decide +kernel
theorem dX2_take_7 : decode cX2_take 7 = .ok (.if_icmp .ge 40, 3) := by decide +kernel
theorem dX2_take_10 : decode cX2_take 10 = .ok (.aload_n 0, 1) := by decide +kernel
theorem dX2_take_11 : decode cX2_take 11 = .ok (.dup, 1) := by decide +kernel
theorem dX2_take_12 : decode cX2_take 12 = .ok (.getfield 25, 3) := by decide +kernel
theorem dX2_take_15 : decode cX2_take 15 = .ok (.iconst 1, 1) := by decide +kernel
theorem dX2_take_16 : decode cX2_take 16 = .ok (.iadd, 1) := by decide +kernel
theorem dX2_take_17 : decode cX2_take 17 = .ok (.putfield 25, 3) := by decide +kernel
theorem dX2_take_20 : decode cX2_take 20 = .ok (.aload_n 0, 1) := by decide +kernel
theorem dX2_take_21 : decode cX2_take 21 = .ok (.getfield 9, 3) := by decide +kernel
theorem dX2_take_24 : decode cX2_take 24 = .ok (.iload_n 1, 1) := by decide +kernel
theorem dX2_take_25 : decode cX2_take 25 = .ok (.iconst 1, 1) := by decide +kernel
theorem dX2_take_26 : decode cX2_take 26 = .ok (.iastore, 1) := by decide +kernel
theorem dX2_take_27 : decode cX2_take 27 = .ok (.aload_n 0, 1) := by decide +kernel
theorem dX2_take_28 : decode cX2_take 28 = .ok (.getfield 18, 3) := by decide +kernel
theorem dX2_take_31 : decode cX2_take 31 = .ok (.iload_n 1, 1) := by decide +kernel
theorem dX2_take_32 : decode cX2_take 32 = .ok (.aload_n 0, 1) := by decide +kernel
theorem dX2_take_33 : decode cX2_take 33 = .ok (.getfield 25, 3) := by decide +kernel
theorem dX2_take_36 : decode cX2_take 36 = .ok (.iastore, 1) := by decide +kernel
theorem dX2_take_37 : decode cX2_take 37 = .ok (.aload_n 0, 1) := by decide +kernel
theorem dX2_take_38 : decode cX2_take 38 = .ok (.getfield 15, 3) := by decide +kernel
theorem dX2_take_41 : decode cX2_take 41 = .ok (.iload_n 1, 1) := by decide +kernel
theorem dX2_take_42 : decode cX2_take 42 = .ok (.aload_n 0, 1) := by decide +kernel
theorem dX2_take_43 : decode cX2_take 43 = .ok (.getfield 25, 3) := by decide +kernel
theorem dX2_take_46 : decode cX2_take 46 = .ok (.iastore, 1) := by decide +kernel
theorem dX2_take_47 : decode cX2_take 47 = .ok (.return_, 1) := by decide +kernel
theorem dX2_touch_0 : decode cX2_touch 0 = .ok (.iload_n 1, 1) := by decide +kernel
theorem dX2_touch_1 : decode cX2_touch 1 = .ok (.ifCond .lt 39, 3) := by decide +kernel
theorem dX2_touch_4 : decode cX2_touch 4 = .ok (.iload_n 1, 1) := by decide +kernel
theorem dX2_touch_5 : decode cX2_touch 5 = .ok (.bipush 10, 2) := by decide +kernel
theorem dX2_touch_7 : decode cX2_touch 7 = .ok (.if_icmp .ge 33, 3) := by decide +kernel
theorem dX2_touch_10 : decode cX2_touch 10 = .ok (.aload_n 0, 1) := by decide +kernel
theorem dX2_touch_11 : decode cX2_touch 11 = .ok (.dup, 1) := by decide +kernel
theorem dX2_touch_12 : decode cX2_touch 12 = .ok (.getfield 25, 3) := by decide +kernel
theorem dX2_touch_15 : decode cX2_touch 15 = .ok (.iconst 1, 1) := by decide +kernel
theorem dX2_touch_16 : decode cX2_touch 16 = .ok (.iadd, 1) := by decide +kernel
theorem dX2_touch_17 : decode cX2_touch 17 = .ok (.putfield 25, 3) := by decide +kernel
theorem dX2_touch_20 : decode cX2_touch 20 = .ok (.aload_n 0, 1) := by decide +kernel
theorem dX2_touch_21 : decode cX2_touch 21 = .ok (.getfield 9, 3) := by decide +kernel
theorem dX2_touch_24 : decode cX2_touch 24 = .ok (.iload_n 1, 1) := by decide +kernel
theorem dX2_touch_25 : decode cX2_touch 25 = .ok (.dup2, 1) := by decide +kernel
theorem dX2_touch_26 : decode cX2_touch 26 = .ok (.iaload, 1) := by decide +kernel
theorem dX2_touch_27 : decode cX2_touch 27 = .ok (.iconst 1, 1) := by decide +kernel
theorem dX2_touch_28 : decode cX2_touch 28 = .ok (.iadd, 1) := by decide +kernel
theorem dX2_touch_29 : decode cX2_touch 29 = .ok (.iastore, 1) := by decide +kernel
theorem dX2_touch_30 : decode cX2_touch 30 = .ok (.aload_n 0, 1) := by decide +kernel
theorem dX2_touch_31 : decode cX2_touch 31 = .ok (.getfield 15, 3) := by decide +kernel
theorem dX2_touch_34 : decode cX2_touch 34 = .ok (.iload_n 1, 1) := by decide +kernel
theorem dX2_touch_35 : decode cX2_touch 35 = .ok (.aload_n 0, 1) := by decide +kernel
theorem dX2_touch_36 : decode cX2_touch 36 = .ok (.getfield 25, 3) := by decide +kernel
theorem dX2_touch_39 : decode cX2_touch 39 = .ok (.iastore, 1) := by decide +kernel
theorem dX2_touch_40 : decode cX2_touch 40 = .ok (.return_, 1) := by decide +kernel
theorem dX2_lose_0 : decode cX2_lose 0 = .ok (.iload_n 1, 1) := by decide +kernel
theorem dX2_lose_1 : decode cX2_lose 1 = .ok (.ifCond .lt 19, 3) := by decide +kernel
theorem dX2_lose_4 : decode cX2_lose 4 = .ok (.iload_n 1, 1) := by decide +kernel
theorem dX2_lose_5 : decode cX2_lose 5 = .ok (.aload_n 0, 1) := by decide +kernel
theorem dX2_lose_6 : decode cX2_lose 6 = .ok (.getfield 9, 3) := by decide +kernel
theorem dX2_lose_9 : decode cX2_lose 9 = .ok (.arraylength, 1) := by decide +kernel
theorem dX2_lose_10 : decode cX2_lose 10 = .ok (.if_icmp .ge 10, 3) := by decide +kernel
theorem dX2_lose_13 : decode cX2_lose 13 = .ok (.aload_n 0, 1) := by decide +kernel
theorem dX2_lose_14 : decode cX2_lose 14 = .ok (.getfield 9, 3) := by decide +kernel
theorem dX2_lose_17 : decode cX2_lose 17 = .ok (.iload_n 1, 1) := by decide +kernel
theorem dX2_lose_18 : decode cX2_lose 18 = .ok (.iconst 0, 1) := by decide +kernel
theorem dX2_lose_19 : decode cX2_lose 19 = .ok (.iastore, 1) := by decide +kernel
theorem dX2_lose_20 : decode cX2_lose 20 = .ok (.return_, 1) := by decide +kernel
set_option maxRecDepth 20000 in
theorem ggX2_loseAll_X2_size : GoodIn wsX2_loseAll wsX2_size := goodIn_r _ [6, 1, 7, 8, 9, 10] (by decide +kernel) (by decide +kernel)
set_option maxRecDepth 20000 in
theorem gX2_loseAll_X2_size : GoodIn wsX2_loseAll (wsV RX2 29 RX2 yX2_size wsX2_size) := goodIn_app (goodIn_of _ (by decide +kernel)) ggX2_loseAll_X2_size
theorem dX2_loseAll_0 : decode cX2_loseAll 0 = .ok (.aload_n 0, 1) := by decide +kernel
theorem dX2_loseAll_1 : decode cX2_loseAll 1 = .ok (.invokevirtual 29, 3) := by decide +kernel
theorem dX2_loseAll_4 : decode cX2_loseAll 4 = .ok (.istore_n 1, 1) := by decide +kernel
theorem dX2_loseAll_5 : decode cX2_loseAll 5 = .ok (.iconst 0, 1) := by decide +kernel
theorem dX2_loseAll_6 : decode cX2_loseAll 6 = .ok (.istore_n 2, 1) := by decide +kernel
theorem dX2_loseAll_7 : decode cX2_loseAll 7 = .ok (.iload_n 2, 1) := by decide +kernel
theorem dX2_loseAll_8 : decode cX2_loseAll 8 = .ok (.bipush 10, 2) := by decide +kernel
theorem dX2_loseAll_10 : decode cX2_loseAll 10 = .ok (.if_icmp .ge 16, 3) := by decide +kernel
theorem dX2_loseAll_13 : decode cX2_loseAll 13 = .ok (.aload_n 0, 1) := by decide +kernel
theorem dX2_loseAll_14 : decode cX2_loseAll 14 = .ok (.getfield 9, 3) := by decide +kernel
theorem dX2_loseAll_17 : decode cX2_loseAll 17 = .ok (.iload_n 2, 1) := by decide +kernel
theorem dX2_loseAll_18 : decode cX2_loseAll 18 = .ok (.iconst 0, 1) := by decide +kernel
theorem dX2_loseAll_19 : decode cX2_loseAll 19 = .ok (.iastore, 1) := by decide +kernel
theorem dX2_loseAll_20 : decode cX2_loseAll 20 = .ok (.iinc 2 1, 3) := by decide +kernel
theorem dX2_loseAll_23 : decode cX2_loseAll 23 = .ok (.goto (-16), 3) := by decide +kernel
theorem dX2_loseAll_26 : decode cX2_loseAll 26 = .ok (.iload_n 1, 1) := by decide +kernel
theorem dX2_loseAll_27 : decode cX2_loseAll 27 = .ok (.ireturn, 1) := by decide +kernel
set_option maxRecDepth 20000 in
theorem ggX2_firstOut_X2_rank : GoodIn wsX2_firstOut wsX2_rank := goodIn_r _ [6, 7, 1, 8, 9, 10, 11, 12] (by decide +kernel) (by decide +kernel)
set_option maxRecDepth 20000 in
theorem gX2_firstOut_X2_rank : GoodIn wsX2_firstOut (wsV RX2 33 RX2 yX2_rank wsX2_rank) := goodIn_app (goodIn_of _ (by decide +kernel)) ggX2_firstOut_X2_rank
theorem dX2_firstOut_0 : decode cX2_firstOut 0 = .ok (.iconst (-1), 1) := by decide +kernel
theorem dX2_firstOut_1 : decode cX2_firstOut 1 = .ok (.istore_n 3, 1) := by decide +kernel
theorem dX2_firstOut_2 : decode cX2_firstOut 2 = .ok (.iconst 0, 1) := by decide +kernel
theorem dX2_firstOut_3 : decode cX2_firstOut 3 = .ok (.istore 4, 2) := by decide +kernel
theorem dX2_firstOut_5 : decode cX2_firstOut 5 = .ok (.iload 4, 2) := by decide +kernel
theorem dX2_firstOut_7 : decode cX2_firstOut 7 = .ok (.bipush 10, 2) := by decide +kernel
theorem dX2_firstOut_9 : decode cX2_firstOut 9 = .ok (.if_icmp .ge 50, 3) := by decide +kernel
theorem dX2_firstOut_12 : decode cX2_firstOut 12 = .ok (.aload_n 0, 1) := by decide +kernel
theorem dX2_firstOut_13 : decode cX2_firstOut 13 = .ok (.getfield 9, 3) := by decide +kernel
theorem dX2_firstOut_16 : decode cX2_firstOut 16 = .ok (.iload 4, 2) := by decide +kernel
theorem dX2_firstOut_18 : decode cX2_firstOut 18 = .ok (.iaload, 1) := by decide +kernel
theorem dX2_firstOut_19 : decode cX2_firstOut 19 = .ok (.ifCond .le 34, 3) := by decide +kernel
theorem dX2_firstOut_22 : decode cX2_firstOut 22 = .ok (.iload 4, 2) := by decide +kernel
theorem dX2_firstOut_24 : decode cX2_firstOut 24 = .ok (.iload_n 2, 1) := by decide +kernel
theorem dX2_firstOut_25 : decode cX2_firstOut 25 = .ok (.if_icmp .eq 28, 3) := by decide +kernel
theorem dX2_firstOut_28 : decode cX2_firstOut 28 = .ok (.iload_n 3, 1) := by decide +kernel
theorem dX2_firstOut_29 : decode cX2_firstOut 29 = .ok (.iconst (-1), 1) := by decide +kernel
theorem dX2_firstOut_30 : decode cX2_firstOut 30 = .ok (.if_icmp .eq 20, 3) := by decide +kernel
theorem dX2_firstOut_33 : decode cX2_firstOut 33 = .ok (.aload_n 0, 1) := by decide +kernel
theorem dX2_firstOut_34 : decode cX2_firstOut 34 = .ok (.iload 4, 2) := by decide +kernel
theorem dX2_firstOut_36 : decode cX2_firstOut 36 = .ok (.iload_n 1, 1) := by decide +kernel
theorem dX2_firstOut_37 : decode cX2_firstOut 37 = .ok (.invokevirtual 33, 3) := by decide +kernel
theorem dX2_firstOut_40 : decode cX2_firstOut 40 = .ok (.aload_n 0, 1) := by decide +kernel
theorem dX2_firstOut_41 : decode cX2_firstOut 41 = .ok (.iload_n 3, 1) := by decide +kernel
theorem dX2_firstOut_42 : decode cX2_firstOut 42 = .ok (.iload_n 1, 1) := by decide +kernel
theorem dX2_firstOut_43 : decode cX2_firstOut 43 = .ok (.invokevirtual 33, 3) := by decide +kernel
theorem dX2_firstOut_46 : decode cX2_firstOut 46 = .ok (.lcmp, 1) := by decide +kernel
theorem dX2_firstOut_47 : decode cX2_firstOut 47 = .ok (.ifCond .ge 6, 3) := by decide +kernel
theorem dX2_firstOut_50 : decode cX2_firstOut 50 = .ok (.iload 4, 2) := by decide +kernel
theorem dX2_firstOut_52 : decode cX2_firstOut 52 = .ok (.istore_n 3, 1) := by decide +kernel
theorem dX2_firstOut_53 : decode cX2_firstOut 53 = .ok (.iinc 4 1, 3) := by decide +kernel
theorem dX2_firstOut_56 : decode cX2_firstOut 56 = .ok (.goto (-51), 3) := by decide +kernel
theorem dX2_firstOut_59 : decode cX2_firstOut 59 = .ok (.iload_n 3, 1) := by decide +kernel
theorem dX2_firstOut_60 : decode cX2_firstOut 60 = .ok (.ireturn, 1) := by decide +kernel
set_option maxRecDepth 20000 in
theorem ggX2_placeOf_X2_rank : GoodIn wsX2_placeOf wsX2_rank := goodIn_r _ [6, 7, 1, 8, 9, 10, 11, 12] (by decide +kernel) (by decide +kernel)
set_option maxRecDepth 20000 in
theorem gX2_placeOf_X2_rank : GoodIn wsX2_placeOf (wsV RX2 33 RX2 yX2_rank wsX2_rank) := goodIn_app (goodIn_of _ (by decide +kernel)) ggX2_placeOf_X2_rank
theorem dX2_placeOf_0 : decode cX2_placeOf 0 = .ok (.iconst 0, 1) := by decide +kernel
theorem dX2_placeOf_1 : decode cX2_placeOf 1 = .ok (.istore_n 3, 1) := by decide +kernel
theorem dX2_placeOf_2 : decode cX2_placeOf 2 = .ok (.iconst 0, 1) := by decide +kernel
theorem dX2_placeOf_3 : decode cX2_placeOf 3 = .ok (.istore 4, 2) := by decide +kernel
theorem dX2_placeOf_5 : decode cX2_placeOf 5 = .ok (.iload 4, 2) := by decide +kernel
theorem dX2_placeOf_7 : decode cX2_placeOf 7 = .ok (.bipush 10, 2) := by decide +kernel
theorem dX2_placeOf_9 : decode cX2_placeOf 9 = .ok (.if_icmp .ge 39, 3) := by decide +kernel
theorem dX2_placeOf_12 : decode cX2_placeOf 12 = .ok (.aload_n 0, 1) := by decide +kernel
theorem dX2_placeOf_13 : decode cX2_placeOf 13 = .ok (.getfield 9, 3) := by decide +kernel
theorem dX2_placeOf_16 : decode cX2_placeOf 16 = .ok (.iload 4, 2) := by decide +kernel
theorem dX2_placeOf_18 : decode cX2_placeOf 18 = .ok (.iaload, 1) := by decide +kernel
theorem dX2_placeOf_19 : decode cX2_placeOf 19 = .ok (.ifCond .le 23, 3) := by decide +kernel
theorem dX2_placeOf_22 : decode cX2_placeOf 22 = .ok (.aload_n 0, 1) := by decide +kernel
theorem dX2_placeOf_23 : decode cX2_placeOf 23 = .ok (.iload 4, 2) := by decide +kernel
theorem dX2_placeOf_25 : decode cX2_placeOf 25 = .ok (.iload_n 2, 1) := by decide +kernel
theorem dX2_placeOf_26 : decode cX2_placeOf 26 = .ok (.invokevirtual 33, 3) := by decide +kernel
theorem dX2_placeOf_29 : decode cX2_placeOf 29 = .ok (.aload_n 0, 1) := by decide +kernel
theorem dX2_placeOf_30 : decode cX2_placeOf 30 = .ok (.iload_n 1, 1) := by decide +kernel
theorem dX2_placeOf_31 : decode cX2_placeOf 31 = .ok (.iload_n 2, 1) := by decide +kernel
theorem dX2_placeOf_32 : decode cX2_placeOf 32 = .ok (.invokevirtual 33, 3) := by decide +kernel
theorem dX2_placeOf_35 : decode cX2_placeOf 35 = .ok (.lcmp, 1) := by decide +kernel
theorem dX2_placeOf_36 : decode cX2_placeOf 36 = .ok (.ifCond .ge 6, 3) := by decide +kernel
theorem dX2_placeOf_39 : decode cX2_placeOf 39 = .ok (.iinc 3 1, 3) := by decide +kernel
theorem dX2_placeOf_42 : decode cX2_placeOf 42 = .ok (.iinc 4 1, 3) := by decide +kernel
theorem dX2_placeOf_45 : decode cX2_placeOf 45 = .ok (.goto (-40), 3) := by decide +kernel
theorem dX2_placeOf_48 : decode cX2_placeOf 48 = .ok (.iload_n 3, 1) := by decide +kernel
theorem dX2_placeOf_49 : decode cX2_placeOf 49 = .ok (.ireturn, 1) := by decide +kernel
theorem dX2_rank_0 : decode cX2_rank 0 = .ok (.iload_n 1, 1) := by decide +kernel
theorem dX2_rank_1 : decode cX2_rank 1 = .ok (.ifCond .lt 9, 3) := by decide +kernel
theorem dX2_rank_4 : decode cX2_rank 4 = .ok (.iload_n 1, 1) := by decide +kernel
theorem dX2_rank_5 : decode cX2_rank 5 = .ok (.bipush 10, 2) := by decide +kernel
theorem dX2_rank_7 : decode cX2_rank 7 = .ok (.if_icmp .lt 5, 3) := by decide +kernel
theorem dX2_rank_10 : decode cX2_rank 10 = .ok (.lconst 0, 1) := by decide +kernel
theorem dX2_rank_11 : decode cX2_rank 11 = .ok (.lreturn, 1) := by decide +kernel
theorem dX2_rank_12 : decode cX2_rank 12 = .ok (.iload_n 2, 1) := by decide +kernel
theorem dX2_rank_13 : decode cX2_rank 13 = .ok (.iconst 2, 1) := by decide +kernel
theorem dX2_rank_14 : decode cX2_rank 14 = .ok (.if_icmp .ne 11, 3) := by decide +kernel
theorem dX2_rank_17 : decode cX2_rank 17 = .ok (.aload_n 0, 1) := by decide +kernel
theorem dX2_rank_18 : decode cX2_rank 18 = .ok (.getfield 18, 3) := by decide +kernel
theorem dX2_rank_21 : decode cX2_rank 21 = .ok (.iload_n 1, 1) := by decide +kernel
theorem dX2_rank_22 : decode cX2_rank 22 = .ok (.iaload, 1) := by decide +kernel
theorem dX2_rank_23 : decode cX2_rank 23 = .ok (.i2l, 1) := by decide +kernel
theorem dX2_rank_24 : decode cX2_rank 24 = .ok (.lreturn, 1) := by decide +kernel
theorem dX2_rank_25 : decode cX2_rank 25 = .ok (.iload_n 2, 1) := by decide +kernel
theorem dX2_rank_26 : decode cX2_rank 26 = .ok (.iconst 1, 1) := by decide +kernel
theorem dX2_rank_27 : decode cX2_rank 27 = .ok (.if_icmp .ne 16, 3) := by decide +kernel
theorem dX2_rank_30 : decode cX2_rank 30 = .ok (.aload_n 0, 1) := by decide +kernel
theorem dX2_rank_31 : decode cX2_rank 31 = .ok (.getfield 9, 3) := by decide +kernel
theorem dX2_rank_34 : decode cX2_rank 34 = .ok (.iload_n 1, 1) := by decide +kernel
theorem dX2_rank_35 : decode cX2_rank 35 = .ok (.iaload, 1) := by decide +kernel
theorem dX2_rank_36 : decode cX2_rank 36 = .ok (.i2l, 1) := by decide +kernel
theorem dX2_rank_37 : decode cX2_rank 37 = .ok (.bipush 32, 2) := by decide +kernel
theorem dX2_rank_39 : decode cX2_rank 39 = .ok (.lshl, 1) := by decide +kernel
theorem dX2_rank_40 : decode cX2_rank 40 = .ok (.goto 4, 3) := by decide +kernel
theorem dX2_rank_43 : decode cX2_rank 43 = .ok (.lconst 0, 1) := by decide +kernel
theorem dX2_rank_44 : decode cX2_rank 44 = .ok (.aload_n 0, 1) := by decide +kernel
theorem dX2_rank_45 : decode cX2_rank 45 = .ok (.getfield 15, 3) := by decide +kernel
theorem dX2_rank_48 : decode cX2_rank 48 = .ok (.iload_n 1, 1) := by decide +kernel
theorem dX2_rank_49 : decode cX2_rank 49 = .ok (.iaload, 1) := by decide +kernel
theorem dX2_rank_50 : decode cX2_rank 50 = .ok (.i2l, 1) := by decide +kernel
theorem dX2_rank_51 : decode cX2_rank 51 = .ok (.ladd, 1) := by decide +kernel
theorem dX2_rank_52 : decode cX2_rank 52 = .ok (.lreturn, 1) := by decide +kernel
theorem dX3_init_0 : decode cX3_init 0 = .ok (.aload_n 0, 1) := by decide +kernel
theorem dX3_init_1 : decode cX3_init 1 = .ok (.invokespecial 3, 3) := by decide +kernel
theorem dX3_init_4 : decode cX3_init 4 = .ok (.aload_n 0, 1) := by decide +kernel
theorem dX3_init_5 : decode cX3_init 5 = .ok (.bipush 60, 2) := by decide +kernel
theorem dX3_init_7 : decode cX3_init 7 = .ok (.newarray .int, 2) := by decide +kernel
theorem dX3_init_9 : decode cX3_init 9 = .ok (.putfield 9, 3) := by decide +kernel
theorem dX3_init_12 : decode cX3_init 12 = .ok (.return_, 1) := by decide +kernel
theorem dX3_size_0 : decode cX3_size 0 = .ok (.aload_n 0, 1) := by decide +kernel
theorem dX3_size_1 : decode cX3_size 1 = .ok (.getfield 15, 3) := by decide +kernel
theorem dX3_size_4 : decode cX3_size 4 = .ok (.ireturn, 1) := by decide +kernel
theorem dX3_push_0 : decode cX3_push 0 = .ok (.iload_n 1, 1) := by decide +kernel
theorem dX3_push_1 : decode cX3_push 1 = .ok (.bipush 33, 2) := by decide +kernel
theorem dX3_push_3 : decode cX3_push 3 = .ok (.if_icmp .lt 9, 3) := by decide +kernel
theorem dX3_push_6 : decode cX3_push 6 = .ok (.iload_n 1, 1) := by decide +kernel
theorem dX3_push_7 : decode cX3_push 7 = .ok (.bipush 126, 2) := by decide +kernel
theorem dX3_push_9 : decode cX3_push 9 = .ok (.if_icmp .le 5, 3) := by decide +kernel
theorem dX3_push_12 : decode cX3_push 12 = .ok (.iconst (-1), 1) := by decide +kernel
theorem dX3_push_13 : decode cX3_push 13 = .ok (.ireturn, 1) := by decide +kernel
theorem dX3_push_14 : decode cX3_push 14 = .ok (.aload_n 0, 1) := by decide +kernel
theorem dX3_push_15 : decode cX3_push 15 = .ok (.getfield 15, 3) := by decide +kernel
theorem dX3_push_18 : decode cX3_push 18 = .ok (.ifCond .lt 15, 3) := by decide +kernel
theorem dX3_push_21 : decode cX3_push 21 = .ok (.aload_n 0, 1) := by decide +kernel
theorem dX3_push_22 : decode cX3_push 22 = .ok (.getfield 15, 3) := by decide +kernel
theorem dX3_push_25 : decode cX3_push 25 = .ok (.aload_n 0, 1) := by decide +kernel
theorem dX3_push_26 : decode cX3_push 26 = .ok (.getfield 9, 3) := by decide +kernel
theorem dX3_push_29 : decode cX3_push 29 = .ok (.arraylength, 1) := by decide +kernel
theorem dX3_push_30 : decode cX3_push 30 = .ok (.if_icmp .lt 6, 3) := by decide +kernel
theorem dX3_push_33 : decode cX3_push 33 = .ok (.bipush (-3), 2) := by decide +kernel
theorem dX3_push_35 : decode cX3_push 35 = .ok (.ireturn, 1) := by decide +kernel
theorem dX3_push_36 : decode cX3_push 36 = .ok (.aload_n 0, 1) := by decide +kernel
theorem dX3_push_37 : decode cX3_push 37 = .ok (.getfield 9, 3) := by decide +kernel
theorem dX3_push_40 : decode cX3_push 40 = .ok (.aload_n 0, 1) := by decide +kernel
theorem dX3_push_41 : decode cX3_push 41 = .ok (.getfield 15, 3) := by decide +kernel
theorem dX3_push_44 : decode cX3_push 44 = .ok (.iload_n 1, 1) := by decide +kernel
theorem dX3_push_45 : decode cX3_push 45 = .ok (.iastore, 1) := by decide +kernel
theorem dX3_push_46 : decode cX3_push 46 = .ok (.aload_n 0, 1) := by decide +kernel
theorem dX3_push_47 : decode cX3_push 47 = .ok (.dup, 1) := by decide +kernel
theorem dX3_push_48 : decode cX3_push 48 = .ok (.getfield 15, 3) := by decide +kernel
theorem dX3_push_51 : decode cX3_push 51 = .ok (.iconst 1, 1) := by decide +kernel
theorem dX3_push_52 : decode cX3_push 52 = .ok (.iadd, 1) := by decide +kernel
theorem dX3_push_53 : decode cX3_push 53 = .ok (.putfield 15, 3) := by decide +kernel
theorem dX3_push_56 : decode cX3_push 56 = .ok (.aload_n 0, 1) := by decide +kernel
theorem dX3_push_57 : decode cX3_push 57 = .ok (.getfield 15, 3) := by decide +kernel
theorem dX3_push_60 : decode cX3_push 60 = .ok (.ireturn, 1) := by decide +kernel
theorem dX3_empty_0 : decode cX3_empty 0 = .ok (.aload_n 0, 1) := by decide +kernel
theorem dX3_empty_1 : decode cX3_empty 1 = .ok (.getfield 15, 3) := by decide +kernel
theorem dX3_empty_4 : decode cX3_empty 4 = .ok (.istore_n 1, 1) := by decide +kernel
theorem dX3_empty_5 : decode cX3_empty 5 = .ok (.aload_n 0, 1) := by decide +kernel
theorem dX3_empty_6 : decode cX3_empty 6 = .ok (.iconst 0, 1) := by decide +kernel
theorem dX3_empty_7 : decode cX3_empty 7 = .ok (.putfield 15, 3) := by decide +kernel
theorem dX3_empty_10 : decode cX3_empty 10 = .ok (.iload_n 1, 1) := by decide +kernel
theorem dX3_empty_11 : decode cX3_empty 11 = .ok (.ireturn, 1) := by decide +kernel
set_option maxRecDepth 20000 in
theorem ggX3_findFault_X3_open : GoodIn wsX3_findFault wsX3_open := goodIn_r _ [8, 9, 2, 39, 40, 41, 42, 43, 44, 45, 46, 47] (by decide +kernel) (by decide +kernel)
set_option maxRecDepth 20000 in
theorem gX3_findFault_X3_open : GoodIn wsX3_findFault (wsV RX3 19 RX3 yX3_open wsX3_open) := goodIn_app (goodIn_of _ (by decide +kernel)) ggX3_findFault_X3_open
set_option maxRecDepth 20000 in
theorem ggX3_findFault_X3_next : GoodIn wsX3_findFault wsX3_next := goodIn_r _ [13, 2, 9, 14, 15, 16, 17, 7, 18, 19, 20, 21, 22, 3, 23, 24, 25, 26, 27, 28, 29, 30, 31, 32, 33, 34, 35, 36, 37, 38, 39, 40, 41, 42, 43, 44, 45, 46, 47] (by decide +kernel) (by decide +kernel)
set_option maxRecDepth 20000 in
theorem gX3_findFault_X3_next : GoodIn wsX3_findFault (wsV RX3 26 RX3 yX3_next wsX3_next) := goodIn_app (goodIn_of _ (by decide +kernel)) ggX3_findFault_X3_next
theorem dX3_findFault_0 : decode cX3_findFault 0 = .ok (.aload_n 0, 1) := by decide +kernel
theorem dX3_findFault_1 : decode cX3_findFault 1 = .ok (.iload_n 1, 1) := by decide +kernel
theorem dX3_findFault_2 : decode cX3_findFault 2 = .ok (.invokevirtual 19, 3) := by decide +kernel
theorem dX3_findFault_5 : decode cX3_findFault 5 = .ok (.aload_n 0, 1) := by decide +kernel
theorem dX3_findFault_6 : decode cX3_findFault 6 = .ok (.iconst 0, 1) := by decide +kernel
theorem dX3_findFault_7 : decode cX3_findFault 7 = .ok (.putfield 23, 3) := by decide +kernel
theorem dX3_findFault_10 : decode cX3_findFault 10 = .ok (.aload_n 0, 1) := by decide +kernel
theorem dX3_findFault_11 : decode cX3_findFault 11 = .ok (.getfield 23, 3) := by decide +kernel
theorem dX3_findFault_14 : decode cX3_findFault 14 = .ok (.bipush 60, 2) := by decide +kernel
theorem dX3_findFault_16 : decode cX3_findFault 16 = .ok (.if_icmp .ge 34, 3) := by decide +kernel
theorem dX3_findFault_19 : decode cX3_findFault 19 = .ok (.aload_n 0, 1) := by decide +kernel
theorem dX3_findFault_20 : decode cX3_findFault 20 = .ok (.invokevirtual 26, 3) := by decide +kernel
theorem dX3_findFault_23 : decode cX3_findFault 23 = .ok (.ifCond .eq 27, 3) := by decide +kernel
theorem dX3_findFault_26 : decode cX3_findFault 26 = .ok (.aload_n 0, 1) := by decide +kernel
theorem dX3_findFault_27 : decode cX3_findFault 27 = .ok (.dup, 1) := by decide +kernel
theorem dX3_findFault_28 : decode cX3_findFault 28 = .ok (.getfield 23, 3) := by decide +kernel
theorem dX3_findFault_31 : decode cX3_findFault 31 = .ok (.iconst 1, 1) := by decide +kernel
theorem dX3_findFault_32 : decode cX3_findFault 32 = .ok (.iadd, 1) := by decide +kernel
theorem dX3_findFault_33 : decode cX3_findFault 33 = .ok (.putfield 23, 3) := by decide +kernel
theorem dX3_findFault_36 : decode cX3_findFault 36 = .ok (.aload_n 0, 1) := by decide +kernel
theorem dX3_findFault_37 : decode cX3_findFault 37 = .ok (.getfield 30, 3) := by decide +kernel
theorem dX3_findFault_40 : decode cX3_findFault 40 = .ok (.aload_n 0, 1) := by decide +kernel
theorem dX3_findFault_41 : decode cX3_findFault 41 = .ok (.getfield 15, 3) := by decide +kernel
theorem dX3_findFault_44 : decode cX3_findFault 44 = .ok (.if_icmp .ne (-34), 3) := by decide +kernel
theorem dX3_findFault_47 : decode cX3_findFault 47 = .ok (.bipush (-4), 2) := by decide +kernel
theorem dX3_findFault_49 : decode cX3_findFault 49 = .ok (.ireturn, 1) := by decide +kernel
theorem dX3_findFault_50 : decode cX3_findFault 50 = .ok (.aload_n 0, 1) := by decide +kernel
theorem dX3_findFault_51 : decode cX3_findFault 51 = .ok (.getfield 30, 3) := by decide +kernel
theorem dX3_findFault_54 : decode cX3_findFault 54 = .ok (.ireturn, 1) := by decide +kernel
theorem dX3_items_0 : decode cX3_items 0 = .ok (.aload_n 0, 1) := by decide +kernel
theorem dX3_items_1 : decode cX3_items 1 = .ok (.getfield 23, 3) := by decide +kernel
theorem dX3_items_4 : decode cX3_items 4 = .ok (.ireturn, 1) := by decide +kernel
theorem dX3_open_0 : decode cX3_open 0 = .ok (.aload_n 0, 1) := by decide +kernel
theorem dX3_open_1 : decode cX3_open 1 = .ok (.iload_n 1, 1) := by decide +kernel
theorem dX3_open_2 : decode cX3_open 2 = .ok (.putfield 33, 3) := by decide +kernel
theorem dX3_open_5 : decode cX3_open 5 = .ok (.aload_n 0, 1) := by decide +kernel
theorem dX3_open_6 : decode cX3_open 6 = .ok (.iconst 0, 1) := by decide +kernel
theorem dX3_open_7 : decode cX3_open 7 = .ok (.putfield 30, 3) := by decide +kernel
theorem dX3_open_10 : decode cX3_open 10 = .ok (.return_, 1) := by decide +kernel
set_option maxRecDepth 20000 in
theorem ggX3_next_X3_takes : GoodIn wsX3_next wsX3_takes := goodIn_r _ [8, 1, 9, 10, 11, 7, 12, 13, 14, 30, 31, 32, 33, 34, 35, 36, 37, 38] (by decide +kernel) (by decide +kernel)
set_option maxRecDepth 20000 in
theorem gX3_next_X3_takes : GoodIn wsX3_next (wsV RX3 37 RX3 yX3_takes wsX3_takes) := goodIn_app (goodIn_of _ (by decide +kernel)) ggX3_next_X3_takes
set_option maxRecDepth 20000 in
theorem ggX3_next_X3_readDeed : GoodIn wsX3_next wsX3_readDeed := goodIn_r _ [18, 1, 19, 20, 3, 9, 10, 11, 7, 12, 13, 14, 21, 22, 23, 24, 25, 26, 27, 28, 29, 4, 5, 6, 8, 30, 31, 32, 33, 34, 35, 36, 37, 38] (by decide +kernel) (by decide +kernel)
set_option maxRecDepth 20000 in
theorem gX3_next_X3_readDeed : GoodIn wsX3_next (wsV RX3 44 RX3 yX3_readDeed wsX3_readDeed) := goodIn_app (goodIn_of _ (by decide +kernel)) ggX3_next_X3_readDeed
set_option maxRecDepth 20000 in
theorem ggX3_next_X3_readRow : GoodIn wsX3_next wsX3_readRow := goodIn_r _ [28, 20, 29, 21, 22, 23, 7, 24, 1, 9, 10, 11, 12, 13, 14, 4, 5, 6, 8, 30, 31, 32, 33, 34, 35, 36, 37, 38] (by decide +kernel) (by decide +kernel)
set_option maxRecDepth 20000 in
theorem gX3_next_X3_readRow : GoodIn wsX3_next (wsV RX3 47 RX3 yX3_readRow wsX3_readRow) := goodIn_app (goodIn_of _ (by decide +kernel)) ggX3_next_X3_readRow
theorem dX3_next_0 : decode cX3_next 0 = .ok (.aload_n 0, 1) := by decide +kernel
theorem dX3_next_1 : decode cX3_next 1 = .ok (.getfield 30, 3) := by decide +kernel
theorem dX3_next_4 : decode cX3_next 4 = .ok (.ifCond .le 26, 3) := by decide +kernel
theorem dX3_next_7 : decode cX3_next 7 = .ok (.aload_n 0, 1) := by decide +kernel
theorem dX3_next_8 : decode cX3_next 8 = .ok (.aload_n 0, 1) := by decide +kernel
theorem dX3_next_9 : decode cX3_next 9 = .ok (.getfield 33, 3) := by decide +kernel
theorem dX3_next_12 : decode cX3_next 12 = .ok (.ifCond .eq 8, 3) := by decide +kernel
theorem dX3_next_15 : decode cX3_next 15 = .ok (.bipush 59, 2) := by decide +kernel
theorem dX3_next_17 : decode cX3_next 17 = .ok (.goto 5, 3) := by decide +kernel
theorem dX3_next_20 : decode cX3_next 20 = .ok (.bipush 44, 2) := by decide +kernel
theorem dX3_next_22 : decode cX3_next 22 = .ok (.invokevirtual 37, 3) := by decide +kernel
theorem dX3_next_25 : decode cX3_next 25 = .ok (.ifCond .ne 5, 3) := by decide +kernel
theorem dX3_next_28 : decode cX3_next 28 = .ok (.iconst 0, 1) := by decide +kernel
theorem dX3_next_29 : decode cX3_next 29 = .ok (.ireturn, 1) := by decide +kernel
theorem dX3_next_30 : decode cX3_next 30 = .ok (.aload_n 0, 1) := by decide +kernel
theorem dX3_next_31 : decode cX3_next 31 = .ok (.aload_n 0, 1) := by decide +kernel
theorem dX3_next_32 : decode cX3_next 32 = .ok (.getfield 30, 3) := by decide +kernel
theorem dX3_next_35 : decode cX3_next 35 = .ok (.putfield 41, 3) := by decide +kernel
theorem dX3_next_38 : decode cX3_next 38 = .ok (.aload_n 0, 1) := by decide +kernel
theorem dX3_next_39 : decode cX3_next 39 = .ok (.getfield 33, 3) := by decide +kernel
theorem dX3_next_42 : decode cX3_next 42 = .ok (.ifCond .eq 10, 3) := by decide +kernel
theorem dX3_next_45 : decode cX3_next 45 = .ok (.aload_n 0, 1) := by decide +kernel
theorem dX3_next_46 : decode cX3_next 46 = .ok (.invokevirtual 44, 3) := by decide +kernel
theorem dX3_next_49 : decode cX3_next 49 = .ok (.goto 7, 3) := by decide +kernel
theorem dX3_next_52 : decode cX3_next 52 = .ok (.aload_n 0, 1) := by decide +kernel
theorem dX3_next_53 : decode cX3_next 53 = .ok (.invokevirtual 47, 3) := by decide +kernel
theorem dX3_next_56 : decode cX3_next 56 = .ok (.ireturn, 1) := by decide +kernel
theorem dX3_start_0 : decode cX3_start 0 = .ok (.aload_n 0, 1) := by decide +kernel
theorem dX3_start_1 : decode cX3_start 1 = .ok (.getfield 41, 3) := by decide +kernel
theorem dX3_start_4 : decode cX3_start 4 = .ok (.ireturn, 1) := by decide +kernel
theorem dX3_sign_0 : decode cX3_sign 0 = .ok (.aload_n 0, 1) := by decide +kernel
theorem dX3_sign_1 : decode cX3_sign 1 = .ok (.getfield 50, 3) := by decide +kernel
theorem dX3_sign_4 : decode cX3_sign 4 = .ok (.ireturn, 1) := by decide +kernel
theorem dX3_first_0 : decode cX3_first 0 = .ok (.aload_n 0, 1) := by decide +kernel
theorem dX3_first_1 : decode cX3_first 1 = .ok (.getfield 53, 3) := by decide +kernel
theorem dX3_first_4 : decode cX3_first 4 = .ok (.ireturn, 1) := by decide +kernel
theorem dX3_second_0 : decode cX3_second 0 = .ok (.aload_n 0, 1) := by decide +kernel
theorem dX3_second_1 : decode cX3_second 1 = .ok (.getfield 56, 3) := by decide +kernel
theorem dX3_second_4 : decode cX3_second 4 = .ok (.ireturn, 1) := by decide +kernel
set_option maxRecDepth 20000 in
theorem ggX3_readDeed_X3_code : GoodIn wsX3_readDeed wsX3_code := goodIn_r _ [9, 10, 11, 25, 26, 27, 28, 29, 30, 31, 32, 33] (by decide +kernel) (by decide +kernel)
set_option maxRecDepth 20000 in
theorem gX3_readDeed_X3_code : GoodIn wsX3_readDeed (wsV RX3 59 RX3 yX3_code wsX3_code) := goodIn_app (goodIn_of _ (by decide +kernel)) ggX3_readDeed_X3_code
set_option maxRecDepth 20000 in
theorem ggX3_readDeed_X3_readNumber : GoodIn wsX3_readDeed wsX3_readNumber := goodIn_r _ [15, 1, 5, 6, 7, 8, 9, 10, 11, 25, 26, 27, 28, 29, 30, 31, 32, 33] (by decide +kernel) (by decide +kernel)
set_option maxRecDepth 20000 in
theorem gX3_readDeed_X3_readNumber : GoodIn wsX3_readDeed (wsV RX3 63 RX3 yX3_readNumber wsX3_readNumber) := goodIn_app (goodIn_of _ (by decide +kernel)) ggX3_readDeed_X3_readNumber
set_option maxRecDepth 20000 in
theorem ggX3_readDeed_X3_readRow : GoodIn wsX3_readDeed wsX3_readRow := goodIn_r _ [19, 3, 20, 12, 13, 14, 8, 15, 1, 5, 6, 7, 9, 10, 11, 21, 22, 23, 24, 25, 26, 27, 28, 29, 30, 31, 32, 33] (by decide +kernel) (by decide +kernel)
set_option maxRecDepth 20000 in
theorem gX3_readDeed_X3_readRow : GoodIn wsX3_readDeed (wsV RX3 47 RX3 yX3_readRow wsX3_readRow) := goodIn_app (goodIn_of _ (by decide +kernel)) ggX3_readDeed_X3_readRow
theorem dX3_readDeed_0 : decode cX3_readDeed 0 = .ok (.aload_n 0, 1) := by decide +kernel
theorem dX3_readDeed_1 : decode cX3_readDeed 1 = .ok (.aload_n 0, 1) := by decide +kernel
theorem dX3_readDeed_2 : decode cX3_readDeed 2 = .ok (.aload_n 0, 1) := by decide +kernel
theorem dX3_readDeed_3 : decode cX3_readDeed 3 = .ok (.getfield 30, 3) := by decide +kernel
theorem dX3_readDeed_6 : decode cX3_readDeed 6 = .ok (.invokevirtual 59, 3) := by decide +kernel
theorem dX3_readDeed_9 : decode cX3_readDeed 9 = .ok (.putfield 50, 3) := by decide +kernel
theorem dX3_readDeed_12 : decode cX3_readDeed 12 = .ok (.aload_n 0, 1) := by decide +kernel
theorem dX3_readDeed_13 : decode cX3_readDeed 13 = .ok (.dup, 1) := by decide +kernel
theorem dX3_readDeed_14 : decode cX3_readDeed 14 = .ok (.getfield 30, 3) := by decide +kernel
theorem dX3_readDeed_17 : decode cX3_readDeed 17 = .ok (.iconst 1, 1) := by decide +kernel
theorem dX3_readDeed_18 : decode cX3_readDeed 18 = .ok (.iadd, 1) := by decide +kernel
theorem dX3_readDeed_19 : decode cX3_readDeed 19 = .ok (.putfield 30, 3) := by decide +kernel
theorem dX3_readDeed_22 : decode cX3_readDeed 22 = .ok (.aload_n 0, 1) := by decide +kernel
theorem dX3_readDeed_23 : decode cX3_readDeed 23 = .ok (.getfield 50, 3) := by decide +kernel
theorem dX3_readDeed_26 : decode cX3_readDeed 26 = .ok (.lookupswitch 97 #[(43, 90), (45, 66), (114, 95), (115, 42)], 42) := by decide +kernel
theorem dX3_readDeed_68 : decode cX3_readDeed 68 = .ok (.aload_n 0, 1) := by decide +kernel
theorem dX3_readDeed_69 : decode cX3_readDeed 69 = .ok (.aload_n 0, 1) := by decide +kernel
theorem dX3_readDeed_70 : decode cX3_readDeed 70 = .ok (.iconst 1, 1) := by decide +kernel
theorem dX3_readDeed_71 : decode cX3_readDeed 71 = .ok (.bipush 20, 2) := by decide +kernel
theorem dX3_readDeed_73 : decode cX3_readDeed 73 = .ok (.invokevirtual 63, 3) := by decide +kernel
theorem dX3_readDeed_76 : decode cX3_readDeed 76 = .ok (.putfield 53, 3) := by decide +kernel
theorem dX3_readDeed_79 : decode cX3_readDeed 79 = .ok (.aload_n 0, 1) := by decide +kernel
theorem dX3_readDeed_80 : decode cX3_readDeed 80 = .ok (.getfield 53, 3) := by decide +kernel
theorem dX3_readDeed_83 : decode cX3_readDeed 83 = .ok (.ifCond .lt 7, 3) := by decide +kernel
theorem dX3_readDeed_86 : decode cX3_readDeed 86 = .ok (.iconst 1, 1) := by decide +kernel
theorem dX3_readDeed_87 : decode cX3_readDeed 87 = .ok (.goto 4, 3) := by decide +kernel
theorem dX3_readDeed_90 : decode cX3_readDeed 90 = .ok (.iconst 0, 1) := by decide +kernel
theorem dX3_readDeed_91 : decode cX3_readDeed 91 = .ok (.ireturn, 1) := by decide +kernel
theorem dX3_readDeed_92 : decode cX3_readDeed 92 = .ok (.aload_n 0, 1) := by decide +kernel
theorem dX3_readDeed_93 : decode cX3_readDeed 93 = .ok (.aload_n 0, 1) := by decide +kernel
theorem dX3_readDeed_94 : decode cX3_readDeed 94 = .ok (.iconst 0, 1) := by decide +kernel
theorem dX3_readDeed_95 : decode cX3_readDeed 95 = .ok (.bipush 19, 2) := by decide +kernel
theorem dX3_readDeed_97 : decode cX3_readDeed 97 = .ok (.invokevirtual 63, 3) := by decide +kernel
theorem dX3_readDeed_100 : decode cX3_readDeed 100 = .ok (.putfield 53, 3) := by decide +kernel
theorem dX3_readDeed_103 : decode cX3_readDeed 103 = .ok (.aload_n 0, 1) := by decide +kernel
theorem dX3_readDeed_104 : decode cX3_readDeed 104 = .ok (.getfield 53, 3) := by decide +kernel
theorem dX3_readDeed_107 : decode cX3_readDeed 107 = .ok (.ifCond .lt 7, 3) := by decide +kernel
theorem dX3_readDeed_110 : decode cX3_readDeed 110 = .ok (.iconst 1, 1) := by decide +kernel
theorem dX3_readDeed_111 : decode cX3_readDeed 111 = .ok (.goto 4, 3) := by decide +kernel
theorem dX3_readDeed_114 : decode cX3_readDeed 114 = .ok (.iconst 0, 1) := by decide +kernel
theorem dX3_readDeed_115 : decode cX3_readDeed 115 = .ok (.ireturn, 1) := by decide +kernel
theorem dX3_readDeed_116 : decode cX3_readDeed 116 = .ok (.aload_n 0, 1) := by decide +kernel
theorem dX3_readDeed_117 : decode cX3_readDeed 117 = .ok (.invokevirtual 47, 3) := by decide +kernel
theorem dX3_readDeed_120 : decode cX3_readDeed 120 = .ok (.ireturn, 1) := by decide +kernel
theorem dX3_readDeed_121 : decode cX3_readDeed 121 = .ok (.iconst 1, 1) := by decide +kernel
theorem dX3_readDeed_122 : decode cX3_readDeed 122 = .ok (.ireturn, 1) := by decide +kernel
theorem dX3_readDeed_123 : decode cX3_readDeed 123 = .ok (.aload_n 0, 1) := by decide +kernel
theorem dX3_readDeed_124 : decode cX3_readDeed 124 = .ok (.aload_n 0, 1) := by decide +kernel
theorem dX3_readDeed_125 : decode cX3_readDeed 125 = .ok (.getfield 41, 3) := by decide +kernel
theorem dX3_readDeed_128 : decode cX3_readDeed 128 = .ok (.putfield 30, 3) := by decide +kernel
theorem dX3_readDeed_131 : decode cX3_readDeed 131 = .ok (.iconst 0, 1) := by decide +kernel
theorem dX3_readDeed_132 : decode cX3_readDeed 132 = .ok (.ireturn, 1) := by decide +kernel
set_option maxRecDepth 20000 in
theorem ggX3_readRow_X3_readNumber : GoodIn wsX3_readRow wsX3_readNumber := goodIn_r _ [7, 8, 9, 10, 11, 6, 12, 13, 14, 19, 20, 21, 22, 23, 24, 25, 26, 27] (by decide +kernel) (by decide +kernel)
set_option maxRecDepth 20000 in
theorem gX3_readRow_X3_readNumber : GoodIn wsX3_readRow (wsV RX3 63 RX3 yX3_readNumber wsX3_readNumber) := goodIn_app (goodIn_of _ (by decide +kernel)) ggX3_readRow_X3_readNumber
set_option maxRecDepth 20000 in
theorem ggX3_readRow_X3_takes : GoodIn wsX3_readRow wsX3_takes := goodIn_r _ [18, 8, 9, 10, 11, 6, 12, 13, 14, 19, 20, 21, 22, 23, 24, 25, 26, 27] (by decide +kernel) (by decide +kernel)
set_option maxRecDepth 20000 in
theorem gX3_readRow_X3_takes : GoodIn wsX3_readRow (wsV RX3 37 RX3 yX3_takes wsX3_takes) := goodIn_app (goodIn_of _ (by decide +kernel)) ggX3_readRow_X3_takes
theorem dX3_readRow_0 : decode cX3_readRow 0 = .ok (.aload_n 0, 1) := by decide +kernel
theorem dX3_readRow_1 : decode cX3_readRow 1 = .ok (.aload_n 0, 1) := by decide +kernel
theorem dX3_readRow_2 : decode cX3_readRow 2 = .ok (.iconst 0, 1) := by decide +kernel
theorem dX3_readRow_3 : decode cX3_readRow 3 = .ok (.bipush 9, 2) := by decide +kernel
theorem dX3_readRow_5 : decode cX3_readRow 5 = .ok (.invokevirtual 63, 3) := by decide +kernel
theorem dX3_readRow_8 : decode cX3_readRow 8 = .ok (.putfield 53, 3) := by decide +kernel
theorem dX3_readRow_11 : decode cX3_readRow 11 = .ok (.aload_n 0, 1) := by decide +kernel
theorem dX3_readRow_12 : decode cX3_readRow 12 = .ok (.getfield 53, 3) := by decide +kernel
theorem dX3_readRow_15 : decode cX3_readRow 15 = .ok (.ifCond .lt 12, 3) := by decide +kernel
theorem dX3_readRow_18 : decode cX3_readRow 18 = .ok (.aload_n 0, 1) := by decide +kernel
theorem dX3_readRow_19 : decode cX3_readRow 19 = .ok (.bipush 58, 2) := by decide +kernel
theorem dX3_readRow_21 : decode cX3_readRow 21 = .ok (.invokevirtual 37, 3) := by decide +kernel
theorem dX3_readRow_24 : decode cX3_readRow 24 = .ok (.ifCond .ne 5, 3) := by decide +kernel
theorem dX3_readRow_27 : decode cX3_readRow 27 = .ok (.iconst 0, 1) := by decide +kernel
theorem dX3_readRow_28 : decode cX3_readRow 28 = .ok (.ireturn, 1) := by decide +kernel
theorem dX3_readRow_29 : decode cX3_readRow 29 = .ok (.aload_n 0, 1) := by decide +kernel
theorem dX3_readRow_30 : decode cX3_readRow 30 = .ok (.aload_n 0, 1) := by decide +kernel
theorem dX3_readRow_31 : decode cX3_readRow 31 = .ok (.iconst 0, 1) := by decide +kernel
theorem dX3_readRow_32 : decode cX3_readRow 32 = .ok (.bipush 99, 2) := by decide +kernel
theorem dX3_readRow_34 : decode cX3_readRow 34 = .ok (.invokevirtual 63, 3) := by decide +kernel
theorem dX3_readRow_37 : decode cX3_readRow 37 = .ok (.putfield 56, 3) := by decide +kernel
theorem dX3_readRow_40 : decode cX3_readRow 40 = .ok (.aload_n 0, 1) := by decide +kernel
theorem dX3_readRow_41 : decode cX3_readRow 41 = .ok (.getfield 56, 3) := by decide +kernel
theorem dX3_readRow_44 : decode cX3_readRow 44 = .ok (.ifCond .lt 7, 3) := by decide +kernel
theorem dX3_readRow_47 : decode cX3_readRow 47 = .ok (.iconst 1, 1) := by decide +kernel
theorem dX3_readRow_48 : decode cX3_readRow 48 = .ok (.goto 4, 3) := by decide +kernel
theorem dX3_readRow_51 : decode cX3_readRow 51 = .ok (.iconst 0, 1) := by decide +kernel
theorem dX3_readRow_52 : decode cX3_readRow 52 = .ok (.ireturn, 1) := by decide +kernel
set_option maxRecDepth 20000 in
theorem ggX3_readNumber_X3_code : GoodIn wsX3_readNumber wsX3_code := goodIn_r _ [6, 7, 8, 9, 10, 11, 12, 13, 14, 15, 16, 17] (by decide +kernel) (by decide +kernel)
set_option maxRecDepth 20000 in
theorem gX3_readNumber_X3_code : GoodIn wsX3_readNumber (wsV RX3 59 RX3 yX3_code wsX3_code) := goodIn_app (goodIn_of _ (by decide +kernel)) ggX3_readNumber_X3_code
theorem dX3_readNumber_0 : decode cX3_readNumber 0 = .ok (.aload_n 0, 1) := by decide +kernel
theorem dX3_readNumber_1 : decode cX3_readNumber 1 = .ok (.aload_n 0, 1) := by decide +kernel
theorem dX3_readNumber_2 : decode cX3_readNumber 2 = .ok (.getfield 30, 3) := by decide +kernel
theorem dX3_readNumber_5 : decode cX3_readNumber 5 = .ok (.invokevirtual 59, 3) := by decide +kernel
theorem dX3_readNumber_8 : decode cX3_readNumber 8 = .ok (.bipush 48, 2) := by decide +kernel
theorem dX3_readNumber_10 : decode cX3_readNumber 10 = .ok (.isub, 1) := by decide +kernel
theorem dX3_readNumber_11 : decode cX3_readNumber 11 = .ok (.istore_n 3, 1) := by decide +kernel
theorem dX3_readNumber_12 : decode cX3_readNumber 12 = .ok (.iload_n 3, 1) := by decide +kernel
theorem dX3_readNumber_13 : decode cX3_readNumber 13 = .ok (.iload_n 1, 1) := by decide +kernel
theorem dX3_readNumber_14 : decode cX3_readNumber 14 = .ok (.if_icmp .lt 9, 3) := by decide +kernel
theorem dX3_readNumber_17 : decode cX3_readNumber 17 = .ok (.iload_n 3, 1) := by decide +kernel
theorem dX3_readNumber_18 : decode cX3_readNumber 18 = .ok (.bipush 9, 2) := by decide +kernel
theorem dX3_readNumber_20 : decode cX3_readNumber 20 = .ok (.if_icmp .le 6, 3) := by decide +kernel
theorem dX3_readNumber_23 : decode cX3_readNumber 23 = .ok (.bipush (-4), 2) := by decide +kernel
theorem dX3_readNumber_25 : decode cX3_readNumber 25 = .ok (.ireturn, 1) := by decide +kernel
theorem dX3_readNumber_26 : decode cX3_readNumber 26 = .ok (.aload_n 0, 1) := by decide +kernel
theorem dX3_readNumber_27 : decode cX3_readNumber 27 = .ok (.dup, 1) := by decide +kernel
theorem dX3_readNumber_28 : decode cX3_readNumber 28 = .ok (.getfield 30, 3) := by decide +kernel
theorem dX3_readNumber_31 : decode cX3_readNumber 31 = .ok (.iconst 1, 1) := by decide +kernel
theorem dX3_readNumber_32 : decode cX3_readNumber 32 = .ok (.iadd, 1) := by decide +kernel
theorem dX3_readNumber_33 : decode cX3_readNumber 33 = .ok (.putfield 30, 3) := by decide +kernel
theorem dX3_readNumber_36 : decode cX3_readNumber 36 = .ok (.aload_n 0, 1) := by decide +kernel
theorem dX3_readNumber_37 : decode cX3_readNumber 37 = .ok (.aload_n 0, 1) := by decide +kernel
theorem dX3_readNumber_38 : decode cX3_readNumber 38 = .ok (.getfield 30, 3) := by decide +kernel
theorem dX3_readNumber_41 : decode cX3_readNumber 41 = .ok (.invokevirtual 59, 3) := by decide +kernel
theorem dX3_readNumber_44 : decode cX3_readNumber 44 = .ok (.bipush 48, 2) := by decide +kernel
theorem dX3_readNumber_46 : decode cX3_readNumber 46 = .ok (.isub, 1) := by decide +kernel
theorem dX3_readNumber_47 : decode cX3_readNumber 47 = .ok (.istore 4, 2) := by decide +kernel
theorem dX3_readNumber_49 : decode cX3_readNumber 49 = .ok (.iload_n 3, 1) := by decide +kernel
theorem dX3_readNumber_50 : decode cX3_readNumber 50 = .ok (.ifCond .eq 26, 3) := by decide +kernel
theorem dX3_readNumber_53 : decode cX3_readNumber 53 = .ok (.iload 4, 2) := by decide +kernel
theorem dX3_readNumber_55 : decode cX3_readNumber 55 = .ok (.ifCond .lt 21, 3) := by decide +kernel
theorem dX3_readNumber_58 : decode cX3_readNumber 58 = .ok (.iload 4, 2) := by decide +kernel
theorem dX3_readNumber_60 : decode cX3_readNumber 60 = .ok (.bipush 9, 2) := by decide +kernel
theorem dX3_readNumber_62 : decode cX3_readNumber 62 = .ok (.if_icmp .gt 14, 3) := by decide +kernel
theorem dX3_readNumber_65 : decode cX3_readNumber 65 = .ok (.bipush 10, 2) := by decide +kernel
theorem dX3_readNumber_67 : decode cX3_readNumber 67 = .ok (.iload_n 3, 1) := by decide +kernel
theorem dX3_readNumber_68 : decode cX3_readNumber 68 = .ok (.imul, 1) := by decide +kernel
theorem dX3_readNumber_69 : decode cX3_readNumber 69 = .ok (.iload 4, 2) := by decide +kernel
theorem dX3_readNumber_71 : decode cX3_readNumber 71 = .ok (.iadd, 1) := by decide +kernel
theorem dX3_readNumber_72 : decode cX3_readNumber 72 = .ok (.iload_n 2, 1) := by decide +kernel
theorem dX3_readNumber_73 : decode cX3_readNumber 73 = .ok (.if_icmp .le 5, 3) := by decide +kernel
theorem dX3_readNumber_76 : decode cX3_readNumber 76 = .ok (.iload_n 3, 1) := by decide +kernel
theorem dX3_readNumber_77 : decode cX3_readNumber 77 = .ok (.ireturn, 1) := by decide +kernel
theorem dX3_readNumber_78 : decode cX3_readNumber 78 = .ok (.aload_n 0, 1) := by decide +kernel
theorem dX3_readNumber_79 : decode cX3_readNumber 79 = .ok (.dup, 1) := by decide +kernel
theorem dX3_readNumber_80 : decode cX3_readNumber 80 = .ok (.getfield 30, 3) := by decide +kernel
theorem dX3_readNumber_83 : decode cX3_readNumber 83 = .ok (.iconst 1, 1) := by decide +kernel
theorem dX3_readNumber_84 : decode cX3_readNumber 84 = .ok (.iadd, 1) := by decide +kernel
theorem dX3_readNumber_85 : decode cX3_readNumber 85 = .ok (.putfield 30, 3) := by decide +kernel
theorem dX3_readNumber_88 : decode cX3_readNumber 88 = .ok (.bipush 10, 2) := by decide +kernel
theorem dX3_readNumber_90 : decode cX3_readNumber 90 = .ok (.iload_n 3, 1) := by decide +kernel
theorem dX3_readNumber_91 : decode cX3_readNumber 91 = .ok (.imul, 1) := by decide +kernel
theorem dX3_readNumber_92 : decode cX3_readNumber 92 = .ok (.iload 4, 2) := by decide +kernel
theorem dX3_readNumber_94 : decode cX3_readNumber 94 = .ok (.iadd, 1) := by decide +kernel
theorem dX3_readNumber_95 : decode cX3_readNumber 95 = .ok (.ireturn, 1) := by decide +kernel
set_option maxRecDepth 20000 in
theorem ggX3_takes_X3_code : GoodIn wsX3_takes wsX3_code := goodIn_r _ [6, 7, 8, 9, 10, 11, 12, 13, 14, 15, 16, 17] (by decide +kernel) (by decide +kernel)
set_option maxRecDepth 20000 in
theorem gX3_takes_X3_code : GoodIn wsX3_takes (wsV RX3 59 RX3 yX3_code wsX3_code) := goodIn_app (goodIn_of _ (by decide +kernel)) ggX3_takes_X3_code
theorem dX3_takes_0 : decode cX3_takes 0 = .ok (.aload_n 0, 1) := by decide +kernel
theorem dX3_takes_1 : decode cX3_takes 1 = .ok (.aload_n 0, 1) := by decide +kernel
theorem dX3_takes_2 : decode cX3_takes 2 = .ok (.getfield 30, 3) := by decide +kernel
theorem dX3_takes_5 : decode cX3_takes 5 = .ok (.invokevirtual 59, 3) := by decide +kernel
theorem dX3_takes_8 : decode cX3_takes 8 = .ok (.iload_n 1, 1) := by decide +kernel
theorem dX3_takes_9 : decode cX3_takes 9 = .ok (.if_icmp .eq 5, 3) := by decide +kernel
theorem dX3_takes_12 : decode cX3_takes 12 = .ok (.iconst 0, 1) := by decide +kernel
theorem dX3_takes_13 : decode cX3_takes 13 = .ok (.ireturn, 1) := by decide +kernel
theorem dX3_takes_14 : decode cX3_takes 14 = .ok (.aload_n 0, 1) := by decide +kernel
theorem dX3_takes_15 : decode cX3_takes 15 = .ok (.dup, 1) := by decide +kernel
theorem dX3_takes_16 : decode cX3_takes 16 = .ok (.getfield 30, 3) := by decide +kernel
theorem dX3_takes_19 : decode cX3_takes 19 = .ok (.iconst 1, 1) := by decide +kernel
theorem dX3_takes_20 : decode cX3_takes 20 = .ok (.iadd, 1) := by decide +kernel
theorem dX3_takes_21 : decode cX3_takes 21 = .ok (.putfield 30, 3) := by decide +kernel
theorem dX3_takes_24 : decode cX3_takes 24 = .ok (.iconst 1, 1) := by decide +kernel
theorem dX3_takes_25 : decode cX3_takes 25 = .ok (.ireturn, 1) := by decide +kernel
theorem dX3_code_0 : decode cX3_code 0 = .ok (.iload_n 1, 1) := by decide +kernel
theorem dX3_code_1 : decode cX3_code 1 = .ok (.ifCond .lt 29, 3) := by decide +kernel
theorem dX3_code_4 : decode cX3_code 4 = .ok (.iload_n 1, 1) := by decide +kernel
theorem dX3_code_5 : decode cX3_code 5 = .ok (.aload_n 0, 1) := by decide +kernel
theorem dX3_code_6 : decode cX3_code 6 = .ok (.getfield 15, 3) := by decide +kernel
theorem dX3_code_9 : decode cX3_code 9 = .ok (.if_icmp .ge 21, 3) := by decide +kernel
theorem dX3_code_12 : decode cX3_code 12 = .ok (.iload_n 1, 1) := by decide +kernel
theorem dX3_code_13 : decode cX3_code 13 = .ok (.aload_n 0, 1) := by decide +kernel
theorem dX3_code_14 : decode cX3_code 14 = .ok (.getfield 9, 3) := by decide +kernel
theorem dX3_code_17 : decode cX3_code 17 = .ok (.arraylength, 1) := by decide +kernel
theorem dX3_code_18 : decode cX3_code 18 = .ok (.if_icmp .ge 12, 3) := by decide +kernel
theorem dX3_code_21 : decode cX3_code 21 = .ok (.aload_n 0, 1) := by decide +kernel
theorem dX3_code_22 : decode cX3_code 22 = .ok (.getfield 9, 3) := by decide +kernel
theorem dX3_code_25 : decode cX3_code 25 = .ok (.iload_n 1, 1) := by decide +kernel
theorem dX3_code_26 : decode cX3_code 26 = .ok (.iaload, 1) := by decide +kernel
theorem dX3_code_27 : decode cX3_code 27 = .ok (.goto 4, 3) := by decide +kernel
theorem dX3_code_30 : decode cX3_code 30 = .ok (.iconst 0, 1) := by decide +kernel
theorem dX3_code_31 : decode cX3_code 31 = .ok (.ireturn, 1) := by decide +kernel
set_option maxRecDepth 20000 in
theorem ggX4_init_X5_init : GoodIn wsX4_init wsX5_init := goodIn_r _ [29, 30, 2, 3, 25, 31, 32, 47, 48, 49] (by decide +kernel) (by decide +kernel)
set_option maxRecDepth 20000 in
theorem gX4_init_X5_init : GoodIn wsX4_init (wsX5_init) := ggX4_init_X5_init
set_option maxRecDepth 20000 in
theorem ggX4_init_X0_init : GoodIn wsX4_init wsX0_init := goodIn_r _ [35, 36, 2, 3, 25, 37, 38, 39, 58, 59, 60] (by decide +kernel) (by decide +kernel)
set_option maxRecDepth 20000 in
theorem gX4_init_X0_init : GoodIn wsX4_init (wsX0_init) := ggX4_init_X0_init
set_option maxRecDepth 20000 in
theorem ggX4_init_X2_init : GoodIn wsX4_init wsX2_init := goodIn_r _ [42, 43, 2, 3, 25, 44, 45, 46, 61, 62, 63, 64] (by decide +kernel) (by decide +kernel)
set_option maxRecDepth 20000 in
theorem gX4_init_X2_init : GoodIn wsX4_init (wsX2_init) := ggX4_init_X2_init
theorem dX4_init_0 : decode cX4_init 0 = .ok (.aload_n 0, 1) := by decide +kernel
theorem dX4_init_1 : decode cX4_init 1 = .ok (.invokespecial 3, 3) := by decide +kernel
theorem dX4_init_4 : decode cX4_init 4 = .ok (.aload_n 0, 1) := by decide +kernel
theorem dX4_init_5 : decode cX4_init 5 = .ok (.new 9, 3) := by decide +kernel
theorem dX4_init_8 : decode cX4_init 8 = .ok (.dup, 1) := by decide +kernel
theorem dX4_init_9 : decode cX4_init 9 = .ok (.invokespecial 11, 3) := by decide +kernel
theorem dX4_init_12 : decode cX4_init 12 = .ok (.putfield 12, 3) := by decide +kernel
theorem dX4_init_15 : decode cX4_init 15 = .ok (.aload_n 0, 1) := by decide +kernel
theorem dX4_init_16 : decode cX4_init 16 = .ok (.new 9, 3) := by decide +kernel
theorem dX4_init_19 : decode cX4_init 19 = .ok (.dup, 1) := by decide +kernel
theorem dX4_init_20 : decode cX4_init 20 = .ok (.invokespecial 11, 3) := by decide +kernel
theorem dX4_init_23 : decode cX4_init 23 = .ok (.putfield 18, 3) := by decide +kernel
theorem dX4_init_26 : decode cX4_init 26 = .ok (.aload_n 0, 1) := by decide +kernel
theorem dX4_init_27 : decode cX4_init 27 = .ok (.new 21, 3) := by decide +kernel
theorem dX4_init_30 : decode cX4_init 30 = .ok (.dup, 1) := by decide +kernel
theorem dX4_init_31 : decode cX4_init 31 = .ok (.invokespecial 23, 3) := by decide +kernel
theorem dX4_init_34 : decode cX4_init 34 = .ok (.putfield 24, 3) := by decide +kernel
theorem dX4_init_37 : decode cX4_init 37 = .ok (.aload_n 0, 1) := by decide +kernel
theorem dX4_init_38 : decode cX4_init 38 = .ok (.new 28, 3) := by decide +kernel
theorem dX4_init_41 : decode cX4_init 41 = .ok (.dup, 1) := by decide +kernel
theorem dX4_init_42 : decode cX4_init 42 = .ok (.invokespecial 30, 3) := by decide +kernel
theorem dX4_init_45 : decode cX4_init 45 = .ok (.putfield 31, 3) := by decide +kernel
theorem dX4_init_48 : decode cX4_init 48 = .ok (.aload_n 0, 1) := by decide +kernel
theorem dX4_init_49 : decode cX4_init 49 = .ok (.getstatic 35, 3) := by decide +kernel
theorem dX4_init_52 : decode cX4_init 52 = .ok (.invokevirtual 39, 3) := by decide +kernel
theorem dX4_init_55 : decode cX4_init 55 = .ok (.checkcast 40, 3) := by decide +kernel
theorem dX4_init_58 : decode cX4_init 58 = .ok (.putfield 44, 3) := by decide +kernel
theorem dX4_init_61 : decode cX4_init 61 = .ok (.aload_n 0, 1) := by decide +kernel
theorem dX4_init_62 : decode cX4_init 62 = .ok (.bipush 7, 2) := by decide +kernel
theorem dX4_init_64 : decode cX4_init 64 = .ok (.newarray .int, 2) := by decide +kernel
theorem dX4_init_66 : decode cX4_init 66 = .ok (.putfield 47, 3) := by decide +kernel
theorem dX4_init_69 : decode cX4_init 69 = .ok (.return_, 1) := by decide +kernel
set_option maxRecDepth 20000 in
theorem ggX4_copyFrom_X5_copyFrom : GoodIn wsX4_copyFrom wsX5_copyFrom := goodIn_r _ [13, 14, 15, 16, 17, 18, 19, 20, 21, 22, 23, 24, 25, 26, 27, 53, 54, 55] (by decide +kernel) (by decide +kernel)
set_option maxRecDepth 20000 in
theorem gX4_copyFrom_X5_copyFrom : GoodIn wsX4_copyFrom (wsV RX4 50 RX5 yX5_copyFrom wsX5_copyFrom) := goodIn_app (goodIn_of _ (by decide +kernel)) ggX4_copyFrom_X5_copyFrom
set_option maxRecDepth 20000 in
theorem ggX4_copyFrom_X0_copyFrom : GoodIn wsX4_copyFrom wsX0_copyFrom := goodIn_r _ [32, 33, 34, 35, 17, 18, 19, 20, 21, 22, 23, 24, 25, 26, 27, 56, 57, 58] (by decide +kernel) (by decide +kernel)
set_option maxRecDepth 20000 in
theorem gX4_copyFrom_X0_copyFrom : GoodIn wsX4_copyFrom (wsV RX4 54 RX0 yX0_copyFrom wsX0_copyFrom) := goodIn_app (goodIn_of _ (by decide +kernel)) ggX4_copyFrom_X0_copyFrom
set_option maxRecDepth 20000 in
theorem ggX4_copyFrom_X2_copyFrom : GoodIn wsX4_copyFrom wsX2_copyFrom := goodIn_r _ [40, 41, 42, 43, 44, 17, 18, 19, 20, 21, 22, 23, 24, 25, 26, 27, 59, 60, 61, 62] (by decide +kernel) (by decide +kernel)
set_option maxRecDepth 20000 in
theorem gX4_copyFrom_X2_copyFrom : GoodIn wsX4_copyFrom (wsV RX4 57 RX2 yX2_copyFrom wsX2_copyFrom) := goodIn_app (goodIn_of _ (by decide +kernel)) ggX4_copyFrom_X2_copyFrom
set_option maxRecDepth 20000 in
theorem ggX4_copyFrom_X6_copyNumbers : GoodIn wsX4_copyFrom wsX6_copyNumbers := goodIn_r _ [19, 20, 21, 22, 23, 24, 25, 26, 27] (by decide +kernel) (by decide +kernel)
set_option maxRecDepth 20000 in
theorem gX4_copyFrom_X6_copyNumbers_n60 : GoodIn wsX4_copyFrom (wsX6_copyNumbers) := ggX4_copyFrom_X6_copyNumbers
theorem dX4_copyFrom_0 : decode cX4_copyFrom 0 = .ok (.aload_n 0, 1) := by decide +kernel
theorem dX4_copyFrom_1 : decode cX4_copyFrom 1 = .ok (.getfield 12, 3) := by decide +kernel
theorem dX4_copyFrom_4 : decode cX4_copyFrom 4 = .ok (.aload_n 1, 1) := by decide +kernel
theorem dX4_copyFrom_5 : decode cX4_copyFrom 5 = .ok (.getfield 12, 3) := by decide +kernel
theorem dX4_copyFrom_8 : decode cX4_copyFrom 8 = .ok (.invokevirtual 50, 3) := by decide +kernel
theorem dX4_copyFrom_11 : decode cX4_copyFrom 11 = .ok (.aload_n 0, 1) := by decide +kernel
theorem dX4_copyFrom_12 : decode cX4_copyFrom 12 = .ok (.getfield 18, 3) := by decide +kernel
theorem dX4_copyFrom_15 : decode cX4_copyFrom 15 = .ok (.aload_n 1, 1) := by decide +kernel
theorem dX4_copyFrom_16 : decode cX4_copyFrom 16 = .ok (.getfield 18, 3) := by decide +kernel
theorem dX4_copyFrom_19 : decode cX4_copyFrom 19 = .ok (.invokevirtual 50, 3) := by decide +kernel
theorem dX4_copyFrom_22 : decode cX4_copyFrom 22 = .ok (.aload_n 0, 1) := by decide +kernel
theorem dX4_copyFrom_23 : decode cX4_copyFrom 23 = .ok (.getfield 24, 3) := by decide +kernel
theorem dX4_copyFrom_26 : decode cX4_copyFrom 26 = .ok (.aload_n 1, 1) := by decide +kernel
theorem dX4_copyFrom_27 : decode cX4_copyFrom 27 = .ok (.getfield 24, 3) := by decide +kernel
theorem dX4_copyFrom_30 : decode cX4_copyFrom 30 = .ok (.invokevirtual 54, 3) := by decide +kernel
theorem dX4_copyFrom_33 : decode cX4_copyFrom 33 = .ok (.aload_n 0, 1) := by decide +kernel
theorem dX4_copyFrom_34 : decode cX4_copyFrom 34 = .ok (.getfield 31, 3) := by decide +kernel
theorem dX4_copyFrom_37 : decode cX4_copyFrom 37 = .ok (.aload_n 1, 1) := by decide +kernel
theorem dX4_copyFrom_38 : decode cX4_copyFrom 38 = .ok (.getfield 31, 3) := by decide +kernel
theorem dX4_copyFrom_41 : decode cX4_copyFrom 41 = .ok (.invokevirtual 57, 3) := by decide +kernel
theorem dX4_copyFrom_44 : decode cX4_copyFrom 44 = .ok (.aload_n 1, 1) := by decide +kernel
theorem dX4_copyFrom_45 : decode cX4_copyFrom 45 = .ok (.getfield 44, 3) := by decide +kernel
theorem dX4_copyFrom_48 : decode cX4_copyFrom 48 = .ok (.aload_n 0, 1) := by decide +kernel
theorem dX4_copyFrom_49 : decode cX4_copyFrom 49 = .ok (.getfield 44, 3) := by decide +kernel
theorem dX4_copyFrom_52 : decode cX4_copyFrom 52 = .ok (.invokestatic 60, 3) := by decide +kernel
theorem dX4_copyFrom_55 : decode cX4_copyFrom 55 = .ok (.aload_n 1, 1) := by decide +kernel
theorem dX4_copyFrom_56 : decode cX4_copyFrom 56 = .ok (.getfield 47, 3) := by decide +kernel
theorem dX4_copyFrom_59 : decode cX4_copyFrom 59 = .ok (.aload_n 0, 1) := by decide +kernel
theorem dX4_copyFrom_60 : decode cX4_copyFrom 60 = .ok (.getfield 47, 3) := by decide +kernel
theorem dX4_copyFrom_63 : decode cX4_copyFrom 63 = .ok (.invokestatic 60, 3) := by decide +kernel
theorem dX4_copyFrom_66 : decode cX4_copyFrom 66 = .ok (.aload_n 0, 1) := by decide +kernel
theorem dX4_copyFrom_67 : decode cX4_copyFrom 67 = .ok (.aload_n 1, 1) := by decide +kernel
theorem dX4_copyFrom_68 : decode cX4_copyFrom 68 = .ok (.getfield 64, 3) := by decide +kernel
theorem dX4_copyFrom_71 : decode cX4_copyFrom 71 = .ok (.putfield 64, 3) := by decide +kernel
theorem dX4_copyFrom_74 : decode cX4_copyFrom 74 = .ok (.aload_n 0, 1) := by decide +kernel
theorem dX4_copyFrom_75 : decode cX4_copyFrom 75 = .ok (.aload_n 1, 1) := by decide +kernel
theorem dX4_copyFrom_76 : decode cX4_copyFrom 76 = .ok (.getfield 68, 3) := by decide +kernel
theorem dX4_copyFrom_79 : decode cX4_copyFrom 79 = .ok (.putfield 68, 3) := by decide +kernel
theorem dX4_copyFrom_82 : decode cX4_copyFrom 82 = .ok (.return_, 1) := by decide +kernel
theorem dX4_table_0 : decode cX4_table 0 = .ok (.iload_n 1, 1) := by decide +kernel
theorem dX4_table_1 : decode cX4_table 1 = .ok (.ifCond .eq 10, 3) := by decide +kernel
theorem dX4_table_4 : decode cX4_table 4 = .ok (.aload_n 0, 1) := by decide +kernel
theorem dX4_table_5 : decode cX4_table 5 = .ok (.getfield 18, 3) := by decide +kernel
theorem dX4_table_8 : decode cX4_table 8 = .ok (.goto 7, 3) := by decide +kernel
theorem dX4_table_11 : decode cX4_table 11 = .ok (.aload_n 0, 1) := by decide +kernel
theorem dX4_table_12 : decode cX4_table 12 = .ok (.getfield 12, 3) := by decide +kernel
theorem dX4_table_15 : decode cX4_table 15 = .ok (.areturn, 1) := by decide +kernel
theorem dX4_answers_0 : decode cX4_answers 0 = .ok (.aload_n 0, 1) := by decide +kernel
theorem dX4_answers_1 : decode cX4_answers 1 = .ok (.getfield 24, 3) := by decide +kernel
theorem dX4_answers_4 : decode cX4_answers 4 = .ok (.areturn, 1) := by decide +kernel
theorem dX4_memo_0 : decode cX4_memo 0 = .ok (.aload_n 0, 1) := by decide +kernel
theorem dX4_memo_1 : decode cX4_memo 1 = .ok (.getfield 31, 3) := by decide +kernel
theorem dX4_memo_4 : decode cX4_memo 4 = .ok (.areturn, 1) := by decide +kernel
theorem dX4_setting_0 : decode cX4_setting 0 = .ok (.iload_n 1, 1) := by decide +kernel
theorem dX4_setting_1 : decode cX4_setting 1 = .ok (.ifCond .lt 21, 3) := by decide +kernel
theorem dX4_setting_4 : decode cX4_setting 4 = .ok (.iload_n 1, 1) := by decide +kernel
theorem dX4_setting_5 : decode cX4_setting 5 = .ok (.aload_n 0, 1) := by decide +kernel
theorem dX4_setting_6 : decode cX4_setting 6 = .ok (.getfield 44, 3) := by decide +kernel
theorem dX4_setting_9 : decode cX4_setting 9 = .ok (.arraylength, 1) := by decide +kernel
theorem dX4_setting_10 : decode cX4_setting 10 = .ok (.if_icmp .ge 12, 3) := by decide +kernel
theorem dX4_setting_13 : decode cX4_setting 13 = .ok (.aload_n 0, 1) := by decide +kernel
theorem dX4_setting_14 : decode cX4_setting 14 = .ok (.getfield 44, 3) := by decide +kernel
theorem dX4_setting_17 : decode cX4_setting 17 = .ok (.iload_n 1, 1) := by decide +kernel
theorem dX4_setting_18 : decode cX4_setting 18 = .ok (.iaload, 1) := by decide +kernel
theorem dX4_setting_19 : decode cX4_setting 19 = .ok (.goto 4, 3) := by decide +kernel
theorem dX4_setting_22 : decode cX4_setting 22 = .ok (.iconst 0, 1) := by decide +kernel
theorem dX4_setting_23 : decode cX4_setting 23 = .ok (.ireturn, 1) := by decide +kernel
theorem dX4_tally_0 : decode cX4_tally 0 = .ok (.iload_n 1, 1) := by decide +kernel
theorem dX4_tally_1 : decode cX4_tally 1 = .ok (.ifCond .lt 21, 3) := by decide +kernel
theorem dX4_tally_4 : decode cX4_tally 4 = .ok (.iload_n 1, 1) := by decide +kernel
theorem dX4_tally_5 : decode cX4_tally 5 = .ok (.aload_n 0, 1) := by decide +kernel
theorem dX4_tally_6 : decode cX4_tally 6 = .ok (.getfield 47, 3) := by decide +kernel
theorem dX4_tally_9 : decode cX4_tally 9 = .ok (.arraylength, 1) := by decide +kernel
theorem dX4_tally_10 : decode cX4_tally 10 = .ok (.if_icmp .ge 12, 3) := by decide +kernel
theorem dX4_tally_13 : decode cX4_tally 13 = .ok (.aload_n 0, 1) := by decide +kernel
theorem dX4_tally_14 : decode cX4_tally 14 = .ok (.getfield 47, 3) := by decide +kernel
theorem dX4_tally_17 : decode cX4_tally 17 = .ok (.iload_n 1, 1) := by decide +kernel
theorem dX4_tally_18 : decode cX4_tally 18 = .ok (.iaload, 1) := by decide +kernel
theorem dX4_tally_19 : decode cX4_tally 19 = .ok (.goto 4, 3) := by decide +kernel
theorem dX4_tally_22 : decode cX4_tally 22 = .ok (.iconst 0, 1) := by decide +kernel
theorem dX4_tally_23 : decode cX4_tally 23 = .ok (.ireturn, 1) := by decide +kernel
theorem dX4_place_0 : decode cX4_place 0 = .ok (.aload_n 0, 1) := by decide +kernel
theorem dX4_place_1 : decode cX4_place 1 = .ok (.getfield 64, 3) := by decide +kernel
theorem dX4_place_4 : decode cX4_place 4 = .ok (.ireturn, 1) := by decide +kernel
theorem dX4_totalSoFar_0 : decode cX4_totalSoFar 0 = .ok (.aload_n 0, 1) := by decide +kernel
theorem dX4_totalSoFar_1 : decode cX4_totalSoFar 1 = .ok (.getfield 68, 3) := by decide +kernel
theorem dX4_totalSoFar_4 : decode cX4_totalSoFar 4 = .ok (.ireturn, 1) := by decide +kernel
theorem dX4_isDone_0 : decode cX4_isDone 0 = .ok (.iload_n 1, 1) := by decide +kernel
theorem dX4_isDone_1 : decode cX4_isDone 1 = .ok (.aload_n 0, 1) := by decide +kernel
theorem dX4_isDone_2 : decode cX4_isDone 2 = .ok (.getfield 64, 3) := by decide +kernel
theorem dX4_isDone_5 : decode cX4_isDone 5 = .ok (.if_icmp .ge 7, 3) := by decide +kernel
theorem dX4_isDone_8 : decode cX4_isDone 8 = .ok (.iconst 1, 1) := by decide +kernel
theorem dX4_isDone_9 : decode cX4_isDone 9 = .ok (.goto 4, 3) := by decide +kernel
theorem dX4_isDone_12 : decode cX4_isDone 12 = .ok (.iconst 0, 1) := by decide +kernel
theorem dX4_isDone_13 : decode cX4_isDone 13 = .ok (.ireturn, 1) := by decide +kernel
set_option maxRecDepth 20000 in
theorem ggX4_isInRememberedAnswer_X5_key : GoodIn wsX4_isInRememberedAnswer wsX5_key := goodIn_r _ [7, 8, 34, 35, 36] (by decide +kernel) (by decide +kernel)
set_option maxRecDepth 20000 in
theorem gX4_isInRememberedAnswer_X5_key : GoodIn wsX4_isInRememberedAnswer (wsV RX4 71 RX5 yX5_key wsX5_key) := goodIn_app (goodIn_of _ (by decide +kernel)) ggX4_isInRememberedAnswer_X5_key
set_option maxRecDepth 20000 in
theorem ggX4_isInRememberedAnswer_X2_holds : GoodIn wsX4_isInRememberedAnswer wsX2_holds := goodIn_r _ [13, 14, 37, 38, 39, 40] (by decide +kernel) (by decide +kernel)
set_option maxRecDepth 20000 in
theorem gX4_isInRememberedAnswer_X2_holds : GoodIn wsX4_isInRememberedAnswer (wsV RX4 75 RX2 yX2_holds wsX2_holds) := goodIn_app (goodIn_of _ (by decide +kernel)) ggX4_isInRememberedAnswer_X2_holds
set_option maxRecDepth 20000 in
theorem ggX4_isInRememberedAnswer_X5_value : GoodIn wsX4_isInRememberedAnswer wsX5_value := goodIn_r _ [18, 19, 34, 35, 36] (by decide +kernel) (by decide +kernel)
set_option maxRecDepth 20000 in
theorem gX4_isInRememberedAnswer_X5_value : GoodIn wsX4_isInRememberedAnswer (wsV RX4 79 RX5 yX5_value wsX5_value) := goodIn_app (goodIn_of _ (by decide +kernel)) ggX4_isInRememberedAnswer_X5_value
set_option maxRecDepth 20000 in
theorem ggX4_isInRememberedAnswer_X4_isInBand : GoodIn wsX4_isInRememberedAnswer wsX4_isInBand := goodIn_r _ [24, 25, 26, 27, 28, 29, 30, 31, 32, 33] (by decide +kernel) (by decide +kernel)
set_option maxRecDepth 20000 in
theorem gX4_isInRememberedAnswer_X4_isInBand : GoodIn wsX4_isInRememberedAnswer (wsV RX4 82 RX4 yX4_isInBand wsX4_isInBand) := goodIn_app (goodIn_of _ (by decide +kernel)) ggX4_isInRememberedAnswer_X4_isInBand
theorem dX4_isInRememberedAnswer_0 : decode cX4_isInRememberedAnswer 0 = .ok (.aload_n 0, 1) := by decide +kernel
theorem dX4_isInRememberedAnswer_1 : decode cX4_isInRememberedAnswer 1 = .ok (.getfield 31, 3) := by decide +kernel
theorem dX4_isInRememberedAnswer_4 : decode cX4_isInRememberedAnswer 4 = .ok (.aload_n 0, 1) := by decide +kernel
theorem dX4_isInRememberedAnswer_5 : decode cX4_isInRememberedAnswer 5 = .ok (.getfield 18, 3) := by decide +kernel
theorem dX4_isInRememberedAnswer_8 : decode cX4_isInRememberedAnswer 8 = .ok (.iload_n 1, 1) := by decide +kernel
theorem dX4_isInRememberedAnswer_9 : decode cX4_isInRememberedAnswer 9 = .ok (.invokevirtual 71, 3) := by decide +kernel
theorem dX4_isInRememberedAnswer_12 : decode cX4_isInRememberedAnswer 12 = .ok (.invokevirtual 75, 3) := by decide +kernel
theorem dX4_isInRememberedAnswer_15 : decode cX4_isInRememberedAnswer 15 = .ok (.ifCond .eq 22, 3) := by decide +kernel
theorem dX4_isInRememberedAnswer_18 : decode cX4_isInRememberedAnswer 18 = .ok (.aload_n 0, 1) := by decide +kernel
theorem dX4_isInRememberedAnswer_19 : decode cX4_isInRememberedAnswer 19 = .ok (.aload_n 0, 1) := by decide +kernel
theorem dX4_isInRememberedAnswer_20 : decode cX4_isInRememberedAnswer 20 = .ok (.getfield 18, 3) := by decide +kernel
theorem dX4_isInRememberedAnswer_23 : decode cX4_isInRememberedAnswer 23 = .ok (.iload_n 1, 1) := by decide +kernel
theorem dX4_isInRememberedAnswer_24 : decode cX4_isInRememberedAnswer 24 = .ok (.invokevirtual 79, 3) := by decide +kernel
theorem dX4_isInRememberedAnswer_27 : decode cX4_isInRememberedAnswer 27 = .ok (.invokevirtual 82, 3) := by decide +kernel
theorem dX4_isInRememberedAnswer_30 : decode cX4_isInRememberedAnswer 30 = .ok (.ifCond .eq 7, 3) := by decide +kernel
theorem dX4_isInRememberedAnswer_33 : decode cX4_isInRememberedAnswer 33 = .ok (.iconst 1, 1) := by decide +kernel
theorem dX4_isInRememberedAnswer_34 : decode cX4_isInRememberedAnswer 34 = .ok (.goto 4, 3) := by decide +kernel
theorem dX4_isInRememberedAnswer_37 : decode cX4_isInRememberedAnswer 37 = .ok (.iconst 0, 1) := by decide +kernel
theorem dX4_isInRememberedAnswer_38 : decode cX4_isInRememberedAnswer 38 = .ok (.ireturn, 1) := by decide +kernel
set_option maxRecDepth 20000 in
theorem ggX4_insertRow_X6_isRow : GoodIn wsX4_insertRow wsX6_isRow := goodIn_r _ [3, 4, 5, 2, 6, 7, 8, 9] (by decide +kernel) (by decide +kernel)
set_option maxRecDepth 20000 in
theorem gX4_insertRow_X6_isRow_n85 : GoodIn wsX4_insertRow (wsX6_isRow) := ggX4_insertRow_X6_isRow
set_option maxRecDepth 20000 in
theorem ggX4_insertRow_X4_table : GoodIn wsX4_insertRow wsX4_table := goodIn_r _ [14, 15, 16, 88, 89, 90, 91, 92, 93, 94, 95] (by decide +kernel) (by decide +kernel)
set_option maxRecDepth 20000 in
theorem gX4_insertRow_X4_table : GoodIn wsX4_insertRow (wsV RX4 89 RX4 yX4_table wsX4_table) := goodIn_app (goodIn_of _ (by decide +kernel)) ggX4_insertRow_X4_table
set_option maxRecDepth 20000 in
theorem ggX4_insertRow_X5_size : GoodIn wsX4_insertRow wsX5_size := goodIn_r _ [21, 22, 96, 97, 98] (by decide +kernel) (by decide +kernel)
set_option maxRecDepth 20000 in
theorem gX4_insertRow_X5_size : GoodIn wsX4_insertRow (wsV RX4 93 RX5 yX5_size wsX5_size) := goodIn_app (goodIn_of _ (by decide +kernel)) ggX4_insertRow_X5_size
set_option maxRecDepth 20000 in
theorem ggX4_insertRow_X5_push : GoodIn wsX4_insertRow wsX5_push := goodIn_r _ [26, 22, 27, 28, 29, 20, 30, 31, 32, 96, 97, 98] (by decide +kernel) (by decide +kernel)
set_option maxRecDepth 20000 in
theorem gX4_insertRow_X5_push : GoodIn wsX4_insertRow (wsV RX4 97 RX5 yX5_push wsX5_push) := goodIn_app (goodIn_of _ (by decide +kernel)) ggX4_insertRow_X5_push
set_option maxRecDepth 20000 in
theorem ggX4_insertRow_X4_keepTrue : GoodIn wsX4_insertRow wsX4_keepTrue := goodIn_r _ [36, 37, 38, 39, 40, 13, 41, 42, 15, 43, 44, 45, 46, 47, 48, 49, 50, 51, 18, 19, 20, 21, 22, 52, 53, 54, 55, 32, 56, 57, 58, 59, 31, 60, 61, 62, 63, 64, 65, 66, 67, 68, 69, 70, 71, 72, 73, 74, 75, 76, 77, 78, 79, 80, 81, 82, 83, 84, 85, 86, 87, 88, 89, 90, 91, 92, 93, 94, 95, 99, 100, 101, 96, 97, 98, 102, 103, 104, 105] (by decide +kernel) (by decide +kernel)
set_option maxRecDepth 20000 in
theorem gX4_insertRow_X4_keepTrue : GoodIn wsX4_insertRow (wsV RX4 101 RX4 yX4_keepTrue wsX4_keepTrue) := goodIn_app (goodIn_of _ (by decide +kernel)) ggX4_insertRow_X4_keepTrue
theorem dX4_insertRow_0 : decode cX4_insertRow 0 = .ok (.iload_n 2, 1) := by decide +kernel
theorem dX4_insertRow_1 : decode cX4_insertRow 1 = .ok (.iload_n 3, 1) := by decide +kernel
theorem dX4_insertRow_2 : decode cX4_insertRow 2 = .ok (.invokestatic 85, 3) := by decide +kernel
theorem dX4_insertRow_5 : decode cX4_insertRow 5 = .ok (.ifCond .ne 5, 3) := by decide +kernel
theorem dX4_insertRow_8 : decode cX4_insertRow 8 = .ok (.iconst (-1), 1) := by decide +kernel
theorem dX4_insertRow_9 : decode cX4_insertRow 9 = .ok (.ireturn, 1) := by decide +kernel
theorem dX4_insertRow_10 : decode cX4_insertRow 10 = .ok (.aload_n 0, 1) := by decide +kernel
theorem dX4_insertRow_11 : decode cX4_insertRow 11 = .ok (.iload_n 1, 1) := by decide +kernel
theorem dX4_insertRow_12 : decode cX4_insertRow 12 = .ok (.invokevirtual 89, 3) := by decide +kernel
theorem dX4_insertRow_15 : decode cX4_insertRow 15 = .ok (.astore 4, 2) := by decide +kernel
theorem dX4_insertRow_17 : decode cX4_insertRow 17 = .ok (.aload 4, 2) := by decide +kernel
theorem dX4_insertRow_19 : decode cX4_insertRow 19 = .ok (.invokevirtual 93, 3) := by decide +kernel
theorem dX4_insertRow_22 : decode cX4_insertRow 22 = .ok (.bipush 20, 2) := by decide +kernel
theorem dX4_insertRow_24 : decode cX4_insertRow 24 = .ok (.if_icmp .lt 6, 3) := by decide +kernel
theorem dX4_insertRow_27 : decode cX4_insertRow 27 = .ok (.bipush (-3), 2) := by decide +kernel
theorem dX4_insertRow_29 : decode cX4_insertRow 29 = .ok (.ireturn, 1) := by decide +kernel
theorem dX4_insertRow_30 : decode cX4_insertRow 30 = .ok (.aload 4, 2) := by decide +kernel
theorem dX4_insertRow_32 : decode cX4_insertRow 32 = .ok (.iload_n 2, 1) := by decide +kernel
theorem dX4_insertRow_33 : decode cX4_insertRow 33 = .ok (.iload_n 3, 1) := by decide +kernel
theorem dX4_insertRow_34 : decode cX4_insertRow 34 = .ok (.invokevirtual 97, 3) := by decide +kernel
theorem dX4_insertRow_37 : decode cX4_insertRow 37 = .ok (.iload_n 1, 1) := by decide +kernel
theorem dX4_insertRow_38 : decode cX4_insertRow 38 = .ok (.ifCond .eq 9, 3) := by decide +kernel
theorem dX4_insertRow_41 : decode cX4_insertRow 41 = .ok (.aload_n 0, 1) := by decide +kernel
theorem dX4_insertRow_42 : decode cX4_insertRow 42 = .ok (.iload_n 2, 1) := by decide +kernel
theorem dX4_insertRow_43 : decode cX4_insertRow 43 = .ok (.iload_n 2, 1) := by decide +kernel
theorem dX4_insertRow_44 : decode cX4_insertRow 44 = .ok (.invokevirtual 101, 3) := by decide +kernel
theorem dX4_insertRow_47 : decode cX4_insertRow 47 = .ok (.aload 4, 2) := by decide +kernel
theorem dX4_insertRow_49 : decode cX4_insertRow 49 = .ok (.invokevirtual 93, 3) := by decide +kernel
theorem dX4_insertRow_52 : decode cX4_insertRow 52 = .ok (.iconst 1, 1) := by decide +kernel
theorem dX4_insertRow_53 : decode cX4_insertRow 53 = .ok (.isub, 1) := by decide +kernel
theorem dX4_insertRow_54 : decode cX4_insertRow 54 = .ok (.ireturn, 1) := by decide +kernel
set_option maxRecDepth 20000 in
theorem ggX4_removeRow_X4_table : GoodIn wsX4_removeRow wsX4_table := goodIn_r _ [6, 7, 8, 92, 93, 94, 95, 96, 97, 98, 99] (by decide +kernel) (by decide +kernel)
set_option maxRecDepth 20000 in
theorem gX4_removeRow_X4_table : GoodIn wsX4_removeRow (wsV RX4 89 RX4 yX4_table wsX4_table) := goodIn_app (goodIn_of _ (by decide +kernel)) ggX4_removeRow_X4_table
set_option maxRecDepth 20000 in
theorem ggX4_removeRow_X5_has : GoodIn wsX4_removeRow wsX5_has := goodIn_r _ [13, 14, 100, 101, 102] (by decide +kernel) (by decide +kernel)
set_option maxRecDepth 20000 in
theorem gX4_removeRow_X5_has : GoodIn wsX4_removeRow (wsV RX4 104 RX5 yX5_has wsX5_has) := goodIn_app (goodIn_of _ (by decide +kernel)) ggX4_removeRow_X5_has
set_option maxRecDepth 20000 in
theorem ggX4_removeRow_X5_key : GoodIn wsX4_removeRow wsX5_key := goodIn_r _ [18, 19, 100, 101, 102] (by decide +kernel) (by decide +kernel)
set_option maxRecDepth 20000 in
theorem gX4_removeRow_X5_key : GoodIn wsX4_removeRow (wsV RX4 71 RX5 yX5_key wsX5_key) := goodIn_app (goodIn_of _ (by decide +kernel)) ggX4_removeRow_X5_key
set_option maxRecDepth 20000 in
theorem ggX4_removeRow_X5_takeOut : GoodIn wsX4_removeRow wsX5_takeOut := goodIn_r _ [23, 14, 24, 10, 11, 12, 13, 25, 16, 17, 18, 19, 26, 27, 28, 29, 30, 31, 32, 33, 34, 100, 101, 102] (by decide +kernel) (by decide +kernel)
set_option maxRecDepth 20000 in
theorem gX4_removeRow_X5_takeOut : GoodIn wsX4_removeRow (wsV RX4 107 RX5 yX5_takeOut wsX5_takeOut) := goodIn_app (goodIn_of _ (by decide +kernel)) ggX4_removeRow_X5_takeOut
set_option maxRecDepth 20000 in
theorem ggX4_removeRow_X4_keepTrue : GoodIn wsX4_removeRow wsX4_keepTrue := goodIn_r _ [38, 39, 40, 41, 42, 5, 43, 44, 7, 45, 46, 47, 48, 49, 50, 51, 52, 53, 54, 55, 12, 56, 14, 57, 27, 28, 29, 30, 58, 16, 17, 18, 19, 59, 60, 61, 62, 63, 64, 65, 66, 67, 68, 69, 70, 71, 72, 73, 74, 75, 76, 77, 78, 79, 80, 81, 82, 83, 84, 85, 86, 92, 93, 94, 95, 96, 97, 98, 99, 103, 104, 105, 100, 101, 102, 106, 107, 108, 109] (by decide +kernel) (by decide +kernel)
set_option maxRecDepth 20000 in
theorem gX4_removeRow_X4_keepTrue : GoodIn wsX4_removeRow (wsV RX4 101 RX4 yX4_keepTrue wsX4_keepTrue) := goodIn_app (goodIn_of _ (by decide +kernel)) ggX4_removeRow_X4_keepTrue
set_option maxRecDepth 20000 in
theorem ggX4_removeRow_X4_isDone : GoodIn wsX4_removeRow wsX4_isDone := goodIn_r _ [90, 1, 92, 93, 94, 95, 96, 97, 98, 99] (by decide +kernel) (by decide +kernel)
set_option maxRecDepth 20000 in
theorem gX4_removeRow_X4_isDone : GoodIn wsX4_removeRow (wsV RX4 111 RX4 yX4_isDone wsX4_isDone) := goodIn_app (goodIn_of _ (by decide +kernel)) ggX4_removeRow_X4_isDone
set_option maxRecDepth 20000 in
theorem ggX4_removeRow_X5_size : GoodIn wsX4_removeRow wsX5_size := goodIn_r _ [56, 14, 100, 101, 102] (by decide +kernel) (by decide +kernel)
set_option maxRecDepth 20000 in
theorem gX4_removeRow_X5_size : GoodIn wsX4_removeRow (wsV RX4 93 RX5 yX5_size wsX5_size) := goodIn_app (goodIn_of _ (by decide +kernel)) ggX4_removeRow_X5_size
theorem dX4_removeRow_0 : decode cX4_removeRow 0 = .ok (.aload_n 0, 1) := by decide +kernel
theorem dX4_removeRow_1 : decode cX4_removeRow 1 = .ok (.iload_n 1, 1) := by decide +kernel
theorem dX4_removeRow_2 : decode cX4_removeRow 2 = .ok (.invokevirtual 89, 3) := by decide +kernel
theorem dX4_removeRow_5 : decode cX4_removeRow 5 = .ok (.astore_n 3, 1) := by decide +kernel
theorem dX4_removeRow_6 : decode cX4_removeRow 6 = .ok (.aload_n 3, 1) := by decide +kernel
theorem dX4_removeRow_7 : decode cX4_removeRow 7 = .ok (.iload_n 2, 1) := by decide +kernel
theorem dX4_removeRow_8 : decode cX4_removeRow 8 = .ok (.invokevirtual 104, 3) := by decide +kernel
theorem dX4_removeRow_11 : decode cX4_removeRow 11 = .ok (.ifCond .ne 5, 3) := by decide +kernel
theorem dX4_removeRow_14 : decode cX4_removeRow 14 = .ok (.iconst (-1), 1) := by decide +kernel
theorem dX4_removeRow_15 : decode cX4_removeRow 15 = .ok (.ireturn, 1) := by decide +kernel
theorem dX4_removeRow_16 : decode cX4_removeRow 16 = .ok (.aload_n 3, 1) := by decide +kernel
theorem dX4_removeRow_17 : decode cX4_removeRow 17 = .ok (.iload_n 2, 1) := by decide +kernel
theorem dX4_removeRow_18 : decode cX4_removeRow 18 = .ok (.invokevirtual 71, 3) := by decide +kernel
theorem dX4_removeRow_21 : decode cX4_removeRow 21 = .ok (.istore 4, 2) := by decide +kernel
theorem dX4_removeRow_23 : decode cX4_removeRow 23 = .ok (.aload_n 3, 1) := by decide +kernel
theorem dX4_removeRow_24 : decode cX4_removeRow 24 = .ok (.iload_n 2, 1) := by decide +kernel
theorem dX4_removeRow_25 : decode cX4_removeRow 25 = .ok (.invokevirtual 107, 3) := by decide +kernel
theorem dX4_removeRow_28 : decode cX4_removeRow 28 = .ok (.iload_n 1, 1) := by decide +kernel
theorem dX4_removeRow_29 : decode cX4_removeRow 29 = .ok (.ifCond .eq 14, 3) := by decide +kernel
theorem dX4_removeRow_32 : decode cX4_removeRow 32 = .ok (.aload_n 0, 1) := by decide +kernel
theorem dX4_removeRow_33 : decode cX4_removeRow 33 = .ok (.iload 4, 2) := by decide +kernel
theorem dX4_removeRow_35 : decode cX4_removeRow 35 = .ok (.iload 4, 2) := by decide +kernel
theorem dX4_removeRow_37 : decode cX4_removeRow 37 = .ok (.invokevirtual 101, 3) := by decide +kernel
theorem dX4_removeRow_40 : decode cX4_removeRow 40 = .ok (.goto 21, 3) := by decide +kernel
theorem dX4_removeRow_43 : decode cX4_removeRow 43 = .ok (.aload_n 0, 1) := by decide +kernel
theorem dX4_removeRow_44 : decode cX4_removeRow 44 = .ok (.iload_n 2, 1) := by decide +kernel
theorem dX4_removeRow_45 : decode cX4_removeRow 45 = .ok (.invokevirtual 111, 3) := by decide +kernel
theorem dX4_removeRow_48 : decode cX4_removeRow 48 = .ok (.ifCond .eq 13, 3) := by decide +kernel
theorem dX4_removeRow_51 : decode cX4_removeRow 51 = .ok (.aload_n 0, 1) := by decide +kernel
theorem dX4_removeRow_52 : decode cX4_removeRow 52 = .ok (.dup, 1) := by decide +kernel
theorem dX4_removeRow_53 : decode cX4_removeRow 53 = .ok (.getfield 64, 3) := by decide +kernel
theorem dX4_removeRow_56 : decode cX4_removeRow 56 = .ok (.iconst 1, 1) := by decide +kernel
theorem dX4_removeRow_57 : decode cX4_removeRow 57 = .ok (.isub, 1) := by decide +kernel
theorem dX4_removeRow_58 : decode cX4_removeRow 58 = .ok (.putfield 64, 3) := by decide +kernel
theorem dX4_removeRow_61 : decode cX4_removeRow 61 = .ok (.aload_n 3, 1) := by decide +kernel
theorem dX4_removeRow_62 : decode cX4_removeRow 62 = .ok (.invokevirtual 93, 3) := by decide +kernel
theorem dX4_removeRow_65 : decode cX4_removeRow 65 = .ok (.ireturn, 1) := by decide +kernel
set_option maxRecDepth 20000 in
theorem ggX4_rewriteRow_X5_has : GoodIn wsX4_rewriteRow wsX5_has := goodIn_r _ [7, 8, 92, 93, 94] (by decide +kernel) (by decide +kernel)
set_option maxRecDepth 20000 in
theorem gX4_rewriteRow_X5_has : GoodIn wsX4_rewriteRow (wsV RX4 104 RX5 yX5_has wsX5_has) := goodIn_app (goodIn_of _ (by decide +kernel)) ggX4_rewriteRow_X5_has
set_option maxRecDepth 20000 in
theorem ggX4_rewriteRow_X6_isRow : GoodIn wsX4_rewriteRow wsX6_isRow := goodIn_r _ [11, 12, 13, 10, 14, 15, 16, 17] (by decide +kernel) (by decide +kernel)
set_option maxRecDepth 20000 in
theorem gX4_rewriteRow_X6_isRow_n85 : GoodIn wsX4_rewriteRow (wsX6_isRow) := ggX4_rewriteRow_X6_isRow
set_option maxRecDepth 20000 in
theorem ggX4_rewriteRow_X5_key : GoodIn wsX4_rewriteRow wsX5_key := goodIn_r _ [21, 22, 92, 93, 94] (by decide +kernel) (by decide +kernel)
set_option maxRecDepth 20000 in
theorem gX4_rewriteRow_X5_key : GoodIn wsX4_rewriteRow (wsV RX4 71 RX5 yX5_key wsX5_key) := goodIn_app (goodIn_of _ (by decide +kernel)) ggX4_rewriteRow_X5_key
set_option maxRecDepth 20000 in
theorem ggX4_rewriteRow_X5_put : GoodIn wsX4_rewriteRow wsX5_put := goodIn_r _ [26, 22, 27, 92, 93, 94] (by decide +kernel) (by decide +kernel)
set_option maxRecDepth 20000 in
theorem gX4_rewriteRow_X5_put : GoodIn wsX4_rewriteRow (wsV RX4 114 RX5 yX5_put wsX5_put) := goodIn_app (goodIn_of _ (by decide +kernel)) ggX4_rewriteRow_X5_put
set_option maxRecDepth 20000 in
theorem ggX4_rewriteRow_X4_keepTrue : GoodIn wsX4_rewriteRow wsX4_keepTrue := goodIn_r _ [32, 33, 34, 35, 36, 31, 37, 38, 1, 39, 40, 41, 42, 43, 44, 45, 46, 47, 48, 49, 6, 50, 8, 51, 52, 53, 54, 27, 55, 19, 20, 21, 22, 56, 57, 58, 59, 2, 60, 61, 62, 63, 64, 65, 66, 67, 68, 69, 70, 71, 72, 73, 74, 75, 76, 77, 78, 79, 80, 81, 82, 84, 85, 86, 87, 88, 89, 90, 91, 95, 96, 97, 92, 93, 94, 98, 99, 100, 101] (by decide +kernel) (by decide +kernel)
set_option maxRecDepth 20000 in
theorem gX4_rewriteRow_X4_keepTrue : GoodIn wsX4_rewriteRow (wsV RX4 101 RX4 yX4_keepTrue wsX4_keepTrue) := goodIn_app (goodIn_of _ (by decide +kernel)) ggX4_rewriteRow_X4_keepTrue
set_option maxRecDepth 20000 in
theorem ggX4_rewriteRow_X2_size : GoodIn wsX4_rewriteRow wsX2_size := goodIn_r _ [70, 66, 98, 99, 100, 101] (by decide +kernel) (by decide +kernel)
set_option maxRecDepth 20000 in
theorem gX4_rewriteRow_X2_size : GoodIn wsX4_rewriteRow (wsV RX4 118 RX2 yX2_size wsX2_size) := goodIn_app (goodIn_of _ (by decide +kernel)) ggX4_rewriteRow_X2_size
theorem dX4_rewriteRow_0 : decode cX4_rewriteRow 0 = .ok (.aload_n 0, 1) := by decide +kernel
theorem dX4_rewriteRow_1 : decode cX4_rewriteRow 1 = .ok (.getfield 18, 3) := by decide +kernel
theorem dX4_rewriteRow_4 : decode cX4_rewriteRow 4 = .ok (.iload_n 1, 1) := by decide +kernel
theorem dX4_rewriteRow_5 : decode cX4_rewriteRow 5 = .ok (.invokevirtual 104, 3) := by decide +kernel
theorem dX4_rewriteRow_8 : decode cX4_rewriteRow 8 = .ok (.ifCond .eq 11, 3) := by decide +kernel
theorem dX4_rewriteRow_11 : decode cX4_rewriteRow 11 = .ok (.iload_n 2, 1) := by decide +kernel
theorem dX4_rewriteRow_12 : decode cX4_rewriteRow 12 = .ok (.iload_n 3, 1) := by decide +kernel
theorem dX4_rewriteRow_13 : decode cX4_rewriteRow 13 = .ok (.invokestatic 85, 3) := by decide +kernel
theorem dX4_rewriteRow_16 : decode cX4_rewriteRow 16 = .ok (.ifCond .ne 5, 3) := by decide +kernel
theorem dX4_rewriteRow_19 : decode cX4_rewriteRow 19 = .ok (.iconst (-1), 1) := by decide +kernel
theorem dX4_rewriteRow_20 : decode cX4_rewriteRow 20 = .ok (.ireturn, 1) := by decide +kernel
theorem dX4_rewriteRow_21 : decode cX4_rewriteRow 21 = .ok (.aload_n 0, 1) := by decide +kernel
theorem dX4_rewriteRow_22 : decode cX4_rewriteRow 22 = .ok (.getfield 18, 3) := by decide +kernel
theorem dX4_rewriteRow_25 : decode cX4_rewriteRow 25 = .ok (.iload_n 1, 1) := by decide +kernel
theorem dX4_rewriteRow_26 : decode cX4_rewriteRow 26 = .ok (.invokevirtual 71, 3) := by decide +kernel
theorem dX4_rewriteRow_29 : decode cX4_rewriteRow 29 = .ok (.istore 4, 2) := by decide +kernel
theorem dX4_rewriteRow_31 : decode cX4_rewriteRow 31 = .ok (.aload_n 0, 1) := by decide +kernel
theorem dX4_rewriteRow_32 : decode cX4_rewriteRow 32 = .ok (.getfield 18, 3) := by decide +kernel
theorem dX4_rewriteRow_35 : decode cX4_rewriteRow 35 = .ok (.iload_n 1, 1) := by decide +kernel
theorem dX4_rewriteRow_36 : decode cX4_rewriteRow 36 = .ok (.iload_n 2, 1) := by decide +kernel
theorem dX4_rewriteRow_37 : decode cX4_rewriteRow 37 = .ok (.iload_n 3, 1) := by decide +kernel
theorem dX4_rewriteRow_38 : decode cX4_rewriteRow 38 = .ok (.invokevirtual 114, 3) := by decide +kernel
theorem dX4_rewriteRow_41 : decode cX4_rewriteRow 41 = .ok (.aload_n 0, 1) := by decide +kernel
theorem dX4_rewriteRow_42 : decode cX4_rewriteRow 42 = .ok (.iload 4, 2) := by decide +kernel
theorem dX4_rewriteRow_44 : decode cX4_rewriteRow 44 = .ok (.iload_n 2, 1) := by decide +kernel
theorem dX4_rewriteRow_45 : decode cX4_rewriteRow 45 = .ok (.invokevirtual 101, 3) := by decide +kernel
theorem dX4_rewriteRow_48 : decode cX4_rewriteRow 48 = .ok (.aload_n 0, 1) := by decide +kernel
theorem dX4_rewriteRow_49 : decode cX4_rewriteRow 49 = .ok (.getfield 31, 3) := by decide +kernel
theorem dX4_rewriteRow_52 : decode cX4_rewriteRow 52 = .ok (.invokevirtual 118, 3) := by decide +kernel
theorem dX4_rewriteRow_55 : decode cX4_rewriteRow 55 = .ok (.ireturn, 1) := by decide +kernel
set_option maxRecDepth 20000 in
theorem ggX4_walk_X5_size : GoodIn wsX4_walk wsX5_size := goodIn_r _ [10, 11, 86, 87, 88] (by decide +kernel) (by decide +kernel)
set_option maxRecDepth 20000 in
theorem gX4_walk_X5_size : GoodIn wsX4_walk (wsV RX4 93 RX5 yX5_size wsX5_size) := goodIn_app (goodIn_of _ (by decide +kernel)) ggX4_walk_X5_size
set_option maxRecDepth 20000 in
theorem ggX4_walk_X5_key : GoodIn wsX4_walk wsX5_key := goodIn_r _ [15, 16, 86, 87, 88] (by decide +kernel) (by decide +kernel)
set_option maxRecDepth 20000 in
theorem gX4_walk_X5_key : GoodIn wsX4_walk (wsV RX4 71 RX5 yX5_key wsX5_key) := goodIn_app (goodIn_of _ (by decide +kernel)) ggX4_walk_X5_key
set_option maxRecDepth 20000 in
theorem ggX4_walk_X4_lookUp : GoodIn wsX4_walk wsX4_lookUp := goodIn_r _ [21, 22, 3, 23, 5, 24, 25, 26, 27, 28, 29, 30, 31, 32, 33, 34, 35, 36, 6, 7, 8, 9, 10, 11, 37, 38, 39, 40, 41, 42, 43, 44, 45, 46, 47, 48, 49, 50, 20, 51, 52, 53, 54, 55, 56, 57, 58, 59, 60, 61, 62, 63, 64, 65, 66, 67, 78, 79, 80, 81, 82, 83, 84, 85, 89, 90, 91, 92, 86, 87, 88, 93, 94, 95] (by decide +kernel) (by decide +kernel)
set_option maxRecDepth 20000 in
theorem gX4_walk_X4_lookUp : GoodIn wsX4_walk (wsV RX4 119 RX4 yX4_lookUp wsX4_lookUp) := goodIn_app (goodIn_of _ (by decide +kernel)) ggX4_walk_X4_lookUp
set_option maxRecDepth 20000 in
theorem ggX4_walk_X5_value : GoodIn wsX4_walk wsX5_value := goodIn_r _ [71, 72, 86, 87, 88] (by decide +kernel) (by decide +kernel)
set_option maxRecDepth 20000 in
theorem gX4_walk_X5_value : GoodIn wsX4_walk (wsV RX4 79 RX5 yX5_value wsX5_value) := goodIn_app (goodIn_of _ (by decide +kernel)) ggX4_walk_X5_value
set_option maxRecDepth 20000 in
theorem ggX4_walk_X0_sum : GoodIn wsX4_walk wsX0_sum := goodIn_r _ [76, 77, 93, 94, 95] (by decide +kernel) (by decide +kernel)
set_option maxRecDepth 20000 in
theorem gX4_walk_X0_sum : GoodIn wsX4_walk (wsV RX4 122 RX0 yX0_sum wsX0_sum) := goodIn_app (goodIn_of _ (by decide +kernel)) ggX4_walk_X0_sum
theorem dX4_walk_0 : decode cX4_walk 0 = .ok (.iload_n 1, 1) := by decide +kernel
theorem dX4_walk_1 : decode cX4_walk 1 = .ok (.iconst 1, 1) := by decide +kernel
theorem dX4_walk_2 : decode cX4_walk 2 = .ok (.if_icmp .lt 9, 3) := by decide +kernel
theorem dX4_walk_5 : decode cX4_walk 5 = .ok (.iload_n 1, 1) := by decide +kernel
theorem dX4_walk_6 : decode cX4_walk 6 = .ok (.bipush 20, 2) := by decide +kernel
theorem dX4_walk_8 : decode cX4_walk 8 = .ok (.if_icmp .le 5, 3) := by decide +kernel
theorem dX4_walk_11 : decode cX4_walk 11 = .ok (.iconst (-1), 1) := by decide +kernel
theorem dX4_walk_12 : decode cX4_walk 12 = .ok (.ireturn, 1) := by decide +kernel
theorem dX4_walk_13 : decode cX4_walk 13 = .ok (.aload_n 0, 1) := by decide +kernel
theorem dX4_walk_14 : decode cX4_walk 14 = .ok (.getfield 64, 3) := by decide +kernel
theorem dX4_walk_17 : decode cX4_walk 17 = .ok (.aload_n 0, 1) := by decide +kernel
theorem dX4_walk_18 : decode cX4_walk 18 = .ok (.getfield 12, 3) := by decide +kernel
theorem dX4_walk_21 : decode cX4_walk 21 = .ok (.invokevirtual 93, 3) := by decide +kernel
theorem dX4_walk_24 : decode cX4_walk 24 = .ok (.if_icmp .lt 6, 3) := by decide +kernel
theorem dX4_walk_27 : decode cX4_walk 27 = .ok (.bipush (-2), 2) := by decide +kernel
theorem dX4_walk_29 : decode cX4_walk 29 = .ok (.ireturn, 1) := by decide +kernel
theorem dX4_walk_30 : decode cX4_walk 30 = .ok (.aload_n 0, 1) := by decide +kernel
theorem dX4_walk_31 : decode cX4_walk 31 = .ok (.getfield 47, 3) := by decide +kernel
theorem dX4_walk_34 : decode cX4_walk 34 = .ok (.iconst 2, 1) := by decide +kernel
theorem dX4_walk_35 : decode cX4_walk 35 = .ok (.iaload, 1) := by decide +kernel
theorem dX4_walk_36 : decode cX4_walk 36 = .ok (.istore_n 2, 1) := by decide +kernel
theorem dX4_walk_37 : decode cX4_walk 37 = .ok (.iconst 0, 1) := by decide +kernel
theorem dX4_walk_38 : decode cX4_walk 38 = .ok (.istore_n 3, 1) := by decide +kernel
theorem dX4_walk_39 : decode cX4_walk 39 = .ok (.iload_n 3, 1) := by decide +kernel
theorem dX4_walk_40 : decode cX4_walk 40 = .ok (.iload_n 1, 1) := by decide +kernel
theorem dX4_walk_41 : decode cX4_walk 41 = .ok (.if_icmp .ge 82, 3) := by decide +kernel
theorem dX4_walk_44 : decode cX4_walk 44 = .ok (.aload_n 0, 1) := by decide +kernel
theorem dX4_walk_45 : decode cX4_walk 45 = .ok (.getfield 64, 3) := by decide +kernel
theorem dX4_walk_48 : decode cX4_walk 48 = .ok (.aload_n 0, 1) := by decide +kernel
theorem dX4_walk_49 : decode cX4_walk 49 = .ok (.getfield 12, 3) := by decide +kernel
theorem dX4_walk_52 : decode cX4_walk 52 = .ok (.invokevirtual 93, 3) := by decide +kernel
theorem dX4_walk_55 : decode cX4_walk 55 = .ok (.if_icmp .ge 68, 3) := by decide +kernel
theorem dX4_walk_58 : decode cX4_walk 58 = .ok (.aload_n 0, 1) := by decide +kernel
theorem dX4_walk_59 : decode cX4_walk 59 = .ok (.getfield 12, 3) := by decide +kernel
theorem dX4_walk_62 : decode cX4_walk 62 = .ok (.aload_n 0, 1) := by decide +kernel
theorem dX4_walk_63 : decode cX4_walk 63 = .ok (.getfield 64, 3) := by decide +kernel
theorem dX4_walk_66 : decode cX4_walk 66 = .ok (.invokevirtual 71, 3) := by decide +kernel
theorem dX4_walk_69 : decode cX4_walk 69 = .ok (.istore 4, 2) := by decide +kernel
theorem dX4_walk_71 : decode cX4_walk 71 = .ok (.aload_n 0, 1) := by decide +kernel
theorem dX4_walk_72 : decode cX4_walk 72 = .ok (.iload 4, 2) := by decide +kernel
theorem dX4_walk_74 : decode cX4_walk 74 = .ok (.invokevirtual 119, 3) := by decide +kernel
theorem dX4_walk_77 : decode cX4_walk 77 = .ok (.aload_n 0, 1) := by decide +kernel
theorem dX4_walk_78 : decode cX4_walk 78 = .ok (.dup, 1) := by decide +kernel
theorem dX4_walk_79 : decode cX4_walk 79 = .ok (.getfield 68, 3) := by decide +kernel
theorem dX4_walk_82 : decode cX4_walk 82 = .ok (.aload_n 0, 1) := by decide +kernel
theorem dX4_walk_83 : decode cX4_walk 83 = .ok (.getfield 12, 3) := by decide +kernel
theorem dX4_walk_86 : decode cX4_walk 86 = .ok (.aload_n 0, 1) := by decide +kernel
theorem dX4_walk_87 : decode cX4_walk 87 = .ok (.getfield 64, 3) := by decide +kernel
theorem dX4_walk_90 : decode cX4_walk 90 = .ok (.invokevirtual 79, 3) := by decide +kernel
theorem dX4_walk_93 : decode cX4_walk 93 = .ok (.aload_n 0, 1) := by decide +kernel
theorem dX4_walk_94 : decode cX4_walk 94 = .ok (.getfield 24, 3) := by decide +kernel
theorem dX4_walk_97 : decode cX4_walk 97 = .ok (.iload 4, 2) := by decide +kernel
theorem dX4_walk_99 : decode cX4_walk 99 = .ok (.invokevirtual 122, 3) := by decide +kernel
theorem dX4_walk_102 : decode cX4_walk 102 = .ok (.imul, 1) := by decide +kernel
theorem dX4_walk_103 : decode cX4_walk 103 = .ok (.iadd, 1) := by decide +kernel
theorem dX4_walk_104 : decode cX4_walk 104 = .ok (.putfield 68, 3) := by decide +kernel
theorem dX4_walk_107 : decode cX4_walk 107 = .ok (.aload_n 0, 1) := by decide +kernel
theorem dX4_walk_108 : decode cX4_walk 108 = .ok (.dup, 1) := by decide +kernel
theorem dX4_walk_109 : decode cX4_walk 109 = .ok (.getfield 64, 3) := by decide +kernel
theorem dX4_walk_112 : decode cX4_walk 112 = .ok (.iconst 1, 1) := by decide +kernel
theorem dX4_walk_113 : decode cX4_walk 113 = .ok (.iadd, 1) := by decide +kernel
theorem dX4_walk_114 : decode cX4_walk 114 = .ok (.putfield 64, 3) := by decide +kernel
theorem dX4_walk_117 : decode cX4_walk 117 = .ok (.iinc 3 1, 3) := by decide +kernel
theorem dX4_walk_120 : decode cX4_walk 120 = .ok (.goto (-81), 3) := by decide +kernel
theorem dX4_walk_123 : decode cX4_walk 123 = .ok (.aload_n 0, 1) := by decide +kernel
theorem dX4_walk_124 : decode cX4_walk 124 = .ok (.getfield 47, 3) := by decide +kernel
theorem dX4_walk_127 : decode cX4_walk 127 = .ok (.iconst 2, 1) := by decide +kernel
theorem dX4_walk_128 : decode cX4_walk 128 = .ok (.iaload, 1) := by decide +kernel
theorem dX4_walk_129 : decode cX4_walk 129 = .ok (.iload_n 2, 1) := by decide +kernel
theorem dX4_walk_130 : decode cX4_walk 130 = .ok (.isub, 1) := by decide +kernel
theorem dX4_walk_131 : decode cX4_walk 131 = .ok (.ireturn, 1) := by decide +kernel
theorem dX4_beginAgain_0 : decode cX4_beginAgain 0 = .ok (.aload_n 0, 1) := by decide +kernel
theorem dX4_beginAgain_1 : decode cX4_beginAgain 1 = .ok (.getfield 68, 3) := by decide +kernel
theorem dX4_beginAgain_4 : decode cX4_beginAgain 4 = .ok (.istore_n 1, 1) := by decide +kernel
theorem dX4_beginAgain_5 : decode cX4_beginAgain 5 = .ok (.aload_n 0, 1) := by decide +kernel
theorem dX4_beginAgain_6 : decode cX4_beginAgain 6 = .ok (.iconst 0, 1) := by decide +kernel
theorem dX4_beginAgain_7 : decode cX4_beginAgain 7 = .ok (.putfield 64, 3) := by decide +kernel
theorem dX4_beginAgain_10 : decode cX4_beginAgain 10 = .ok (.aload_n 0, 1) := by decide +kernel
theorem dX4_beginAgain_11 : decode cX4_beginAgain 11 = .ok (.iconst 0, 1) := by decide +kernel
theorem dX4_beginAgain_12 : decode cX4_beginAgain 12 = .ok (.putfield 68, 3) := by decide +kernel
theorem dX4_beginAgain_15 : decode cX4_beginAgain 15 = .ok (.iload_n 1, 1) := by decide +kernel
theorem dX4_beginAgain_16 : decode cX4_beginAgain 16 = .ok (.ireturn, 1) := by decide +kernel
set_option maxRecDepth 20000 in
theorem ggX4_throwAllOut_X2_loseAll : GoodIn wsX4_throwAllOut wsX2_loseAll := goodIn_r _ [7, 8, 9, 10, 11, 6, 12, 21, 22, 23, 24] (by decide +kernel) (by decide +kernel)
set_option maxRecDepth 20000 in
theorem gX4_throwAllOut_X2_loseAll : GoodIn wsX4_throwAllOut (wsV RX4 125 RX2 yX2_loseAll wsX2_loseAll) := goodIn_app (goodIn_of _ (by decide +kernel)) ggX4_throwAllOut_X2_loseAll
theorem dX4_throwAllOut_0 : decode cX4_throwAllOut 0 = .ok (.aload_n 0, 1) := by decide +kernel
theorem dX4_throwAllOut_1 : decode cX4_throwAllOut 1 = .ok (.getfield 31, 3) := by decide +kernel
theorem dX4_throwAllOut_4 : decode cX4_throwAllOut 4 = .ok (.invokevirtual 125, 3) := by decide +kernel
theorem dX4_throwAllOut_7 : decode cX4_throwAllOut 7 = .ok (.istore_n 1, 1) := by decide +kernel
theorem dX4_throwAllOut_8 : decode cX4_throwAllOut 8 = .ok (.aload_n 0, 1) := by decide +kernel
theorem dX4_throwAllOut_9 : decode cX4_throwAllOut 9 = .ok (.getfield 47, 3) := by decide +kernel
theorem dX4_throwAllOut_12 : decode cX4_throwAllOut 12 = .ok (.iconst 4, 1) := by decide +kernel
theorem dX4_throwAllOut_13 : decode cX4_throwAllOut 13 = .ok (.dup2, 1) := by decide +kernel
theorem dX4_throwAllOut_14 : decode cX4_throwAllOut 14 = .ok (.iaload, 1) := by decide +kernel
theorem dX4_throwAllOut_15 : decode cX4_throwAllOut 15 = .ok (.iload_n 1, 1) := by decide +kernel
theorem dX4_throwAllOut_16 : decode cX4_throwAllOut 16 = .ok (.iadd, 1) := by decide +kernel
theorem dX4_throwAllOut_17 : decode cX4_throwAllOut 17 = .ok (.iastore, 1) := by decide +kernel
theorem dX4_throwAllOut_18 : decode cX4_throwAllOut 18 = .ok (.iload_n 1, 1) := by decide +kernel
theorem dX4_throwAllOut_19 : decode cX4_throwAllOut 19 = .ok (.ireturn, 1) := by decide +kernel
set_option maxRecDepth 20000 in
theorem ggX4_adjust_X4_makeRoom : GoodIn wsX4_adjust wsX4_makeRoom := goodIn_r _ [7, 2, 8, 9, 10, 11, 12, 13, 6, 14, 15, 16, 17, 18, 19, 20, 21, 22, 23, 24, 25, 26, 27, 28, 29, 30, 31, 32, 33, 34, 35, 36, 37, 38, 39, 40, 80, 81, 82, 83, 84, 85, 86, 87, 88, 89, 90, 91, 92, 93, 94] (by decide +kernel) (by decide +kernel)
set_option maxRecDepth 20000 in
theorem gX4_adjust_X4_makeRoom : GoodIn wsX4_adjust (wsV RX4 131 RX4 yX4_makeRoom wsX4_makeRoom) := goodIn_app (goodIn_of _ (by decide +kernel)) ggX4_adjust_X4_makeRoom
end
section
set_option maxRecDepth 20000 in
theorem ggX4_adjust_X4_findAnswers : GoodIn wsX4_adjust wsX4_findAnswers := goodIn_r _ [44, 9, 45, 2, 46, 47, 48, 24, 49, 26, 50, 51, 52, 53, 54, 55, 56, 57, 58, 59, 60, 61, 62, 63, 64, 65, 66, 67, 80, 81, 82, 83, 84, 85, 86, 87, 92, 93, 94, 95, 96, 97] (by decide +kernel) (by decide +kernel)
set_option maxRecDepth 20000 in
theorem gX4_adjust_X4_findAnswers : GoodIn wsX4_adjust (wsV RX4 134 RX4 yX4_findAnswers wsX4_findAnswers) := goodIn_app (goodIn_of _ (by decide +kernel)) ggX4_adjust_X4_findAnswers
set_option maxRecDepth 20000 in
theorem ggX4_adjust_X4_throwAllOut : GoodIn wsX4_adjust wsX4_throwAllOut := goodIn_r _ [71, 8, 10, 72, 73, 74, 18, 75, 20, 76, 77, 78, 79, 80, 81, 82, 83, 84, 85, 86, 87, 88, 89, 90, 91] (by decide +kernel) (by decide +kernel)
set_option maxRecDepth 20000 in
theorem gX4_adjust_X4_throwAllOut : GoodIn wsX4_adjust (wsV RX4 137 RX4 yX4_throwAllOut wsX4_throwAllOut) := goodIn_app (goodIn_of _ (by decide +kernel)) ggX4_adjust_X4_throwAllOut
theorem dX4_adjust_0 : decode cX4_adjust 0 = .ok (.iload_n 1, 1) := by decide +kernel
theorem dX4_adjust_1 : decode cX4_adjust 1 = .ok (.ifCond .lt 21, 3) := by decide +kernel
theorem dX4_adjust_4 : decode cX4_adjust 4 = .ok (.iload_n 1, 1) := by decide +kernel
theorem dX4_adjust_5 : decode cX4_adjust 5 = .ok (.iconst 4, 1) := by decide +kernel
theorem dX4_adjust_6 : decode cX4_adjust 6 = .ok (.if_icmp .gt 16, 3) := by decide +kernel
theorem dX4_adjust_9 : decode cX4_adjust 9 = .ok (.iload_n 2, 1) := by decide +kernel
theorem dX4_adjust_10 : decode cX4_adjust 10 = .ok (.ifCond .lt 12, 3) := by decide +kernel
theorem dX4_adjust_13 : decode cX4_adjust 13 = .ok (.iload_n 2, 1) := by decide +kernel
theorem dX4_adjust_14 : decode cX4_adjust 14 = .ok (.getstatic 128, 3) := by decide +kernel
theorem dX4_adjust_17 : decode cX4_adjust 17 = .ok (.iload_n 1, 1) := by decide +kernel
theorem dX4_adjust_18 : decode cX4_adjust 18 = .ok (.iaload, 1) := by decide +kernel
theorem dX4_adjust_19 : decode cX4_adjust 19 = .ok (.if_icmp .le 5, 3) := by decide +kernel
theorem dX4_adjust_22 : decode cX4_adjust 22 = .ok (.iconst (-1), 1) := by decide +kernel
theorem dX4_adjust_23 : decode cX4_adjust 23 = .ok (.ireturn, 1) := by decide +kernel
theorem dX4_adjust_24 : decode cX4_adjust 24 = .ok (.aload_n 0, 1) := by decide +kernel
theorem dX4_adjust_25 : decode cX4_adjust 25 = .ok (.getfield 44, 3) := by decide +kernel
theorem dX4_adjust_28 : decode cX4_adjust 28 = .ok (.iload_n 1, 1) := by decide +kernel
theorem dX4_adjust_29 : decode cX4_adjust 29 = .ok (.iload_n 2, 1) := by decide +kernel
theorem dX4_adjust_30 : decode cX4_adjust 30 = .ok (.iastore, 1) := by decide +kernel
theorem dX4_adjust_31 : decode cX4_adjust 31 = .ok (.iload_n 1, 1) := by decide +kernel
theorem dX4_adjust_32 : decode cX4_adjust 32 = .ok (.ifCond .ne 9, 3) := by decide +kernel
theorem dX4_adjust_35 : decode cX4_adjust 35 = .ok (.aload_n 0, 1) := by decide +kernel
theorem dX4_adjust_36 : decode cX4_adjust 36 = .ok (.iconst (-1), 1) := by decide +kernel
theorem dX4_adjust_37 : decode cX4_adjust 37 = .ok (.invokevirtual 131, 3) := by decide +kernel
theorem dX4_adjust_40 : decode cX4_adjust 40 = .ok (.ireturn, 1) := by decide +kernel
theorem dX4_adjust_41 : decode cX4_adjust 41 = .ok (.aload_n 0, 1) := by decide +kernel
theorem dX4_adjust_42 : decode cX4_adjust 42 = .ok (.invokevirtual 134, 3) := by decide +kernel
theorem dX4_adjust_45 : decode cX4_adjust 45 = .ok (.aload_n 0, 1) := by decide +kernel
theorem dX4_adjust_46 : decode cX4_adjust 46 = .ok (.invokevirtual 137, 3) := by decide +kernel
theorem dX4_adjust_49 : decode cX4_adjust 49 = .ok (.ireturn, 1) := by decide +kernel
set_option maxRecDepth 20000 in
theorem ggX4_weightTogether_X2_holds : GoodIn wsX4_weightTogether wsX2_holds := goodIn_r _ [7, 8, 23, 24, 25, 26] (by decide +kernel) (by decide +kernel)
set_option maxRecDepth 20000 in
theorem gX4_weightTogether_X2_holds : GoodIn wsX4_weightTogether (wsV RX4 75 RX2 yX2_holds wsX2_holds) := goodIn_app (goodIn_of _ (by decide +kernel)) ggX4_weightTogether_X2_holds
set_option maxRecDepth 20000 in
theorem ggX4_weightTogether_X0_weight : GoodIn wsX4_weightTogether wsX0_weight := goodIn_r _ [13, 14, 27, 28, 29] (by decide +kernel) (by decide +kernel)
set_option maxRecDepth 20000 in
theorem gX4_weightTogether_X0_weight : GoodIn wsX4_weightTogether (wsV RX4 140 RX0 yX0_weight wsX0_weight) := goodIn_app (goodIn_of _ (by decide +kernel)) ggX4_weightTogether_X0_weight
theorem dX4_weightTogether_0 : decode cX4_weightTogether 0 = .ok (.iconst 0, 1) := by decide +kernel
theorem dX4_weightTogether_1 : decode cX4_weightTogether 1 = .ok (.istore_n 1, 1) := by decide +kernel
theorem dX4_weightTogether_2 : decode cX4_weightTogether 2 = .ok (.iconst 0, 1) := by decide +kernel
theorem dX4_weightTogether_3 : decode cX4_weightTogether 3 = .ok (.istore_n 2, 1) := by decide +kernel
theorem dX4_weightTogether_4 : decode cX4_weightTogether 4 = .ok (.iload_n 2, 1) := by decide +kernel
theorem dX4_weightTogether_5 : decode cX4_weightTogether 5 = .ok (.bipush 10, 2) := by decide +kernel
theorem dX4_weightTogether_7 : decode cX4_weightTogether 7 = .ok (.if_icmp .ge 31, 3) := by decide +kernel
theorem dX4_weightTogether_10 : decode cX4_weightTogether 10 = .ok (.aload_n 0, 1) := by decide +kernel
theorem dX4_weightTogether_11 : decode cX4_weightTogether 11 = .ok (.getfield 31, 3) := by decide +kernel
theorem dX4_weightTogether_14 : decode cX4_weightTogether 14 = .ok (.iload_n 2, 1) := by decide +kernel
theorem dX4_weightTogether_15 : decode cX4_weightTogether 15 = .ok (.invokevirtual 75, 3) := by decide +kernel
theorem dX4_weightTogether_18 : decode cX4_weightTogether 18 = .ok (.ifCond .eq 14, 3) := by decide +kernel
theorem dX4_weightTogether_21 : decode cX4_weightTogether 21 = .ok (.iload_n 1, 1) := by decide +kernel
theorem dX4_weightTogether_22 : decode cX4_weightTogether 22 = .ok (.aload_n 0, 1) := by decide +kernel
theorem dX4_weightTogether_23 : decode cX4_weightTogether 23 = .ok (.getfield 24, 3) := by decide +kernel
theorem dX4_weightTogether_26 : decode cX4_weightTogether 26 = .ok (.iload_n 2, 1) := by decide +kernel
theorem dX4_weightTogether_27 : decode cX4_weightTogether 27 = .ok (.invokevirtual 140, 3) := by decide +kernel
theorem dX4_weightTogether_30 : decode cX4_weightTogether 30 = .ok (.iadd, 1) := by decide +kernel
theorem dX4_weightTogether_31 : decode cX4_weightTogether 31 = .ok (.istore_n 1, 1) := by decide +kernel
theorem dX4_weightTogether_32 : decode cX4_weightTogether 32 = .ok (.iinc 2 1, 3) := by decide +kernel
theorem dX4_weightTogether_35 : decode cX4_weightTogether 35 = .ok (.goto (-31), 3) := by decide +kernel
theorem dX4_weightTogether_38 : decode cX4_weightTogether 38 = .ok (.iload_n 1, 1) := by decide +kernel
theorem dX4_weightTogether_39 : decode cX4_weightTogether 39 = .ok (.ireturn, 1) := by decide +kernel
set_option maxRecDepth 20000 in
theorem ggX4_totalByAnswers_X5_size : GoodIn wsX4_totalByAnswers wsX5_size := goodIn_r _ [7, 8, 33, 34, 35] (by decide +kernel) (by decide +kernel)
set_option maxRecDepth 20000 in
theorem gX4_totalByAnswers_X5_size : GoodIn wsX4_totalByAnswers (wsV RX4 93 RX5 yX5_size wsX5_size) := goodIn_app (goodIn_of _ (by decide +kernel)) ggX4_totalByAnswers_X5_size
set_option maxRecDepth 20000 in
theorem ggX4_totalByAnswers_X5_value : GoodIn wsX4_totalByAnswers wsX5_value := goodIn_r _ [12, 13, 33, 34, 35] (by decide +kernel) (by decide +kernel)
set_option maxRecDepth 20000 in
theorem gX4_totalByAnswers_X5_value : GoodIn wsX4_totalByAnswers (wsV RX4 79 RX5 yX5_value wsX5_value) := goodIn_app (goodIn_of _ (by decide +kernel)) ggX4_totalByAnswers_X5_value
set_option maxRecDepth 20000 in
theorem ggX4_totalByAnswers_X5_key : GoodIn wsX4_totalByAnswers wsX5_key := goodIn_r _ [17, 18, 33, 34, 35] (by decide +kernel) (by decide +kernel)
set_option maxRecDepth 20000 in
theorem gX4_totalByAnswers_X5_key : GoodIn wsX4_totalByAnswers (wsV RX4 71 RX5 yX5_key wsX5_key) := goodIn_app (goodIn_of _ (by decide +kernel)) ggX4_totalByAnswers_X5_key
set_option maxRecDepth 20000 in
theorem ggX4_totalByAnswers_X0_sum : GoodIn wsX4_totalByAnswers wsX0_sum := goodIn_r _ [23, 24, 36, 37, 38] (by decide +kernel) (by decide +kernel)
set_option maxRecDepth 20000 in
theorem gX4_totalByAnswers_X0_sum : GoodIn wsX4_totalByAnswers (wsV RX4 122 RX0 yX0_sum wsX0_sum) := goodIn_app (goodIn_of _ (by decide +kernel)) ggX4_totalByAnswers_X0_sum
theorem dX4_totalByAnswers_0 : decode cX4_totalByAnswers 0 = .ok (.iconst 0, 1) := by decide +kernel
theorem dX4_totalByAnswers_1 : decode cX4_totalByAnswers 1 = .ok (.istore_n 1, 1) := by decide +kernel
theorem dX4_totalByAnswers_2 : decode cX4_totalByAnswers 2 = .ok (.iconst 0, 1) := by decide +kernel
theorem dX4_totalByAnswers_3 : decode cX4_totalByAnswers 3 = .ok (.istore_n 2, 1) := by decide +kernel
theorem dX4_totalByAnswers_4 : decode cX4_totalByAnswers 4 = .ok (.iload_n 2, 1) := by decide +kernel
theorem dX4_totalByAnswers_5 : decode cX4_totalByAnswers 5 = .ok (.aload_n 0, 1) := by decide +kernel
theorem dX4_totalByAnswers_6 : decode cX4_totalByAnswers 6 = .ok (.getfield 12, 3) := by decide +kernel
theorem dX4_totalByAnswers_9 : decode cX4_totalByAnswers 9 = .ok (.invokevirtual 93, 3) := by decide +kernel
theorem dX4_totalByAnswers_12 : decode cX4_totalByAnswers 12 = .ok (.if_icmp .ge 36, 3) := by decide +kernel
theorem dX4_totalByAnswers_15 : decode cX4_totalByAnswers 15 = .ok (.iload_n 1, 1) := by decide +kernel
theorem dX4_totalByAnswers_16 : decode cX4_totalByAnswers 16 = .ok (.aload_n 0, 1) := by decide +kernel
theorem dX4_totalByAnswers_17 : decode cX4_totalByAnswers 17 = .ok (.getfield 12, 3) := by decide +kernel
theorem dX4_totalByAnswers_20 : decode cX4_totalByAnswers 20 = .ok (.iload_n 2, 1) := by decide +kernel
theorem dX4_totalByAnswers_21 : decode cX4_totalByAnswers 21 = .ok (.invokevirtual 79, 3) := by decide +kernel
theorem dX4_totalByAnswers_24 : decode cX4_totalByAnswers 24 = .ok (.aload_n 0, 1) := by decide +kernel
theorem dX4_totalByAnswers_25 : decode cX4_totalByAnswers 25 = .ok (.getfield 24, 3) := by decide +kernel
theorem dX4_totalByAnswers_28 : decode cX4_totalByAnswers 28 = .ok (.aload_n 0, 1) := by decide +kernel
theorem dX4_totalByAnswers_29 : decode cX4_totalByAnswers 29 = .ok (.getfield 12, 3) := by decide +kernel
theorem dX4_totalByAnswers_32 : decode cX4_totalByAnswers 32 = .ok (.iload_n 2, 1) := by decide +kernel
theorem dX4_totalByAnswers_33 : decode cX4_totalByAnswers 33 = .ok (.invokevirtual 71, 3) := by decide +kernel
theorem dX4_totalByAnswers_36 : decode cX4_totalByAnswers 36 = .ok (.invokevirtual 122, 3) := by decide +kernel
theorem dX4_totalByAnswers_39 : decode cX4_totalByAnswers 39 = .ok (.imul, 1) := by decide +kernel
theorem dX4_totalByAnswers_40 : decode cX4_totalByAnswers 40 = .ok (.iadd, 1) := by decide +kernel
theorem dX4_totalByAnswers_41 : decode cX4_totalByAnswers 41 = .ok (.istore_n 1, 1) := by decide +kernel
theorem dX4_totalByAnswers_42 : decode cX4_totalByAnswers 42 = .ok (.iinc 2 1, 3) := by decide +kernel
theorem dX4_totalByAnswers_45 : decode cX4_totalByAnswers 45 = .ok (.goto (-41), 3) := by decide +kernel
theorem dX4_totalByAnswers_48 : decode cX4_totalByAnswers 48 = .ok (.iload_n 1, 1) := by decide +kernel
theorem dX4_totalByAnswers_49 : decode cX4_totalByAnswers 49 = .ok (.ireturn, 1) := by decide +kernel
set_option maxRecDepth 20000 in
theorem ggX4_totalByRows_X5_size : GoodIn wsX4_totalByRows wsX5_size := goodIn_r _ [7, 8, 33, 34, 35] (by decide +kernel) (by decide +kernel)
set_option maxRecDepth 20000 in
theorem gX4_totalByRows_X5_size : GoodIn wsX4_totalByRows (wsV RX4 93 RX5 yX5_size wsX5_size) := goodIn_app (goodIn_of _ (by decide +kernel)) ggX4_totalByRows_X5_size
set_option maxRecDepth 20000 in
theorem ggX4_totalByRows_X5_key : GoodIn wsX4_totalByRows wsX5_key := goodIn_r _ [12, 13, 33, 34, 35] (by decide +kernel) (by decide +kernel)
set_option maxRecDepth 20000 in
theorem gX4_totalByRows_X5_key : GoodIn wsX4_totalByRows (wsV RX4 71 RX5 yX5_key wsX5_key) := goodIn_app (goodIn_of _ (by decide +kernel)) ggX4_totalByRows_X5_key
set_option maxRecDepth 20000 in
theorem ggX4_totalByRows_X5_value : GoodIn wsX4_totalByRows wsX5_value := goodIn_r _ [17, 18, 33, 34, 35] (by decide +kernel) (by decide +kernel)
set_option maxRecDepth 20000 in
theorem gX4_totalByRows_X5_value : GoodIn wsX4_totalByRows (wsV RX4 79 RX5 yX5_value wsX5_value) := goodIn_app (goodIn_of _ (by decide +kernel)) ggX4_totalByRows_X5_value
set_option maxRecDepth 20000 in
theorem ggX4_totalByRows_X4_isInBand : GoodIn wsX4_totalByRows wsX4_isInBand := goodIn_r _ [23, 24, 25, 26, 27, 28, 29, 30, 31, 32] (by decide +kernel) (by decide +kernel)
set_option maxRecDepth 20000 in
theorem gX4_totalByRows_X4_isInBand : GoodIn wsX4_totalByRows (wsV RX4 82 RX4 yX4_isInBand wsX4_isInBand) := goodIn_app (goodIn_of _ (by decide +kernel)) ggX4_totalByRows_X4_isInBand
theorem dX4_totalByRows_0 : decode cX4_totalByRows 0 = .ok (.iconst 0, 1) := by decide +kernel
theorem dX4_totalByRows_1 : decode cX4_totalByRows 1 = .ok (.istore_n 1, 1) := by decide +kernel
theorem dX4_totalByRows_2 : decode cX4_totalByRows 2 = .ok (.iconst 0, 1) := by decide +kernel
theorem dX4_totalByRows_3 : decode cX4_totalByRows 3 = .ok (.istore_n 2, 1) := by decide +kernel
theorem dX4_totalByRows_4 : decode cX4_totalByRows 4 = .ok (.iload_n 2, 1) := by decide +kernel
theorem dX4_totalByRows_5 : decode cX4_totalByRows 5 = .ok (.aload_n 0, 1) := by decide +kernel
theorem dX4_totalByRows_6 : decode cX4_totalByRows 6 = .ok (.getfield 12, 3) := by decide +kernel
theorem dX4_totalByRows_9 : decode cX4_totalByRows 9 = .ok (.invokevirtual 93, 3) := by decide +kernel
theorem dX4_totalByRows_12 : decode cX4_totalByRows 12 = .ok (.if_icmp .ge 82, 3) := by decide +kernel
theorem dX4_totalByRows_15 : decode cX4_totalByRows 15 = .ok (.iconst 0, 1) := by decide +kernel
theorem dX4_totalByRows_16 : decode cX4_totalByRows 16 = .ok (.istore_n 3, 1) := by decide +kernel
theorem dX4_totalByRows_17 : decode cX4_totalByRows 17 = .ok (.iload_n 3, 1) := by decide +kernel
theorem dX4_totalByRows_18 : decode cX4_totalByRows 18 = .ok (.aload_n 0, 1) := by decide +kernel
theorem dX4_totalByRows_19 : decode cX4_totalByRows 19 = .ok (.getfield 18, 3) := by decide +kernel
theorem dX4_totalByRows_22 : decode cX4_totalByRows 22 = .ok (.invokevirtual 93, 3) := by decide +kernel
theorem dX4_totalByRows_25 : decode cX4_totalByRows 25 = .ok (.if_icmp .ge 63, 3) := by decide +kernel
theorem dX4_totalByRows_28 : decode cX4_totalByRows 28 = .ok (.aload_n 0, 1) := by decide +kernel
theorem dX4_totalByRows_29 : decode cX4_totalByRows 29 = .ok (.getfield 18, 3) := by decide +kernel
theorem dX4_totalByRows_32 : decode cX4_totalByRows 32 = .ok (.iload_n 3, 1) := by decide +kernel
theorem dX4_totalByRows_33 : decode cX4_totalByRows 33 = .ok (.invokevirtual 71, 3) := by decide +kernel
theorem dX4_totalByRows_36 : decode cX4_totalByRows 36 = .ok (.aload_n 0, 1) := by decide +kernel
theorem dX4_totalByRows_37 : decode cX4_totalByRows 37 = .ok (.getfield 12, 3) := by decide +kernel
theorem dX4_totalByRows_40 : decode cX4_totalByRows 40 = .ok (.iload_n 2, 1) := by decide +kernel
theorem dX4_totalByRows_41 : decode cX4_totalByRows 41 = .ok (.invokevirtual 71, 3) := by decide +kernel
theorem dX4_totalByRows_44 : decode cX4_totalByRows 44 = .ok (.if_icmp .ne 38, 3) := by decide +kernel
theorem dX4_totalByRows_47 : decode cX4_totalByRows 47 = .ok (.aload_n 0, 1) := by decide +kernel
theorem dX4_totalByRows_48 : decode cX4_totalByRows 48 = .ok (.aload_n 0, 1) := by decide +kernel
theorem dX4_totalByRows_49 : decode cX4_totalByRows 49 = .ok (.getfield 18, 3) := by decide +kernel
theorem dX4_totalByRows_52 : decode cX4_totalByRows 52 = .ok (.iload_n 3, 1) := by decide +kernel
theorem dX4_totalByRows_53 : decode cX4_totalByRows 53 = .ok (.invokevirtual 79, 3) := by decide +kernel
theorem dX4_totalByRows_56 : decode cX4_totalByRows 56 = .ok (.invokevirtual 82, 3) := by decide +kernel
theorem dX4_totalByRows_59 : decode cX4_totalByRows 59 = .ok (.ifCond .eq 23, 3) := by decide +kernel
theorem dX4_totalByRows_62 : decode cX4_totalByRows 62 = .ok (.iload_n 1, 1) := by decide +kernel
theorem dX4_totalByRows_63 : decode cX4_totalByRows 63 = .ok (.aload_n 0, 1) := by decide +kernel
theorem dX4_totalByRows_64 : decode cX4_totalByRows 64 = .ok (.getfield 12, 3) := by decide +kernel
theorem dX4_totalByRows_67 : decode cX4_totalByRows 67 = .ok (.iload_n 2, 1) := by decide +kernel
theorem dX4_totalByRows_68 : decode cX4_totalByRows 68 = .ok (.invokevirtual 79, 3) := by decide +kernel
theorem dX4_totalByRows_71 : decode cX4_totalByRows 71 = .ok (.aload_n 0, 1) := by decide +kernel
theorem dX4_totalByRows_72 : decode cX4_totalByRows 72 = .ok (.getfield 18, 3) := by decide +kernel
theorem dX4_totalByRows_75 : decode cX4_totalByRows 75 = .ok (.iload_n 3, 1) := by decide +kernel
theorem dX4_totalByRows_76 : decode cX4_totalByRows 76 = .ok (.invokevirtual 79, 3) := by decide +kernel
theorem dX4_totalByRows_79 : decode cX4_totalByRows 79 = .ok (.imul, 1) := by decide +kernel
theorem dX4_totalByRows_80 : decode cX4_totalByRows 80 = .ok (.iadd, 1) := by decide +kernel
theorem dX4_totalByRows_81 : decode cX4_totalByRows 81 = .ok (.istore_n 1, 1) := by decide +kernel
theorem dX4_totalByRows_82 : decode cX4_totalByRows 82 = .ok (.iinc 3 1, 3) := by decide +kernel
theorem dX4_totalByRows_85 : decode cX4_totalByRows 85 = .ok (.goto (-68), 3) := by decide +kernel
theorem dX4_totalByRows_88 : decode cX4_totalByRows 88 = .ok (.iinc 2 1, 3) := by decide +kernel
theorem dX4_totalByRows_91 : decode cX4_totalByRows 91 = .ok (.goto (-87), 3) := by decide +kernel
theorem dX4_totalByRows_94 : decode cX4_totalByRows 94 = .ok (.iload_n 1, 1) := by decide +kernel
theorem dX4_totalByRows_95 : decode cX4_totalByRows 95 = .ok (.ireturn, 1) := by decide +kernel
set_option maxRecDepth 20000 in
theorem ggX4_lookUp_X2_holds : GoodIn wsX4_lookUp wsX2_holds := goodIn_r _ [10, 11, 64, 65, 66, 67] (by decide +kernel) (by decide +kernel)
set_option maxRecDepth 20000 in
theorem gX4_lookUp_X2_holds : GoodIn wsX4_lookUp (wsV RX4 75 RX2 yX2_holds wsX2_holds) := goodIn_app (goodIn_of _ (by decide +kernel)) ggX4_lookUp_X2_holds
set_option maxRecDepth 20000 in
theorem ggX4_lookUp_X2_touch : GoodIn wsX4_lookUp wsX2_touch := goodIn_r _ [15, 16, 11, 17, 64, 65, 66, 67] (by decide +kernel) (by decide +kernel)
set_option maxRecDepth 20000 in
theorem gX4_lookUp_X2_touch : GoodIn wsX4_lookUp (wsV RX4 143 RX2 yX2_touch wsX2_touch) := goodIn_app (goodIn_of _ (by decide +kernel)) ggX4_lookUp_X2_touch
set_option maxRecDepth 20000 in
theorem ggX4_lookUp_X5_size : GoodIn wsX4_lookUp wsX5_size := goodIn_r _ [22, 23, 68, 69, 70] (by decide +kernel) (by decide +kernel)
set_option maxRecDepth 20000 in
theorem gX4_lookUp_X5_size : GoodIn wsX4_lookUp (wsV RX4 93 RX5 yX5_size wsX5_size) := goodIn_app (goodIn_of _ (by decide +kernel)) ggX4_lookUp_X5_size
set_option maxRecDepth 20000 in
theorem ggX4_lookUp_X0_weight : GoodIn wsX4_lookUp wsX0_weight := goodIn_r _ [28, 29, 71, 72, 73] (by decide +kernel) (by decide +kernel)
set_option maxRecDepth 20000 in
theorem gX4_lookUp_X0_weight : GoodIn wsX4_lookUp (wsV RX4 140 RX0 yX0_weight wsX0_weight) := goodIn_app (goodIn_of _ (by decide +kernel)) ggX4_lookUp_X0_weight
set_option maxRecDepth 20000 in
theorem ggX4_lookUp_X2_take : GoodIn wsX4_lookUp wsX2_take := goodIn_r _ [33, 16, 11, 34, 17, 64, 65, 66, 67] (by decide +kernel) (by decide +kernel)
set_option maxRecDepth 20000 in
theorem gX4_lookUp_X2_take : GoodIn wsX4_lookUp (wsV RX4 146 RX2 yX2_take wsX2_take) := goodIn_app (goodIn_of _ (by decide +kernel)) ggX4_lookUp_X2_take
set_option maxRecDepth 20000 in
theorem ggX4_lookUp_X4_makeRoom : GoodIn wsX4_lookUp wsX4_makeRoom := goodIn_r _ [39, 5, 1, 4, 2, 40, 41, 42, 38, 43, 6, 7, 8, 9, 10, 11, 24, 25, 26, 27, 28, 29, 44, 45, 46, 47, 48, 49, 50, 51, 34, 17, 52, 53, 54, 55, 56, 57, 58, 59, 60, 61, 62, 63, 64, 65, 66, 67, 71, 72, 73] (by decide +kernel) (by decide +kernel)
set_option maxRecDepth 20000 in
theorem gX4_lookUp_X4_makeRoom : GoodIn wsX4_lookUp (wsV RX4 131 RX4 yX4_makeRoom wsX4_makeRoom) := goodIn_app (goodIn_of _ (by decide +kernel)) ggX4_lookUp_X4_makeRoom
theorem dX4_lookUp_0 : decode cX4_lookUp 0 = .ok (.aload_n 0, 1) := by decide +kernel
theorem dX4_lookUp_1 : decode cX4_lookUp 1 = .ok (.getfield 31, 3) := by decide +kernel
theorem dX4_lookUp_4 : decode cX4_lookUp 4 = .ok (.iload_n 1, 1) := by decide +kernel
theorem dX4_lookUp_5 : decode cX4_lookUp 5 = .ok (.invokevirtual 75, 3) := by decide +kernel
theorem dX4_lookUp_8 : decode cX4_lookUp 8 = .ok (.ifCond .eq 32, 3) := by decide +kernel
theorem dX4_lookUp_11 : decode cX4_lookUp 11 = .ok (.aload_n 0, 1) := by decide +kernel
theorem dX4_lookUp_12 : decode cX4_lookUp 12 = .ok (.getfield 47, 3) := by decide +kernel
theorem dX4_lookUp_15 : decode cX4_lookUp 15 = .ok (.iconst 0, 1) := by decide +kernel
theorem dX4_lookUp_16 : decode cX4_lookUp 16 = .ok (.dup2, 1) := by decide +kernel
theorem dX4_lookUp_17 : decode cX4_lookUp 17 = .ok (.iaload, 1) := by decide +kernel
theorem dX4_lookUp_18 : decode cX4_lookUp 18 = .ok (.iconst 1, 1) := by decide +kernel
theorem dX4_lookUp_19 : decode cX4_lookUp 19 = .ok (.iadd, 1) := by decide +kernel
theorem dX4_lookUp_20 : decode cX4_lookUp 20 = .ok (.iastore, 1) := by decide +kernel
theorem dX4_lookUp_21 : decode cX4_lookUp 21 = .ok (.aload_n 0, 1) := by decide +kernel
theorem dX4_lookUp_22 : decode cX4_lookUp 22 = .ok (.getfield 47, 3) := by decide +kernel
theorem dX4_lookUp_25 : decode cX4_lookUp 25 = .ok (.iconst 2, 1) := by decide +kernel
theorem dX4_lookUp_26 : decode cX4_lookUp 26 = .ok (.dup2, 1) := by decide +kernel
theorem dX4_lookUp_27 : decode cX4_lookUp 27 = .ok (.iaload, 1) := by decide +kernel
theorem dX4_lookUp_28 : decode cX4_lookUp 28 = .ok (.iconst 1, 1) := by decide +kernel
theorem dX4_lookUp_29 : decode cX4_lookUp 29 = .ok (.iadd, 1) := by decide +kernel
theorem dX4_lookUp_30 : decode cX4_lookUp 30 = .ok (.iastore, 1) := by decide +kernel
theorem dX4_lookUp_31 : decode cX4_lookUp 31 = .ok (.aload_n 0, 1) := by decide +kernel
theorem dX4_lookUp_32 : decode cX4_lookUp 32 = .ok (.getfield 31, 3) := by decide +kernel
theorem dX4_lookUp_35 : decode cX4_lookUp 35 = .ok (.iload_n 1, 1) := by decide +kernel
theorem dX4_lookUp_36 : decode cX4_lookUp 36 = .ok (.invokevirtual 143, 3) := by decide +kernel
theorem dX4_lookUp_39 : decode cX4_lookUp 39 = .ok (.return_, 1) := by decide +kernel
theorem dX4_lookUp_40 : decode cX4_lookUp 40 = .ok (.aload_n 0, 1) := by decide +kernel
theorem dX4_lookUp_41 : decode cX4_lookUp 41 = .ok (.getfield 47, 3) := by decide +kernel
theorem dX4_lookUp_44 : decode cX4_lookUp 44 = .ok (.iconst 1, 1) := by decide +kernel
theorem dX4_lookUp_45 : decode cX4_lookUp 45 = .ok (.dup2, 1) := by decide +kernel
theorem dX4_lookUp_46 : decode cX4_lookUp 46 = .ok (.iaload, 1) := by decide +kernel
theorem dX4_lookUp_47 : decode cX4_lookUp 47 = .ok (.iconst 1, 1) := by decide +kernel
theorem dX4_lookUp_48 : decode cX4_lookUp 48 = .ok (.iadd, 1) := by decide +kernel
theorem dX4_lookUp_49 : decode cX4_lookUp 49 = .ok (.iastore, 1) := by decide +kernel
theorem dX4_lookUp_50 : decode cX4_lookUp 50 = .ok (.aload_n 0, 1) := by decide +kernel
theorem dX4_lookUp_51 : decode cX4_lookUp 51 = .ok (.getfield 47, 3) := by decide +kernel
theorem dX4_lookUp_54 : decode cX4_lookUp 54 = .ok (.iconst 2, 1) := by decide +kernel
theorem dX4_lookUp_55 : decode cX4_lookUp 55 = .ok (.dup2, 1) := by decide +kernel
theorem dX4_lookUp_56 : decode cX4_lookUp 56 = .ok (.iaload, 1) := by decide +kernel
theorem dX4_lookUp_57 : decode cX4_lookUp 57 = .ok (.iconst 2, 1) := by decide +kernel
theorem dX4_lookUp_58 : decode cX4_lookUp 58 = .ok (.aload_n 0, 1) := by decide +kernel
theorem dX4_lookUp_59 : decode cX4_lookUp 59 = .ok (.getfield 18, 3) := by decide +kernel
theorem dX4_lookUp_62 : decode cX4_lookUp 62 = .ok (.invokevirtual 93, 3) := by decide +kernel
theorem dX4_lookUp_65 : decode cX4_lookUp 65 = .ok (.iadd, 1) := by decide +kernel
theorem dX4_lookUp_66 : decode cX4_lookUp 66 = .ok (.iadd, 1) := by decide +kernel
theorem dX4_lookUp_67 : decode cX4_lookUp 67 = .ok (.iastore, 1) := by decide +kernel
theorem dX4_lookUp_68 : decode cX4_lookUp 68 = .ok (.aload_n 0, 1) := by decide +kernel
theorem dX4_lookUp_69 : decode cX4_lookUp 69 = .ok (.getfield 24, 3) := by decide +kernel
theorem dX4_lookUp_72 : decode cX4_lookUp 72 = .ok (.iload_n 1, 1) := by decide +kernel
theorem dX4_lookUp_73 : decode cX4_lookUp 73 = .ok (.invokevirtual 140, 3) := by decide +kernel
theorem dX4_lookUp_76 : decode cX4_lookUp 76 = .ok (.aload_n 0, 1) := by decide +kernel
theorem dX4_lookUp_77 : decode cX4_lookUp 77 = .ok (.getfield 44, 3) := by decide +kernel
theorem dX4_lookUp_80 : decode cX4_lookUp 80 = .ok (.iconst 0, 1) := by decide +kernel
theorem dX4_lookUp_81 : decode cX4_lookUp 81 = .ok (.iaload, 1) := by decide +kernel
theorem dX4_lookUp_82 : decode cX4_lookUp 82 = .ok (.if_icmp .le 14, 3) := by decide +kernel
theorem dX4_lookUp_85 : decode cX4_lookUp 85 = .ok (.aload_n 0, 1) := by decide +kernel
theorem dX4_lookUp_86 : decode cX4_lookUp 86 = .ok (.getfield 47, 3) := by decide +kernel
theorem dX4_lookUp_89 : decode cX4_lookUp 89 = .ok (.iconst 5, 1) := by decide +kernel
theorem dX4_lookUp_90 : decode cX4_lookUp 90 = .ok (.dup2, 1) := by decide +kernel
theorem dX4_lookUp_91 : decode cX4_lookUp 91 = .ok (.iaload, 1) := by decide +kernel
theorem dX4_lookUp_92 : decode cX4_lookUp 92 = .ok (.iconst 1, 1) := by decide +kernel
theorem dX4_lookUp_93 : decode cX4_lookUp 93 = .ok (.iadd, 1) := by decide +kernel
theorem dX4_lookUp_94 : decode cX4_lookUp 94 = .ok (.iastore, 1) := by decide +kernel
theorem dX4_lookUp_95 : decode cX4_lookUp 95 = .ok (.return_, 1) := by decide +kernel
theorem dX4_lookUp_96 : decode cX4_lookUp 96 = .ok (.aload_n 0, 1) := by decide +kernel
theorem dX4_lookUp_97 : decode cX4_lookUp 97 = .ok (.getfield 31, 3) := by decide +kernel
theorem dX4_lookUp_100 : decode cX4_lookUp 100 = .ok (.iload_n 1, 1) := by decide +kernel
theorem dX4_lookUp_101 : decode cX4_lookUp 101 = .ok (.invokevirtual 146, 3) := by decide +kernel
theorem dX4_lookUp_104 : decode cX4_lookUp 104 = .ok (.aload_n 0, 1) := by decide +kernel
theorem dX4_lookUp_105 : decode cX4_lookUp 105 = .ok (.iload_n 1, 1) := by decide +kernel
theorem dX4_lookUp_106 : decode cX4_lookUp 106 = .ok (.invokevirtual 131, 3) := by decide +kernel
theorem dX4_lookUp_109 : decode cX4_lookUp 109 = .ok (.pop, 1) := by decide +kernel
theorem dX4_lookUp_110 : decode cX4_lookUp 110 = .ok (.return_, 1) := by decide +kernel
set_option maxRecDepth 20000 in
theorem ggX4_makeRoom_X4_weightTogether : GoodIn wsX4_makeRoom wsX4_weightTogether := goodIn_r _ [9, 2, 3, 10, 11, 12, 13, 14, 15, 16, 17, 18, 19, 20, 21, 36, 37, 38, 39, 40, 41, 42, 43, 44, 45, 46, 47, 48, 49, 50] (by decide +kernel) (by decide +kernel)
set_option maxRecDepth 20000 in
theorem gX4_makeRoom_X4_weightTogether : GoodIn wsX4_makeRoom (wsV RX4 149 RX4 yX4_weightTogether wsX4_weightTogether) := goodIn_app (goodIn_of _ (by decide +kernel)) ggX4_makeRoom_X4_weightTogether
set_option maxRecDepth 20000 in
theorem ggX4_makeRoom_X2_firstOut : GoodIn wsX4_makeRoom wsX2_firstOut := goodIn_r _ [25, 15, 26, 27, 28, 13, 29, 30, 31, 44, 45, 46, 47] (by decide +kernel) (by decide +kernel)
set_option maxRecDepth 20000 in
theorem gX4_makeRoom_X2_firstOut : GoodIn wsX4_makeRoom (wsV RX4 152 RX2 yX2_firstOut wsX2_firstOut) := goodIn_app (goodIn_of _ (by decide +kernel)) ggX4_makeRoom_X2_firstOut
set_option maxRecDepth 20000 in
theorem ggX4_makeRoom_X0_weight : GoodIn wsX4_makeRoom wsX0_weight := goodIn_r _ [20, 21, 48, 49, 50] (by decide +kernel) (by decide +kernel)
set_option maxRecDepth 20000 in
theorem gX4_makeRoom_X0_weight : GoodIn wsX4_makeRoom (wsV RX4 140 RX0 yX0_weight wsX0_weight) := goodIn_app (goodIn_of _ (by decide +kernel)) ggX4_makeRoom_X0_weight
set_option maxRecDepth 20000 in
theorem ggX4_makeRoom_X2_lose : GoodIn wsX4_makeRoom wsX2_lose := goodIn_r _ [35, 15, 44, 45, 46, 47] (by decide +kernel) (by decide +kernel)
set_option maxRecDepth 20000 in
theorem gX4_makeRoom_X2_lose : GoodIn wsX4_makeRoom (wsV RX4 156 RX2 yX2_lose wsX2_lose) := goodIn_app (goodIn_of _ (by decide +kernel)) ggX4_makeRoom_X2_lose
theorem dX4_makeRoom_0 : decode cX4_makeRoom 0 = .ok (.iconst 0, 1) := by decide +kernel
theorem dX4_makeRoom_1 : decode cX4_makeRoom 1 = .ok (.istore_n 2, 1) := by decide +kernel
theorem dX4_makeRoom_2 : decode cX4_makeRoom 2 = .ok (.aload_n 0, 1) := by decide +kernel
theorem dX4_makeRoom_3 : decode cX4_makeRoom 3 = .ok (.invokevirtual 149, 3) := by decide +kernel
theorem dX4_makeRoom_6 : decode cX4_makeRoom 6 = .ok (.istore_n 3, 1) := by decide +kernel
theorem dX4_makeRoom_7 : decode cX4_makeRoom 7 = .ok (.iload_n 2, 1) := by decide +kernel
theorem dX4_makeRoom_8 : decode cX4_makeRoom 8 = .ok (.bipush 10, 2) := by decide +kernel
theorem dX4_makeRoom_10 : decode cX4_makeRoom 10 = .ok (.if_icmp .ge 56, 3) := by decide +kernel
theorem dX4_makeRoom_13 : decode cX4_makeRoom 13 = .ok (.iload_n 3, 1) := by decide +kernel
theorem dX4_makeRoom_14 : decode cX4_makeRoom 14 = .ok (.aload_n 0, 1) := by decide +kernel
theorem dX4_makeRoom_15 : decode cX4_makeRoom 15 = .ok (.getfield 44, 3) := by decide +kernel
theorem dX4_makeRoom_18 : decode cX4_makeRoom 18 = .ok (.iconst 0, 1) := by decide +kernel
theorem dX4_makeRoom_19 : decode cX4_makeRoom 19 = .ok (.iaload, 1) := by decide +kernel
theorem dX4_makeRoom_20 : decode cX4_makeRoom 20 = .ok (.if_icmp .le 46, 3) := by decide +kernel
theorem dX4_makeRoom_23 : decode cX4_makeRoom 23 = .ok (.aload_n 0, 1) := by decide +kernel
theorem dX4_makeRoom_24 : decode cX4_makeRoom 24 = .ok (.getfield 31, 3) := by decide +kernel
theorem dX4_makeRoom_27 : decode cX4_makeRoom 27 = .ok (.aload_n 0, 1) := by decide +kernel
theorem dX4_makeRoom_28 : decode cX4_makeRoom 28 = .ok (.getfield 44, 3) := by decide +kernel
theorem dX4_makeRoom_31 : decode cX4_makeRoom 31 = .ok (.iconst 1, 1) := by decide +kernel
theorem dX4_makeRoom_32 : decode cX4_makeRoom 32 = .ok (.iaload, 1) := by decide +kernel
theorem dX4_makeRoom_33 : decode cX4_makeRoom 33 = .ok (.iload_n 1, 1) := by decide +kernel
theorem dX4_makeRoom_34 : decode cX4_makeRoom 34 = .ok (.invokevirtual 152, 3) := by decide +kernel
theorem dX4_makeRoom_37 : decode cX4_makeRoom 37 = .ok (.istore 4, 2) := by decide +kernel
theorem dX4_makeRoom_39 : decode cX4_makeRoom 39 = .ok (.iload_n 3, 1) := by decide +kernel
theorem dX4_makeRoom_40 : decode cX4_makeRoom 40 = .ok (.aload_n 0, 1) := by decide +kernel
theorem dX4_makeRoom_41 : decode cX4_makeRoom 41 = .ok (.getfield 24, 3) := by decide +kernel
theorem dX4_makeRoom_44 : decode cX4_makeRoom 44 = .ok (.iload 4, 2) := by decide +kernel
theorem dX4_makeRoom_46 : decode cX4_makeRoom 46 = .ok (.invokevirtual 140, 3) := by decide +kernel
theorem dX4_makeRoom_49 : decode cX4_makeRoom 49 = .ok (.isub, 1) := by decide +kernel
theorem dX4_makeRoom_50 : decode cX4_makeRoom 50 = .ok (.istore_n 3, 1) := by decide +kernel
theorem dX4_makeRoom_51 : decode cX4_makeRoom 51 = .ok (.aload_n 0, 1) := by decide +kernel
theorem dX4_makeRoom_52 : decode cX4_makeRoom 52 = .ok (.getfield 31, 3) := by decide +kernel
theorem dX4_makeRoom_55 : decode cX4_makeRoom 55 = .ok (.iload 4, 2) := by decide +kernel
theorem dX4_makeRoom_57 : decode cX4_makeRoom 57 = .ok (.invokevirtual 156, 3) := by decide +kernel
theorem dX4_makeRoom_60 : decode cX4_makeRoom 60 = .ok (.iinc 2 1, 3) := by decide +kernel
theorem dX4_makeRoom_63 : decode cX4_makeRoom 63 = .ok (.goto (-56), 3) := by decide +kernel
theorem dX4_makeRoom_66 : decode cX4_makeRoom 66 = .ok (.aload_n 0, 1) := by decide +kernel
theorem dX4_makeRoom_67 : decode cX4_makeRoom 67 = .ok (.getfield 47, 3) := by decide +kernel
theorem dX4_makeRoom_70 : decode cX4_makeRoom 70 = .ok (.iconst 3, 1) := by decide +kernel
theorem dX4_makeRoom_71 : decode cX4_makeRoom 71 = .ok (.dup2, 1) := by decide +kernel
theorem dX4_makeRoom_72 : decode cX4_makeRoom 72 = .ok (.iaload, 1) := by decide +kernel
theorem dX4_makeRoom_73 : decode cX4_makeRoom 73 = .ok (.iload_n 2, 1) := by decide +kernel
theorem dX4_makeRoom_74 : decode cX4_makeRoom 74 = .ok (.iadd, 1) := by decide +kernel
theorem dX4_makeRoom_75 : decode cX4_makeRoom 75 = .ok (.iastore, 1) := by decide +kernel
theorem dX4_makeRoom_76 : decode cX4_makeRoom 76 = .ok (.iload_n 2, 1) := by decide +kernel
theorem dX4_makeRoom_77 : decode cX4_makeRoom 77 = .ok (.ireturn, 1) := by decide +kernel
set_option maxRecDepth 20000 in
theorem ggX4_keepTrue_X4_findAnswers : GoodIn wsX4_keepTrue wsX4_findAnswers := goodIn_r _ [6, 7, 8, 1, 9, 10, 11, 12, 13, 14, 15, 16, 17, 18, 19, 20, 21, 22, 23, 24, 25, 26, 27, 28, 29, 30, 31, 32, 61, 62, 63, 64, 65, 66, 67, 68, 69, 70, 71, 72, 73, 74] (by decide +kernel) (by decide +kernel)
set_option maxRecDepth 20000 in
theorem gX4_keepTrue_X4_findAnswers : GoodIn wsX4_keepTrue (wsV RX4 134 RX4 yX4_findAnswers wsX4_findAnswers) := goodIn_app (goodIn_of _ (by decide +kernel)) ggX4_keepTrue_X4_findAnswers
set_option maxRecDepth 20000 in
theorem ggX4_keepTrue_X4_throwAllOut : GoodIn wsX4_keepTrue wsX4_throwAllOut := goodIn_r _ [36, 37, 38, 39, 40, 41, 42, 43, 44, 45, 46, 47, 48, 61, 62, 63, 64, 65, 66, 67, 68, 75, 76, 77, 78] (by decide +kernel) (by decide +kernel)
set_option maxRecDepth 20000 in
theorem gX4_keepTrue_X4_throwAllOut : GoodIn wsX4_keepTrue (wsV RX4 137 RX4 yX4_throwAllOut wsX4_throwAllOut) := goodIn_app (goodIn_of _ (by decide +kernel)) ggX4_keepTrue_X4_throwAllOut
set_option maxRecDepth 20000 in
theorem ggX4_keepTrue_X4_keepAnswerTrue : GoodIn wsX4_keepTrue wsX4_keepAnswerTrue := goodIn_r _ [52, 37, 1, 38, 53, 54, 55, 42, 56, 44, 57, 58, 59, 60, 61, 62, 63, 64, 65, 66, 67, 68, 75, 76, 77, 78] (by decide +kernel) (by decide +kernel)
set_option maxRecDepth 20000 in
theorem gX4_keepTrue_X4_keepAnswerTrue : GoodIn wsX4_keepTrue (wsV RX4 159 RX4 yX4_keepAnswerTrue wsX4_keepAnswerTrue) := goodIn_app (goodIn_of _ (by decide +kernel)) ggX4_keepTrue_X4_keepAnswerTrue
theorem dX4_keepTrue_0 : decode cX4_keepTrue 0 = .ok (.aload_n 0, 1) := by decide +kernel
theorem dX4_keepTrue_1 : decode cX4_keepTrue 1 = .ok (.invokevirtual 134, 3) := by decide +kernel
theorem dX4_keepTrue_4 : decode cX4_keepTrue 4 = .ok (.aload_n 0, 1) := by decide +kernel
theorem dX4_keepTrue_5 : decode cX4_keepTrue 5 = .ok (.getfield 44, 3) := by decide +kernel
theorem dX4_keepTrue_8 : decode cX4_keepTrue 8 = .ok (.iconst 2, 1) := by decide +kernel
theorem dX4_keepTrue_9 : decode cX4_keepTrue 9 = .ok (.iaload, 1) := by decide +kernel
theorem dX4_keepTrue_10 : decode cX4_keepTrue 10 = .ok (.iconst 1, 1) := by decide +kernel
theorem dX4_keepTrue_11 : decode cX4_keepTrue 11 = .ok (.if_icmp .ne 9, 3) := by decide +kernel
theorem dX4_keepTrue_14 : decode cX4_keepTrue 14 = .ok (.aload_n 0, 1) := by decide +kernel
theorem dX4_keepTrue_15 : decode cX4_keepTrue 15 = .ok (.invokevirtual 137, 3) := by decide +kernel
theorem dX4_keepTrue_18 : decode cX4_keepTrue 18 = .ok (.pop, 1) := by decide +kernel
theorem dX4_keepTrue_19 : decode cX4_keepTrue 19 = .ok (.return_, 1) := by decide +kernel
theorem dX4_keepTrue_20 : decode cX4_keepTrue 20 = .ok (.aload_n 0, 1) := by decide +kernel
theorem dX4_keepTrue_21 : decode cX4_keepTrue 21 = .ok (.iload_n 1, 1) := by decide +kernel
theorem dX4_keepTrue_22 : decode cX4_keepTrue 22 = .ok (.invokevirtual 159, 3) := by decide +kernel
theorem dX4_keepTrue_25 : decode cX4_keepTrue 25 = .ok (.iload_n 2, 1) := by decide +kernel
theorem dX4_keepTrue_26 : decode cX4_keepTrue 26 = .ok (.iload_n 1, 1) := by decide +kernel
theorem dX4_keepTrue_27 : decode cX4_keepTrue 27 = .ok (.if_icmp .eq 8, 3) := by decide +kernel
theorem dX4_keepTrue_30 : decode cX4_keepTrue 30 = .ok (.aload_n 0, 1) := by decide +kernel
theorem dX4_keepTrue_31 : decode cX4_keepTrue 31 = .ok (.iload_n 2, 1) := by decide +kernel
theorem dX4_keepTrue_32 : decode cX4_keepTrue 32 = .ok (.invokevirtual 159, 3) := by decide +kernel
theorem dX4_keepTrue_35 : decode cX4_keepTrue 35 = .ok (.return_, 1) := by decide +kernel
set_option maxRecDepth 20000 in
theorem ggX4_keepAnswerTrue_X2_holds : GoodIn wsX4_keepAnswerTrue wsX2_holds := goodIn_r _ [8, 9, 22, 23, 24, 25] (by decide +kernel) (by decide +kernel)
set_option maxRecDepth 20000 in
theorem gX4_keepAnswerTrue_X2_holds : GoodIn wsX4_keepAnswerTrue (wsV RX4 75 RX2 yX2_holds wsX2_holds) := goodIn_app (goodIn_of _ (by decide +kernel)) ggX4_keepAnswerTrue_X2_holds
set_option maxRecDepth 20000 in
theorem ggX4_keepAnswerTrue_X2_lose : GoodIn wsX4_keepAnswerTrue wsX2_lose := goodIn_r _ [13, 9, 22, 23, 24, 25] (by decide +kernel) (by decide +kernel)
set_option maxRecDepth 20000 in
theorem gX4_keepAnswerTrue_X2_lose : GoodIn wsX4_keepAnswerTrue (wsV RX4 156 RX2 yX2_lose wsX2_lose) := goodIn_app (goodIn_of _ (by decide +kernel)) ggX4_keepAnswerTrue_X2_lose
theorem dX4_keepAnswerTrue_0 : decode cX4_keepAnswerTrue 0 = .ok (.aload_n 0, 1) := by decide +kernel
theorem dX4_keepAnswerTrue_1 : decode cX4_keepAnswerTrue 1 = .ok (.getfield 31, 3) := by decide +kernel
theorem dX4_keepAnswerTrue_4 : decode cX4_keepAnswerTrue 4 = .ok (.iload_n 1, 1) := by decide +kernel
theorem dX4_keepAnswerTrue_5 : decode cX4_keepAnswerTrue 5 = .ok (.invokevirtual 75, 3) := by decide +kernel
theorem dX4_keepAnswerTrue_8 : decode cX4_keepAnswerTrue 8 = .ok (.ifCond .ne 4, 3) := by decide +kernel
theorem dX4_keepAnswerTrue_11 : decode cX4_keepAnswerTrue 11 = .ok (.return_, 1) := by decide +kernel
theorem dX4_keepAnswerTrue_12 : decode cX4_keepAnswerTrue 12 = .ok (.aload_n 0, 1) := by decide +kernel
theorem dX4_keepAnswerTrue_13 : decode cX4_keepAnswerTrue 13 = .ok (.getfield 44, 3) := by decide +kernel
theorem dX4_keepAnswerTrue_16 : decode cX4_keepAnswerTrue 16 = .ok (.iconst 2, 1) := by decide +kernel
theorem dX4_keepAnswerTrue_17 : decode cX4_keepAnswerTrue 17 = .ok (.iaload, 1) := by decide +kernel
theorem dX4_keepAnswerTrue_18 : decode cX4_keepAnswerTrue 18 = .ok (.iconst 2, 1) := by decide +kernel
theorem dX4_keepAnswerTrue_19 : decode cX4_keepAnswerTrue 19 = .ok (.if_icmp .ne 17, 3) := by decide +kernel
theorem dX4_keepAnswerTrue_22 : decode cX4_keepAnswerTrue 22 = .ok (.aload_n 0, 1) := by decide +kernel
theorem dX4_keepAnswerTrue_23 : decode cX4_keepAnswerTrue 23 = .ok (.getfield 47, 3) := by decide +kernel
theorem dX4_keepAnswerTrue_26 : decode cX4_keepAnswerTrue 26 = .ok (.bipush 6, 2) := by decide +kernel
theorem dX4_keepAnswerTrue_28 : decode cX4_keepAnswerTrue 28 = .ok (.dup2, 1) := by decide +kernel
theorem dX4_keepAnswerTrue_29 : decode cX4_keepAnswerTrue 29 = .ok (.iaload, 1) := by decide +kernel
theorem dX4_keepAnswerTrue_30 : decode cX4_keepAnswerTrue 30 = .ok (.iconst 1, 1) := by decide +kernel
theorem dX4_keepAnswerTrue_31 : decode cX4_keepAnswerTrue 31 = .ok (.iadd, 1) := by decide +kernel
theorem dX4_keepAnswerTrue_32 : decode cX4_keepAnswerTrue 32 = .ok (.iastore, 1) := by decide +kernel
theorem dX4_keepAnswerTrue_33 : decode cX4_keepAnswerTrue 33 = .ok (.goto 21, 3) := by decide +kernel
theorem dX4_keepAnswerTrue_36 : decode cX4_keepAnswerTrue 36 = .ok (.aload_n 0, 1) := by decide +kernel
theorem dX4_keepAnswerTrue_37 : decode cX4_keepAnswerTrue 37 = .ok (.getfield 31, 3) := by decide +kernel
theorem dX4_keepAnswerTrue_40 : decode cX4_keepAnswerTrue 40 = .ok (.iload_n 1, 1) := by decide +kernel
theorem dX4_keepAnswerTrue_41 : decode cX4_keepAnswerTrue 41 = .ok (.invokevirtual 156, 3) := by decide +kernel
theorem dX4_keepAnswerTrue_44 : decode cX4_keepAnswerTrue 44 = .ok (.aload_n 0, 1) := by decide +kernel
theorem dX4_keepAnswerTrue_45 : decode cX4_keepAnswerTrue 45 = .ok (.getfield 47, 3) := by decide +kernel
theorem dX4_keepAnswerTrue_48 : decode cX4_keepAnswerTrue 48 = .ok (.iconst 4, 1) := by decide +kernel
theorem dX4_keepAnswerTrue_49 : decode cX4_keepAnswerTrue 49 = .ok (.dup2, 1) := by decide +kernel
theorem dX4_keepAnswerTrue_50 : decode cX4_keepAnswerTrue 50 = .ok (.iaload, 1) := by decide +kernel
theorem dX4_keepAnswerTrue_51 : decode cX4_keepAnswerTrue 51 = .ok (.iconst 1, 1) := by decide +kernel
theorem dX4_keepAnswerTrue_52 : decode cX4_keepAnswerTrue 52 = .ok (.iadd, 1) := by decide +kernel
theorem dX4_keepAnswerTrue_53 : decode cX4_keepAnswerTrue 53 = .ok (.iastore, 1) := by decide +kernel
theorem dX4_keepAnswerTrue_54 : decode cX4_keepAnswerTrue 54 = .ok (.return_, 1) := by decide +kernel
set_option maxRecDepth 20000 in
theorem ggX4_findAnswers_X0_find : GoodIn wsX4_findAnswers wsX0_find := goodIn_r _ [8, 9, 10, 11, 12, 13, 14, 15, 16, 17, 18, 19, 20, 21, 22, 23, 24, 25, 26, 27, 36, 37, 38, 39, 40, 41] (by decide +kernel) (by decide +kernel)
set_option maxRecDepth 20000 in
theorem gX4_findAnswers_X0_find : GoodIn wsX4_findAnswers (wsV RX4 162 RX0 yX0_find wsX0_find) := goodIn_app (goodIn_of _ (by decide +kernel)) ggX4_findAnswers_X0_find
theorem dX4_findAnswers_0 : decode cX4_findAnswers 0 = .ok (.aload_n 0, 1) := by decide +kernel
theorem dX4_findAnswers_1 : decode cX4_findAnswers 1 = .ok (.getfield 24, 3) := by decide +kernel
theorem dX4_findAnswers_4 : decode cX4_findAnswers 4 = .ok (.aload_n 0, 1) := by decide +kernel
theorem dX4_findAnswers_5 : decode cX4_findAnswers 5 = .ok (.getfield 18, 3) := by decide +kernel
theorem dX4_findAnswers_8 : decode cX4_findAnswers 8 = .ok (.aload_n 0, 1) := by decide +kernel
theorem dX4_findAnswers_9 : decode cX4_findAnswers 9 = .ok (.getfield 44, 3) := by decide +kernel
theorem dX4_findAnswers_12 : decode cX4_findAnswers 12 = .ok (.iconst 3, 1) := by decide +kernel
theorem dX4_findAnswers_13 : decode cX4_findAnswers 13 = .ok (.iaload, 1) := by decide +kernel
theorem dX4_findAnswers_14 : decode cX4_findAnswers 14 = .ok (.aload_n 0, 1) := by decide +kernel
theorem dX4_findAnswers_15 : decode cX4_findAnswers 15 = .ok (.getfield 44, 3) := by decide +kernel
theorem dX4_findAnswers_18 : decode cX4_findAnswers 18 = .ok (.iconst 4, 1) := by decide +kernel
theorem dX4_findAnswers_19 : decode cX4_findAnswers 19 = .ok (.iaload, 1) := by decide +kernel
theorem dX4_findAnswers_20 : decode cX4_findAnswers 20 = .ok (.invokevirtual 162, 3) := by decide +kernel
theorem dX4_findAnswers_23 : decode cX4_findAnswers 23 = .ok (.return_, 1) := by decide +kernel
theorem dX4_isInBand_0 : decode cX4_isInBand 0 = .ok (.iload_n 1, 1) := by decide +kernel
theorem dX4_isInBand_1 : decode cX4_isInBand 1 = .ok (.aload_n 0, 1) := by decide +kernel
theorem dX4_isInBand_2 : decode cX4_isInBand 2 = .ok (.getfield 44, 3) := by decide +kernel
theorem dX4_isInBand_5 : decode cX4_isInBand 5 = .ok (.iconst 3, 1) := by decide +kernel
theorem dX4_isInBand_6 : decode cX4_isInBand 6 = .ok (.iaload, 1) := by decide +kernel
theorem dX4_isInBand_7 : decode cX4_isInBand 7 = .ok (.if_icmp .lt 17, 3) := by decide +kernel
theorem dX4_isInBand_10 : decode cX4_isInBand 10 = .ok (.iload_n 1, 1) := by decide +kernel
theorem dX4_isInBand_11 : decode cX4_isInBand 11 = .ok (.aload_n 0, 1) := by decide +kernel
theorem dX4_isInBand_12 : decode cX4_isInBand 12 = .ok (.getfield 44, 3) := by decide +kernel
theorem dX4_isInBand_15 : decode cX4_isInBand 15 = .ok (.iconst 4, 1) := by decide +kernel
theorem dX4_isInBand_16 : decode cX4_isInBand 16 = .ok (.iaload, 1) := by decide +kernel
theorem dX4_isInBand_17 : decode cX4_isInBand 17 = .ok (.if_icmp .gt 7, 3) := by decide +kernel
theorem dX4_isInBand_20 : decode cX4_isInBand 20 = .ok (.iconst 1, 1) := by decide +kernel
theorem dX4_isInBand_21 : decode cX4_isInBand 21 = .ok (.goto 4, 3) := by decide +kernel
theorem dX4_isInBand_24 : decode cX4_isInBand 24 = .ok (.iconst 0, 1) := by decide +kernel
theorem dX4_isInBand_25 : decode cX4_isInBand 25 = .ok (.ireturn, 1) := by decide +kernel
theorem dX5_init_0 : decode cX5_init 0 = .ok (.aload_n 0, 1) := by decide +kernel
theorem dX5_init_1 : decode cX5_init 1 = .ok (.invokespecial 3, 3) := by decide +kernel
theorem dX5_init_4 : decode cX5_init 4 = .ok (.aload_n 0, 1) := by decide +kernel
theorem dX5_init_5 : decode cX5_init 5 = .ok (.bipush 20, 2) := by decide +kernel
theorem dX5_init_7 : decode cX5_init 7 = .ok (.newarray .int, 2) := by decide +kernel
theorem dX5_init_9 : decode cX5_init 9 = .ok (.putfield 9, 3) := by decide +kernel
theorem dX5_init_12 : decode cX5_init 12 = .ok (.aload_n 0, 1) := by decide +kernel
theorem dX5_init_13 : decode cX5_init 13 = .ok (.bipush 20, 2) := by decide +kernel
theorem dX5_init_15 : decode cX5_init 15 = .ok (.newarray .int, 2) := by decide +kernel
theorem dX5_init_17 : decode cX5_init 17 = .ok (.putfield 15, 3) := by decide +kernel
theorem dX5_init_20 : decode cX5_init 20 = .ok (.return_, 1) := by decide +kernel
set_option maxRecDepth 20000 in
theorem ggX5_copyFrom_X6_copyNumbers : GoodIn wsX5_copyFrom wsX6_copyNumbers := goodIn_r _ [6, 7, 8, 9, 10, 11, 12, 13, 14] (by decide +kernel) (by decide +kernel)
set_option maxRecDepth 20000 in
theorem gX5_copyFrom_X6_copyNumbers_n18 : GoodIn wsX5_copyFrom (wsX6_copyNumbers) := ggX5_copyFrom_X6_copyNumbers
theorem dX5_copyFrom_0 : decode cX5_copyFrom 0 = .ok (.aload_n 1, 1) := by decide +kernel
theorem dX5_copyFrom_1 : decode cX5_copyFrom 1 = .ok (.getfield 9, 3) := by decide +kernel
theorem dX5_copyFrom_4 : decode cX5_copyFrom 4 = .ok (.aload_n 0, 1) := by decide +kernel
theorem dX5_copyFrom_5 : decode cX5_copyFrom 5 = .ok (.getfield 9, 3) := by decide +kernel
theorem dX5_copyFrom_8 : decode cX5_copyFrom 8 = .ok (.invokestatic 18, 3) := by decide +kernel
theorem dX5_copyFrom_11 : decode cX5_copyFrom 11 = .ok (.aload_n 1, 1) := by decide +kernel
theorem dX5_copyFrom_12 : decode cX5_copyFrom 12 = .ok (.getfield 15, 3) := by decide +kernel
theorem dX5_copyFrom_15 : decode cX5_copyFrom 15 = .ok (.aload_n 0, 1) := by decide +kernel
theorem dX5_copyFrom_16 : decode cX5_copyFrom 16 = .ok (.getfield 15, 3) := by decide +kernel
theorem dX5_copyFrom_19 : decode cX5_copyFrom 19 = .ok (.invokestatic 18, 3) := by decide +kernel
theorem dX5_copyFrom_22 : decode cX5_copyFrom 22 = .ok (.aload_n 0, 1) := by decide +kernel
theorem dX5_copyFrom_23 : decode cX5_copyFrom 23 = .ok (.aload_n 1, 1) := by decide +kernel
theorem dX5_copyFrom_24 : decode cX5_copyFrom 24 = .ok (.getfield 22, 3) := by decide +kernel
theorem dX5_copyFrom_27 : decode cX5_copyFrom 27 = .ok (.putfield 22, 3) := by decide +kernel
theorem dX5_copyFrom_30 : decode cX5_copyFrom 30 = .ok (.return_, 1) := by decide +kernel
theorem dX5_size_0 : decode cX5_size 0 = .ok (.aload_n 0, 1) := by decide +kernel
theorem dX5_size_1 : decode cX5_size 1 = .ok (.getfield 22, 3) := by decide +kernel
theorem dX5_size_4 : decode cX5_size 4 = .ok (.ireturn, 1) := by decide +kernel
theorem dX5_has_0 : decode cX5_has 0 = .ok (.iload_n 1, 1) := by decide +kernel
theorem dX5_has_1 : decode cX5_has 1 = .ok (.ifCond .lt 15, 3) := by decide +kernel
theorem dX5_has_4 : decode cX5_has 4 = .ok (.iload_n 1, 1) := by decide +kernel
theorem dX5_has_5 : decode cX5_has 5 = .ok (.aload_n 0, 1) := by decide +kernel
theorem dX5_has_6 : decode cX5_has 6 = .ok (.getfield 22, 3) := by decide +kernel
theorem dX5_has_9 : decode cX5_has 9 = .ok (.if_icmp .ge 7, 3) := by decide +kernel
theorem dX5_has_12 : decode cX5_has 12 = .ok (.iconst 1, 1) := by decide +kernel
theorem dX5_has_13 : decode cX5_has 13 = .ok (.goto 4, 3) := by decide +kernel
theorem dX5_has_16 : decode cX5_has 16 = .ok (.iconst 0, 1) := by decide +kernel
theorem dX5_has_17 : decode cX5_has 17 = .ok (.ireturn, 1) := by decide +kernel
theorem dX5_key_0 : decode cX5_key 0 = .ok (.iload_n 1, 1) := by decide +kernel
theorem dX5_key_1 : decode cX5_key 1 = .ok (.ifCond .lt 21, 3) := by decide +kernel
theorem dX5_key_4 : decode cX5_key 4 = .ok (.iload_n 1, 1) := by decide +kernel
theorem dX5_key_5 : decode cX5_key 5 = .ok (.aload_n 0, 1) := by decide +kernel
theorem dX5_key_6 : decode cX5_key 6 = .ok (.getfield 9, 3) := by decide +kernel
theorem dX5_key_9 : decode cX5_key 9 = .ok (.arraylength, 1) := by decide +kernel
theorem dX5_key_10 : decode cX5_key 10 = .ok (.if_icmp .ge 12, 3) := by decide +kernel
theorem dX5_key_13 : decode cX5_key 13 = .ok (.aload_n 0, 1) := by decide +kernel
theorem dX5_key_14 : decode cX5_key 14 = .ok (.getfield 9, 3) := by decide +kernel
theorem dX5_key_17 : decode cX5_key 17 = .ok (.iload_n 1, 1) := by decide +kernel
theorem dX5_key_18 : decode cX5_key 18 = .ok (.iaload, 1) := by decide +kernel
theorem dX5_key_19 : decode cX5_key 19 = .ok (.goto 4, 3) := by decide +kernel
theorem dX5_key_22 : decode cX5_key 22 = .ok (.iconst 0, 1) := by decide +kernel
theorem dX5_key_23 : decode cX5_key 23 = .ok (.ireturn, 1) := by decide +kernel
theorem dX5_value_0 : decode cX5_value 0 = .ok (.iload_n 1, 1) := by decide +kernel
theorem dX5_value_1 : decode cX5_value 1 = .ok (.ifCond .lt 21, 3) := by decide +kernel
theorem dX5_value_4 : decode cX5_value 4 = .ok (.iload_n 1, 1) := by decide +kernel
theorem dX5_value_5 : decode cX5_value 5 = .ok (.aload_n 0, 1) := by decide +kernel
theorem dX5_value_6 : decode cX5_value 6 = .ok (.getfield 15, 3) := by decide +kernel
theorem dX5_value_9 : decode cX5_value 9 = .ok (.arraylength, 1) := by decide +kernel
theorem dX5_value_10 : decode cX5_value 10 = .ok (.if_icmp .ge 12, 3) := by decide +kernel
theorem dX5_value_13 : decode cX5_value 13 = .ok (.aload_n 0, 1) := by decide +kernel
theorem dX5_value_14 : decode cX5_value 14 = .ok (.getfield 15, 3) := by decide +kernel
theorem dX5_value_17 : decode cX5_value 17 = .ok (.iload_n 1, 1) := by decide +kernel
theorem dX5_value_18 : decode cX5_value 18 = .ok (.iaload, 1) := by decide +kernel
theorem dX5_value_19 : decode cX5_value 19 = .ok (.goto 4, 3) := by decide +kernel
theorem dX5_value_22 : decode cX5_value 22 = .ok (.iconst 0, 1) := by decide +kernel
theorem dX5_value_23 : decode cX5_value 23 = .ok (.ireturn, 1) := by decide +kernel
theorem dX5_put_0 : decode cX5_put 0 = .ok (.iload_n 1, 1) := by decide +kernel
theorem dX5_put_1 : decode cX5_put 1 = .ok (.ifCond .lt 35, 3) := by decide +kernel
theorem dX5_put_4 : decode cX5_put 4 = .ok (.iload_n 1, 1) := by decide +kernel
theorem dX5_put_5 : decode cX5_put 5 = .ok (.aload_n 0, 1) := by decide +kernel
theorem dX5_put_6 : decode cX5_put 6 = .ok (.getfield 9, 3) := by decide +kernel
theorem dX5_put_9 : decode cX5_put 9 = .ok (.arraylength, 1) := by decide +kernel
theorem dX5_put_10 : decode cX5_put 10 = .ok (.if_icmp .ge 26, 3) := by decide +kernel
theorem dX5_put_13 : decode cX5_put 13 = .ok (.iload_n 1, 1) := by decide +kernel
theorem dX5_put_14 : decode cX5_put 14 = .ok (.aload_n 0, 1) := by decide +kernel
theorem dX5_put_15 : decode cX5_put 15 = .ok (.getfield 15, 3) := by decide +kernel
theorem dX5_put_18 : decode cX5_put 18 = .ok (.arraylength, 1) := by decide +kernel
theorem dX5_put_19 : decode cX5_put 19 = .ok (.if_icmp .ge 17, 3) := by decide +kernel
theorem dX5_put_22 : decode cX5_put 22 = .ok (.aload_n 0, 1) := by decide +kernel
theorem dX5_put_23 : decode cX5_put 23 = .ok (.getfield 9, 3) := by decide +kernel
theorem dX5_put_26 : decode cX5_put 26 = .ok (.iload_n 1, 1) := by decide +kernel
theorem dX5_put_27 : decode cX5_put 27 = .ok (.iload_n 2, 1) := by decide +kernel
theorem dX5_put_28 : decode cX5_put 28 = .ok (.iastore, 1) := by decide +kernel
theorem dX5_put_29 : decode cX5_put 29 = .ok (.aload_n 0, 1) := by decide +kernel
theorem dX5_put_30 : decode cX5_put 30 = .ok (.getfield 15, 3) := by decide +kernel
theorem dX5_put_33 : decode cX5_put 33 = .ok (.iload_n 1, 1) := by decide +kernel
theorem dX5_put_34 : decode cX5_put 34 = .ok (.iload_n 3, 1) := by decide +kernel
theorem dX5_put_35 : decode cX5_put 35 = .ok (.iastore, 1) := by decide +kernel
theorem dX5_put_36 : decode cX5_put 36 = .ok (.return_, 1) := by decide +kernel
set_option maxRecDepth 20000 in
theorem ggX5_push_X5_put : GoodIn wsX5_push wsX5_put := goodIn_r _ [6, 7, 8, 9, 10, 11] (by decide +kernel) (by decide +kernel)
set_option maxRecDepth 20000 in
theorem gX5_push_X5_put : GoodIn wsX5_push (wsV RX5 26 RX5 yX5_put wsX5_put) := goodIn_app (goodIn_of _ (by decide +kernel)) ggX5_push_X5_put
theorem dX5_push_0 : decode cX5_push 0 = .ok (.aload_n 0, 1) := by decide +kernel
theorem dX5_push_1 : decode cX5_push 1 = .ok (.getfield 22, 3) := by decide +kernel
theorem dX5_push_4 : decode cX5_push 4 = .ok (.bipush 20, 2) := by decide +kernel
theorem dX5_push_6 : decode cX5_push 6 = .ok (.if_icmp .ge 23, 3) := by decide +kernel
theorem dX5_push_9 : decode cX5_push 9 = .ok (.aload_n 0, 1) := by decide +kernel
theorem dX5_push_10 : decode cX5_push 10 = .ok (.aload_n 0, 1) := by decide +kernel
theorem dX5_push_11 : decode cX5_push 11 = .ok (.getfield 22, 3) := by decide +kernel
theorem dX5_push_14 : decode cX5_push 14 = .ok (.iload_n 1, 1) := by decide +kernel
theorem dX5_push_15 : decode cX5_push 15 = .ok (.iload_n 2, 1) := by decide +kernel
theorem dX5_push_16 : decode cX5_push 16 = .ok (.invokevirtual 26, 3) := by decide +kernel
theorem dX5_push_19 : decode cX5_push 19 = .ok (.aload_n 0, 1) := by decide +kernel
theorem dX5_push_20 : decode cX5_push 20 = .ok (.dup, 1) := by decide +kernel
theorem dX5_push_21 : decode cX5_push 21 = .ok (.getfield 22, 3) := by decide +kernel
theorem dX5_push_24 : decode cX5_push 24 = .ok (.iconst 1, 1) := by decide +kernel
theorem dX5_push_25 : decode cX5_push 25 = .ok (.iadd, 1) := by decide +kernel
theorem dX5_push_26 : decode cX5_push 26 = .ok (.putfield 22, 3) := by decide +kernel
theorem dX5_push_29 : decode cX5_push 29 = .ok (.return_, 1) := by decide +kernel
set_option maxRecDepth 20000 in
theorem ggX5_takeOut_X5_has : GoodIn wsX5_takeOut wsX5_has := goodIn_r _ [6, 1, 21, 22, 23] (by decide +kernel) (by decide +kernel)
set_option maxRecDepth 20000 in
theorem gX5_takeOut_X5_has : GoodIn wsX5_takeOut (wsV RX5 30 RX5 yX5_has wsX5_has) := goodIn_app (goodIn_of _ (by decide +kernel)) ggX5_takeOut_X5_has
set_option maxRecDepth 20000 in
theorem ggX5_takeOut_X5_key : GoodIn wsX5_takeOut wsX5_key := goodIn_r _ [10, 11, 21, 22, 23] (by decide +kernel) (by decide +kernel)
set_option maxRecDepth 20000 in
theorem gX5_takeOut_X5_key : GoodIn wsX5_takeOut (wsV RX5 34 RX5 yX5_key wsX5_key) := goodIn_app (goodIn_of _ (by decide +kernel)) ggX5_takeOut_X5_key
set_option maxRecDepth 20000 in
theorem ggX5_takeOut_X5_value : GoodIn wsX5_takeOut wsX5_value := goodIn_r _ [15, 16, 21, 22, 23] (by decide +kernel) (by decide +kernel)
set_option maxRecDepth 20000 in
theorem gX5_takeOut_X5_value : GoodIn wsX5_takeOut (wsV RX5 38 RX5 yX5_value wsX5_value) := goodIn_app (goodIn_of _ (by decide +kernel)) ggX5_takeOut_X5_value
set_option maxRecDepth 20000 in
theorem ggX5_takeOut_X5_put : GoodIn wsX5_takeOut wsX5_put := goodIn_r _ [20, 11, 16, 21, 22, 23] (by decide +kernel) (by decide +kernel)
set_option maxRecDepth 20000 in
theorem gX5_takeOut_X5_put : GoodIn wsX5_takeOut (wsV RX5 26 RX5 yX5_put wsX5_put) := goodIn_app (goodIn_of _ (by decide +kernel)) ggX5_takeOut_X5_put
theorem dX5_takeOut_0 : decode cX5_takeOut 0 = .ok (.aload_n 0, 1) := by decide +kernel
theorem dX5_takeOut_1 : decode cX5_takeOut 1 = .ok (.iload_n 1, 1) := by decide +kernel
theorem dX5_takeOut_2 : decode cX5_takeOut 2 = .ok (.invokevirtual 30, 3) := by decide +kernel
theorem dX5_takeOut_5 : decode cX5_takeOut 5 = .ok (.ifCond .ne 4, 3) := by decide +kernel
theorem dX5_takeOut_8 : decode cX5_takeOut 8 = .ok (.return_, 1) := by decide +kernel
theorem dX5_takeOut_9 : decode cX5_takeOut 9 = .ok (.iload_n 1, 1) := by decide +kernel
theorem dX5_takeOut_10 : decode cX5_takeOut 10 = .ok (.istore_n 2, 1) := by decide +kernel
theorem dX5_takeOut_11 : decode cX5_takeOut 11 = .ok (.iload_n 2, 1) := by decide +kernel
theorem dX5_takeOut_12 : decode cX5_takeOut 12 = .ok (.aload_n 0, 1) := by decide +kernel
theorem dX5_takeOut_13 : decode cX5_takeOut 13 = .ok (.getfield 22, 3) := by decide +kernel
theorem dX5_takeOut_16 : decode cX5_takeOut 16 = .ok (.iconst 1, 1) := by decide +kernel
theorem dX5_takeOut_17 : decode cX5_takeOut 17 = .ok (.isub, 1) := by decide +kernel
theorem dX5_takeOut_18 : decode cX5_takeOut 18 = .ok (.if_icmp .ge 28, 3) := by decide +kernel
theorem dX5_takeOut_21 : decode cX5_takeOut 21 = .ok (.aload_n 0, 1) := by decide +kernel
theorem dX5_takeOut_22 : decode cX5_takeOut 22 = .ok (.iload_n 2, 1) := by decide +kernel
theorem dX5_takeOut_23 : decode cX5_takeOut 23 = .ok (.aload_n 0, 1) := by decide +kernel
theorem dX5_takeOut_24 : decode cX5_takeOut 24 = .ok (.iload_n 2, 1) := by decide +kernel
theorem dX5_takeOut_25 : decode cX5_takeOut 25 = .ok (.iconst 1, 1) := by decide +kernel
theorem dX5_takeOut_26 : decode cX5_takeOut 26 = .ok (.iadd, 1) := by decide +kernel
theorem dX5_takeOut_27 : decode cX5_takeOut 27 = .ok (.invokevirtual 34, 3) := by decide +kernel
theorem dX5_takeOut_30 : decode cX5_takeOut 30 = .ok (.aload_n 0, 1) := by decide +kernel
theorem dX5_takeOut_31 : decode cX5_takeOut 31 = .ok (.iload_n 2, 1) := by decide +kernel
theorem dX5_takeOut_32 : decode cX5_takeOut 32 = .ok (.iconst 1, 1) := by decide +kernel
theorem dX5_takeOut_33 : decode cX5_takeOut 33 = .ok (.iadd, 1) := by decide +kernel
theorem dX5_takeOut_34 : decode cX5_takeOut 34 = .ok (.invokevirtual 38, 3) := by decide +kernel
theorem dX5_takeOut_37 : decode cX5_takeOut 37 = .ok (.invokevirtual 26, 3) := by decide +kernel
theorem dX5_takeOut_40 : decode cX5_takeOut 40 = .ok (.iinc 2 1, 3) := by decide +kernel
theorem dX5_takeOut_43 : decode cX5_takeOut 43 = .ok (.goto (-32), 3) := by decide +kernel
theorem dX5_takeOut_46 : decode cX5_takeOut 46 = .ok (.aload_n 0, 1) := by decide +kernel
theorem dX5_takeOut_47 : decode cX5_takeOut 47 = .ok (.dup, 1) := by decide +kernel
theorem dX5_takeOut_48 : decode cX5_takeOut 48 = .ok (.getfield 22, 3) := by decide +kernel
theorem dX5_takeOut_51 : decode cX5_takeOut 51 = .ok (.iconst 1, 1) := by decide +kernel
theorem dX5_takeOut_52 : decode cX5_takeOut 52 = .ok (.isub, 1) := by decide +kernel
theorem dX5_takeOut_53 : decode cX5_takeOut 53 = .ok (.putfield 22, 3) := by decide +kernel
theorem dX5_takeOut_56 : decode cX5_takeOut 56 = .ok (.return_, 1) := by decide +kernel
set_option maxRecDepth 20000 in
theorem ggX5_sortFrom_X5_key : GoodIn wsX5_sortFrom wsX5_key := goodIn_r _ [6, 7, 21, 22, 23] (by decide +kernel) (by decide +kernel)
set_option maxRecDepth 20000 in
theorem gX5_sortFrom_X5_key : GoodIn wsX5_sortFrom (wsV RX5 34 RX5 yX5_key wsX5_key) := goodIn_app (goodIn_of _ (by decide +kernel)) ggX5_sortFrom_X5_key
set_option maxRecDepth 20000 in
theorem ggX5_sortFrom_X5_swap : GoodIn wsX5_sortFrom wsX5_swap := goodIn_r _ [11, 2, 3, 4, 5, 6, 7, 12, 13, 14, 15, 16, 17, 18, 19, 20, 21, 22, 23] (by decide +kernel) (by decide +kernel)
set_option maxRecDepth 20000 in
theorem gX5_sortFrom_X5_swap : GoodIn wsX5_sortFrom (wsV RX5 41 RX5 yX5_swap wsX5_swap) := goodIn_app (goodIn_of _ (by decide +kernel)) ggX5_sortFrom_X5_swap
theorem dX5_sortFrom_0 : decode cX5_sortFrom 0 = .ok (.iload_n 1, 1) := by decide +kernel
theorem dX5_sortFrom_1 : decode cX5_sortFrom 1 = .ok (.iconst 1, 1) := by decide +kernel
theorem dX5_sortFrom_2 : decode cX5_sortFrom 2 = .ok (.iadd, 1) := by decide +kernel
theorem dX5_sortFrom_3 : decode cX5_sortFrom 3 = .ok (.istore_n 2, 1) := by decide +kernel
theorem dX5_sortFrom_4 : decode cX5_sortFrom 4 = .ok (.iload_n 2, 1) := by decide +kernel
theorem dX5_sortFrom_5 : decode cX5_sortFrom 5 = .ok (.aload_n 0, 1) := by decide +kernel
theorem dX5_sortFrom_6 : decode cX5_sortFrom 6 = .ok (.getfield 22, 3) := by decide +kernel
theorem dX5_sortFrom_9 : decode cX5_sortFrom 9 = .ok (.if_icmp .ge 45, 3) := by decide +kernel
theorem dX5_sortFrom_12 : decode cX5_sortFrom 12 = .ok (.iload_n 2, 1) := by decide +kernel
theorem dX5_sortFrom_13 : decode cX5_sortFrom 13 = .ok (.istore_n 3, 1) := by decide +kernel
theorem dX5_sortFrom_14 : decode cX5_sortFrom 14 = .ok (.iload_n 3, 1) := by decide +kernel
theorem dX5_sortFrom_15 : decode cX5_sortFrom 15 = .ok (.iload_n 1, 1) := by decide +kernel
theorem dX5_sortFrom_16 : decode cX5_sortFrom 16 = .ok (.if_icmp .le 32, 3) := by decide +kernel
theorem dX5_sortFrom_19 : decode cX5_sortFrom 19 = .ok (.aload_n 0, 1) := by decide +kernel
theorem dX5_sortFrom_20 : decode cX5_sortFrom 20 = .ok (.iload_n 3, 1) := by decide +kernel
theorem dX5_sortFrom_21 : decode cX5_sortFrom 21 = .ok (.iconst 1, 1) := by decide +kernel
theorem dX5_sortFrom_22 : decode cX5_sortFrom 22 = .ok (.isub, 1) := by decide +kernel
theorem dX5_sortFrom_23 : decode cX5_sortFrom 23 = .ok (.invokevirtual 34, 3) := by decide +kernel
theorem dX5_sortFrom_26 : decode cX5_sortFrom 26 = .ok (.aload_n 0, 1) := by decide +kernel
theorem dX5_sortFrom_27 : decode cX5_sortFrom 27 = .ok (.iload_n 3, 1) := by decide +kernel
theorem dX5_sortFrom_28 : decode cX5_sortFrom 28 = .ok (.invokevirtual 34, 3) := by decide +kernel
theorem dX5_sortFrom_31 : decode cX5_sortFrom 31 = .ok (.if_icmp .le 17, 3) := by decide +kernel
theorem dX5_sortFrom_34 : decode cX5_sortFrom 34 = .ok (.aload_n 0, 1) := by decide +kernel
theorem dX5_sortFrom_35 : decode cX5_sortFrom 35 = .ok (.iload_n 3, 1) := by decide +kernel
theorem dX5_sortFrom_36 : decode cX5_sortFrom 36 = .ok (.iconst 1, 1) := by decide +kernel
theorem dX5_sortFrom_37 : decode cX5_sortFrom 37 = .ok (.isub, 1) := by decide +kernel
theorem dX5_sortFrom_38 : decode cX5_sortFrom 38 = .ok (.iload_n 3, 1) := by decide +kernel
theorem dX5_sortFrom_39 : decode cX5_sortFrom 39 = .ok (.invokevirtual 41, 3) := by decide +kernel
theorem dX5_sortFrom_42 : decode cX5_sortFrom 42 = .ok (.iinc 3 (-1), 3) := by decide +kernel
theorem dX5_sortFrom_45 : decode cX5_sortFrom 45 = .ok (.goto (-31), 3) := by decide +kernel
theorem dX5_sortFrom_48 : decode cX5_sortFrom 48 = .ok (.iinc 2 1, 3) := by decide +kernel
theorem dX5_sortFrom_51 : decode cX5_sortFrom 51 = .ok (.goto (-47), 3) := by decide +kernel
theorem dX5_sortFrom_54 : decode cX5_sortFrom 54 = .ok (.return_, 1) := by decide +kernel
set_option maxRecDepth 20000 in
theorem ggX5_reverseFrom_X5_swap : GoodIn wsX5_reverseFrom wsX5_swap := goodIn_r _ [6, 7, 8, 9, 5, 10, 11, 12, 13, 14, 15, 16, 17, 18, 19, 20, 21, 22, 23] (by decide +kernel) (by decide +kernel)
set_option maxRecDepth 20000 in
theorem gX5_reverseFrom_X5_swap : GoodIn wsX5_reverseFrom (wsV RX5 41 RX5 yX5_swap wsX5_swap) := goodIn_app (goodIn_of _ (by decide +kernel)) ggX5_reverseFrom_X5_swap
theorem dX5_reverseFrom_0 : decode cX5_reverseFrom 0 = .ok (.aload_n 0, 1) := by decide +kernel
theorem dX5_reverseFrom_1 : decode cX5_reverseFrom 1 = .ok (.getfield 22, 3) := by decide +kernel
theorem dX5_reverseFrom_4 : decode cX5_reverseFrom 4 = .ok (.iconst 1, 1) := by decide +kernel
theorem dX5_reverseFrom_5 : decode cX5_reverseFrom 5 = .ok (.isub, 1) := by decide +kernel
theorem dX5_reverseFrom_6 : decode cX5_reverseFrom 6 = .ok (.istore_n 2, 1) := by decide +kernel
theorem dX5_reverseFrom_7 : decode cX5_reverseFrom 7 = .ok (.iload_n 1, 1) := by decide +kernel
theorem dX5_reverseFrom_8 : decode cX5_reverseFrom 8 = .ok (.istore_n 3, 1) := by decide +kernel
theorem dX5_reverseFrom_9 : decode cX5_reverseFrom 9 = .ok (.iload_n 3, 1) := by decide +kernel
theorem dX5_reverseFrom_10 : decode cX5_reverseFrom 10 = .ok (.iload_n 2, 1) := by decide +kernel
theorem dX5_reverseFrom_11 : decode cX5_reverseFrom 11 = .ok (.if_icmp .ge 18, 3) := by decide +kernel
theorem dX5_reverseFrom_14 : decode cX5_reverseFrom 14 = .ok (.aload_n 0, 1) := by decide +kernel
theorem dX5_reverseFrom_15 : decode cX5_reverseFrom 15 = .ok (.iload_n 3, 1) := by decide +kernel
theorem dX5_reverseFrom_16 : decode cX5_reverseFrom 16 = .ok (.iload_n 2, 1) := by decide +kernel
theorem dX5_reverseFrom_17 : decode cX5_reverseFrom 17 = .ok (.invokevirtual 41, 3) := by decide +kernel
theorem dX5_reverseFrom_20 : decode cX5_reverseFrom 20 = .ok (.iinc 2 (-1), 3) := by decide +kernel
theorem dX5_reverseFrom_23 : decode cX5_reverseFrom 23 = .ok (.iinc 3 1, 3) := by decide +kernel
theorem dX5_reverseFrom_26 : decode cX5_reverseFrom 26 = .ok (.goto (-17), 3) := by decide +kernel
theorem dX5_reverseFrom_29 : decode cX5_reverseFrom 29 = .ok (.return_, 1) := by decide +kernel
set_option maxRecDepth 20000 in
theorem ggX5_swap_X5_key : GoodIn wsX5_swap wsX5_key := goodIn_r _ [5, 6, 16, 17, 18] (by decide +kernel) (by decide +kernel)
set_option maxRecDepth 20000 in
theorem gX5_swap_X5_key : GoodIn wsX5_swap (wsV RX5 34 RX5 yX5_key wsX5_key) := goodIn_app (goodIn_of _ (by decide +kernel)) ggX5_swap_X5_key
set_option maxRecDepth 20000 in
theorem ggX5_swap_X5_value : GoodIn wsX5_swap wsX5_value := goodIn_r _ [10, 11, 16, 17, 18] (by decide +kernel) (by decide +kernel)
set_option maxRecDepth 20000 in
theorem gX5_swap_X5_value : GoodIn wsX5_swap (wsV RX5 38 RX5 yX5_value wsX5_value) := goodIn_app (goodIn_of _ (by decide +kernel)) ggX5_swap_X5_value
set_option maxRecDepth 20000 in
theorem ggX5_swap_X5_put : GoodIn wsX5_swap wsX5_put := goodIn_r _ [15, 6, 11, 16, 17, 18] (by decide +kernel) (by decide +kernel)
set_option maxRecDepth 20000 in
theorem gX5_swap_X5_put : GoodIn wsX5_swap (wsV RX5 26 RX5 yX5_put wsX5_put) := goodIn_app (goodIn_of _ (by decide +kernel)) ggX5_swap_X5_put
theorem dX5_swap_0 : decode cX5_swap 0 = .ok (.aload_n 0, 1) := by decide +kernel
theorem dX5_swap_1 : decode cX5_swap 1 = .ok (.iload_n 1, 1) := by decide +kernel
theorem dX5_swap_2 : decode cX5_swap 2 = .ok (.invokevirtual 34, 3) := by decide +kernel
theorem dX5_swap_5 : decode cX5_swap 5 = .ok (.istore_n 3, 1) := by decide +kernel
theorem dX5_swap_6 : decode cX5_swap 6 = .ok (.aload_n 0, 1) := by decide +kernel
theorem dX5_swap_7 : decode cX5_swap 7 = .ok (.iload_n 1, 1) := by decide +kernel
theorem dX5_swap_8 : decode cX5_swap 8 = .ok (.invokevirtual 38, 3) := by decide +kernel
theorem dX5_swap_11 : decode cX5_swap 11 = .ok (.istore 4, 2) := by decide +kernel
theorem dX5_swap_13 : decode cX5_swap 13 = .ok (.aload_n 0, 1) := by decide +kernel
theorem dX5_swap_14 : decode cX5_swap 14 = .ok (.iload_n 1, 1) := by decide +kernel
theorem dX5_swap_15 : decode cX5_swap 15 = .ok (.aload_n 0, 1) := by decide +kernel
theorem dX5_swap_16 : decode cX5_swap 16 = .ok (.iload_n 2, 1) := by decide +kernel
theorem dX5_swap_17 : decode cX5_swap 17 = .ok (.invokevirtual 34, 3) := by decide +kernel
theorem dX5_swap_20 : decode cX5_swap 20 = .ok (.aload_n 0, 1) := by decide +kernel
theorem dX5_swap_21 : decode cX5_swap 21 = .ok (.iload_n 2, 1) := by decide +kernel
theorem dX5_swap_22 : decode cX5_swap 22 = .ok (.invokevirtual 38, 3) := by decide +kernel
theorem dX5_swap_25 : decode cX5_swap 25 = .ok (.invokevirtual 26, 3) := by decide +kernel
theorem dX5_swap_28 : decode cX5_swap 28 = .ok (.aload_n 0, 1) := by decide +kernel
theorem dX5_swap_29 : decode cX5_swap 29 = .ok (.iload_n 2, 1) := by decide +kernel
theorem dX5_swap_30 : decode cX5_swap 30 = .ok (.iload_n 3, 1) := by decide +kernel
theorem dX5_swap_31 : decode cX5_swap 31 = .ok (.iload 4, 2) := by decide +kernel
theorem dX5_swap_33 : decode cX5_swap 33 = .ok (.invokevirtual 26, 3) := by decide +kernel
theorem dX5_swap_36 : decode cX5_swap 36 = .ok (.return_, 1) := by decide +kernel
set_option maxRecDepth 20000 in
theorem ggX6_init_X4_init : GoodIn wsX6_init wsX4_init := goodIn_r _ [20, 21, 2, 3, 22, 23, 24, 25, 26, 27, 28, 29, 30, 31, 32, 33, 34, 35, 36, 37, 38, 39, 40, 41, 42, 43, 44, 45, 46, 47, 48, 49, 50, 51, 52, 53, 54, 55, 56, 57, 58, 59, 60, 61, 62, 63, 64, 106, 107, 108, 77, 78, 79, 80, 81, 82, 83, 84, 109, 110, 111, 112, 113, 114, 115] (by decide +kernel) (by decide +kernel)
set_option maxRecDepth 20000 in
theorem gX6_init_X4_init : GoodIn wsX6_init (wsX4_init) := ggX6_init_X4_init
set_option maxRecDepth 20000 in
theorem ggX6_init_X1_init : GoodIn wsX6_init wsX1_init := goodIn_r _ [67, 68, 2, 3, 69, 70, 5, 6, 71, 19, 20, 21, 22, 23, 24, 25, 26, 27, 28, 29, 30, 31, 32, 33, 34, 35, 36, 37, 38, 39, 40, 41, 42, 43, 44, 45, 46, 47, 48, 49, 50, 51, 52, 53, 54, 55, 56, 57, 58, 59, 60, 61, 62, 63, 64, 94, 95, 96, 77, 78, 79, 80, 81, 82, 83, 84, 106, 107, 108, 109, 110, 111, 112, 113, 114, 115] (by decide +kernel) (by decide +kernel)
set_option maxRecDepth 20000 in
theorem gX6_init_X1_init : GoodIn wsX6_init (wsX1_init) := ggX6_init_X1_init
set_option maxRecDepth 20000 in
theorem ggX6_init_X3_init : GoodIn wsX6_init wsX3_init := goodIn_r _ [74, 75, 2, 3, 43, 76, 97, 98, 99, 100, 101, 102, 103, 104, 105] (by decide +kernel) (by decide +kernel)
set_option maxRecDepth 20000 in
theorem gX6_init_X3_init : GoodIn wsX6_init (wsX3_init) := ggX6_init_X3_init
theorem dX6_init_0 : decode cX6_init 0 = .ok (.aload_n 0, 1) := by decide +kernel
theorem dX6_init_1 : decode cX6_init 1 = .ok (.invokespecial 1, 3) := by decide +kernel
theorem dX6_init_4 : decode cX6_init 4 = .ok (.aload_n 0, 1) := by decide +kernel
theorem dX6_init_5 : decode cX6_init 5 = .ok (.new 7, 3) := by decide +kernel
theorem dX6_init_8 : decode cX6_init 8 = .ok (.dup, 1) := by decide +kernel
theorem dX6_init_9 : decode cX6_init 9 = .ok (.invokespecial 9, 3) := by decide +kernel
theorem dX6_init_12 : decode cX6_init 12 = .ok (.putfield 10, 3) := by decide +kernel
theorem dX6_init_15 : decode cX6_init 15 = .ok (.aload_n 0, 1) := by decide +kernel
theorem dX6_init_16 : decode cX6_init 16 = .ok (.new 7, 3) := by decide +kernel
theorem dX6_init_19 : decode cX6_init 19 = .ok (.dup, 1) := by decide +kernel
theorem dX6_init_20 : decode cX6_init 20 = .ok (.invokespecial 9, 3) := by decide +kernel
theorem dX6_init_23 : decode cX6_init 23 = .ok (.putfield 16, 3) := by decide +kernel
theorem dX6_init_26 : decode cX6_init 26 = .ok (.aload_n 0, 1) := by decide +kernel
theorem dX6_init_27 : decode cX6_init 27 = .ok (.new 7, 3) := by decide +kernel
theorem dX6_init_30 : decode cX6_init 30 = .ok (.dup, 1) := by decide +kernel
theorem dX6_init_31 : decode cX6_init 31 = .ok (.invokespecial 9, 3) := by decide +kernel
theorem dX6_init_34 : decode cX6_init 34 = .ok (.putfield 19, 3) := by decide +kernel
theorem dX6_init_37 : decode cX6_init 37 = .ok (.aload_n 0, 1) := by decide +kernel
theorem dX6_init_38 : decode cX6_init 38 = .ok (.new 22, 3) := by decide +kernel
theorem dX6_init_41 : decode cX6_init 41 = .ok (.dup, 1) := by decide +kernel
theorem dX6_init_42 : decode cX6_init 42 = .ok (.invokespecial 24, 3) := by decide +kernel
theorem dX6_init_45 : decode cX6_init 45 = .ok (.putfield 25, 3) := by decide +kernel
theorem dX6_init_48 : decode cX6_init 48 = .ok (.aload_n 0, 1) := by decide +kernel
theorem dX6_init_49 : decode cX6_init 49 = .ok (.new 29, 3) := by decide +kernel
theorem dX6_init_52 : decode cX6_init 52 = .ok (.dup, 1) := by decide +kernel
theorem dX6_init_53 : decode cX6_init 53 = .ok (.invokespecial 31, 3) := by decide +kernel
theorem dX6_init_56 : decode cX6_init 56 = .ok (.putfield 32, 3) := by decide +kernel
theorem dX6_init_59 : decode cX6_init 59 = .ok (.return_, 1) := by decide +kernel
set_option maxRecDepth 20000 in
theorem ggX6_add_X1_prepare : GoodIn wsX6_add wsX1_prepare := goodIn_r _ [7, 8, 9, 10, 11, 6, 12, 13, 14, 15, 16, 17, 18, 19, 20, 21, 22, 23, 24, 25, 26, 27, 28, 29, 30, 31, 32, 33, 34, 35, 36, 37, 38, 39, 40, 41, 42, 43, 44, 45, 46, 47, 48, 49, 50, 51, 52, 53, 54, 55, 56, 57, 58, 59, 60, 61, 62, 151, 152, 153, 154, 155, 156, 157, 158, 159, 160, 161, 162, 163, 164, 165, 166, 167, 168, 169, 170, 171] (by decide +kernel) (by decide +kernel)
set_option maxRecDepth 20000 in
theorem gX6_add_X1_prepare : GoodIn wsX6_add (wsV RX6 36 RX1 yX1_prepare wsX1_prepare) := goodIn_app (goodIn_of _ (by decide +kernel)) ggX6_add_X1_prepare
set_option maxRecDepth 20000 in
theorem ggX6_add_X4_insertRow : GoodIn wsX6_add wsX4_insertRow := goodIn_r _ [66, 67, 36, 68, 69, 70, 71, 72, 73, 74, 75, 76, 77, 17, 78, 20, 19, 79, 80, 81, 30, 82, 34, 83, 84, 85, 86, 87, 88, 89, 90, 32, 33, 91, 92, 93, 94, 23, 95, 96, 97, 98, 21, 99, 100, 101, 49, 102, 51, 52, 53, 103, 104, 105, 106, 107, 108, 109, 110, 111, 112, 113, 114, 115, 22, 24, 116, 117, 118, 57, 119, 59, 120, 121, 122, 123, 124, 125, 126, 127, 128, 129, 130, 131, 132, 133, 134, 135, 154, 155, 156, 157, 158, 159, 160, 161, 162, 163, 164, 165, 166, 167, 168, 169, 170, 171] (by decide +kernel) (by decide +kernel)
set_option maxRecDepth 20000 in
theorem gX6_add_X4_insertRow : GoodIn wsX6_add (wsV RX6 40 RX4 yX4_insertRow wsX4_insertRow) := goodIn_app (goodIn_of _ (by decide +kernel)) ggX6_add_X4_insertRow
set_option maxRecDepth 20000 in
theorem ggX6_add_X1_commit : GoodIn wsX6_add wsX1_commit := goodIn_r _ [139, 8, 140, 141, 39, 40, 41, 151, 152, 153] (by decide +kernel) (by decide +kernel)
set_option maxRecDepth 20000 in
theorem gX6_add_X1_commit : GoodIn wsX6_add (wsV RX6 44 RX1 yX1_commit wsX1_commit) := goodIn_app (goodIn_of _ (by decide +kernel)) ggX6_add_X1_commit
theorem dX6_add_0 : decode cX6_add 0 = .ok (.aload_n 0, 1) := by decide +kernel
theorem dX6_add_1 : decode cX6_add 1 = .ok (.getfield 25, 3) := by decide +kernel
theorem dX6_add_4 : decode cX6_add 4 = .ok (.aload_n 0, 1) := by decide +kernel
theorem dX6_add_5 : decode cX6_add 5 = .ok (.getfield 10, 3) := by decide +kernel
theorem dX6_add_8 : decode cX6_add 8 = .ok (.invokevirtual 36, 3) := by decide +kernel
theorem dX6_add_11 : decode cX6_add 11 = .ok (.aload_n 0, 1) := by decide +kernel
theorem dX6_add_12 : decode cX6_add 12 = .ok (.getfield 25, 3) := by decide +kernel
theorem dX6_add_15 : decode cX6_add 15 = .ok (.aload_n 0, 1) := by decide +kernel
theorem dX6_add_16 : decode cX6_add 16 = .ok (.getfield 10, 3) := by decide +kernel
theorem dX6_add_19 : decode cX6_add 19 = .ok (.iload_n 1, 1) := by decide +kernel
theorem dX6_add_20 : decode cX6_add 20 = .ok (.iload_n 2, 1) := by decide +kernel
theorem dX6_add_21 : decode cX6_add 21 = .ok (.iload_n 3, 1) := by decide +kernel
theorem dX6_add_22 : decode cX6_add 22 = .ok (.invokevirtual 40, 3) := by decide +kernel
theorem dX6_add_25 : decode cX6_add 25 = .ok (.invokevirtual 44, 3) := by decide +kernel
theorem dX6_add_28 : decode cX6_add 28 = .ok (.ireturn, 1) := by decide +kernel
set_option maxRecDepth 20000 in
theorem ggX6_drop_X1_prepare : GoodIn wsX6_drop wsX1_prepare := goodIn_r _ [7, 8, 9, 10, 11, 6, 12, 13, 14, 15, 16, 17, 18, 19, 20, 21, 22, 23, 24, 25, 26, 27, 28, 29, 30, 31, 32, 33, 34, 35, 36, 37, 38, 39, 40, 41, 42, 43, 44, 45, 46, 47, 48, 49, 50, 51, 52, 53, 54, 55, 56, 57, 58, 59, 60, 61, 62, 155, 156, 157, 158, 159, 160, 161, 162, 163, 164, 165, 166, 167, 168, 169, 170, 171, 172, 173, 174, 175] (by decide +kernel) (by decide +kernel)
set_option maxRecDepth 20000 in
theorem gX6_drop_X1_prepare : GoodIn wsX6_drop (wsV RX6 36 RX1 yX1_prepare wsX1_prepare) := goodIn_app (goodIn_of _ (by decide +kernel)) ggX6_drop_X1_prepare
set_option maxRecDepth 20000 in
theorem ggX6_drop_X4_removeRow : GoodIn wsX6_drop wsX4_removeRow := goodIn_r _ [66, 25, 67, 68, 69, 17, 70, 20, 19, 71, 72, 73, 30, 74, 34, 75, 76, 77, 78, 32, 79, 80, 81, 82, 83, 84, 85, 86, 87, 88, 33, 89, 90, 91, 92, 93, 94, 95, 96, 23, 97, 98, 99, 100, 21, 101, 102, 103, 49, 104, 51, 52, 53, 105, 106, 107, 108, 109, 110, 111, 112, 113, 114, 22, 24, 115, 116, 117, 57, 118, 59, 119, 120, 121, 122, 123, 124, 125, 126, 127, 128, 129, 130, 131, 132, 133, 134, 135, 136, 137, 138, 139, 158, 159, 160, 161, 162, 163, 164, 165, 166, 167, 168, 169, 170, 171, 172, 173, 174, 175] (by decide +kernel) (by decide +kernel)
set_option maxRecDepth 20000 in
theorem gX6_drop_X4_removeRow : GoodIn wsX6_drop (wsV RX6 48 RX4 yX4_removeRow wsX4_removeRow) := goodIn_app (goodIn_of _ (by decide +kernel)) ggX6_drop_X4_removeRow
set_option maxRecDepth 20000 in
theorem ggX6_drop_X1_commit : GoodIn wsX6_drop wsX1_commit := goodIn_r _ [143, 8, 144, 145, 39, 40, 41, 155, 156, 157] (by decide +kernel) (by decide +kernel)
set_option maxRecDepth 20000 in
theorem gX6_drop_X1_commit : GoodIn wsX6_drop (wsV RX6 44 RX1 yX1_commit wsX1_commit) := goodIn_app (goodIn_of _ (by decide +kernel)) ggX6_drop_X1_commit
theorem dX6_drop_0 : decode cX6_drop 0 = .ok (.aload_n 0, 1) := by decide +kernel
theorem dX6_drop_1 : decode cX6_drop 1 = .ok (.getfield 25, 3) := by decide +kernel
theorem dX6_drop_4 : decode cX6_drop 4 = .ok (.aload_n 0, 1) := by decide +kernel
theorem dX6_drop_5 : decode cX6_drop 5 = .ok (.getfield 10, 3) := by decide +kernel
theorem dX6_drop_8 : decode cX6_drop 8 = .ok (.invokevirtual 36, 3) := by decide +kernel
theorem dX6_drop_11 : decode cX6_drop 11 = .ok (.aload_n 0, 1) := by decide +kernel
theorem dX6_drop_12 : decode cX6_drop 12 = .ok (.getfield 25, 3) := by decide +kernel
theorem dX6_drop_15 : decode cX6_drop 15 = .ok (.aload_n 0, 1) := by decide +kernel
theorem dX6_drop_16 : decode cX6_drop 16 = .ok (.getfield 10, 3) := by decide +kernel
theorem dX6_drop_19 : decode cX6_drop 19 = .ok (.iload_n 1, 1) := by decide +kernel
theorem dX6_drop_20 : decode cX6_drop 20 = .ok (.iload_n 2, 1) := by decide +kernel
theorem dX6_drop_21 : decode cX6_drop 21 = .ok (.invokevirtual 48, 3) := by decide +kernel
theorem dX6_drop_24 : decode cX6_drop 24 = .ok (.invokevirtual 44, 3) := by decide +kernel
theorem dX6_drop_27 : decode cX6_drop 27 = .ok (.ireturn, 1) := by decide +kernel
set_option maxRecDepth 20000 in
theorem ggX6_change_X1_prepare : GoodIn wsX6_change wsX1_prepare := goodIn_r _ [7, 8, 9, 10, 11, 6, 12, 13, 14, 15, 16, 17, 18, 19, 20, 21, 22, 23, 24, 25, 26, 27, 28, 29, 30, 31, 32, 33, 34, 35, 36, 37, 38, 39, 40, 41, 42, 43, 44, 45, 46, 47, 48, 49, 50, 51, 52, 53, 54, 55, 56, 57, 58, 59, 60, 61, 62, 148, 149, 150, 151, 152, 153, 154, 155, 156, 157, 158, 159, 160, 161, 162, 163, 164, 165, 166, 167, 168] (by decide +kernel) (by decide +kernel)
set_option maxRecDepth 20000 in
theorem gX6_change_X1_prepare : GoodIn wsX6_change (wsV RX6 36 RX1 yX1_prepare wsX1_prepare) := goodIn_app (goodIn_of _ (by decide +kernel)) ggX6_change_X1_prepare
set_option maxRecDepth 20000 in
theorem ggX6_change_X4_rewriteRow : GoodIn wsX6_change wsX4_rewriteRow := goodIn_r _ [66, 20, 22, 67, 68, 69, 30, 70, 34, 71, 36, 72, 73, 74, 75, 76, 77, 78, 79, 80, 81, 82, 32, 83, 84, 85, 86, 33, 87, 88, 89, 17, 90, 23, 91, 92, 93, 94, 21, 95, 96, 97, 49, 98, 51, 52, 53, 99, 100, 101, 102, 103, 104, 105, 106, 107, 108, 109, 110, 111, 24, 112, 113, 114, 57, 115, 59, 116, 117, 118, 119, 120, 121, 122, 123, 124, 125, 126, 127, 128, 129, 130, 131, 132, 151, 152, 153, 154, 155, 156, 157, 158, 159, 160, 161, 162, 163, 164, 165, 166, 167, 168] (by decide +kernel) (by decide +kernel)
set_option maxRecDepth 20000 in
theorem gX6_change_X4_rewriteRow : GoodIn wsX6_change (wsV RX6 52 RX4 yX4_rewriteRow wsX4_rewriteRow) := goodIn_app (goodIn_of _ (by decide +kernel)) ggX6_change_X4_rewriteRow
set_option maxRecDepth 20000 in
theorem ggX6_change_X1_commit : GoodIn wsX6_change wsX1_commit := goodIn_r _ [136, 8, 137, 138, 39, 40, 41, 148, 149, 150] (by decide +kernel) (by decide +kernel)
set_option maxRecDepth 20000 in
theorem gX6_change_X1_commit : GoodIn wsX6_change (wsV RX6 44 RX1 yX1_commit wsX1_commit) := goodIn_app (goodIn_of _ (by decide +kernel)) ggX6_change_X1_commit
theorem dX6_change_0 : decode cX6_change 0 = .ok (.aload_n 0, 1) := by decide +kernel
theorem dX6_change_1 : decode cX6_change 1 = .ok (.getfield 25, 3) := by decide +kernel
theorem dX6_change_4 : decode cX6_change 4 = .ok (.aload_n 0, 1) := by decide +kernel
theorem dX6_change_5 : decode cX6_change 5 = .ok (.getfield 10, 3) := by decide +kernel
theorem dX6_change_8 : decode cX6_change 8 = .ok (.invokevirtual 36, 3) := by decide +kernel
theorem dX6_change_11 : decode cX6_change 11 = .ok (.aload_n 0, 1) := by decide +kernel
theorem dX6_change_12 : decode cX6_change 12 = .ok (.getfield 25, 3) := by decide +kernel
theorem dX6_change_15 : decode cX6_change 15 = .ok (.aload_n 0, 1) := by decide +kernel
theorem dX6_change_16 : decode cX6_change 16 = .ok (.getfield 10, 3) := by decide +kernel
theorem dX6_change_19 : decode cX6_change 19 = .ok (.iload_n 1, 1) := by decide +kernel
theorem dX6_change_20 : decode cX6_change 20 = .ok (.iload_n 2, 1) := by decide +kernel
theorem dX6_change_21 : decode cX6_change 21 = .ok (.iload_n 3, 1) := by decide +kernel
theorem dX6_change_22 : decode cX6_change 22 = .ok (.invokevirtual 52, 3) := by decide +kernel
theorem dX6_change_25 : decode cX6_change 25 = .ok (.invokevirtual 44, 3) := by decide +kernel
theorem dX6_change_28 : decode cX6_change 28 = .ok (.ireturn, 1) := by decide +kernel
set_option maxRecDepth 20000 in
theorem ggX6_step_X1_prepare : GoodIn wsX6_step wsX1_prepare := goodIn_r _ [7, 8, 9, 10, 11, 6, 12, 13, 14, 15, 16, 17, 18, 19, 20, 21, 22, 23, 24, 25, 26, 27, 28, 29, 30, 31, 32, 33, 34, 35, 36, 37, 38, 39, 40, 41, 42, 43, 44, 45, 46, 47, 48, 49, 50, 51, 52, 53, 54, 55, 56, 57, 58, 59, 60, 61, 62, 138, 139, 140, 141, 142, 143, 144, 145, 146, 147, 148, 149, 150, 151, 152, 153, 154, 155, 156, 157, 158] (by decide +kernel) (by decide +kernel)
set_option maxRecDepth 20000 in
theorem gX6_step_X1_prepare : GoodIn wsX6_step (wsV RX6 36 RX1 yX1_prepare wsX1_prepare) := goodIn_app (goodIn_of _ (by decide +kernel)) ggX6_step_X1_prepare
set_option maxRecDepth 20000 in
theorem ggX6_step_X4_walk : GoodIn wsX6_step wsX4_walk := goodIn_r _ [66, 25, 19, 24, 26, 21, 67, 68, 69, 30, 70, 34, 71, 72, 73, 74, 32, 75, 76, 77, 17, 78, 22, 20, 23, 79, 80, 81, 57, 82, 59, 83, 84, 85, 86, 62, 60, 87, 88, 89, 49, 90, 51, 91, 92, 93, 94, 61, 95, 96, 97, 98, 99, 100, 101, 102, 103, 104, 105, 106, 107, 108, 109, 110, 111, 112, 113, 114, 115, 116, 117, 118, 33, 119, 120, 121, 122, 52, 141, 142, 143, 144, 145, 146, 147, 148, 149, 150, 151, 155, 156, 157, 158, 152, 153, 154] (by decide +kernel) (by decide +kernel)
set_option maxRecDepth 20000 in
theorem gX6_step_X4_walk : GoodIn wsX6_step (wsV RX6 56 RX4 yX4_walk wsX4_walk) := goodIn_app (goodIn_of _ (by decide +kernel)) ggX6_step_X4_walk
set_option maxRecDepth 20000 in
theorem ggX6_step_X1_commit : GoodIn wsX6_step wsX1_commit := goodIn_r _ [126, 8, 127, 128, 39, 40, 41, 138, 139, 140] (by decide +kernel) (by decide +kernel)
set_option maxRecDepth 20000 in
theorem gX6_step_X1_commit : GoodIn wsX6_step (wsV RX6 44 RX1 yX1_commit wsX1_commit) := goodIn_app (goodIn_of _ (by decide +kernel)) ggX6_step_X1_commit
theorem dX6_step_0 : decode cX6_step 0 = .ok (.aload_n 0, 1) := by decide +kernel
theorem dX6_step_1 : decode cX6_step 1 = .ok (.getfield 25, 3) := by decide +kernel
theorem dX6_step_4 : decode cX6_step 4 = .ok (.aload_n 0, 1) := by decide +kernel
theorem dX6_step_5 : decode cX6_step 5 = .ok (.getfield 10, 3) := by decide +kernel
theorem dX6_step_8 : decode cX6_step 8 = .ok (.invokevirtual 36, 3) := by decide +kernel
theorem dX6_step_11 : decode cX6_step 11 = .ok (.aload_n 0, 1) := by decide +kernel
theorem dX6_step_12 : decode cX6_step 12 = .ok (.getfield 25, 3) := by decide +kernel
theorem dX6_step_15 : decode cX6_step 15 = .ok (.aload_n 0, 1) := by decide +kernel
theorem dX6_step_16 : decode cX6_step 16 = .ok (.getfield 10, 3) := by decide +kernel
theorem dX6_step_19 : decode cX6_step 19 = .ok (.iload_n 1, 1) := by decide +kernel
theorem dX6_step_20 : decode cX6_step 20 = .ok (.invokevirtual 56, 3) := by decide +kernel
theorem dX6_step_23 : decode cX6_step 23 = .ok (.invokevirtual 44, 3) := by decide +kernel
theorem dX6_step_26 : decode cX6_step 26 = .ok (.ireturn, 1) := by decide +kernel
set_option maxRecDepth 20000 in
theorem ggX6_again_X1_prepare : GoodIn wsX6_again wsX1_prepare := goodIn_r _ [7, 8, 9, 10, 11, 6, 12, 13, 14, 15, 16, 17, 18, 19, 20, 21, 22, 23, 24, 25, 26, 27, 28, 29, 30, 31, 32, 33, 34, 35, 36, 37, 38, 39, 40, 41, 42, 43, 44, 45, 46, 47, 48, 49, 50, 51, 52, 53, 54, 55, 56, 57, 58, 59, 60, 61, 62, 82, 83, 84, 85, 86, 87, 88, 89, 90, 91, 92, 93, 94, 95, 96, 97, 98, 99, 100, 101, 102] (by decide +kernel) (by decide +kernel)
set_option maxRecDepth 20000 in
theorem gX6_again_X1_prepare : GoodIn wsX6_again (wsV RX6 36 RX1 yX1_prepare wsX1_prepare) := goodIn_app (goodIn_of _ (by decide +kernel)) ggX6_again_X1_prepare
set_option maxRecDepth 20000 in
theorem ggX6_again_X4_beginAgain : GoodIn wsX6_again wsX4_beginAgain := goodIn_r _ [66, 26, 25, 85, 86, 87, 88, 89, 90, 91, 92] (by decide +kernel) (by decide +kernel)
set_option maxRecDepth 20000 in
theorem gX6_again_X4_beginAgain : GoodIn wsX6_again (wsV RX6 59 RX4 yX4_beginAgain wsX4_beginAgain) := goodIn_app (goodIn_of _ (by decide +kernel)) ggX6_again_X4_beginAgain
set_option maxRecDepth 20000 in
theorem ggX6_again_X1_commit : GoodIn wsX6_again wsX1_commit := goodIn_r _ [70, 8, 71, 72, 39, 40, 41, 82, 83, 84] (by decide +kernel) (by decide +kernel)
set_option maxRecDepth 20000 in
theorem gX6_again_X1_commit : GoodIn wsX6_again (wsV RX6 44 RX1 yX1_commit wsX1_commit) := goodIn_app (goodIn_of _ (by decide +kernel)) ggX6_again_X1_commit
theorem dX6_again_0 : decode cX6_again 0 = .ok (.aload_n 0, 1) := by decide +kernel
theorem dX6_again_1 : decode cX6_again 1 = .ok (.getfield 25, 3) := by decide +kernel
theorem dX6_again_4 : decode cX6_again 4 = .ok (.aload_n 0, 1) := by decide +kernel
theorem dX6_again_5 : decode cX6_again 5 = .ok (.getfield 10, 3) := by decide +kernel
theorem dX6_again_8 : decode cX6_again 8 = .ok (.invokevirtual 36, 3) := by decide +kernel
theorem dX6_again_11 : decode cX6_again 11 = .ok (.aload_n 0, 1) := by decide +kernel
theorem dX6_again_12 : decode cX6_again 12 = .ok (.getfield 25, 3) := by decide +kernel
theorem dX6_again_15 : decode cX6_again 15 = .ok (.aload_n 0, 1) := by decide +kernel
theorem dX6_again_16 : decode cX6_again 16 = .ok (.getfield 10, 3) := by decide +kernel
theorem dX6_again_19 : decode cX6_again 19 = .ok (.invokevirtual 59, 3) := by decide +kernel
theorem dX6_again_22 : decode cX6_again 22 = .ok (.invokevirtual 44, 3) := by decide +kernel
theorem dX6_again_25 : decode cX6_again 25 = .ok (.ireturn, 1) := by decide +kernel
set_option maxRecDepth 20000 in
theorem ggX6_forget_X1_prepare : GoodIn wsX6_forget wsX1_prepare := goodIn_r _ [7, 8, 9, 10, 11, 6, 12, 13, 14, 15, 16, 17, 18, 19, 20, 21, 22, 23, 24, 25, 26, 27, 28, 29, 30, 31, 32, 33, 34, 35, 36, 37, 38, 39, 40, 41, 42, 43, 44, 45, 46, 47, 48, 49, 50, 51, 52, 53, 54, 55, 56, 57, 58, 59, 60, 61, 62, 90, 91, 92, 93, 94, 95, 96, 97, 98, 99, 100, 101, 102, 103, 104, 105, 106, 107, 108, 109, 110] (by decide +kernel) (by decide +kernel)
set_option maxRecDepth 20000 in
theorem gX6_forget_X1_prepare : GoodIn wsX6_forget (wsV RX6 36 RX1 yX1_prepare wsX1_prepare) := goodIn_app (goodIn_of _ (by decide +kernel)) ggX6_forget_X1_prepare
set_option maxRecDepth 20000 in
theorem ggX6_forget_X4_throwAllOut : GoodIn wsX6_forget wsX4_throwAllOut := goodIn_r _ [66, 22, 24, 67, 68, 69, 57, 70, 59, 71, 72, 73, 74, 93, 94, 95, 96, 97, 98, 99, 100, 107, 108, 109, 110] (by decide +kernel) (by decide +kernel)
set_option maxRecDepth 20000 in
theorem gX6_forget_X4_throwAllOut : GoodIn wsX6_forget (wsV RX6 63 RX4 yX4_throwAllOut wsX4_throwAllOut) := goodIn_app (goodIn_of _ (by decide +kernel)) ggX6_forget_X4_throwAllOut
set_option maxRecDepth 20000 in
theorem ggX6_forget_X1_commit : GoodIn wsX6_forget wsX1_commit := goodIn_r _ [78, 8, 79, 80, 39, 40, 41, 90, 91, 92] (by decide +kernel) (by decide +kernel)
set_option maxRecDepth 20000 in
theorem gX6_forget_X1_commit : GoodIn wsX6_forget (wsV RX6 44 RX1 yX1_commit wsX1_commit) := goodIn_app (goodIn_of _ (by decide +kernel)) ggX6_forget_X1_commit
theorem dX6_forget_0 : decode cX6_forget 0 = .ok (.aload_n 0, 1) := by decide +kernel
theorem dX6_forget_1 : decode cX6_forget 1 = .ok (.getfield 25, 3) := by decide +kernel
theorem dX6_forget_4 : decode cX6_forget 4 = .ok (.aload_n 0, 1) := by decide +kernel
theorem dX6_forget_5 : decode cX6_forget 5 = .ok (.getfield 10, 3) := by decide +kernel
theorem dX6_forget_8 : decode cX6_forget 8 = .ok (.invokevirtual 36, 3) := by decide +kernel
theorem dX6_forget_11 : decode cX6_forget 11 = .ok (.aload_n 0, 1) := by decide +kernel
theorem dX6_forget_12 : decode cX6_forget 12 = .ok (.getfield 25, 3) := by decide +kernel
theorem dX6_forget_15 : decode cX6_forget 15 = .ok (.aload_n 0, 1) := by decide +kernel
theorem dX6_forget_16 : decode cX6_forget 16 = .ok (.getfield 10, 3) := by decide +kernel
theorem dX6_forget_19 : decode cX6_forget 19 = .ok (.invokevirtual 63, 3) := by decide +kernel
theorem dX6_forget_22 : decode cX6_forget 22 = .ok (.invokevirtual 44, 3) := by decide +kernel
theorem dX6_forget_25 : decode cX6_forget 25 = .ok (.ireturn, 1) := by decide +kernel
set_option maxRecDepth 20000 in
theorem ggX6_set_X1_prepare : GoodIn wsX6_set wsX1_prepare := goodIn_r _ [7, 8, 9, 10, 11, 6, 12, 13, 14, 15, 16, 17, 18, 19, 20, 21, 22, 23, 24, 25, 26, 27, 28, 29, 30, 31, 32, 33, 34, 35, 36, 37, 38, 39, 40, 41, 42, 43, 44, 45, 46, 47, 48, 49, 50, 51, 52, 53, 54, 55, 56, 57, 58, 59, 60, 61, 62, 143, 144, 145, 146, 147, 148, 149, 150, 151, 152, 153, 154, 155, 156, 157, 158, 159, 160, 161, 162, 163] (by decide +kernel) (by decide +kernel)
set_option maxRecDepth 20000 in
theorem gX6_set_X1_prepare : GoodIn wsX6_set (wsV RX6 36 RX1 yX1_prepare wsX1_prepare) := goodIn_app (goodIn_of _ (by decide +kernel)) ggX6_set_X1_prepare
set_option maxRecDepth 20000 in
theorem ggX6_set_X4_adjust : GoodIn wsX6_set wsX4_adjust := goodIn_r _ [66, 67, 23, 68, 69, 70, 17, 71, 22, 21, 24, 72, 73, 74, 75, 76, 77, 78, 57, 79, 59, 80, 81, 82, 49, 83, 51, 84, 85, 86, 87, 88, 89, 90, 91, 61, 60, 92, 93, 94, 95, 96, 97, 98, 99, 20, 100, 101, 102, 103, 52, 53, 104, 105, 106, 30, 107, 34, 108, 109, 110, 111, 33, 112, 113, 114, 115, 32, 116, 117, 118, 119, 120, 121, 122, 123, 124, 125, 126, 127, 146, 147, 148, 149, 150, 151, 152, 153, 160, 161, 162, 163, 157, 158, 159, 154, 155, 156] (by decide +kernel) (by decide +kernel)
set_option maxRecDepth 20000 in
theorem gX6_set_X4_adjust : GoodIn wsX6_set (wsV RX6 66 RX4 yX4_adjust wsX4_adjust) := goodIn_app (goodIn_of _ (by decide +kernel)) ggX6_set_X4_adjust
set_option maxRecDepth 20000 in
theorem ggX6_set_X1_commit : GoodIn wsX6_set wsX1_commit := goodIn_r _ [131, 8, 132, 133, 39, 40, 41, 143, 144, 145] (by decide +kernel) (by decide +kernel)
set_option maxRecDepth 20000 in
theorem gX6_set_X1_commit : GoodIn wsX6_set (wsV RX6 44 RX1 yX1_commit wsX1_commit) := goodIn_app (goodIn_of _ (by decide +kernel)) ggX6_set_X1_commit
theorem dX6_set_0 : decode cX6_set 0 = .ok (.aload_n 0, 1) := by decide +kernel
theorem dX6_set_1 : decode cX6_set 1 = .ok (.getfield 25, 3) := by decide +kernel
theorem dX6_set_4 : decode cX6_set 4 = .ok (.aload_n 0, 1) := by decide +kernel
theorem dX6_set_5 : decode cX6_set 5 = .ok (.getfield 10, 3) := by decide +kernel
theorem dX6_set_8 : decode cX6_set 8 = .ok (.invokevirtual 36, 3) := by decide +kernel
theorem dX6_set_11 : decode cX6_set 11 = .ok (.aload_n 0, 1) := by decide +kernel
theorem dX6_set_12 : decode cX6_set 12 = .ok (.getfield 25, 3) := by decide +kernel
theorem dX6_set_15 : decode cX6_set 15 = .ok (.aload_n 0, 1) := by decide +kernel
theorem dX6_set_16 : decode cX6_set 16 = .ok (.getfield 10, 3) := by decide +kernel
theorem dX6_set_19 : decode cX6_set 19 = .ok (.iload_n 1, 1) := by decide +kernel
theorem dX6_set_20 : decode cX6_set 20 = .ok (.iload_n 2, 1) := by decide +kernel
theorem dX6_set_21 : decode cX6_set 21 = .ok (.invokevirtual 66, 3) := by decide +kernel
theorem dX6_set_24 : decode cX6_set 24 = .ok (.invokevirtual 44, 3) := by decide +kernel
theorem dX6_set_27 : decode cX6_set 27 = .ok (.ireturn, 1) := by decide +kernel
set_option maxRecDepth 20000 in
theorem ggX6_append_X3_push : GoodIn wsX6_append wsX3_push := goodIn_r _ [6, 7, 8, 18, 19, 20, 21, 22, 23, 24, 25, 26] (by decide +kernel) (by decide +kernel)
set_option maxRecDepth 20000 in
theorem gX6_append_X3_push : GoodIn wsX6_append (wsV RX6 70 RX3 yX3_push wsX3_push) := goodIn_app (goodIn_of _ (by decide +kernel)) ggX6_append_X3_push
theorem dX6_append_0 : decode cX6_append 0 = .ok (.aload_n 0, 1) := by decide +kernel
theorem dX6_append_1 : decode cX6_append 1 = .ok (.getfield 32, 3) := by decide +kernel
theorem dX6_append_4 : decode cX6_append 4 = .ok (.iload_n 1, 1) := by decide +kernel
theorem dX6_append_5 : decode cX6_append 5 = .ok (.invokevirtual 70, 3) := by decide +kernel
theorem dX6_append_8 : decode cX6_append 8 = .ok (.ireturn, 1) := by decide +kernel
set_option maxRecDepth 20000 in
theorem ggX6_clear_X3_empty : GoodIn wsX6_clear wsX3_empty := goodIn_r _ [6, 7, 17, 18, 19, 20, 21, 22, 23, 24, 25] (by decide +kernel) (by decide +kernel)
set_option maxRecDepth 20000 in
theorem gX6_clear_X3_empty : GoodIn wsX6_clear (wsV RX6 73 RX3 yX3_empty wsX3_empty) := goodIn_app (goodIn_of _ (by decide +kernel)) ggX6_clear_X3_empty
theorem dX6_clear_0 : decode cX6_clear 0 = .ok (.aload_n 0, 1) := by decide +kernel
theorem dX6_clear_1 : decode cX6_clear 1 = .ok (.getfield 32, 3) := by decide +kernel
theorem dX6_clear_4 : decode cX6_clear 4 = .ok (.invokevirtual 73, 3) := by decide +kernel
theorem dX6_clear_7 : decode cX6_clear 7 = .ok (.ireturn, 1) := by decide +kernel
set_option maxRecDepth 20000 in
theorem ggX6_fault_X6_isWithin : GoodIn wsX6_fault wsX6_isWithin := goodIn_r _ [5] (by decide +kernel) (by decide +kernel)
set_option maxRecDepth 20000 in
theorem gX6_fault_X6_isWithin : GoodIn wsX6_fault (va_wsS RX6 76 yX6_isWithin wsX6_isWithin) := goodIn_app (goodIn_of _ (by decide +kernel)) ggX6_fault_X6_isWithin
set_option maxRecDepth 20000 in
theorem ggX6_fault_X3_findFault : GoodIn wsX6_fault wsX3_findFault := goodIn_r _ [10, 11, 12, 13, 14, 15, 16, 9, 17, 18, 19, 20, 21, 22, 23, 24, 25, 26, 27, 28, 29, 30, 31, 32, 33, 34, 35, 36, 37, 38, 39, 40, 41, 42, 43, 44, 45, 46, 47, 57, 58, 59, 60, 61, 62, 63, 64, 65] (by decide +kernel) (by decide +kernel)
set_option maxRecDepth 20000 in
theorem gX6_fault_X3_findFault : GoodIn wsX6_fault (wsV RX6 80 RX3 yX3_findFault wsX3_findFault) := goodIn_app (goodIn_of _ (by decide +kernel)) ggX6_fault_X3_findFault
theorem dX6_fault_0 : decode cX6_fault 0 = .ok (.iload_n 1, 1) := by decide +kernel
theorem dX6_fault_1 : decode cX6_fault 1 = .ok (.iconst 1, 1) := by decide +kernel
theorem dX6_fault_2 : decode cX6_fault 2 = .ok (.invokestatic 76, 3) := by decide +kernel
theorem dX6_fault_5 : decode cX6_fault 5 = .ok (.ifCond .eq 23, 3) := by decide +kernel
theorem dX6_fault_8 : decode cX6_fault 8 = .ok (.aload_n 0, 1) := by decide +kernel
theorem dX6_fault_9 : decode cX6_fault 9 = .ok (.getfield 32, 3) := by decide +kernel
theorem dX6_fault_12 : decode cX6_fault 12 = .ok (.iload_n 1, 1) := by decide +kernel
theorem dX6_fault_13 : decode cX6_fault 13 = .ok (.iconst 1, 1) := by decide +kernel
theorem dX6_fault_14 : decode cX6_fault 14 = .ok (.if_icmp .ne 7, 3) := by decide +kernel
theorem dX6_fault_17 : decode cX6_fault 17 = .ok (.iconst 1, 1) := by decide +kernel
theorem dX6_fault_18 : decode cX6_fault 18 = .ok (.goto 4, 3) := by decide +kernel
theorem dX6_fault_21 : decode cX6_fault 21 = .ok (.iconst 0, 1) := by decide +kernel
theorem dX6_fault_22 : decode cX6_fault 22 = .ok (.invokevirtual 80, 3) := by decide +kernel
theorem dX6_fault_25 : decode cX6_fault 25 = .ok (.goto 4, 3) := by decide +kernel
theorem dX6_fault_28 : decode cX6_fault 28 = .ok (.iconst (-1), 1) := by decide +kernel
theorem dX6_fault_29 : decode cX6_fault 29 = .ok (.ireturn, 1) := by decide +kernel
set_option maxRecDepth 20000 in
theorem ggX6_fill_X3_findFault : GoodIn wsX6_fill wsX3_findFault := goodIn_r _ [8, 9, 10, 11, 12, 13, 14, 7, 15, 16, 17, 18, 19, 20, 21, 22, 23, 24, 25, 26, 27, 28, 29, 30, 31, 32, 33, 34, 35, 36, 37, 38, 39, 40, 41, 42, 43, 44, 45, 214, 215, 216, 217, 218, 219, 220, 221, 222] (by decide +kernel) (by decide +kernel)
set_option maxRecDepth 20000 in
theorem gX6_fill_X3_findFault : GoodIn wsX6_fill (wsV RX6 80 RX3 yX3_findFault wsX3_findFault) := goodIn_app (goodIn_of _ (by decide +kernel)) ggX6_fill_X3_findFault
set_option maxRecDepth 20000 in
theorem ggX6_fill_X3_items : GoodIn wsX6_fill wsX3_items := goodIn_r _ [49, 9, 214, 215, 216, 217, 218, 219, 220, 221, 222] (by decide +kernel) (by decide +kernel)
set_option maxRecDepth 20000 in
theorem gX6_fill_X3_items : GoodIn wsX6_fill (wsV RX6 84 RX3 yX3_items wsX3_items) := goodIn_app (goodIn_of _ (by decide +kernel)) ggX6_fill_X3_items
set_option maxRecDepth 20000 in
theorem ggX6_fill_X4_table : GoodIn wsX6_fill wsX4_table := goodIn_r _ [54, 55, 56, 223, 224, 225, 226, 227, 228, 229, 230] (by decide +kernel) (by decide +kernel)
set_option maxRecDepth 20000 in
theorem gX6_fill_X4_table : GoodIn wsX6_fill (wsV RX6 87 RX4 yX4_table wsX4_table) := goodIn_app (goodIn_of _ (by decide +kernel)) ggX6_fill_X4_table
set_option maxRecDepth 20000 in
theorem ggX6_fill_X5_size : GoodIn wsX6_fill wsX5_size := goodIn_r _ [61, 62, 231, 232, 233] (by decide +kernel) (by decide +kernel)
set_option maxRecDepth 20000 in
theorem gX6_fill_X5_size : GoodIn wsX6_fill (wsV RX6 91 RX5 yX5_size wsX5_size) := goodIn_app (goodIn_of _ (by decide +kernel)) ggX6_fill_X5_size
set_option maxRecDepth 20000 in
theorem ggX6_fill_X1_prepare : GoodIn wsX6_fill wsX1_prepare := goodIn_r _ [67, 68, 69, 70, 71, 66, 72, 73, 74, 75, 76, 53, 77, 56, 55, 78, 79, 80, 81, 82, 83, 84, 85, 86, 60, 87, 88, 89, 62, 90, 91, 92, 93, 94, 95, 96, 97, 98, 99, 100, 101, 102, 103, 104, 105, 106, 107, 108, 109, 110, 111, 112, 113, 114, 115, 116, 117, 234, 235, 236, 223, 224, 225, 226, 227, 228, 229, 230, 231, 232, 233, 237, 238, 239, 240, 241, 242, 243] (by decide +kernel) (by decide +kernel)
set_option maxRecDepth 20000 in
theorem gX6_fill_X1_prepare : GoodIn wsX6_fill (wsV RX6 36 RX1 yX1_prepare wsX1_prepare) := goodIn_app (goodIn_of _ (by decide +kernel)) ggX6_fill_X1_prepare
set_option maxRecDepth 20000 in
theorem ggX6_fill_X3_open : GoodIn wsX6_fill wsX3_open := goodIn_r _ [15, 16, 10, 214, 215, 216, 217, 218, 219, 220, 221, 222] (by decide +kernel) (by decide +kernel)
set_option maxRecDepth 20000 in
theorem gX6_fill_X3_open : GoodIn wsX6_fill (wsV RX6 96 RX3 yX3_open wsX3_open) := goodIn_app (goodIn_of _ (by decide +kernel)) ggX6_fill_X3_open
set_option maxRecDepth 20000 in
theorem ggX6_fill_X3_next : GoodIn wsX6_fill wsX3_next := goodIn_r _ [20, 10, 16, 21, 22, 23, 24, 7, 25, 26, 27, 28, 29, 11, 30, 31, 32, 33, 34, 35, 36, 37, 38, 39, 40, 41, 42, 43, 44, 45, 214, 215, 216, 217, 218, 219, 220, 221, 222] (by decide +kernel) (by decide +kernel)
set_option maxRecDepth 20000 in
theorem gX6_fill_X3_next : GoodIn wsX6_fill (wsV RX6 100 RX3 yX3_next wsX3_next) := goodIn_app (goodIn_of _ (by decide +kernel)) ggX6_fill_X3_next
set_option maxRecDepth 20000 in
theorem ggX6_fill_X3_first : GoodIn wsX6_fill wsX3_first := goodIn_r _ [123, 36, 214, 215, 216, 217, 218, 219, 220, 221, 222] (by decide +kernel) (by decide +kernel)
set_option maxRecDepth 20000 in
theorem gX6_fill_X3_first : GoodIn wsX6_fill (wsV RX6 104 RX3 yX3_first wsX3_first) := goodIn_app (goodIn_of _ (by decide +kernel)) ggX6_fill_X3_first
set_option maxRecDepth 20000 in
theorem ggX6_fill_X3_second : GoodIn wsX6_fill wsX3_second := goodIn_r _ [127, 45, 214, 215, 216, 217, 218, 219, 220, 221, 222] (by decide +kernel) (by decide +kernel)
set_option maxRecDepth 20000 in
theorem gX6_fill_X3_second : GoodIn wsX6_fill (wsV RX6 107 RX3 yX3_second wsX3_second) := goodIn_app (goodIn_of _ (by decide +kernel)) ggX6_fill_X3_second
set_option maxRecDepth 20000 in
theorem ggX6_fill_X4_insertRow : GoodIn wsX6_fill wsX4_insertRow := goodIn_r _ [131, 132, 91, 133, 134, 135, 136, 137, 138, 139, 140, 51, 52, 53, 54, 55, 56, 141, 58, 59, 60, 61, 62, 142, 143, 144, 145, 146, 147, 148, 149, 88, 89, 150, 151, 152, 153, 80, 154, 155, 156, 157, 78, 158, 159, 160, 104, 161, 106, 107, 108, 162, 163, 164, 165, 166, 167, 168, 169, 170, 171, 172, 173, 174, 79, 81, 175, 176, 177, 112, 178, 114, 179, 180, 181, 182, 183, 184, 185, 186, 187, 188, 189, 190, 191, 192, 193, 194, 223, 224, 225, 226, 227, 228, 229, 230, 231, 232, 233, 237, 238, 239, 240, 241, 242, 243] (by decide +kernel) (by decide +kernel)
set_option maxRecDepth 20000 in
theorem gX6_fill_X4_insertRow : GoodIn wsX6_fill (wsV RX6 40 RX4 yX4_insertRow wsX4_insertRow) := goodIn_app (goodIn_of _ (by decide +kernel)) ggX6_fill_X4_insertRow
set_option maxRecDepth 20000 in
theorem ggX6_fill_X3_empty : GoodIn wsX6_fill wsX3_empty := goodIn_r _ [198, 11, 214, 215, 216, 217, 218, 219, 220, 221, 222] (by decide +kernel) (by decide +kernel)
set_option maxRecDepth 20000 in
theorem gX6_fill_X3_empty : GoodIn wsX6_fill (wsV RX6 73 RX3 yX3_empty wsX3_empty) := goodIn_app (goodIn_of _ (by decide +kernel)) ggX6_fill_X3_empty
set_option maxRecDepth 20000 in
theorem ggX6_fill_X1_commit : GoodIn wsX6_fill wsX1_commit := goodIn_r _ [202, 68, 203, 204, 94, 95, 96, 234, 235, 236] (by decide +kernel) (by decide +kernel)
set_option maxRecDepth 20000 in
theorem gX6_fill_X1_commit : GoodIn wsX6_fill (wsV RX6 44 RX1 yX1_commit wsX1_commit) := goodIn_app (goodIn_of _ (by decide +kernel)) ggX6_fill_X1_commit
theorem dX6_fill_0 : decode cX6_fill 0 = .ok (.aload_n 0, 1) := by decide +kernel
theorem dX6_fill_1 : decode cX6_fill 1 = .ok (.getfield 32, 3) := by decide +kernel
theorem dX6_fill_4 : decode cX6_fill 4 = .ok (.iconst 0, 1) := by decide +kernel
theorem dX6_fill_5 : decode cX6_fill 5 = .ok (.invokevirtual 80, 3) := by decide +kernel
theorem dX6_fill_8 : decode cX6_fill 8 = .ok (.bipush (-4), 2) := by decide +kernel
theorem dX6_fill_10 : decode cX6_fill 10 = .ok (.if_icmp .eq 6, 3) := by decide +kernel
theorem dX6_fill_13 : decode cX6_fill 13 = .ok (.bipush (-2), 2) := by decide +kernel
theorem dX6_fill_15 : decode cX6_fill 15 = .ok (.ireturn, 1) := by decide +kernel
theorem dX6_fill_16 : decode cX6_fill 16 = .ok (.aload_n 0, 1) := by decide +kernel
theorem dX6_fill_17 : decode cX6_fill 17 = .ok (.getfield 32, 3) := by decide +kernel
theorem dX6_fill_20 : decode cX6_fill 20 = .ok (.invokevirtual 84, 3) := by decide +kernel
theorem dX6_fill_23 : decode cX6_fill 23 = .ok (.istore_n 2, 1) := by decide +kernel
theorem dX6_fill_24 : decode cX6_fill 24 = .ok (.aload_n 0, 1) := by decide +kernel
theorem dX6_fill_25 : decode cX6_fill 25 = .ok (.getfield 10, 3) := by decide +kernel
theorem dX6_fill_28 : decode cX6_fill 28 = .ok (.iload_n 1, 1) := by decide +kernel
theorem dX6_fill_29 : decode cX6_fill 29 = .ok (.invokevirtual 87, 3) := by decide +kernel
theorem dX6_fill_32 : decode cX6_fill 32 = .ok (.invokevirtual 91, 3) := by decide +kernel
theorem dX6_fill_35 : decode cX6_fill 35 = .ok (.iload_n 2, 1) := by decide +kernel
theorem dX6_fill_36 : decode cX6_fill 36 = .ok (.iadd, 1) := by decide +kernel
theorem dX6_fill_37 : decode cX6_fill 37 = .ok (.bipush 20, 2) := by decide +kernel
theorem dX6_fill_39 : decode cX6_fill 39 = .ok (.if_icmp .le 6, 3) := by decide +kernel
theorem dX6_fill_42 : decode cX6_fill 42 = .ok (.bipush (-3), 2) := by decide +kernel
theorem dX6_fill_44 : decode cX6_fill 44 = .ok (.ireturn, 1) := by decide +kernel
theorem dX6_fill_45 : decode cX6_fill 45 = .ok (.aload_n 0, 1) := by decide +kernel
theorem dX6_fill_46 : decode cX6_fill 46 = .ok (.getfield 25, 3) := by decide +kernel
theorem dX6_fill_49 : decode cX6_fill 49 = .ok (.aload_n 0, 1) := by decide +kernel
theorem dX6_fill_50 : decode cX6_fill 50 = .ok (.getfield 10, 3) := by decide +kernel
theorem dX6_fill_53 : decode cX6_fill 53 = .ok (.invokevirtual 36, 3) := by decide +kernel
theorem dX6_fill_56 : decode cX6_fill 56 = .ok (.aload_n 0, 1) := by decide +kernel
theorem dX6_fill_57 : decode cX6_fill 57 = .ok (.getfield 32, 3) := by decide +kernel
theorem dX6_fill_60 : decode cX6_fill 60 = .ok (.iconst 0, 1) := by decide +kernel
theorem dX6_fill_61 : decode cX6_fill 61 = .ok (.invokevirtual 96, 3) := by decide +kernel
theorem dX6_fill_64 : decode cX6_fill 64 = .ok (.iconst 0, 1) := by decide +kernel
theorem dX6_fill_65 : decode cX6_fill 65 = .ok (.istore_n 3, 1) := by decide +kernel
theorem dX6_fill_66 : decode cX6_fill 66 = .ok (.iload_n 3, 1) := by decide +kernel
theorem dX6_fill_67 : decode cX6_fill 67 = .ok (.iload_n 2, 1) := by decide +kernel
theorem dX6_fill_68 : decode cX6_fill 68 = .ok (.if_icmp .ge 42, 3) := by decide +kernel
theorem dX6_fill_71 : decode cX6_fill 71 = .ok (.aload_n 0, 1) := by decide +kernel
theorem dX6_fill_72 : decode cX6_fill 72 = .ok (.getfield 32, 3) := by decide +kernel
theorem dX6_fill_75 : decode cX6_fill 75 = .ok (.invokevirtual 100, 3) := by decide +kernel
theorem dX6_fill_78 : decode cX6_fill 78 = .ok (.ifCond .eq 32, 3) := by decide +kernel
theorem dX6_fill_81 : decode cX6_fill 81 = .ok (.aload_n 0, 1) := by decide +kernel
theorem dX6_fill_82 : decode cX6_fill 82 = .ok (.getfield 10, 3) := by decide +kernel
theorem dX6_fill_85 : decode cX6_fill 85 = .ok (.iload_n 1, 1) := by decide +kernel
theorem dX6_fill_86 : decode cX6_fill 86 = .ok (.aload_n 0, 1) := by decide +kernel
theorem dX6_fill_87 : decode cX6_fill 87 = .ok (.getfield 32, 3) := by decide +kernel
theorem dX6_fill_90 : decode cX6_fill 90 = .ok (.invokevirtual 104, 3) := by decide +kernel
theorem dX6_fill_93 : decode cX6_fill 93 = .ok (.aload_n 0, 1) := by decide +kernel
theorem dX6_fill_94 : decode cX6_fill 94 = .ok (.getfield 32, 3) := by decide +kernel
theorem dX6_fill_97 : decode cX6_fill 97 = .ok (.invokevirtual 107, 3) := by decide +kernel
theorem dX6_fill_100 : decode cX6_fill 100 = .ok (.invokevirtual 40, 3) := by decide +kernel
theorem dX6_fill_103 : decode cX6_fill 103 = .ok (.pop, 1) := by decide +kernel
theorem dX6_fill_104 : decode cX6_fill 104 = .ok (.iinc 3 1, 3) := by decide +kernel
theorem dX6_fill_107 : decode cX6_fill 107 = .ok (.goto (-41), 3) := by decide +kernel
theorem dX6_fill_110 : decode cX6_fill 110 = .ok (.aload_n 0, 1) := by decide +kernel
theorem dX6_fill_111 : decode cX6_fill 111 = .ok (.getfield 32, 3) := by decide +kernel
theorem dX6_fill_114 : decode cX6_fill 114 = .ok (.invokevirtual 73, 3) := by decide +kernel
theorem dX6_fill_117 : decode cX6_fill 117 = .ok (.pop, 1) := by decide +kernel
theorem dX6_fill_118 : decode cX6_fill 118 = .ok (.aload_n 0, 1) := by decide +kernel
theorem dX6_fill_119 : decode cX6_fill 119 = .ok (.getfield 25, 3) := by decide +kernel
theorem dX6_fill_122 : decode cX6_fill 122 = .ok (.aload_n 0, 1) := by decide +kernel
theorem dX6_fill_123 : decode cX6_fill 123 = .ok (.getfield 10, 3) := by decide +kernel
theorem dX6_fill_126 : decode cX6_fill 126 = .ok (.iload_n 1, 1) := by decide +kernel
theorem dX6_fill_127 : decode cX6_fill 127 = .ok (.invokevirtual 87, 3) := by decide +kernel
theorem dX6_fill_130 : decode cX6_fill 130 = .ok (.invokevirtual 91, 3) := by decide +kernel
theorem dX6_fill_133 : decode cX6_fill 133 = .ok (.invokevirtual 44, 3) := by decide +kernel
theorem dX6_fill_136 : decode cX6_fill 136 = .ok (.ireturn, 1) := by decide +kernel
set_option maxRecDepth 20000 in
theorem ggX6_carryOut_X3_findFault : GoodIn wsX6_carryOut wsX3_findFault := goodIn_r _ [15, 16, 17, 18, 19, 20, 21, 14, 22, 23, 24, 25, 26, 27, 28, 29, 30, 31, 32, 33, 34, 35, 36, 37, 38, 39, 40, 41, 42, 43, 44, 45, 46, 47, 48, 49, 50, 51, 52, 292, 293, 294, 295, 296, 297, 298, 299, 300] (by decide +kernel) (by decide +kernel)
set_option maxRecDepth 20000 in
theorem gX6_carryOut_X3_findFault : GoodIn wsX6_carryOut (wsV RX6 80 RX3 yX3_findFault wsX3_findFault) := goodIn_app (goodIn_of _ (by decide +kernel)) ggX6_carryOut_X3_findFault
set_option maxRecDepth 20000 in
theorem ggX6_carryOut_X3_items : GoodIn wsX6_carryOut wsX3_items := goodIn_r _ [56, 16, 292, 293, 294, 295, 296, 297, 298, 299, 300] (by decide +kernel) (by decide +kernel)
set_option maxRecDepth 20000 in
theorem gX6_carryOut_X3_items : GoodIn wsX6_carryOut (wsV RX6 84 RX3 yX3_items wsX3_items) := goodIn_app (goodIn_of _ (by decide +kernel)) ggX6_carryOut_X3_items
set_option maxRecDepth 20000 in
theorem ggX6_carryOut_X1_prepare : GoodIn wsX6_carryOut wsX1_prepare := goodIn_r _ [61, 62, 63, 64, 65, 60, 66, 67, 68, 69, 70, 71, 72, 73, 74, 75, 76, 77, 78, 79, 80, 81, 82, 83, 84, 85, 86, 87, 88, 89, 90, 91, 5, 6, 7, 8, 92, 93, 94, 95, 96, 97, 98, 99, 100, 101, 102, 103, 104, 105, 106, 107, 108, 109, 110, 111, 112, 301, 302, 303, 304, 305, 306, 307, 308, 309, 310, 311, 312, 313, 314, 315, 316, 317, 318, 319, 320, 321] (by decide +kernel) (by decide +kernel)
set_option maxRecDepth 20000 in
theorem gX6_carryOut_X1_prepare : GoodIn wsX6_carryOut (wsV RX6 36 RX1 yX1_prepare wsX1_prepare) := goodIn_app (goodIn_of _ (by decide +kernel)) ggX6_carryOut_X1_prepare
set_option maxRecDepth 20000 in
theorem ggX6_carryOut_X3_open : GoodIn wsX6_carryOut wsX3_open := goodIn_r _ [22, 23, 17, 292, 293, 294, 295, 296, 297, 298, 299, 300] (by decide +kernel) (by decide +kernel)
set_option maxRecDepth 20000 in
theorem gX6_carryOut_X3_open : GoodIn wsX6_carryOut (wsV RX6 96 RX3 yX3_open wsX3_open) := goodIn_app (goodIn_of _ (by decide +kernel)) ggX6_carryOut_X3_open
set_option maxRecDepth 20000 in
theorem ggX6_carryOut_X3_next : GoodIn wsX6_carryOut wsX3_next := goodIn_r _ [27, 17, 23, 28, 29, 30, 31, 14, 32, 33, 34, 35, 36, 18, 37, 38, 39, 40, 41, 42, 43, 44, 45, 46, 47, 48, 49, 50, 51, 52, 292, 293, 294, 295, 296, 297, 298, 299, 300] (by decide +kernel) (by decide +kernel)
set_option maxRecDepth 20000 in
theorem gX6_carryOut_X3_next : GoodIn wsX6_carryOut (wsV RX6 100 RX3 yX3_next wsX3_next) := goodIn_app (goodIn_of _ (by decide +kernel)) ggX6_carryOut_X3_next
set_option maxRecDepth 20000 in
theorem ggX6_carryOut_X6_obey : GoodIn wsX6_carryOut wsX6_obey := goodIn_r _ [118, 1, 3, 119, 120, 121, 14, 122, 42, 123, 124, 125, 126, 43, 127, 128, 129, 71, 130, 79, 73, 78, 80, 75, 131, 132, 133, 84, 134, 88, 135, 136, 137, 138, 86, 139, 140, 141, 142, 76, 74, 77, 143, 144, 145, 107, 146, 109, 147, 148, 149, 150, 112, 110, 151, 152, 153, 99, 154, 101, 155, 156, 157, 158, 111, 159, 160, 161, 162, 163, 164, 165, 166, 167, 168, 169, 170, 171, 172, 173, 174, 175, 176, 177, 178, 179, 180, 181, 182, 87, 183, 184, 185, 186, 102, 187, 188, 189, 190, 52, 191, 192, 193, 194, 195, 90, 196, 197, 198, 199, 200, 201, 202, 203, 204, 205, 206, 207, 208, 209, 210, 211, 212, 213, 214, 215, 216, 217, 218, 219, 220, 221, 222, 223, 224, 225, 226, 103, 227, 228, 229, 230, 231, 232, 233, 234, 235, 236, 237, 238, 239, 240, 241, 242, 243, 244, 245, 246, 247, 248, 249, 250, 251, 252, 253, 254, 255, 256, 257, 258, 259, 260, 261, 262, 263, 264, 265, 266, 267, 268, 283, 284, 285, 286, 287, 288, 289, 290, 291, 292, 293, 294, 295, 296, 297, 298, 299, 300, 304, 305, 306, 307, 308, 309, 310, 311, 312, 313, 314, 318, 319, 320, 321, 315, 316, 317] (by decide +kernel) (by decide +kernel)
set_option maxRecDepth 20000 in
theorem gX6_carryOut_X6_obey : GoodIn wsX6_carryOut (wsV RX6 114 RX6 yX6_obey wsX6_obey) := goodIn_app (goodIn_of _ (by decide +kernel)) ggX6_carryOut_X6_obey
set_option maxRecDepth 20000 in
theorem ggX6_carryOut_X3_start : GoodIn wsX6_carryOut wsX3_start := goodIn_r _ [272, 28, 292, 293, 294, 295, 296, 297, 298, 299, 300] (by decide +kernel) (by decide +kernel)
set_option maxRecDepth 20000 in
theorem gX6_carryOut_X3_start : GoodIn wsX6_carryOut (wsV RX6 125 RX3 yX3_start wsX3_start) := goodIn_app (goodIn_of _ (by decide +kernel)) ggX6_carryOut_X3_start
set_option maxRecDepth 20000 in
theorem ggX6_carryOut_X3_empty : GoodIn wsX6_carryOut wsX3_empty := goodIn_r _ [276, 18, 292, 293, 294, 295, 296, 297, 298, 299, 300] (by decide +kernel) (by decide +kernel)
set_option maxRecDepth 20000 in
theorem gX6_carryOut_X3_empty : GoodIn wsX6_carryOut (wsV RX6 73 RX3 yX3_empty wsX3_empty) := goodIn_app (goodIn_of _ (by decide +kernel)) ggX6_carryOut_X3_empty
set_option maxRecDepth 20000 in
theorem ggX6_carryOut_X1_commit : GoodIn wsX6_carryOut wsX1_commit := goodIn_r _ [280, 62, 281, 282, 6, 7, 8, 301, 302, 303] (by decide +kernel) (by decide +kernel)
set_option maxRecDepth 20000 in
theorem gX6_carryOut_X1_commit : GoodIn wsX6_carryOut (wsV RX6 44 RX1 yX1_commit wsX1_commit) := goodIn_app (goodIn_of _ (by decide +kernel)) ggX6_carryOut_X1_commit
theorem dX6_carryOut_0 : decode cX6_carryOut 0 = .ok (.aload_n 0, 1) := by decide +kernel
theorem dX6_carryOut_1 : decode cX6_carryOut 1 = .ok (.getfield 32, 3) := by decide +kernel
theorem dX6_carryOut_4 : decode cX6_carryOut 4 = .ok (.iconst 1, 1) := by decide +kernel
theorem dX6_carryOut_5 : decode cX6_carryOut 5 = .ok (.invokevirtual 80, 3) := by decide +kernel
theorem dX6_carryOut_8 : decode cX6_carryOut 8 = .ok (.bipush (-4), 2) := by decide +kernel
theorem dX6_carryOut_10 : decode cX6_carryOut 10 = .ok (.if_icmp .eq 6, 3) := by decide +kernel
theorem dX6_carryOut_13 : decode cX6_carryOut 13 = .ok (.bipush (-2), 2) := by decide +kernel
theorem dX6_carryOut_15 : decode cX6_carryOut 15 = .ok (.ireturn, 1) := by decide +kernel
theorem dX6_carryOut_16 : decode cX6_carryOut 16 = .ok (.aload_n 0, 1) := by decide +kernel
theorem dX6_carryOut_17 : decode cX6_carryOut 17 = .ok (.getfield 32, 3) := by decide +kernel
theorem dX6_carryOut_20 : decode cX6_carryOut 20 = .ok (.invokevirtual 84, 3) := by decide +kernel
theorem dX6_carryOut_23 : decode cX6_carryOut 23 = .ok (.istore_n 1, 1) := by decide +kernel
theorem dX6_carryOut_24 : decode cX6_carryOut 24 = .ok (.aload_n 0, 1) := by decide +kernel
theorem dX6_carryOut_25 : decode cX6_carryOut 25 = .ok (.getfield 25, 3) := by decide +kernel
theorem dX6_carryOut_28 : decode cX6_carryOut 28 = .ok (.aload_n 0, 1) := by decide +kernel
theorem dX6_carryOut_29 : decode cX6_carryOut 29 = .ok (.getfield 10, 3) := by decide +kernel
theorem dX6_carryOut_32 : decode cX6_carryOut 32 = .ok (.invokevirtual 36, 3) := by decide +kernel
theorem dX6_carryOut_35 : decode cX6_carryOut 35 = .ok (.aload_n 0, 1) := by decide +kernel
theorem dX6_carryOut_36 : decode cX6_carryOut 36 = .ok (.getfield 32, 3) := by decide +kernel
theorem dX6_carryOut_39 : decode cX6_carryOut 39 = .ok (.iconst 1, 1) := by decide +kernel
theorem dX6_carryOut_40 : decode cX6_carryOut 40 = .ok (.invokevirtual 96, 3) := by decide +kernel
theorem dX6_carryOut_43 : decode cX6_carryOut 43 = .ok (.aload_n 0, 1) := by decide +kernel
theorem dX6_carryOut_44 : decode cX6_carryOut 44 = .ok (.iconst 0, 1) := by decide +kernel
theorem dX6_carryOut_45 : decode cX6_carryOut 45 = .ok (.putfield 110, 3) := by decide +kernel
theorem dX6_carryOut_48 : decode cX6_carryOut 48 = .ok (.iconst 0, 1) := by decide +kernel
theorem dX6_carryOut_49 : decode cX6_carryOut 49 = .ok (.istore_n 2, 1) := by decide +kernel
theorem dX6_carryOut_50 : decode cX6_carryOut 50 = .ok (.iload_n 2, 1) := by decide +kernel
theorem dX6_carryOut_51 : decode cX6_carryOut 51 = .ok (.iload_n 1, 1) := by decide +kernel
theorem dX6_carryOut_52 : decode cX6_carryOut 52 = .ok (.if_icmp .ge 45, 3) := by decide +kernel
theorem dX6_carryOut_55 : decode cX6_carryOut 55 = .ok (.aload_n 0, 1) := by decide +kernel
theorem dX6_carryOut_56 : decode cX6_carryOut 56 = .ok (.getfield 110, 3) := by decide +kernel
theorem dX6_carryOut_59 : decode cX6_carryOut 59 = .ok (.ifCond .ne 38, 3) := by decide +kernel
theorem dX6_carryOut_62 : decode cX6_carryOut 62 = .ok (.aload_n 0, 1) := by decide +kernel
theorem dX6_carryOut_63 : decode cX6_carryOut 63 = .ok (.getfield 32, 3) := by decide +kernel
theorem dX6_carryOut_66 : decode cX6_carryOut 66 = .ok (.invokevirtual 100, 3) := by decide +kernel
theorem dX6_carryOut_69 : decode cX6_carryOut 69 = .ok (.ifCond .eq 28, 3) := by decide +kernel
theorem dX6_carryOut_72 : decode cX6_carryOut 72 = .ok (.aload_n 0, 1) := by decide +kernel
theorem dX6_carryOut_73 : decode cX6_carryOut 73 = .ok (.iconst 0, 1) := by decide +kernel
theorem dX6_carryOut_74 : decode cX6_carryOut 74 = .ok (.aload_n 0, 1) := by decide +kernel
theorem dX6_carryOut_75 : decode cX6_carryOut 75 = .ok (.invokevirtual 114, 3) := by decide +kernel
theorem dX6_carryOut_78 : decode cX6_carryOut 78 = .ok (.invokestatic 117, 3) := by decide +kernel
theorem dX6_carryOut_81 : decode cX6_carryOut 81 = .ok (.putfield 110, 3) := by decide +kernel
theorem dX6_carryOut_84 : decode cX6_carryOut 84 = .ok (.aload_n 0, 1) := by decide +kernel
theorem dX6_carryOut_85 : decode cX6_carryOut 85 = .ok (.getfield 110, 3) := by decide +kernel
theorem dX6_carryOut_88 : decode cX6_carryOut 88 = .ok (.ifCond .ne (-38), 3) := by decide +kernel
theorem dX6_carryOut_91 : decode cX6_carryOut 91 = .ok (.iinc 2 1, 3) := by decide +kernel
theorem dX6_carryOut_94 : decode cX6_carryOut 94 = .ok (.goto (-44), 3) := by decide +kernel
theorem dX6_carryOut_97 : decode cX6_carryOut 97 = .ok (.aload_n 0, 1) := by decide +kernel
theorem dX6_carryOut_98 : decode cX6_carryOut 98 = .ok (.iload_n 2, 1) := by decide +kernel
theorem dX6_carryOut_99 : decode cX6_carryOut 99 = .ok (.putfield 122, 3) := by decide +kernel
theorem dX6_carryOut_102 : decode cX6_carryOut 102 = .ok (.aload_n 0, 1) := by decide +kernel
theorem dX6_carryOut_103 : decode cX6_carryOut 103 = .ok (.aload_n 0, 1) := by decide +kernel
theorem dX6_carryOut_104 : decode cX6_carryOut 104 = .ok (.getfield 32, 3) := by decide +kernel
theorem dX6_carryOut_107 : decode cX6_carryOut 107 = .ok (.invokevirtual 125, 3) := by decide +kernel
theorem dX6_carryOut_110 : decode cX6_carryOut 110 = .ok (.putfield 128, 3) := by decide +kernel
theorem dX6_carryOut_113 : decode cX6_carryOut 113 = .ok (.aload_n 0, 1) := by decide +kernel
theorem dX6_carryOut_114 : decode cX6_carryOut 114 = .ok (.getfield 32, 3) := by decide +kernel
theorem dX6_carryOut_117 : decode cX6_carryOut 117 = .ok (.invokevirtual 73, 3) := by decide +kernel
theorem dX6_carryOut_120 : decode cX6_carryOut 120 = .ok (.pop, 1) := by decide +kernel
theorem dX6_carryOut_121 : decode cX6_carryOut 121 = .ok (.aload_n 0, 1) := by decide +kernel
theorem dX6_carryOut_122 : decode cX6_carryOut 122 = .ok (.getfield 25, 3) := by decide +kernel
theorem dX6_carryOut_125 : decode cX6_carryOut 125 = .ok (.iload_n 2, 1) := by decide +kernel
theorem dX6_carryOut_126 : decode cX6_carryOut 126 = .ok (.invokevirtual 44, 3) := by decide +kernel
theorem dX6_carryOut_129 : decode cX6_carryOut 129 = .ok (.ireturn, 1) := by decide +kernel
set_option maxRecDepth 20000 in
theorem ggX6_why_X6_isWithin : GoodIn wsX6_why wsX6_isWithin := goodIn_r _ [7] (by decide +kernel) (by decide +kernel)
set_option maxRecDepth 20000 in
theorem gX6_why_X6_isWithin : GoodIn wsX6_why (va_wsS RX6 76 yX6_isWithin wsX6_isWithin) := goodIn_app (goodIn_of _ (by decide +kernel)) ggX6_why_X6_isWithin
theorem dX6_why_0 : decode cX6_why 0 = .ok (.iload_n 1, 1) := by decide +kernel
theorem dX6_why_1 : decode cX6_why 1 = .ok (.iconst 2, 1) := by decide +kernel
theorem dX6_why_2 : decode cX6_why 2 = .ok (.invokestatic 76, 3) := by decide +kernel
theorem dX6_why_5 : decode cX6_why 5 = .ok (.ifCond .ne 5, 3) := by decide +kernel
theorem dX6_why_8 : decode cX6_why 8 = .ok (.iconst (-1), 1) := by decide +kernel
theorem dX6_why_9 : decode cX6_why 9 = .ok (.ireturn, 1) := by decide +kernel
theorem dX6_why_10 : decode cX6_why 10 = .ok (.aload_n 0, 1) := by decide +kernel
theorem dX6_why_11 : decode cX6_why 11 = .ok (.getfield 110, 3) := by decide +kernel
theorem dX6_why_14 : decode cX6_why 14 = .ok (.ifCond .ne 6, 3) := by decide +kernel
theorem dX6_why_17 : decode cX6_why 17 = .ok (.bipush (-4), 2) := by decide +kernel
theorem dX6_why_19 : decode cX6_why 19 = .ok (.ireturn, 1) := by decide +kernel
theorem dX6_why_20 : decode cX6_why 20 = .ok (.iload_n 1, 1) := by decide +kernel
theorem dX6_why_21 : decode cX6_why 21 = .ok (.lookupswitch 37 #[(0, 27), (1, 32)], 27) := by decide +kernel
theorem dX6_why_48 : decode cX6_why 48 = .ok (.aload_n 0, 1) := by decide +kernel
theorem dX6_why_49 : decode cX6_why 49 = .ok (.getfield 110, 3) := by decide +kernel
theorem dX6_why_52 : decode cX6_why 52 = .ok (.ireturn, 1) := by decide +kernel
theorem dX6_why_53 : decode cX6_why 53 = .ok (.aload_n 0, 1) := by decide +kernel
theorem dX6_why_54 : decode cX6_why 54 = .ok (.getfield 122, 3) := by decide +kernel
theorem dX6_why_57 : decode cX6_why 57 = .ok (.ireturn, 1) := by decide +kernel
theorem dX6_why_58 : decode cX6_why 58 = .ok (.aload_n 0, 1) := by decide +kernel
theorem dX6_why_59 : decode cX6_why 59 = .ok (.getfield 128, 3) := by decide +kernel
theorem dX6_why_62 : decode cX6_why 62 = .ok (.ireturn, 1) := by decide +kernel
set_option maxRecDepth 20000 in
theorem ggX6_row_X4_table : GoodIn wsX6_row wsX4_table := goodIn_r _ [6, 7, 8, 61, 62, 63, 64, 65, 66, 67, 68] (by decide +kernel) (by decide +kernel)
set_option maxRecDepth 20000 in
theorem gX6_row_X4_table : GoodIn wsX6_row (wsV RX6 87 RX4 yX4_table wsX4_table) := goodIn_app (goodIn_of _ (by decide +kernel)) ggX6_row_X4_table
set_option maxRecDepth 20000 in
theorem ggX6_row_X5_has : GoodIn wsX6_row wsX5_has := goodIn_r _ [13, 14, 69, 70, 71] (by decide +kernel) (by decide +kernel)
set_option maxRecDepth 20000 in
theorem gX6_row_X5_has : GoodIn wsX6_row (wsV RX6 131 RX5 yX5_has wsX5_has) := goodIn_app (goodIn_of _ (by decide +kernel)) ggX6_row_X5_has
set_option maxRecDepth 20000 in
theorem ggX6_row_X6_isWithin : GoodIn wsX6_row wsX6_isWithin := goodIn_r _ [18] (by decide +kernel) (by decide +kernel)
set_option maxRecDepth 20000 in
theorem gX6_row_X6_isWithin : GoodIn wsX6_row (va_wsS RX6 76 yX6_isWithin wsX6_isWithin) := goodIn_app (goodIn_of _ (by decide +kernel)) ggX6_row_X6_isWithin
set_option maxRecDepth 20000 in
theorem ggX6_row_X5_key : GoodIn wsX6_row wsX5_key := goodIn_r _ [22, 23, 69, 70, 71] (by decide +kernel) (by decide +kernel)
set_option maxRecDepth 20000 in
theorem gX6_row_X5_key : GoodIn wsX6_row (wsV RX6 135 RX5 yX5_key wsX5_key) := goodIn_app (goodIn_of _ (by decide +kernel)) ggX6_row_X5_key
set_option maxRecDepth 20000 in
theorem ggX6_row_X5_value : GoodIn wsX6_row wsX5_value := goodIn_r _ [27, 28, 69, 70, 71] (by decide +kernel) (by decide +kernel)
set_option maxRecDepth 20000 in
theorem gX6_row_X5_value : GoodIn wsX6_row (wsV RX6 138 RX5 yX5_value wsX5_value) := goodIn_app (goodIn_of _ (by decide +kernel)) ggX6_row_X5_value
set_option maxRecDepth 20000 in
theorem ggX6_row_X4_isInRememberedAnswer : GoodIn wsX6_row wsX4_isInRememberedAnswer := goodIn_r _ [32, 33, 7, 34, 20, 21, 12, 22, 23, 35, 36, 37, 38, 39, 40, 41, 25, 26, 27, 28, 42, 43, 44, 5, 45, 46, 61, 62, 63, 64, 65, 66, 67, 68, 69, 70, 71, 72, 73, 74, 75] (by decide +kernel) (by decide +kernel)
set_option maxRecDepth 20000 in
theorem gX6_row_X4_isInRememberedAnswer : GoodIn wsX6_row (wsV RX6 141 RX4 yX4_isInRememberedAnswer wsX4_isInRememberedAnswer) := goodIn_app (goodIn_of _ (by decide +kernel)) ggX6_row_X4_isInRememberedAnswer
set_option maxRecDepth 20000 in
theorem ggX6_row_X4_isDone : GoodIn wsX6_row wsX4_isDone := goodIn_r _ [50, 51, 61, 62, 63, 64, 65, 66, 67, 68] (by decide +kernel) (by decide +kernel)
set_option maxRecDepth 20000 in
theorem gX6_row_X4_isDone : GoodIn wsX6_row (wsV RX6 144 RX4 yX4_isDone wsX4_isDone) := goodIn_app (goodIn_of _ (by decide +kernel)) ggX6_row_X4_isDone
theorem dX6_row_0 : decode cX6_row 0 = .ok (.aload_n 0, 1) := by decide +kernel
theorem dX6_row_1 : decode cX6_row 1 = .ok (.getfield 10, 3) := by decide +kernel
theorem dX6_row_4 : decode cX6_row 4 = .ok (.iload_n 1, 1) := by decide +kernel
theorem dX6_row_5 : decode cX6_row 5 = .ok (.invokevirtual 87, 3) := by decide +kernel
theorem dX6_row_8 : decode cX6_row 8 = .ok (.astore 4, 2) := by decide +kernel
theorem dX6_row_10 : decode cX6_row 10 = .ok (.aload 4, 2) := by decide +kernel
theorem dX6_row_12 : decode cX6_row 12 = .ok (.iload_n 2, 1) := by decide +kernel
theorem dX6_row_13 : decode cX6_row 13 = .ok (.invokevirtual 131, 3) := by decide +kernel
theorem dX6_row_16 : decode cX6_row 16 = .ok (.ifCond .eq 11, 3) := by decide +kernel
theorem dX6_row_19 : decode cX6_row 19 = .ok (.iload_n 3, 1) := by decide +kernel
theorem dX6_row_20 : decode cX6_row 20 = .ok (.iconst 2, 1) := by decide +kernel
theorem dX6_row_21 : decode cX6_row 21 = .ok (.invokestatic 76, 3) := by decide +kernel
theorem dX6_row_24 : decode cX6_row 24 = .ok (.ifCond .ne 5, 3) := by decide +kernel
theorem dX6_row_27 : decode cX6_row 27 = .ok (.iconst (-1), 1) := by decide +kernel
theorem dX6_row_28 : decode cX6_row 28 = .ok (.ireturn, 1) := by decide +kernel
theorem dX6_row_29 : decode cX6_row 29 = .ok (.iload_n 3, 1) := by decide +kernel
theorem dX6_row_30 : decode cX6_row 30 = .ok (.lookupswitch 40 #[(0, 26), (1, 33)], 26) := by decide +kernel
theorem dX6_row_56 : decode cX6_row 56 = .ok (.aload 4, 2) := by decide +kernel
theorem dX6_row_58 : decode cX6_row 58 = .ok (.iload_n 2, 1) := by decide +kernel
theorem dX6_row_59 : decode cX6_row 59 = .ok (.invokevirtual 135, 3) := by decide +kernel
theorem dX6_row_62 : decode cX6_row 62 = .ok (.ireturn, 1) := by decide +kernel
theorem dX6_row_63 : decode cX6_row 63 = .ok (.aload 4, 2) := by decide +kernel
theorem dX6_row_65 : decode cX6_row 65 = .ok (.iload_n 2, 1) := by decide +kernel
theorem dX6_row_66 : decode cX6_row 66 = .ok (.invokevirtual 138, 3) := by decide +kernel
theorem dX6_row_69 : decode cX6_row 69 = .ok (.ireturn, 1) := by decide +kernel
theorem dX6_row_70 : decode cX6_row 70 = .ok (.iload_n 1, 1) := by decide +kernel
theorem dX6_row_71 : decode cX6_row 71 = .ok (.ifCond .eq 17, 3) := by decide +kernel
theorem dX6_row_74 : decode cX6_row 74 = .ok (.aload_n 0, 1) := by decide +kernel
theorem dX6_row_75 : decode cX6_row 75 = .ok (.getfield 10, 3) := by decide +kernel
theorem dX6_row_78 : decode cX6_row 78 = .ok (.iload_n 2, 1) := by decide +kernel
theorem dX6_row_79 : decode cX6_row 79 = .ok (.invokevirtual 141, 3) := by decide +kernel
theorem dX6_row_82 : decode cX6_row 82 = .ok (.ifCond .eq 21, 3) := by decide +kernel
theorem dX6_row_85 : decode cX6_row 85 = .ok (.goto 14, 3) := by decide +kernel
theorem dX6_row_88 : decode cX6_row 88 = .ok (.aload_n 0, 1) := by decide +kernel
theorem dX6_row_89 : decode cX6_row 89 = .ok (.getfield 10, 3) := by decide +kernel
theorem dX6_row_92 : decode cX6_row 92 = .ok (.iload_n 2, 1) := by decide +kernel
theorem dX6_row_93 : decode cX6_row 93 = .ok (.invokevirtual 144, 3) := by decide +kernel
theorem dX6_row_96 : decode cX6_row 96 = .ok (.ifCond .eq 7, 3) := by decide +kernel
theorem dX6_row_99 : decode cX6_row 99 = .ok (.iconst 1, 1) := by decide +kernel
theorem dX6_row_100 : decode cX6_row 100 = .ok (.goto 4, 3) := by decide +kernel
theorem dX6_row_103 : decode cX6_row 103 = .ok (.iconst 0, 1) := by decide +kernel
theorem dX6_row_104 : decode cX6_row 104 = .ok (.ireturn, 1) := by decide +kernel
set_option maxRecDepth 20000 in
theorem ggX6_answer_X6_isKey : GoodIn wsX6_answer wsX6_isKey := goodIn_r _ [5, 6, 7, 4, 8] (by decide +kernel) (by decide +kernel)
set_option maxRecDepth 20000 in
theorem gX6_answer_X6_isKey : GoodIn wsX6_answer (va_wsS RX6 147 yX6_isKey wsX6_isKey) := goodIn_app (goodIn_of _ (by decide +kernel)) ggX6_answer_X6_isKey
set_option maxRecDepth 20000 in
theorem ggX6_answer_X6_isWithin : GoodIn wsX6_answer wsX6_isWithin := goodIn_r _ [8] (by decide +kernel) (by decide +kernel)
set_option maxRecDepth 20000 in
theorem gX6_answer_X6_isWithin : GoodIn wsX6_answer (va_wsS RX6 76 yX6_isWithin wsX6_isWithin) := goodIn_app (goodIn_of _ (by decide +kernel)) ggX6_answer_X6_isWithin
set_option maxRecDepth 20000 in
theorem ggX6_answer_X4_answers : GoodIn wsX6_answer wsX4_answers := goodIn_r _ [13, 14, 36, 37, 38, 39, 40, 41, 42, 43] (by decide +kernel) (by decide +kernel)
set_option maxRecDepth 20000 in
theorem gX6_answer_X4_answers : GoodIn wsX6_answer (wsV RX6 150 RX4 yX4_answers wsX4_answers) := goodIn_app (goodIn_of _ (by decide +kernel)) ggX6_answer_X4_answers
set_option maxRecDepth 20000 in
theorem ggX6_answer_X0_tell : GoodIn wsX6_answer wsX0_tell := goodIn_r _ [19, 20, 21, 22, 23, 24, 25, 18, 26, 44, 45, 46] (by decide +kernel) (by decide +kernel)
set_option maxRecDepth 20000 in
theorem gX6_answer_X0_tell : GoodIn wsX6_answer (wsV RX6 154 RX0 yX0_tell wsX0_tell) := goodIn_app (goodIn_of _ (by decide +kernel)) ggX6_answer_X0_tell
theorem dX6_answer_0 : decode cX6_answer 0 = .ok (.iload_n 1, 1) := by decide +kernel
theorem dX6_answer_1 : decode cX6_answer 1 = .ok (.invokestatic 147, 3) := by decide +kernel
theorem dX6_answer_4 : decode cX6_answer 4 = .ok (.ifCond .eq 26, 3) := by decide +kernel
theorem dX6_answer_7 : decode cX6_answer 7 = .ok (.iload_n 2, 1) := by decide +kernel
theorem dX6_answer_8 : decode cX6_answer 8 = .ok (.iconst 3, 1) := by decide +kernel
theorem dX6_answer_9 : decode cX6_answer 9 = .ok (.invokestatic 76, 3) := by decide +kernel
theorem dX6_answer_12 : decode cX6_answer 12 = .ok (.ifCond .eq 18, 3) := by decide +kernel
theorem dX6_answer_15 : decode cX6_answer 15 = .ok (.aload_n 0, 1) := by decide +kernel
theorem dX6_answer_16 : decode cX6_answer 16 = .ok (.getfield 10, 3) := by decide +kernel
theorem dX6_answer_19 : decode cX6_answer 19 = .ok (.invokevirtual 150, 3) := by decide +kernel
theorem dX6_answer_22 : decode cX6_answer 22 = .ok (.iload_n 1, 1) := by decide +kernel
theorem dX6_answer_23 : decode cX6_answer 23 = .ok (.iload_n 2, 1) := by decide +kernel
theorem dX6_answer_24 : decode cX6_answer 24 = .ok (.invokevirtual 154, 3) := by decide +kernel
theorem dX6_answer_27 : decode cX6_answer 27 = .ok (.goto 4, 3) := by decide +kernel
theorem dX6_answer_30 : decode cX6_answer 30 = .ok (.iconst (-1), 1) := by decide +kernel
theorem dX6_answer_31 : decode cX6_answer 31 = .ok (.ireturn, 1) := by decide +kernel
set_option maxRecDepth 20000 in
theorem ggX6_remembered_X6_isKey : GoodIn wsX6_remembered wsX6_isKey := goodIn_r _ [5, 6, 7, 4, 8] (by decide +kernel) (by decide +kernel)
set_option maxRecDepth 20000 in
theorem gX6_remembered_X6_isKey : GoodIn wsX6_remembered (va_wsS RX6 147 yX6_isKey wsX6_isKey) := goodIn_app (goodIn_of _ (by decide +kernel)) ggX6_remembered_X6_isKey
set_option maxRecDepth 20000 in
theorem ggX6_remembered_X6_isWithin : GoodIn wsX6_remembered wsX6_isWithin := goodIn_r _ [8] (by decide +kernel) (by decide +kernel)
set_option maxRecDepth 20000 in
theorem gX6_remembered_X6_isWithin : GoodIn wsX6_remembered (va_wsS RX6 76 yX6_isWithin wsX6_isWithin) := goodIn_app (goodIn_of _ (by decide +kernel)) ggX6_remembered_X6_isWithin
set_option maxRecDepth 20000 in
theorem ggX6_remembered_X4_memo : GoodIn wsX6_remembered wsX4_memo := goodIn_r _ [13, 14, 66, 67, 68, 69, 70, 71, 72, 73] (by decide +kernel) (by decide +kernel)
set_option maxRecDepth 20000 in
theorem gX6_remembered_X4_memo : GoodIn wsX6_remembered (wsV RX6 159 RX4 yX4_memo wsX4_memo) := goodIn_app (goodIn_of _ (by decide +kernel)) ggX6_remembered_X4_memo
set_option maxRecDepth 20000 in
theorem ggX6_remembered_X2_holds : GoodIn wsX6_remembered wsX2_holds := goodIn_r _ [19, 20, 74, 75, 76, 77] (by decide +kernel) (by decide +kernel)
set_option maxRecDepth 20000 in
theorem gX6_remembered_X2_holds : GoodIn wsX6_remembered (wsV RX6 163 RX2 yX2_holds wsX2_holds) := goodIn_app (goodIn_of _ (by decide +kernel)) ggX6_remembered_X2_holds
set_option maxRecDepth 20000 in
theorem ggX6_remembered_X2_uses : GoodIn wsX6_remembered wsX2_uses := goodIn_r _ [24, 20, 74, 75, 76, 77] (by decide +kernel) (by decide +kernel)
set_option maxRecDepth 20000 in
theorem gX6_remembered_X2_uses : GoodIn wsX6_remembered (wsV RX6 168 RX2 yX2_uses wsX2_uses) := goodIn_app (goodIn_of _ (by decide +kernel)) ggX6_remembered_X2_uses
set_option maxRecDepth 20000 in
theorem ggX6_remembered_X4_setting : GoodIn wsX6_remembered wsX4_setting := goodIn_r _ [28, 29, 66, 67, 68, 69, 70, 71, 72, 73] (by decide +kernel) (by decide +kernel)
set_option maxRecDepth 20000 in
theorem gX6_remembered_X4_setting : GoodIn wsX6_remembered (wsV RX6 171 RX4 yX4_setting wsX4_setting) := goodIn_app (goodIn_of _ (by decide +kernel)) ggX6_remembered_X4_setting
set_option maxRecDepth 20000 in
theorem ggX6_remembered_X2_placeOf : GoodIn wsX6_remembered wsX2_placeOf := goodIn_r _ [33, 20, 34, 35, 36, 18, 37, 38, 39, 74, 75, 76, 77] (by decide +kernel) (by decide +kernel)
set_option maxRecDepth 20000 in
theorem gX6_remembered_X2_placeOf : GoodIn wsX6_remembered (wsV RX6 174 RX2 yX2_placeOf wsX2_placeOf) := goodIn_app (goodIn_of _ (by decide +kernel)) ggX6_remembered_X2_placeOf
set_option maxRecDepth 20000 in
theorem ggX6_remembered_X4_answers : GoodIn wsX6_remembered wsX4_answers := goodIn_r _ [43, 44, 66, 67, 68, 69, 70, 71, 72, 73] (by decide +kernel) (by decide +kernel)
set_option maxRecDepth 20000 in
theorem gX6_remembered_X4_answers : GoodIn wsX6_remembered (wsV RX6 150 RX4 yX4_answers wsX4_answers) := goodIn_app (goodIn_of _ (by decide +kernel)) ggX6_remembered_X4_answers
set_option maxRecDepth 20000 in
theorem ggX6_remembered_X0_tell : GoodIn wsX6_remembered wsX0_tell := goodIn_r _ [49, 50, 51, 52, 53, 54, 55, 48, 56, 78, 79, 80] (by decide +kernel) (by decide +kernel)
set_option maxRecDepth 20000 in
theorem gX6_remembered_X0_tell : GoodIn wsX6_remembered (wsV RX6 154 RX0 yX0_tell wsX0_tell) := goodIn_app (goodIn_of _ (by decide +kernel)) ggX6_remembered_X0_tell
theorem dX6_remembered_0 : decode cX6_remembered 0 = .ok (.iload_n 1, 1) := by decide +kernel
theorem dX6_remembered_1 : decode cX6_remembered 1 = .ok (.invokestatic 147, 3) := by decide +kernel
theorem dX6_remembered_4 : decode cX6_remembered 4 = .ok (.ifCond .eq 11, 3) := by decide +kernel
theorem dX6_remembered_7 : decode cX6_remembered 7 = .ok (.iload_n 2, 1) := by decide +kernel
theorem dX6_remembered_8 : decode cX6_remembered 8 = .ok (.iconst 5, 1) := by decide +kernel
theorem dX6_remembered_9 : decode cX6_remembered 9 = .ok (.invokestatic 76, 3) := by decide +kernel
theorem dX6_remembered_12 : decode cX6_remembered 12 = .ok (.ifCond .ne 5, 3) := by decide +kernel
theorem dX6_remembered_15 : decode cX6_remembered 15 = .ok (.iconst (-1), 1) := by decide +kernel
theorem dX6_remembered_16 : decode cX6_remembered 16 = .ok (.ireturn, 1) := by decide +kernel
theorem dX6_remembered_17 : decode cX6_remembered 17 = .ok (.aload_n 0, 1) := by decide +kernel
theorem dX6_remembered_18 : decode cX6_remembered 18 = .ok (.getfield 10, 3) := by decide +kernel
theorem dX6_remembered_21 : decode cX6_remembered 21 = .ok (.invokevirtual 159, 3) := by decide +kernel
theorem dX6_remembered_24 : decode cX6_remembered 24 = .ok (.iload_n 1, 1) := by decide +kernel
theorem dX6_remembered_25 : decode cX6_remembered 25 = .ok (.invokevirtual 163, 3) := by decide +kernel
theorem dX6_remembered_28 : decode cX6_remembered 28 = .ok (.ifCond .ne 6, 3) := by decide +kernel
theorem dX6_remembered_31 : decode cX6_remembered 31 = .ok (.bipush (-4), 2) := by decide +kernel
theorem dX6_remembered_33 : decode cX6_remembered 33 = .ok (.ireturn, 1) := by decide +kernel
theorem dX6_remembered_34 : decode cX6_remembered 34 = .ok (.iload_n 2, 1) := by decide +kernel
theorem dX6_remembered_35 : decode cX6_remembered 35 = .ok (.lookupswitch 57 #[(4, 25), (5, 37)], 25) := by decide +kernel
theorem dX6_remembered_60 : decode cX6_remembered 60 = .ok (.aload_n 0, 1) := by decide +kernel
theorem dX6_remembered_61 : decode cX6_remembered 61 = .ok (.getfield 10, 3) := by decide +kernel
theorem dX6_remembered_64 : decode cX6_remembered 64 = .ok (.invokevirtual 159, 3) := by decide +kernel
theorem dX6_remembered_67 : decode cX6_remembered 67 = .ok (.iload_n 1, 1) := by decide +kernel
theorem dX6_remembered_68 : decode cX6_remembered 68 = .ok (.invokevirtual 168, 3) := by decide +kernel
theorem dX6_remembered_71 : decode cX6_remembered 71 = .ok (.ireturn, 1) := by decide +kernel
theorem dX6_remembered_72 : decode cX6_remembered 72 = .ok (.aload_n 0, 1) := by decide +kernel
theorem dX6_remembered_73 : decode cX6_remembered 73 = .ok (.getfield 10, 3) := by decide +kernel
theorem dX6_remembered_76 : decode cX6_remembered 76 = .ok (.invokevirtual 159, 3) := by decide +kernel
theorem dX6_remembered_79 : decode cX6_remembered 79 = .ok (.iload_n 1, 1) := by decide +kernel
theorem dX6_remembered_80 : decode cX6_remembered 80 = .ok (.aload_n 0, 1) := by decide +kernel
theorem dX6_remembered_81 : decode cX6_remembered 81 = .ok (.getfield 10, 3) := by decide +kernel
theorem dX6_remembered_84 : decode cX6_remembered 84 = .ok (.iconst 1, 1) := by decide +kernel
theorem dX6_remembered_85 : decode cX6_remembered 85 = .ok (.invokevirtual 171, 3) := by decide +kernel
theorem dX6_remembered_88 : decode cX6_remembered 88 = .ok (.invokevirtual 174, 3) := by decide +kernel
theorem dX6_remembered_91 : decode cX6_remembered 91 = .ok (.ireturn, 1) := by decide +kernel
theorem dX6_remembered_92 : decode cX6_remembered 92 = .ok (.aload_n 0, 1) := by decide +kernel
theorem dX6_remembered_93 : decode cX6_remembered 93 = .ok (.getfield 10, 3) := by decide +kernel
theorem dX6_remembered_96 : decode cX6_remembered 96 = .ok (.invokevirtual 150, 3) := by decide +kernel
theorem dX6_remembered_99 : decode cX6_remembered 99 = .ok (.iload_n 1, 1) := by decide +kernel
theorem dX6_remembered_100 : decode cX6_remembered 100 = .ok (.iload_n 2, 1) := by decide +kernel
theorem dX6_remembered_101 : decode cX6_remembered 101 = .ok (.invokevirtual 154, 3) := by decide +kernel
theorem dX6_remembered_104 : decode cX6_remembered 104 = .ok (.ireturn, 1) := by decide +kernel
set_option maxRecDepth 20000 in
theorem ggX6_count_X4_table : GoodIn wsX6_count wsX4_table := goodIn_r _ [8, 9, 10, 88, 89, 90, 91, 92, 93, 94, 95] (by decide +kernel) (by decide +kernel)
set_option maxRecDepth 20000 in
theorem gX6_count_X4_table : GoodIn wsX6_count (wsV RX6 87 RX4 yX4_table wsX4_table) := goodIn_app (goodIn_of _ (by decide +kernel)) ggX6_count_X4_table
set_option maxRecDepth 20000 in
theorem ggX6_count_X5_size : GoodIn wsX6_count wsX5_size := goodIn_r _ [15, 16, 96, 97, 98] (by decide +kernel) (by decide +kernel)
set_option maxRecDepth 20000 in
theorem gX6_count_X5_size : GoodIn wsX6_count (wsV RX6 91 RX5 yX5_size wsX5_size) := goodIn_app (goodIn_of _ (by decide +kernel)) ggX6_count_X5_size
set_option maxRecDepth 20000 in
theorem ggX6_count_X4_memo : GoodIn wsX6_count wsX4_memo := goodIn_r _ [20, 21, 88, 89, 90, 91, 92, 93, 94, 95] (by decide +kernel) (by decide +kernel)
set_option maxRecDepth 20000 in
theorem gX6_count_X4_memo : GoodIn wsX6_count (wsV RX6 159 RX4 yX4_memo wsX4_memo) := goodIn_app (goodIn_of _ (by decide +kernel)) ggX6_count_X4_memo
set_option maxRecDepth 20000 in
theorem ggX6_count_X2_size : GoodIn wsX6_count wsX2_size := goodIn_r _ [26, 27, 99, 100, 101, 102] (by decide +kernel) (by decide +kernel)
set_option maxRecDepth 20000 in
theorem gX6_count_X2_size : GoodIn wsX6_count (wsV RX6 177 RX2 yX2_size wsX2_size) := goodIn_app (goodIn_of _ (by decide +kernel)) ggX6_count_X2_size
set_option maxRecDepth 20000 in
theorem ggX6_count_X4_weightTogether : GoodIn wsX6_count wsX4_weightTogether := goodIn_r _ [31, 21, 32, 33, 34, 35, 25, 36, 27, 37, 38, 39, 40, 41, 42, 88, 89, 90, 91, 92, 93, 94, 95, 99, 100, 101, 102, 103, 104, 105] (by decide +kernel) (by decide +kernel)
set_option maxRecDepth 20000 in
theorem gX6_count_X4_weightTogether : GoodIn wsX6_count (wsV RX6 178 RX4 yX4_weightTogether wsX4_weightTogether) := goodIn_app (goodIn_of _ (by decide +kernel)) ggX6_count_X4_weightTogether
set_option maxRecDepth 20000 in
theorem ggX6_count_X4_place : GoodIn wsX6_count wsX4_place := goodIn_r _ [46, 47, 88, 89, 90, 91, 92, 93, 94, 95] (by decide +kernel) (by decide +kernel)
set_option maxRecDepth 20000 in
theorem gX6_count_X4_place : GoodIn wsX6_count (wsV RX6 181 RX4 yX4_place wsX4_place) := goodIn_app (goodIn_of _ (by decide +kernel)) ggX6_count_X4_place
set_option maxRecDepth 20000 in
theorem ggX6_count_X4_totalSoFar : GoodIn wsX6_count wsX4_totalSoFar := goodIn_r _ [51, 52, 88, 89, 90, 91, 92, 93, 94, 95] (by decide +kernel) (by decide +kernel)
set_option maxRecDepth 20000 in
theorem gX6_count_X4_totalSoFar : GoodIn wsX6_count (wsV RX6 184 RX4 yX4_totalSoFar wsX4_totalSoFar) := goodIn_app (goodIn_of _ (by decide +kernel)) ggX6_count_X4_totalSoFar
set_option maxRecDepth 20000 in
theorem ggX6_count_X4_setting : GoodIn wsX6_count wsX4_setting := goodIn_r _ [56, 57, 88, 89, 90, 91, 92, 93, 94, 95] (by decide +kernel) (by decide +kernel)
set_option maxRecDepth 20000 in
theorem gX6_count_X4_setting : GoodIn wsX6_count (wsV RX6 171 RX4 yX4_setting wsX4_setting) := goodIn_app (goodIn_of _ (by decide +kernel)) ggX6_count_X4_setting
set_option maxRecDepth 20000 in
theorem ggX6_count_X3_size : GoodIn wsX6_count wsX3_size := goodIn_r _ [62, 63, 106, 107, 108, 109, 110, 111, 112, 113, 114] (by decide +kernel) (by decide +kernel)
set_option maxRecDepth 20000 in
theorem gX6_count_X3_size : GoodIn wsX6_count (wsV RX6 187 RX3 yX3_size wsX3_size) := goodIn_app (goodIn_of _ (by decide +kernel)) ggX6_count_X3_size
set_option maxRecDepth 20000 in
theorem ggX6_count_X1_size : GoodIn wsX6_count wsX1_size := goodIn_r _ [68, 69, 115, 116, 117] (by decide +kernel) (by decide +kernel)
set_option maxRecDepth 20000 in
theorem gX6_count_X1_size : GoodIn wsX6_count (wsV RX6 188 RX1 yX1_size wsX1_size) := goodIn_app (goodIn_of _ (by decide +kernel)) ggX6_count_X1_size
set_option maxRecDepth 20000 in
theorem ggX6_count_X6_isWithin : GoodIn wsX6_count wsX6_isWithin := goodIn_r _ [73] (by decide +kernel) (by decide +kernel)
set_option maxRecDepth 20000 in
theorem gX6_count_X6_isWithin : GoodIn wsX6_count (va_wsS RX6 76 yX6_isWithin wsX6_isWithin) := goodIn_app (goodIn_of _ (by decide +kernel)) ggX6_count_X6_isWithin
set_option maxRecDepth 20000 in
theorem ggX6_count_X4_tally : GoodIn wsX6_count wsX4_tally := goodIn_r _ [77, 78, 88, 89, 90, 91, 92, 93, 94, 95] (by decide +kernel) (by decide +kernel)
set_option maxRecDepth 20000 in
theorem gX6_count_X4_tally : GoodIn wsX6_count (wsV RX6 189 RX4 yX4_tally wsX4_tally) := goodIn_app (goodIn_of _ (by decide +kernel)) ggX6_count_X4_tally
theorem dX6_count_0 : decode cX6_count 0 = .ok (.iload_n 1, 1) := by decide +kernel
theorem dX6_count_1 : decode cX6_count 1 = .ok (.tableswitch 182 0 19 #[95, 107, 119, 130, 138, 146, 182, 182, 182, 182, 182, 182, 182, 154, 154, 154, 154, 154, 166, 174], 95) := by decide +kernel
theorem dX6_count_96 : decode cX6_count 96 = .ok (.aload_n 0, 1) := by decide +kernel
theorem dX6_count_97 : decode cX6_count 97 = .ok (.getfield 10, 3) := by decide +kernel
theorem dX6_count_100 : decode cX6_count 100 = .ok (.iconst 0, 1) := by decide +kernel
theorem dX6_count_101 : decode cX6_count 101 = .ok (.invokevirtual 87, 3) := by decide +kernel
theorem dX6_count_104 : decode cX6_count 104 = .ok (.invokevirtual 91, 3) := by decide +kernel
theorem dX6_count_107 : decode cX6_count 107 = .ok (.ireturn, 1) := by decide +kernel
theorem dX6_count_108 : decode cX6_count 108 = .ok (.aload_n 0, 1) := by decide +kernel
theorem dX6_count_109 : decode cX6_count 109 = .ok (.getfield 10, 3) := by decide +kernel
theorem dX6_count_112 : decode cX6_count 112 = .ok (.iconst 1, 1) := by decide +kernel
theorem dX6_count_113 : decode cX6_count 113 = .ok (.invokevirtual 87, 3) := by decide +kernel
theorem dX6_count_116 : decode cX6_count 116 = .ok (.invokevirtual 91, 3) := by decide +kernel
theorem dX6_count_119 : decode cX6_count 119 = .ok (.ireturn, 1) := by decide +kernel
theorem dX6_count_120 : decode cX6_count 120 = .ok (.aload_n 0, 1) := by decide +kernel
theorem dX6_count_121 : decode cX6_count 121 = .ok (.getfield 10, 3) := by decide +kernel
theorem dX6_count_124 : decode cX6_count 124 = .ok (.invokevirtual 159, 3) := by decide +kernel
theorem dX6_count_127 : decode cX6_count 127 = .ok (.invokevirtual 177, 3) := by decide +kernel
theorem dX6_count_130 : decode cX6_count 130 = .ok (.ireturn, 1) := by decide +kernel
theorem dX6_count_131 : decode cX6_count 131 = .ok (.aload_n 0, 1) := by decide +kernel
theorem dX6_count_132 : decode cX6_count 132 = .ok (.getfield 10, 3) := by decide +kernel
theorem dX6_count_135 : decode cX6_count 135 = .ok (.invokevirtual 178, 3) := by decide +kernel
theorem dX6_count_138 : decode cX6_count 138 = .ok (.ireturn, 1) := by decide +kernel
theorem dX6_count_139 : decode cX6_count 139 = .ok (.aload_n 0, 1) := by decide +kernel
theorem dX6_count_140 : decode cX6_count 140 = .ok (.getfield 10, 3) := by decide +kernel
theorem dX6_count_143 : decode cX6_count 143 = .ok (.invokevirtual 181, 3) := by decide +kernel
theorem dX6_count_146 : decode cX6_count 146 = .ok (.ireturn, 1) := by decide +kernel
theorem dX6_count_147 : decode cX6_count 147 = .ok (.aload_n 0, 1) := by decide +kernel
theorem dX6_count_148 : decode cX6_count 148 = .ok (.getfield 10, 3) := by decide +kernel
theorem dX6_count_151 : decode cX6_count 151 = .ok (.invokevirtual 184, 3) := by decide +kernel
theorem dX6_count_154 : decode cX6_count 154 = .ok (.ireturn, 1) := by decide +kernel
theorem dX6_count_155 : decode cX6_count 155 = .ok (.aload_n 0, 1) := by decide +kernel
theorem dX6_count_156 : decode cX6_count 156 = .ok (.getfield 10, 3) := by decide +kernel
theorem dX6_count_159 : decode cX6_count 159 = .ok (.iload_n 1, 1) := by decide +kernel
theorem dX6_count_160 : decode cX6_count 160 = .ok (.bipush 13, 2) := by decide +kernel
theorem dX6_count_162 : decode cX6_count 162 = .ok (.isub, 1) := by decide +kernel
theorem dX6_count_163 : decode cX6_count 163 = .ok (.invokevirtual 171, 3) := by decide +kernel
theorem dX6_count_166 : decode cX6_count 166 = .ok (.ireturn, 1) := by decide +kernel
theorem dX6_count_167 : decode cX6_count 167 = .ok (.aload_n 0, 1) := by decide +kernel
theorem dX6_count_168 : decode cX6_count 168 = .ok (.getfield 32, 3) := by decide +kernel
theorem dX6_count_171 : decode cX6_count 171 = .ok (.invokevirtual 187, 3) := by decide +kernel
theorem dX6_count_174 : decode cX6_count 174 = .ok (.ireturn, 1) := by decide +kernel
theorem dX6_count_175 : decode cX6_count 175 = .ok (.aload_n 0, 1) := by decide +kernel
theorem dX6_count_176 : decode cX6_count 176 = .ok (.getfield 25, 3) := by decide +kernel
theorem dX6_count_179 : decode cX6_count 179 = .ok (.invokevirtual 188, 3) := by decide +kernel
theorem dX6_count_182 : decode cX6_count 182 = .ok (.ireturn, 1) := by decide +kernel
theorem dX6_count_183 : decode cX6_count 183 = .ok (.iload_n 1, 1) := by decide +kernel
theorem dX6_count_184 : decode cX6_count 184 = .ok (.bipush 19, 2) := by decide +kernel
theorem dX6_count_186 : decode cX6_count 186 = .ok (.invokestatic 76, 3) := by decide +kernel
theorem dX6_count_189 : decode cX6_count 189 = .ok (.ifCond .eq 17, 3) := by decide +kernel
theorem dX6_count_192 : decode cX6_count 192 = .ok (.aload_n 0, 1) := by decide +kernel
theorem dX6_count_193 : decode cX6_count 193 = .ok (.getfield 10, 3) := by decide +kernel
theorem dX6_count_196 : decode cX6_count 196 = .ok (.iload_n 1, 1) := by decide +kernel
theorem dX6_count_197 : decode cX6_count 197 = .ok (.bipush 6, 2) := by decide +kernel
theorem dX6_count_199 : decode cX6_count 199 = .ok (.isub, 1) := by decide +kernel
theorem dX6_count_200 : decode cX6_count 200 = .ok (.invokevirtual 189, 3) := by decide +kernel
theorem dX6_count_203 : decode cX6_count 203 = .ok (.goto 4, 3) := by decide +kernel
end
section
theorem dX6_count_206 : decode cX6_count 206 = .ok (.iconst (-1), 1) := by decide +kernel
theorem dX6_count_207 : decode cX6_count 207 = .ok (.ireturn, 1) := by decide +kernel
set_option maxRecDepth 20000 in
theorem ggX6_total_X6_isWithin : GoodIn wsX6_total wsX6_isWithin := goodIn_r _ [5] (by decide +kernel) (by decide +kernel)
set_option maxRecDepth 20000 in
theorem gX6_total_X6_isWithin : GoodIn wsX6_total (va_wsS RX6 76 yX6_isWithin wsX6_isWithin) := goodIn_app (goodIn_of _ (by decide +kernel)) ggX6_total_X6_isWithin
set_option maxRecDepth 20000 in
theorem ggX6_total_X4_totalByAnswers : GoodIn wsX6_total wsX4_totalByAnswers := goodIn_r _ [10, 11, 12, 13, 14, 15, 16, 17, 18, 19, 20, 21, 22, 23, 24, 25, 26, 27, 28, 29, 30, 31, 32, 33, 34, 54, 55, 56, 57, 58, 59, 60, 61, 62, 63, 64, 65, 66, 67] (by decide +kernel) (by decide +kernel)
set_option maxRecDepth 20000 in
theorem gX6_total_X4_totalByAnswers : GoodIn wsX6_total (wsV RX6 192 RX4 yX4_totalByAnswers wsX4_totalByAnswers) := goodIn_app (goodIn_of _ (by decide +kernel)) ggX6_total_X4_totalByAnswers
set_option maxRecDepth 20000 in
theorem ggX6_total_X4_totalByRows : GoodIn wsX6_total wsX4_totalByRows := goodIn_r _ [38, 11, 39, 13, 14, 15, 16, 17, 18, 24, 25, 26, 27, 28, 19, 20, 21, 22, 23, 40, 41, 42, 9, 43, 44, 54, 55, 56, 57, 58, 59, 60, 61, 62, 63, 64] (by decide +kernel) (by decide +kernel)
set_option maxRecDepth 20000 in
theorem gX6_total_X4_totalByRows : GoodIn wsX6_total (wsV RX6 195 RX4 yX4_totalByRows wsX4_totalByRows) := goodIn_app (goodIn_of _ (by decide +kernel)) ggX6_total_X4_totalByRows
theorem dX6_total_0 : decode cX6_total 0 = .ok (.iload_n 1, 1) := by decide +kernel
theorem dX6_total_1 : decode cX6_total 1 = .ok (.iconst 1, 1) := by decide +kernel
theorem dX6_total_2 : decode cX6_total 2 = .ok (.invokestatic 76, 3) := by decide +kernel
theorem dX6_total_5 : decode cX6_total 5 = .ok (.ifCond .ne 5, 3) := by decide +kernel
theorem dX6_total_8 : decode cX6_total 8 = .ok (.iconst (-1), 1) := by decide +kernel
theorem dX6_total_9 : decode cX6_total 9 = .ok (.ireturn, 1) := by decide +kernel
theorem dX6_total_10 : decode cX6_total 10 = .ok (.iload_n 1, 1) := by decide +kernel
theorem dX6_total_11 : decode cX6_total 11 = .ok (.ifCond .ne 13, 3) := by decide +kernel
theorem dX6_total_14 : decode cX6_total 14 = .ok (.aload_n 0, 1) := by decide +kernel
theorem dX6_total_15 : decode cX6_total 15 = .ok (.getfield 10, 3) := by decide +kernel
theorem dX6_total_18 : decode cX6_total 18 = .ok (.invokevirtual 192, 3) := by decide +kernel
theorem dX6_total_21 : decode cX6_total 21 = .ok (.goto 10, 3) := by decide +kernel
theorem dX6_total_24 : decode cX6_total 24 = .ok (.aload_n 0, 1) := by decide +kernel
theorem dX6_total_25 : decode cX6_total 25 = .ok (.getfield 10, 3) := by decide +kernel
theorem dX6_total_28 : decode cX6_total 28 = .ok (.invokevirtual 195, 3) := by decide +kernel
theorem dX6_total_31 : decode cX6_total 31 = .ok (.ireturn, 1) := by decide +kernel
set_option maxRecDepth 20000 in
theorem ggX6_rate_X4_tally : GoodIn wsX6_rate wsX4_tally := goodIn_r _ [6, 7, 17, 18, 19, 20, 21, 22, 23, 24] (by decide +kernel) (by decide +kernel)
set_option maxRecDepth 20000 in
theorem gX6_rate_X4_tally : GoodIn wsX6_rate (wsV RX6 189 RX4 yX4_tally wsX4_tally) := goodIn_app (goodIn_of _ (by decide +kernel)) ggX6_rate_X4_tally
theorem dX6_rate_0 : decode cX6_rate 0 = .ok (.aload_n 0, 1) := by decide +kernel
theorem dX6_rate_1 : decode cX6_rate 1 = .ok (.getfield 10, 3) := by decide +kernel
theorem dX6_rate_4 : decode cX6_rate 4 = .ok (.iconst 0, 1) := by decide +kernel
theorem dX6_rate_5 : decode cX6_rate 5 = .ok (.invokevirtual 189, 3) := by decide +kernel
theorem dX6_rate_8 : decode cX6_rate 8 = .ok (.istore_n 1, 1) := by decide +kernel
theorem dX6_rate_9 : decode cX6_rate 9 = .ok (.iload_n 1, 1) := by decide +kernel
theorem dX6_rate_10 : decode cX6_rate 10 = .ok (.aload_n 0, 1) := by decide +kernel
theorem dX6_rate_11 : decode cX6_rate 11 = .ok (.getfield 10, 3) := by decide +kernel
theorem dX6_rate_14 : decode cX6_rate 14 = .ok (.iconst 1, 1) := by decide +kernel
theorem dX6_rate_15 : decode cX6_rate 15 = .ok (.invokevirtual 189, 3) := by decide +kernel
theorem dX6_rate_18 : decode cX6_rate 18 = .ok (.iadd, 1) := by decide +kernel
theorem dX6_rate_19 : decode cX6_rate 19 = .ok (.istore_n 2, 1) := by decide +kernel
theorem dX6_rate_20 : decode cX6_rate 20 = .ok (.iload_n 2, 1) := by decide +kernel
theorem dX6_rate_21 : decode cX6_rate 21 = .ok (.ifCond .ne 7, 3) := by decide +kernel
theorem dX6_rate_24 : decode cX6_rate 24 = .ok (.dconst 0, 1) := by decide +kernel
theorem dX6_rate_25 : decode cX6_rate 25 = .ok (.goto 8, 3) := by decide +kernel
theorem dX6_rate_28 : decode cX6_rate 28 = .ok (.iload_n 1, 1) := by decide +kernel
theorem dX6_rate_29 : decode cX6_rate 29 = .ok (.i2d, 1) := by decide +kernel
theorem dX6_rate_30 : decode cX6_rate 30 = .ok (.iload_n 2, 1) := by decide +kernel
theorem dX6_rate_31 : decode cX6_rate 31 = .ok (.i2d, 1) := by decide +kernel
theorem dX6_rate_32 : decode cX6_rate 32 = .ok (.ddiv, 1) := by decide +kernel
theorem dX6_rate_33 : decode cX6_rate 33 = .ok (.dreturn, 1) := by decide +kernel
set_option maxRecDepth 20000 in
theorem ggX6_ifBound_X6_isWithin : GoodIn wsX6_ifBound wsX6_isWithin := goodIn_r _ [4] (by decide +kernel) (by decide +kernel)
set_option maxRecDepth 20000 in
theorem gX6_ifBound_X6_isWithin : GoodIn wsX6_ifBound (va_wsS RX6 76 yX6_isWithin wsX6_isWithin) := goodIn_app (goodIn_of _ (by decide +kernel)) ggX6_ifBound_X6_isWithin
set_option maxRecDepth 20000 in
theorem ggX6_ifBound_X6_tryBound : GoodIn wsX6_ifBound wsX6_tryBound := goodIn_r _ [8, 9, 10, 11, 12, 13, 14, 15, 16, 17, 18, 19, 20, 21, 22, 23, 24, 25, 26, 27, 28, 29, 30, 31, 32, 3, 33, 34, 35, 36, 37, 38, 39, 40, 41, 42, 43, 44, 45, 46, 47, 48, 49, 50, 51, 52, 53, 54, 55, 56, 57, 58, 59, 60, 61, 62, 63, 64, 65, 66, 67, 68, 69, 70, 71, 72, 73, 74, 75, 76, 77, 78, 79, 80, 81, 82, 83, 84, 85, 86, 87, 88, 89, 90, 91, 92, 93, 94, 95, 96, 97, 98, 99, 100, 101, 102, 103, 104, 105, 106, 107, 108, 109, 110, 111, 112, 113, 114, 115, 116, 117, 118, 119, 120, 121, 122, 123, 124, 125, 126, 127, 128, 129, 130, 131, 132, 133, 134, 135, 136, 137, 138, 139, 140, 141, 142, 143, 144, 145, 146, 155, 156, 157, 158, 159, 160, 161, 162, 163, 164, 165, 166, 167, 168, 169, 170, 171, 172, 173, 174, 175, 176, 177, 178, 179, 180, 181] (by decide +kernel) (by decide +kernel)
set_option maxRecDepth 20000 in
theorem gX6_ifBound_X6_tryBound : GoodIn wsX6_ifBound (wsV RX6 198 RX6 yX6_tryBound wsX6_tryBound) := goodIn_app (goodIn_of _ (by decide +kernel)) ggX6_ifBound_X6_tryBound
set_option maxRecDepth 20000 in
theorem ggX6_ifBound_X6_brought : GoodIn wsX6_ifBound wsX6_brought := goodIn_r _ [150, 9, 10, 151, 152, 153, 14, 154, 21, 155, 156, 157, 158, 159, 160, 161, 162, 163, 164, 165, 166, 167, 168, 169, 170, 171] (by decide +kernel) (by decide +kernel)
set_option maxRecDepth 20000 in
theorem gX6_ifBound_X6_brought : GoodIn wsX6_ifBound (wsV RX6 202 RX6 yX6_brought wsX6_brought) := goodIn_app (goodIn_of _ (by decide +kernel)) ggX6_ifBound_X6_brought
theorem dX6_ifBound_0 : decode cX6_ifBound 0 = .ok (.iload_n 1, 1) := by decide +kernel
theorem dX6_ifBound_1 : decode cX6_ifBound 1 = .ok (.bipush 60, 2) := by decide +kernel
theorem dX6_ifBound_3 : decode cX6_ifBound 3 = .ok (.invokestatic 76, 3) := by decide +kernel
theorem dX6_ifBound_6 : decode cX6_ifBound 6 = .ok (.ifCond .eq 11, 3) := by decide +kernel
theorem dX6_ifBound_9 : decode cX6_ifBound 9 = .ok (.iload_n 2, 1) := by decide +kernel
theorem dX6_ifBound_10 : decode cX6_ifBound 10 = .ok (.iconst 3, 1) := by decide +kernel
theorem dX6_ifBound_11 : decode cX6_ifBound 11 = .ok (.invokestatic 76, 3) := by decide +kernel
theorem dX6_ifBound_14 : decode cX6_ifBound 14 = .ok (.ifCond .ne 5, 3) := by decide +kernel
theorem dX6_ifBound_17 : decode cX6_ifBound 17 = .ok (.iconst (-1), 1) := by decide +kernel
theorem dX6_ifBound_18 : decode cX6_ifBound 18 = .ok (.ireturn, 1) := by decide +kernel
theorem dX6_ifBound_19 : decode cX6_ifBound 19 = .ok (.aload_n 0, 1) := by decide +kernel
theorem dX6_ifBound_20 : decode cX6_ifBound 20 = .ok (.iload_n 1, 1) := by decide +kernel
theorem dX6_ifBound_21 : decode cX6_ifBound 21 = .ok (.invokevirtual 198, 3) := by decide +kernel
theorem dX6_ifBound_24 : decode cX6_ifBound 24 = .ok (.iload_n 2, 1) := by decide +kernel
theorem dX6_ifBound_25 : decode cX6_ifBound 25 = .ok (.tableswitch 45 0 2 #[27, 33, 39], 27) := by decide +kernel
theorem dX6_ifBound_52 : decode cX6_ifBound 52 = .ok (.aload_n 0, 1) := by decide +kernel
theorem dX6_ifBound_53 : decode cX6_ifBound 53 = .ok (.iconst 2, 1) := by decide +kernel
theorem dX6_ifBound_54 : decode cX6_ifBound 54 = .ok (.invokevirtual 202, 3) := by decide +kernel
theorem dX6_ifBound_57 : decode cX6_ifBound 57 = .ok (.ireturn, 1) := by decide +kernel
theorem dX6_ifBound_58 : decode cX6_ifBound 58 = .ok (.aload_n 0, 1) := by decide +kernel
theorem dX6_ifBound_59 : decode cX6_ifBound 59 = .ok (.iconst 0, 1) := by decide +kernel
theorem dX6_ifBound_60 : decode cX6_ifBound 60 = .ok (.invokevirtual 202, 3) := by decide +kernel
theorem dX6_ifBound_63 : decode cX6_ifBound 63 = .ok (.ireturn, 1) := by decide +kernel
theorem dX6_ifBound_64 : decode cX6_ifBound 64 = .ok (.aload_n 0, 1) := by decide +kernel
theorem dX6_ifBound_65 : decode cX6_ifBound 65 = .ok (.iconst 1, 1) := by decide +kernel
theorem dX6_ifBound_66 : decode cX6_ifBound 66 = .ok (.invokevirtual 202, 3) := by decide +kernel
theorem dX6_ifBound_69 : decode cX6_ifBound 69 = .ok (.ireturn, 1) := by decide +kernel
theorem dX6_ifBound_70 : decode cX6_ifBound 70 = .ok (.aload_n 0, 1) := by decide +kernel
theorem dX6_ifBound_71 : decode cX6_ifBound 71 = .ok (.iconst 3, 1) := by decide +kernel
theorem dX6_ifBound_72 : decode cX6_ifBound 72 = .ok (.invokevirtual 202, 3) := by decide +kernel
theorem dX6_ifBound_75 : decode cX6_ifBound 75 = .ok (.ireturn, 1) := by decide +kernel
set_option maxRecDepth 20000 in
theorem ggX6_ifOrdered_X6_isWithin : GoodIn wsX6_ifOrdered wsX6_isWithin := goodIn_r _ [6] (by decide +kernel) (by decide +kernel)
set_option maxRecDepth 20000 in
theorem gX6_ifOrdered_X6_isWithin : GoodIn wsX6_ifOrdered (va_wsS RX6 76 yX6_isWithin wsX6_isWithin) := goodIn_app (goodIn_of _ (by decide +kernel)) ggX6_ifOrdered_X6_isWithin
set_option maxRecDepth 20000 in
theorem ggX6_ifOrdered_X4_copyFrom : GoodIn wsX6_ifOrdered wsX4_copyFrom := goodIn_r _ [11, 12, 13, 14, 15, 16, 17, 18, 19, 20, 21, 22, 23, 24, 25, 26, 27, 28, 5, 29, 30, 31, 32, 33, 34, 35, 36, 37, 38, 39, 40, 41, 42, 43, 44, 45, 46, 47, 48, 49, 50, 51, 52, 53, 54, 158, 159, 160, 161, 162, 163, 164, 165, 166, 167, 168, 169, 170, 171, 172, 173, 174, 175] (by decide +kernel) (by decide +kernel)
set_option maxRecDepth 20000 in
theorem gX6_ifOrdered_X4_copyFrom : GoodIn wsX6_ifOrdered (wsV RX6 205 RX4 yX4_copyFrom wsX4_copyFrom) := goodIn_app (goodIn_of _ (by decide +kernel)) ggX6_ifOrdered_X4_copyFrom
set_option maxRecDepth 20000 in
theorem ggX6_ifOrdered_X4_table : GoodIn wsX6_ifOrdered wsX4_table := goodIn_r _ [58, 13, 12, 158, 159, 160, 161, 162, 163, 164, 165] (by decide +kernel) (by decide +kernel)
set_option maxRecDepth 20000 in
theorem gX6_ifOrdered_X4_table : GoodIn wsX6_ifOrdered (wsV RX6 87 RX4 yX4_table wsX4_table) := goodIn_app (goodIn_of _ (by decide +kernel)) ggX6_ifOrdered_X4_table
set_option maxRecDepth 20000 in
theorem ggX6_ifOrdered_X4_place : GoodIn wsX6_ifOrdered wsX4_place := goodIn_r _ [62, 18, 158, 159, 160, 161, 162, 163, 164, 165] (by decide +kernel) (by decide +kernel)
set_option maxRecDepth 20000 in
theorem gX6_ifOrdered_X4_place : GoodIn wsX6_ifOrdered (wsV RX6 181 RX4 yX4_place wsX4_place) := goodIn_app (goodIn_of _ (by decide +kernel)) ggX6_ifOrdered_X4_place
set_option maxRecDepth 20000 in
theorem ggX6_ifOrdered_X5_sortFrom : GoodIn wsX6_ifOrdered wsX5_sortFrom := goodIn_r _ [66, 27, 67, 68, 69, 23, 70, 25, 71, 72, 73, 74, 75, 76, 77, 78, 26, 79, 80, 81, 82, 166, 167, 168] (by decide +kernel) (by decide +kernel)
set_option maxRecDepth 20000 in
theorem gX6_ifOrdered_X5_sortFrom : GoodIn wsX6_ifOrdered (wsV RX6 208 RX5 yX5_sortFrom wsX5_sortFrom) := goodIn_app (goodIn_of _ (by decide +kernel)) ggX6_ifOrdered_X5_sortFrom
set_option maxRecDepth 20000 in
theorem ggX6_ifOrdered_X5_reverseFrom : GoodIn wsX6_ifOrdered wsX5_reverseFrom := goodIn_r _ [86, 27, 71, 72, 73, 23, 74, 67, 68, 69, 70, 25, 75, 76, 77, 78, 26, 79, 80, 81, 82, 166, 167, 168] (by decide +kernel) (by decide +kernel)
set_option maxRecDepth 20000 in
theorem gX6_ifOrdered_X5_reverseFrom : GoodIn wsX6_ifOrdered (wsV RX6 211 RX5 yX5_reverseFrom wsX5_reverseFrom) := goodIn_app (goodIn_of _ (by decide +kernel)) ggX6_ifOrdered_X5_reverseFrom
set_option maxRecDepth 20000 in
theorem ggX6_ifOrdered_X4_walk : GoodIn wsX6_ifOrdered wsX4_walk := goodIn_r _ [90, 18, 12, 17, 19, 14, 91, 92, 93, 23, 94, 27, 95, 68, 69, 70, 25, 96, 97, 98, 10, 99, 15, 13, 16, 100, 101, 102, 49, 103, 51, 104, 105, 106, 107, 54, 52, 108, 109, 110, 41, 111, 43, 112, 113, 114, 115, 53, 116, 117, 118, 119, 120, 121, 122, 123, 124, 125, 126, 127, 128, 129, 130, 131, 132, 133, 134, 135, 136, 76, 77, 78, 26, 137, 138, 139, 140, 44, 158, 159, 160, 161, 162, 163, 164, 165, 166, 167, 168, 172, 173, 174, 175, 169, 170, 171] (by decide +kernel) (by decide +kernel)
set_option maxRecDepth 20000 in
theorem gX6_ifOrdered_X4_walk : GoodIn wsX6_ifOrdered (wsV RX6 56 RX4 yX4_walk wsX4_walk) := goodIn_app (goodIn_of _ (by decide +kernel)) ggX6_ifOrdered_X4_walk
set_option maxRecDepth 20000 in
theorem ggX6_ifOrdered_X6_brought : GoodIn wsX6_ifOrdered wsX6_brought := goodIn_r _ [144, 1, 2, 145, 146, 147, 10, 148, 17, 149, 150, 151, 152, 153, 154, 155, 156, 157, 158, 159, 160, 161, 162, 163, 164, 165] (by decide +kernel) (by decide +kernel)
set_option maxRecDepth 20000 in
theorem gX6_ifOrdered_X6_brought : GoodIn wsX6_ifOrdered (wsV RX6 202 RX6 yX6_brought wsX6_brought) := goodIn_app (goodIn_of _ (by decide +kernel)) ggX6_ifOrdered_X6_brought
theorem dX6_ifOrdered_0 : decode cX6_ifOrdered 0 = .ok (.iload_n 1, 1) := by decide +kernel
theorem dX6_ifOrdered_1 : decode cX6_ifOrdered 1 = .ok (.iconst 2, 1) := by decide +kernel
theorem dX6_ifOrdered_2 : decode cX6_ifOrdered 2 = .ok (.invokestatic 76, 3) := by decide +kernel
theorem dX6_ifOrdered_5 : decode cX6_ifOrdered 5 = .ok (.ifCond .ne 5, 3) := by decide +kernel
theorem dX6_ifOrdered_8 : decode cX6_ifOrdered 8 = .ok (.iconst (-1), 1) := by decide +kernel
theorem dX6_ifOrdered_9 : decode cX6_ifOrdered 9 = .ok (.ireturn, 1) := by decide +kernel
theorem dX6_ifOrdered_10 : decode cX6_ifOrdered 10 = .ok (.aload_n 0, 1) := by decide +kernel
theorem dX6_ifOrdered_11 : decode cX6_ifOrdered 11 = .ok (.getfield 16, 3) := by decide +kernel
theorem dX6_ifOrdered_14 : decode cX6_ifOrdered 14 = .ok (.aload_n 0, 1) := by decide +kernel
theorem dX6_ifOrdered_15 : decode cX6_ifOrdered 15 = .ok (.getfield 10, 3) := by decide +kernel
theorem dX6_ifOrdered_18 : decode cX6_ifOrdered 18 = .ok (.invokevirtual 205, 3) := by decide +kernel
theorem dX6_ifOrdered_21 : decode cX6_ifOrdered 21 = .ok (.iload_n 1, 1) := by decide +kernel
theorem dX6_ifOrdered_22 : decode cX6_ifOrdered 22 = .ok (.iconst 1, 1) := by decide +kernel
theorem dX6_ifOrdered_23 : decode cX6_ifOrdered 23 = .ok (.if_icmp .ne 24, 3) := by decide +kernel
theorem dX6_ifOrdered_26 : decode cX6_ifOrdered 26 = .ok (.aload_n 0, 1) := by decide +kernel
theorem dX6_ifOrdered_27 : decode cX6_ifOrdered 27 = .ok (.getfield 16, 3) := by decide +kernel
theorem dX6_ifOrdered_30 : decode cX6_ifOrdered 30 = .ok (.iconst 0, 1) := by decide +kernel
theorem dX6_ifOrdered_31 : decode cX6_ifOrdered 31 = .ok (.invokevirtual 87, 3) := by decide +kernel
theorem dX6_ifOrdered_34 : decode cX6_ifOrdered 34 = .ok (.aload_n 0, 1) := by decide +kernel
theorem dX6_ifOrdered_35 : decode cX6_ifOrdered 35 = .ok (.getfield 16, 3) := by decide +kernel
theorem dX6_ifOrdered_38 : decode cX6_ifOrdered 38 = .ok (.invokevirtual 181, 3) := by decide +kernel
theorem dX6_ifOrdered_41 : decode cX6_ifOrdered 41 = .ok (.invokevirtual 208, 3) := by decide +kernel
theorem dX6_ifOrdered_44 : decode cX6_ifOrdered 44 = .ok (.goto 26, 3) := by decide +kernel
theorem dX6_ifOrdered_47 : decode cX6_ifOrdered 47 = .ok (.iload_n 1, 1) := by decide +kernel
theorem dX6_ifOrdered_48 : decode cX6_ifOrdered 48 = .ok (.iconst 2, 1) := by decide +kernel
theorem dX6_ifOrdered_49 : decode cX6_ifOrdered 49 = .ok (.if_icmp .ne 21, 3) := by decide +kernel
theorem dX6_ifOrdered_52 : decode cX6_ifOrdered 52 = .ok (.aload_n 0, 1) := by decide +kernel
theorem dX6_ifOrdered_53 : decode cX6_ifOrdered 53 = .ok (.getfield 16, 3) := by decide +kernel
theorem dX6_ifOrdered_56 : decode cX6_ifOrdered 56 = .ok (.iconst 0, 1) := by decide +kernel
theorem dX6_ifOrdered_57 : decode cX6_ifOrdered 57 = .ok (.invokevirtual 87, 3) := by decide +kernel
theorem dX6_ifOrdered_60 : decode cX6_ifOrdered 60 = .ok (.aload_n 0, 1) := by decide +kernel
theorem dX6_ifOrdered_61 : decode cX6_ifOrdered 61 = .ok (.getfield 16, 3) := by decide +kernel
theorem dX6_ifOrdered_64 : decode cX6_ifOrdered 64 = .ok (.invokevirtual 181, 3) := by decide +kernel
theorem dX6_ifOrdered_67 : decode cX6_ifOrdered 67 = .ok (.invokevirtual 211, 3) := by decide +kernel
theorem dX6_ifOrdered_70 : decode cX6_ifOrdered 70 = .ok (.aload_n 0, 1) := by decide +kernel
theorem dX6_ifOrdered_71 : decode cX6_ifOrdered 71 = .ok (.getfield 16, 3) := by decide +kernel
theorem dX6_ifOrdered_74 : decode cX6_ifOrdered 74 = .ok (.bipush 20, 2) := by decide +kernel
theorem dX6_ifOrdered_76 : decode cX6_ifOrdered 76 = .ok (.invokevirtual 56, 3) := by decide +kernel
theorem dX6_ifOrdered_79 : decode cX6_ifOrdered 79 = .ok (.pop, 1) := by decide +kernel
theorem dX6_ifOrdered_80 : decode cX6_ifOrdered 80 = .ok (.aload_n 0, 1) := by decide +kernel
theorem dX6_ifOrdered_81 : decode cX6_ifOrdered 81 = .ok (.iconst 2, 1) := by decide +kernel
theorem dX6_ifOrdered_82 : decode cX6_ifOrdered 82 = .ok (.invokevirtual 202, 3) := by decide +kernel
theorem dX6_ifOrdered_85 : decode cX6_ifOrdered 85 = .ok (.ireturn, 1) := by decide +kernel
set_option maxRecDepth 20000 in
theorem ggX6_leastBound_X6_tryBound : GoodIn wsX6_leastBound wsX6_tryBound := goodIn_r _ [5, 6, 7, 8, 9, 10, 11, 12, 13, 14, 15, 16, 17, 18, 19, 20, 21, 22, 23, 24, 25, 26, 27, 28, 29, 4, 30, 31, 32, 33, 34, 35, 36, 37, 38, 39, 40, 41, 42, 43, 44, 45, 46, 47, 48, 49, 50, 51, 52, 53, 54, 55, 56, 57, 58, 59, 60, 61, 62, 63, 64, 65, 66, 67, 68, 69, 70, 71, 72, 73, 74, 75, 76, 77, 78, 79, 80, 81, 82, 83, 84, 85, 86, 87, 88, 89, 90, 91, 92, 93, 94, 95, 96, 97, 98, 99, 100, 101, 102, 103, 104, 105, 106, 107, 108, 109, 110, 111, 112, 113, 114, 115, 116, 117, 118, 119, 120, 121, 122, 123, 124, 125, 126, 127, 128, 129, 130, 131, 132, 133, 134, 135, 136, 137, 138, 139, 140, 141, 142, 143, 152, 153, 154, 155, 156, 157, 158, 159, 160, 161, 162, 163, 164, 165, 166, 167, 168, 169, 170, 171, 172, 173, 174, 175, 176, 177, 178] (by decide +kernel) (by decide +kernel)
set_option maxRecDepth 20000 in
theorem gX6_leastBound_X6_tryBound : GoodIn wsX6_leastBound (wsV RX6 198 RX6 yX6_tryBound wsX6_tryBound) := goodIn_app (goodIn_of _ (by decide +kernel)) ggX6_leastBound_X6_tryBound
set_option maxRecDepth 20000 in
theorem ggX6_leastBound_X6_brought : GoodIn wsX6_leastBound wsX6_brought := goodIn_r _ [147, 6, 7, 148, 149, 150, 11, 151, 18, 152, 153, 154, 155, 156, 157, 158, 159, 160, 161, 162, 163, 164, 165, 166, 167, 168] (by decide +kernel) (by decide +kernel)
set_option maxRecDepth 20000 in
theorem gX6_leastBound_X6_brought : GoodIn wsX6_leastBound (wsV RX6 202 RX6 yX6_brought wsX6_brought) := goodIn_app (goodIn_of _ (by decide +kernel)) ggX6_leastBound_X6_brought
theorem dX6_leastBound_0 : decode cX6_leastBound 0 = .ok (.aload_n 0, 1) := by decide +kernel
theorem dX6_leastBound_1 : decode cX6_leastBound 1 = .ok (.iconst 0, 1) := by decide +kernel
theorem dX6_leastBound_2 : decode cX6_leastBound 2 = .ok (.invokevirtual 198, 3) := by decide +kernel
theorem dX6_leastBound_5 : decode cX6_leastBound 5 = .ok (.iconst 0, 1) := by decide +kernel
theorem dX6_leastBound_6 : decode cX6_leastBound 6 = .ok (.istore_n 1, 1) := by decide +kernel
theorem dX6_leastBound_7 : decode cX6_leastBound 7 = .ok (.aload_n 0, 1) := by decide +kernel
theorem dX6_leastBound_8 : decode cX6_leastBound 8 = .ok (.iconst 2, 1) := by decide +kernel
theorem dX6_leastBound_9 : decode cX6_leastBound 9 = .ok (.invokevirtual 202, 3) := by decide +kernel
theorem dX6_leastBound_12 : decode cX6_leastBound 12 = .ok (.istore_n 2, 1) := by decide +kernel
theorem dX6_leastBound_13 : decode cX6_leastBound 13 = .ok (.iconst 1, 1) := by decide +kernel
theorem dX6_leastBound_14 : decode cX6_leastBound 14 = .ok (.istore_n 3, 1) := by decide +kernel
theorem dX6_leastBound_15 : decode cX6_leastBound 15 = .ok (.iload_n 3, 1) := by decide +kernel
theorem dX6_leastBound_16 : decode cX6_leastBound 16 = .ok (.bipush 60, 2) := by decide +kernel
theorem dX6_leastBound_18 : decode cX6_leastBound 18 = .ok (.if_icmp .gt 32, 3) := by decide +kernel
theorem dX6_leastBound_21 : decode cX6_leastBound 21 = .ok (.aload_n 0, 1) := by decide +kernel
theorem dX6_leastBound_22 : decode cX6_leastBound 22 = .ok (.iload_n 3, 1) := by decide +kernel
theorem dX6_leastBound_23 : decode cX6_leastBound 23 = .ok (.invokevirtual 198, 3) := by decide +kernel
theorem dX6_leastBound_26 : decode cX6_leastBound 26 = .ok (.aload_n 0, 1) := by decide +kernel
theorem dX6_leastBound_27 : decode cX6_leastBound 27 = .ok (.iconst 2, 1) := by decide +kernel
theorem dX6_leastBound_28 : decode cX6_leastBound 28 = .ok (.invokevirtual 202, 3) := by decide +kernel
theorem dX6_leastBound_31 : decode cX6_leastBound 31 = .ok (.istore 4, 2) := by decide +kernel
theorem dX6_leastBound_33 : decode cX6_leastBound 33 = .ok (.iload 4, 2) := by decide +kernel
theorem dX6_leastBound_35 : decode cX6_leastBound 35 = .ok (.iload_n 2, 1) := by decide +kernel
theorem dX6_leastBound_36 : decode cX6_leastBound 36 = .ok (.if_icmp .ge 8, 3) := by decide +kernel
theorem dX6_leastBound_39 : decode cX6_leastBound 39 = .ok (.iload 4, 2) := by decide +kernel
theorem dX6_leastBound_41 : decode cX6_leastBound 41 = .ok (.istore_n 2, 1) := by decide +kernel
theorem dX6_leastBound_42 : decode cX6_leastBound 42 = .ok (.iload_n 3, 1) := by decide +kernel
theorem dX6_leastBound_43 : decode cX6_leastBound 43 = .ok (.istore_n 1, 1) := by decide +kernel
theorem dX6_leastBound_44 : decode cX6_leastBound 44 = .ok (.iinc 3 1, 3) := by decide +kernel
theorem dX6_leastBound_47 : decode cX6_leastBound 47 = .ok (.goto (-32), 3) := by decide +kernel
theorem dX6_leastBound_50 : decode cX6_leastBound 50 = .ok (.iload_n 1, 1) := by decide +kernel
theorem dX6_leastBound_51 : decode cX6_leastBound 51 = .ok (.ireturn, 1) := by decide +kernel
set_option maxRecDepth 20000 in
theorem ggX6_undo_X1_pop : GoodIn wsX6_undo wsX1_pop := goodIn_r _ [7, 8, 9, 10, 11, 12, 6, 13, 14, 77, 78, 79] (by decide +kernel) (by decide +kernel)
set_option maxRecDepth 20000 in
theorem gX6_undo_X1_pop : GoodIn wsX6_undo (wsV RX6 214 RX1 yX1_pop wsX1_pop) := goodIn_app (goodIn_of _ (by decide +kernel)) ggX6_undo_X1_pop
set_option maxRecDepth 20000 in
theorem ggX6_undo_X4_copyFrom : GoodIn wsX6_undo wsX4_copyFrom := goodIn_r _ [19, 20, 21, 22, 23, 24, 25, 26, 27, 28, 29, 30, 31, 32, 33, 34, 35, 36, 37, 38, 39, 40, 41, 42, 43, 44, 45, 46, 47, 48, 49, 50, 51, 52, 53, 54, 55, 56, 57, 58, 59, 60, 61, 62, 63, 80, 81, 82, 83, 84, 85, 86, 87, 88, 89, 90, 91, 92, 93, 94, 95, 96, 97] (by decide +kernel) (by decide +kernel)
set_option maxRecDepth 20000 in
theorem gX6_undo_X4_copyFrom : GoodIn wsX6_undo (wsV RX6 205 RX4 yX4_copyFrom wsX4_copyFrom) := goodIn_app (goodIn_of _ (by decide +kernel)) ggX6_undo_X4_copyFrom
set_option maxRecDepth 20000 in
theorem ggX6_undo_X1_size : GoodIn wsX6_undo wsX1_size := goodIn_r _ [67, 8, 77, 78, 79] (by decide +kernel) (by decide +kernel)
set_option maxRecDepth 20000 in
theorem gX6_undo_X1_size : GoodIn wsX6_undo (wsV RX6 188 RX1 yX1_size wsX1_size) := goodIn_app (goodIn_of _ (by decide +kernel)) ggX6_undo_X1_size
theorem dX6_undo_0 : decode cX6_undo 0 = .ok (.aload_n 0, 1) := by decide +kernel
theorem dX6_undo_1 : decode cX6_undo 1 = .ok (.getfield 25, 3) := by decide +kernel
theorem dX6_undo_4 : decode cX6_undo 4 = .ok (.invokevirtual 214, 3) := by decide +kernel
theorem dX6_undo_7 : decode cX6_undo 7 = .ok (.astore_n 1, 1) := by decide +kernel
theorem dX6_undo_8 : decode cX6_undo 8 = .ok (.aload_n 1, 1) := by decide +kernel
theorem dX6_undo_9 : decode cX6_undo 9 = .ok (.ifnonnull 6, 3) := by decide +kernel
theorem dX6_undo_12 : decode cX6_undo 12 = .ok (.bipush (-2), 2) := by decide +kernel
theorem dX6_undo_14 : decode cX6_undo 14 = .ok (.ireturn, 1) := by decide +kernel
theorem dX6_undo_15 : decode cX6_undo 15 = .ok (.aload_n 0, 1) := by decide +kernel
theorem dX6_undo_16 : decode cX6_undo 16 = .ok (.getfield 10, 3) := by decide +kernel
theorem dX6_undo_19 : decode cX6_undo 19 = .ok (.aload_n 1, 1) := by decide +kernel
theorem dX6_undo_20 : decode cX6_undo 20 = .ok (.invokevirtual 205, 3) := by decide +kernel
theorem dX6_undo_23 : decode cX6_undo 23 = .ok (.aload_n 0, 1) := by decide +kernel
theorem dX6_undo_24 : decode cX6_undo 24 = .ok (.getfield 25, 3) := by decide +kernel
theorem dX6_undo_27 : decode cX6_undo 27 = .ok (.invokevirtual 188, 3) := by decide +kernel
theorem dX6_undo_30 : decode cX6_undo 30 = .ok (.ireturn, 1) := by decide +kernel
set_option maxRecDepth 20000 in
theorem ggX6_save_X4_copyFrom : GoodIn wsX6_save wsX4_copyFrom := goodIn_r _ [8, 9, 10, 11, 12, 13, 14, 15, 16, 17, 18, 19, 20, 21, 22, 23, 24, 25, 26, 27, 28, 29, 30, 31, 32, 33, 34, 35, 36, 37, 38, 39, 40, 41, 42, 43, 44, 45, 46, 47, 48, 49, 50, 51, 52, 70, 71, 72, 73, 74, 75, 76, 77, 78, 79, 80, 81, 82, 83, 84, 85, 86, 87] (by decide +kernel) (by decide +kernel)
set_option maxRecDepth 20000 in
theorem gX6_save_X4_copyFrom : GoodIn wsX6_save (wsV RX6 205 RX4 yX4_copyFrom wsX4_copyFrom) := goodIn_app (goodIn_of _ (by decide +kernel)) ggX6_save_X4_copyFrom
set_option maxRecDepth 20000 in
theorem ggX6_save_X4_memo : GoodIn wsX6_save wsX4_memo := goodIn_r _ [56, 12, 70, 71, 72, 73, 74, 75, 76, 77] (by decide +kernel) (by decide +kernel)
set_option maxRecDepth 20000 in
theorem gX6_save_X4_memo : GoodIn wsX6_save (wsV RX6 159 RX4 yX4_memo wsX4_memo) := goodIn_app (goodIn_of _ (by decide +kernel)) ggX6_save_X4_memo
set_option maxRecDepth 20000 in
theorem ggX6_save_X2_size : GoodIn wsX6_save wsX2_size := goodIn_r _ [60, 49, 84, 85, 86, 87] (by decide +kernel) (by decide +kernel)
set_option maxRecDepth 20000 in
theorem gX6_save_X2_size : GoodIn wsX6_save (wsV RX6 177 RX2 yX2_size wsX2_size) := goodIn_app (goodIn_of _ (by decide +kernel)) ggX6_save_X2_size
theorem dX6_save_0 : decode cX6_save 0 = .ok (.aload_n 0, 1) := by decide +kernel
theorem dX6_save_1 : decode cX6_save 1 = .ok (.getfield 19, 3) := by decide +kernel
theorem dX6_save_4 : decode cX6_save 4 = .ok (.aload_n 0, 1) := by decide +kernel
theorem dX6_save_5 : decode cX6_save 5 = .ok (.getfield 10, 3) := by decide +kernel
theorem dX6_save_8 : decode cX6_save 8 = .ok (.invokevirtual 205, 3) := by decide +kernel
theorem dX6_save_11 : decode cX6_save 11 = .ok (.aload_n 0, 1) := by decide +kernel
theorem dX6_save_12 : decode cX6_save 12 = .ok (.iconst 1, 1) := by decide +kernel
theorem dX6_save_13 : decode cX6_save 13 = .ok (.putfield 218, 3) := by decide +kernel
theorem dX6_save_16 : decode cX6_save 16 = .ok (.aload_n 0, 1) := by decide +kernel
theorem dX6_save_17 : decode cX6_save 17 = .ok (.getfield 10, 3) := by decide +kernel
theorem dX6_save_20 : decode cX6_save 20 = .ok (.invokevirtual 159, 3) := by decide +kernel
theorem dX6_save_23 : decode cX6_save 23 = .ok (.invokevirtual 177, 3) := by decide +kernel
theorem dX6_save_26 : decode cX6_save 26 = .ok (.ireturn, 1) := by decide +kernel
set_option maxRecDepth 20000 in
theorem ggX6_restore_X1_prepare : GoodIn wsX6_restore wsX1_prepare := goodIn_r _ [9, 10, 11, 12, 13, 8, 14, 15, 16, 17, 18, 19, 20, 21, 22, 23, 24, 25, 26, 27, 28, 29, 30, 31, 32, 33, 34, 35, 36, 37, 38, 39, 40, 41, 42, 43, 44, 45, 46, 47, 48, 49, 50, 51, 52, 53, 54, 55, 56, 57, 58, 59, 60, 61, 62, 63, 64, 89, 90, 91, 92, 93, 94, 95, 96, 97, 98, 99, 100, 101, 102, 103, 104, 105, 106, 107, 108, 109] (by decide +kernel) (by decide +kernel)
set_option maxRecDepth 20000 in
theorem gX6_restore_X1_prepare : GoodIn wsX6_restore (wsV RX6 36 RX1 yX1_prepare wsX1_prepare) := goodIn_app (goodIn_of _ (by decide +kernel)) ggX6_restore_X1_prepare
set_option maxRecDepth 20000 in
theorem ggX6_restore_X4_copyFrom : GoodIn wsX6_restore wsX4_copyFrom := goodIn_r _ [20, 21, 22, 23, 24, 25, 26, 27, 28, 29, 30, 31, 32, 33, 34, 35, 36, 37, 38, 39, 40, 41, 42, 43, 44, 45, 46, 47, 48, 49, 50, 51, 52, 53, 54, 55, 56, 57, 58, 59, 60, 61, 62, 63, 64, 92, 93, 94, 95, 96, 97, 98, 99, 100, 101, 102, 103, 104, 105, 106, 107, 108, 109] (by decide +kernel) (by decide +kernel)
set_option maxRecDepth 20000 in
theorem gX6_restore_X4_copyFrom : GoodIn wsX6_restore (wsV RX6 205 RX4 yX4_copyFrom wsX4_copyFrom) := goodIn_app (goodIn_of _ (by decide +kernel)) ggX6_restore_X4_copyFrom
set_option maxRecDepth 20000 in
theorem ggX6_restore_X4_memo : GoodIn wsX6_restore wsX4_memo := goodIn_r _ [69, 24, 92, 93, 94, 95, 96, 97, 98, 99] (by decide +kernel) (by decide +kernel)
set_option maxRecDepth 20000 in
theorem gX6_restore_X4_memo : GoodIn wsX6_restore (wsV RX6 159 RX4 yX4_memo wsX4_memo) := goodIn_app (goodIn_of _ (by decide +kernel)) ggX6_restore_X4_memo
set_option maxRecDepth 20000 in
theorem ggX6_restore_X2_size : GoodIn wsX6_restore wsX2_size := goodIn_r _ [73, 61, 106, 107, 108, 109] (by decide +kernel) (by decide +kernel)
set_option maxRecDepth 20000 in
theorem gX6_restore_X2_size : GoodIn wsX6_restore (wsV RX6 177 RX2 yX2_size wsX2_size) := goodIn_app (goodIn_of _ (by decide +kernel)) ggX6_restore_X2_size
set_option maxRecDepth 20000 in
theorem ggX6_restore_X1_commit : GoodIn wsX6_restore wsX1_commit := goodIn_r _ [77, 10, 78, 79, 41, 42, 43, 89, 90, 91] (by decide +kernel) (by decide +kernel)
set_option maxRecDepth 20000 in
theorem gX6_restore_X1_commit : GoodIn wsX6_restore (wsV RX6 44 RX1 yX1_commit wsX1_commit) := goodIn_app (goodIn_of _ (by decide +kernel)) ggX6_restore_X1_commit
theorem dX6_restore_0 : decode cX6_restore 0 = .ok (.aload_n 0, 1) := by decide +kernel
theorem dX6_restore_1 : decode cX6_restore 1 = .ok (.getfield 218, 3) := by decide +kernel
theorem dX6_restore_4 : decode cX6_restore 4 = .ok (.ifCond .ne 6, 3) := by decide +kernel
theorem dX6_restore_7 : decode cX6_restore 7 = .ok (.bipush (-2), 2) := by decide +kernel
theorem dX6_restore_9 : decode cX6_restore 9 = .ok (.ireturn, 1) := by decide +kernel
theorem dX6_restore_10 : decode cX6_restore 10 = .ok (.aload_n 0, 1) := by decide +kernel
theorem dX6_restore_11 : decode cX6_restore 11 = .ok (.getfield 25, 3) := by decide +kernel
theorem dX6_restore_14 : decode cX6_restore 14 = .ok (.aload_n 0, 1) := by decide +kernel
theorem dX6_restore_15 : decode cX6_restore 15 = .ok (.getfield 10, 3) := by decide +kernel
theorem dX6_restore_18 : decode cX6_restore 18 = .ok (.invokevirtual 36, 3) := by decide +kernel
theorem dX6_restore_21 : decode cX6_restore 21 = .ok (.aload_n 0, 1) := by decide +kernel
theorem dX6_restore_22 : decode cX6_restore 22 = .ok (.getfield 10, 3) := by decide +kernel
theorem dX6_restore_25 : decode cX6_restore 25 = .ok (.aload_n 0, 1) := by decide +kernel
theorem dX6_restore_26 : decode cX6_restore 26 = .ok (.getfield 19, 3) := by decide +kernel
theorem dX6_restore_29 : decode cX6_restore 29 = .ok (.invokevirtual 205, 3) := by decide +kernel
theorem dX6_restore_32 : decode cX6_restore 32 = .ok (.aload_n 0, 1) := by decide +kernel
theorem dX6_restore_33 : decode cX6_restore 33 = .ok (.getfield 25, 3) := by decide +kernel
theorem dX6_restore_36 : decode cX6_restore 36 = .ok (.aload_n 0, 1) := by decide +kernel
theorem dX6_restore_37 : decode cX6_restore 37 = .ok (.getfield 10, 3) := by decide +kernel
theorem dX6_restore_40 : decode cX6_restore 40 = .ok (.invokevirtual 159, 3) := by decide +kernel
theorem dX6_restore_43 : decode cX6_restore 43 = .ok (.invokevirtual 177, 3) := by decide +kernel
theorem dX6_restore_46 : decode cX6_restore 46 = .ok (.invokevirtual 44, 3) := by decide +kernel
theorem dX6_restore_49 : decode cX6_restore 49 = .ok (.ireturn, 1) := by decide +kernel
set_option maxRecDepth 20000 in
theorem ggX6_obey_X3_sign : GoodIn wsX6_obey wsX3_sign := goodIn_r _ [7, 8, 189, 190, 191, 192, 193, 194, 195, 196, 197] (by decide +kernel) (by decide +kernel)
set_option maxRecDepth 20000 in
theorem gX6_obey_X3_sign : GoodIn wsX6_obey (wsV RX6 222 RX3 yX3_sign wsX3_sign) := goodIn_app (goodIn_of _ (by decide +kernel)) ggX6_obey_X3_sign
set_option maxRecDepth 20000 in
theorem ggX6_obey_X3_first : GoodIn wsX6_obey wsX3_first := goodIn_r _ [12, 13, 189, 190, 191, 192, 193, 194, 195, 196, 197] (by decide +kernel) (by decide +kernel)
set_option maxRecDepth 20000 in
theorem gX6_obey_X3_first : GoodIn wsX6_obey (wsV RX6 104 RX3 yX3_first wsX3_first) := goodIn_app (goodIn_of _ (by decide +kernel)) ggX6_obey_X3_first
set_option maxRecDepth 20000 in
theorem ggX6_obey_X4_walk : GoodIn wsX6_obey wsX4_walk := goodIn_r _ [18, 19, 20, 21, 22, 23, 24, 25, 26, 27, 28, 29, 30, 31, 32, 33, 34, 35, 36, 37, 17, 38, 39, 40, 41, 42, 43, 44, 45, 46, 47, 48, 49, 50, 51, 52, 53, 54, 55, 56, 57, 58, 59, 60, 61, 62, 63, 64, 65, 66, 67, 68, 69, 70, 71, 72, 73, 74, 75, 76, 77, 78, 79, 80, 81, 82, 83, 84, 85, 86, 87, 88, 89, 90, 91, 92, 93, 94, 198, 199, 200, 201, 202, 203, 204, 205, 206, 207, 208, 209, 210, 211, 212, 213, 214, 215] (by decide +kernel) (by decide +kernel)
set_option maxRecDepth 20000 in
theorem gX6_obey_X4_walk : GoodIn wsX6_obey (wsV RX6 56 RX4 yX4_walk wsX4_walk) := goodIn_app (goodIn_of _ (by decide +kernel)) ggX6_obey_X4_walk
set_option maxRecDepth 20000 in
theorem ggX6_obey_X3_second : GoodIn wsX6_obey wsX3_second := goodIn_r _ [98, 99, 189, 190, 191, 192, 193, 194, 195, 196, 197] (by decide +kernel) (by decide +kernel)
set_option maxRecDepth 20000 in
theorem gX6_obey_X3_second : GoodIn wsX6_obey (wsV RX6 107 RX3 yX3_second wsX3_second) := goodIn_app (goodIn_of _ (by decide +kernel)) ggX6_obey_X3_second
set_option maxRecDepth 20000 in
theorem ggX6_obey_X4_insertRow : GoodIn wsX6_obey wsX4_insertRow := goodIn_r _ [103, 104, 105, 106, 107, 108, 109, 110, 111, 112, 113, 114, 115, 17, 116, 40, 20, 24, 25, 26, 27, 28, 29, 117, 118, 119, 120, 121, 122, 123, 124, 34, 89, 125, 126, 127, 128, 41, 129, 130, 131, 132, 23, 133, 134, 135, 57, 136, 59, 94, 137, 138, 139, 86, 87, 88, 140, 31, 32, 33, 141, 142, 143, 144, 39, 21, 145, 146, 147, 45, 148, 47, 149, 150, 151, 152, 153, 154, 155, 156, 42, 43, 44, 46, 81, 82, 83, 84, 198, 199, 200, 201, 202, 203, 204, 205, 206, 207, 208, 213, 214, 215, 209, 210, 211, 212] (by decide +kernel) (by decide +kernel)
set_option maxRecDepth 20000 in
theorem gX6_obey_X4_insertRow : GoodIn wsX6_obey (wsV RX6 40 RX4 yX4_insertRow wsX4_insertRow) := goodIn_app (goodIn_of _ (by decide +kernel)) ggX6_obey_X4_insertRow
set_option maxRecDepth 20000 in
theorem ggX6_obey_X4_removeRow : GoodIn wsX6_obey wsX4_removeRow := goodIn_r _ [160, 19, 113, 114, 115, 17, 116, 40, 20, 161, 162, 163, 27, 164, 29, 30, 31, 32, 33, 34, 165, 166, 167, 168, 169, 170, 171, 86, 87, 88, 89, 121, 122, 123, 124, 125, 126, 127, 128, 41, 129, 130, 131, 132, 23, 133, 134, 135, 57, 136, 59, 94, 137, 138, 25, 26, 28, 139, 140, 141, 142, 143, 144, 39, 21, 145, 146, 147, 45, 148, 47, 149, 150, 151, 152, 153, 154, 155, 156, 42, 43, 44, 46, 81, 82, 83, 84, 172, 173, 174, 175, 24, 198, 199, 200, 201, 202, 203, 204, 205, 206, 207, 208, 213, 214, 215, 209, 210, 211, 212] (by decide +kernel) (by decide +kernel)
set_option maxRecDepth 20000 in
theorem gX6_obey_X4_removeRow : GoodIn wsX6_obey (wsV RX6 48 RX4 yX4_removeRow wsX4_removeRow) := goodIn_app (goodIn_of _ (by decide +kernel)) ggX6_obey_X4_removeRow
set_option maxRecDepth 20000 in
theorem ggX6_obey_X4_beginAgain : GoodIn wsX6_obey wsX4_beginAgain := goodIn_r _ [179, 22, 19, 198, 199, 200, 201, 202, 203, 204, 205] (by decide +kernel) (by decide +kernel)
set_option maxRecDepth 20000 in
theorem gX6_obey_X4_beginAgain : GoodIn wsX6_obey (wsV RX6 59 RX4 yX4_beginAgain wsX4_beginAgain) := goodIn_app (goodIn_of _ (by decide +kernel)) ggX6_obey_X4_beginAgain
theorem dX6_obey_0 : decode cX6_obey 0 = .ok (.aload_n 0, 1) := by decide +kernel
theorem dX6_obey_1 : decode cX6_obey 1 = .ok (.getfield 32, 3) := by decide +kernel
theorem dX6_obey_4 : decode cX6_obey 4 = .ok (.invokevirtual 222, 3) := by decide +kernel
theorem dX6_obey_7 : decode cX6_obey 7 = .ok (.lookupswitch 87 #[(43, 48), (45, 71), (115, 33)], 33) := by decide +kernel
theorem dX6_obey_40 : decode cX6_obey 40 = .ok (.aload_n 0, 1) := by decide +kernel
theorem dX6_obey_41 : decode cX6_obey 41 = .ok (.getfield 10, 3) := by decide +kernel
theorem dX6_obey_44 : decode cX6_obey 44 = .ok (.aload_n 0, 1) := by decide +kernel
theorem dX6_obey_45 : decode cX6_obey 45 = .ok (.getfield 32, 3) := by decide +kernel
theorem dX6_obey_48 : decode cX6_obey 48 = .ok (.invokevirtual 104, 3) := by decide +kernel
theorem dX6_obey_51 : decode cX6_obey 51 = .ok (.invokevirtual 56, 3) := by decide +kernel
theorem dX6_obey_54 : decode cX6_obey 54 = .ok (.ireturn, 1) := by decide +kernel
theorem dX6_obey_55 : decode cX6_obey 55 = .ok (.aload_n 0, 1) := by decide +kernel
theorem dX6_obey_56 : decode cX6_obey 56 = .ok (.getfield 10, 3) := by decide +kernel
theorem dX6_obey_59 : decode cX6_obey 59 = .ok (.iconst 1, 1) := by decide +kernel
theorem dX6_obey_60 : decode cX6_obey 60 = .ok (.aload_n 0, 1) := by decide +kernel
theorem dX6_obey_61 : decode cX6_obey 61 = .ok (.getfield 32, 3) := by decide +kernel
theorem dX6_obey_64 : decode cX6_obey 64 = .ok (.invokevirtual 104, 3) := by decide +kernel
theorem dX6_obey_67 : decode cX6_obey 67 = .ok (.aload_n 0, 1) := by decide +kernel
theorem dX6_obey_68 : decode cX6_obey 68 = .ok (.getfield 32, 3) := by decide +kernel
theorem dX6_obey_71 : decode cX6_obey 71 = .ok (.invokevirtual 107, 3) := by decide +kernel
theorem dX6_obey_74 : decode cX6_obey 74 = .ok (.invokevirtual 40, 3) := by decide +kernel
theorem dX6_obey_77 : decode cX6_obey 77 = .ok (.ireturn, 1) := by decide +kernel
theorem dX6_obey_78 : decode cX6_obey 78 = .ok (.aload_n 0, 1) := by decide +kernel
theorem dX6_obey_79 : decode cX6_obey 79 = .ok (.getfield 10, 3) := by decide +kernel
theorem dX6_obey_82 : decode cX6_obey 82 = .ok (.iconst 1, 1) := by decide +kernel
theorem dX6_obey_83 : decode cX6_obey 83 = .ok (.aload_n 0, 1) := by decide +kernel
theorem dX6_obey_84 : decode cX6_obey 84 = .ok (.getfield 32, 3) := by decide +kernel
theorem dX6_obey_87 : decode cX6_obey 87 = .ok (.invokevirtual 104, 3) := by decide +kernel
theorem dX6_obey_90 : decode cX6_obey 90 = .ok (.invokevirtual 48, 3) := by decide +kernel
theorem dX6_obey_93 : decode cX6_obey 93 = .ok (.ireturn, 1) := by decide +kernel
theorem dX6_obey_94 : decode cX6_obey 94 = .ok (.aload_n 0, 1) := by decide +kernel
theorem dX6_obey_95 : decode cX6_obey 95 = .ok (.getfield 10, 3) := by decide +kernel
theorem dX6_obey_98 : decode cX6_obey 98 = .ok (.invokevirtual 59, 3) := by decide +kernel
theorem dX6_obey_101 : decode cX6_obey 101 = .ok (.ireturn, 1) := by decide +kernel
set_option maxRecDepth 20000 in
theorem ggX6_tryBound_X4_copyFrom : GoodIn wsX6_tryBound wsX4_copyFrom := goodIn_r _ [7, 8, 9, 10, 11, 12, 13, 14, 15, 16, 17, 18, 19, 20, 21, 22, 23, 24, 25, 26, 27, 28, 29, 30, 31, 32, 33, 34, 35, 36, 37, 38, 39, 40, 41, 42, 43, 44, 45, 46, 47, 48, 49, 50, 51, 149, 150, 151, 152, 153, 154, 155, 156, 157, 158, 159, 160, 161, 162, 163, 164, 165, 166] (by decide +kernel) (by decide +kernel)
set_option maxRecDepth 20000 in
theorem gX6_tryBound_X4_copyFrom : GoodIn wsX6_tryBound (wsV RX6 205 RX4 yX4_copyFrom wsX4_copyFrom) := goodIn_app (goodIn_of _ (by decide +kernel)) ggX6_tryBound_X4_copyFrom
set_option maxRecDepth 20000 in
theorem ggX6_tryBound_X4_adjust : GoodIn wsX6_tryBound wsX4_adjust := goodIn_r _ [55, 56, 12, 57, 58, 59, 6, 60, 11, 10, 13, 61, 62, 63, 64, 65, 66, 67, 46, 68, 48, 69, 70, 71, 38, 72, 40, 73, 74, 75, 76, 77, 78, 79, 80, 50, 49, 81, 82, 83, 84, 85, 86, 87, 88, 9, 89, 90, 91, 92, 41, 42, 93, 94, 95, 19, 96, 23, 97, 98, 99, 100, 22, 101, 102, 103, 104, 21, 105, 106, 107, 108, 109, 110, 111, 112, 113, 114, 115, 116, 149, 150, 151, 152, 153, 154, 155, 156, 163, 164, 165, 166, 160, 161, 162, 157, 158, 159] (by decide +kernel) (by decide +kernel)
set_option maxRecDepth 20000 in
theorem gX6_tryBound_X4_adjust : GoodIn wsX6_tryBound (wsV RX6 66 RX4 yX4_adjust wsX4_adjust) := goodIn_app (goodIn_of _ (by decide +kernel)) ggX6_tryBound_X4_adjust
set_option maxRecDepth 20000 in
theorem ggX6_tryBound_X4_walk : GoodIn wsX6_tryBound wsX4_walk := goodIn_r _ [120, 14, 8, 13, 15, 10, 121, 94, 95, 19, 96, 23, 122, 102, 103, 104, 21, 123, 124, 125, 6, 126, 11, 9, 12, 65, 66, 67, 46, 68, 48, 127, 128, 129, 130, 51, 49, 69, 70, 71, 38, 72, 40, 131, 132, 133, 134, 50, 57, 58, 59, 60, 61, 62, 63, 64, 73, 74, 75, 76, 77, 78, 79, 80, 81, 82, 83, 84, 135, 98, 99, 100, 22, 136, 137, 138, 139, 41, 149, 150, 151, 152, 153, 154, 155, 156, 157, 158, 159, 163, 164, 165, 166, 160, 161, 162] (by decide +kernel) (by decide +kernel)
set_option maxRecDepth 20000 in
theorem gX6_tryBound_X4_walk : GoodIn wsX6_tryBound (wsV RX6 56 RX4 yX4_walk wsX4_walk) := goodIn_app (goodIn_of _ (by decide +kernel)) ggX6_tryBound_X4_walk
theorem dX6_tryBound_0 : decode cX6_tryBound 0 = .ok (.aload_n 0, 1) := by decide +kernel
theorem dX6_tryBound_1 : decode cX6_tryBound 1 = .ok (.getfield 16, 3) := by decide +kernel
theorem dX6_tryBound_4 : decode cX6_tryBound 4 = .ok (.aload_n 0, 1) := by decide +kernel
theorem dX6_tryBound_5 : decode cX6_tryBound 5 = .ok (.getfield 10, 3) := by decide +kernel
theorem dX6_tryBound_8 : decode cX6_tryBound 8 = .ok (.invokevirtual 205, 3) := by decide +kernel
theorem dX6_tryBound_11 : decode cX6_tryBound 11 = .ok (.aload_n 0, 1) := by decide +kernel
theorem dX6_tryBound_12 : decode cX6_tryBound 12 = .ok (.getfield 16, 3) := by decide +kernel
theorem dX6_tryBound_15 : decode cX6_tryBound 15 = .ok (.iconst 0, 1) := by decide +kernel
theorem dX6_tryBound_16 : decode cX6_tryBound 16 = .ok (.iload_n 1, 1) := by decide +kernel
theorem dX6_tryBound_17 : decode cX6_tryBound 17 = .ok (.invokevirtual 66, 3) := by decide +kernel
theorem dX6_tryBound_20 : decode cX6_tryBound 20 = .ok (.pop, 1) := by decide +kernel
theorem dX6_tryBound_21 : decode cX6_tryBound 21 = .ok (.aload_n 0, 1) := by decide +kernel
theorem dX6_tryBound_22 : decode cX6_tryBound 22 = .ok (.getfield 16, 3) := by decide +kernel
theorem dX6_tryBound_25 : decode cX6_tryBound 25 = .ok (.bipush 20, 2) := by decide +kernel
theorem dX6_tryBound_27 : decode cX6_tryBound 27 = .ok (.invokevirtual 56, 3) := by decide +kernel
theorem dX6_tryBound_30 : decode cX6_tryBound 30 = .ok (.pop, 1) := by decide +kernel
theorem dX6_tryBound_31 : decode cX6_tryBound 31 = .ok (.return_, 1) := by decide +kernel
set_option maxRecDepth 20000 in
theorem ggX6_brought_X4_tally : GoodIn wsX6_brought wsX4_tally := goodIn_r _ [7, 8, 18, 19, 20, 21, 22, 23, 24, 25] (by decide +kernel) (by decide +kernel)
set_option maxRecDepth 20000 in
theorem gX6_brought_X4_tally : GoodIn wsX6_brought (wsV RX6 189 RX4 yX4_tally wsX4_tally) := goodIn_app (goodIn_of _ (by decide +kernel)) ggX6_brought_X4_tally
theorem dX6_brought_0 : decode cX6_brought 0 = .ok (.aload_n 0, 1) := by decide +kernel
theorem dX6_brought_1 : decode cX6_brought 1 = .ok (.getfield 16, 3) := by decide +kernel
theorem dX6_brought_4 : decode cX6_brought 4 = .ok (.iload_n 1, 1) := by decide +kernel
theorem dX6_brought_5 : decode cX6_brought 5 = .ok (.invokevirtual 189, 3) := by decide +kernel
theorem dX6_brought_8 : decode cX6_brought 8 = .ok (.aload_n 0, 1) := by decide +kernel
theorem dX6_brought_9 : decode cX6_brought 9 = .ok (.getfield 10, 3) := by decide +kernel
theorem dX6_brought_12 : decode cX6_brought 12 = .ok (.iload_n 1, 1) := by decide +kernel
theorem dX6_brought_13 : decode cX6_brought 13 = .ok (.invokevirtual 189, 3) := by decide +kernel
theorem dX6_brought_16 : decode cX6_brought 16 = .ok (.isub, 1) := by decide +kernel
theorem dX6_brought_17 : decode cX6_brought 17 = .ok (.ireturn, 1) := by decide +kernel
theorem dX6_isWithin_0 : decode cX6_isWithin 0 = .ok (.iload_n 0, 1) := by decide +kernel
theorem dX6_isWithin_1 : decode cX6_isWithin 1 = .ok (.ifCond .lt 12, 3) := by decide +kernel
theorem dX6_isWithin_4 : decode cX6_isWithin 4 = .ok (.iload_n 0, 1) := by decide +kernel
theorem dX6_isWithin_5 : decode cX6_isWithin 5 = .ok (.iload_n 1, 1) := by decide +kernel
theorem dX6_isWithin_6 : decode cX6_isWithin 6 = .ok (.if_icmp .gt 7, 3) := by decide +kernel
theorem dX6_isWithin_9 : decode cX6_isWithin 9 = .ok (.iconst 1, 1) := by decide +kernel
theorem dX6_isWithin_10 : decode cX6_isWithin 10 = .ok (.goto 4, 3) := by decide +kernel
theorem dX6_isWithin_13 : decode cX6_isWithin 13 = .ok (.iconst 0, 1) := by decide +kernel
theorem dX6_isWithin_14 : decode cX6_isWithin 14 = .ok (.ireturn, 1) := by decide +kernel
set_option maxRecDepth 20000 in
theorem ggX6_isKey_X6_isWithin : GoodIn wsX6_isKey wsX6_isWithin := goodIn_r _ [4] (by decide +kernel) (by decide +kernel)
set_option maxRecDepth 20000 in
theorem gX6_isKey_X6_isWithin : GoodIn wsX6_isKey (va_wsS RX6 76 yX6_isWithin wsX6_isWithin) := goodIn_app (goodIn_of _ (by decide +kernel)) ggX6_isKey_X6_isWithin
theorem dX6_isKey_0 : decode cX6_isKey 0 = .ok (.iload_n 0, 1) := by decide +kernel
theorem dX6_isKey_1 : decode cX6_isKey 1 = .ok (.bipush 9, 2) := by decide +kernel
theorem dX6_isKey_3 : decode cX6_isKey 3 = .ok (.invokestatic 76, 3) := by decide +kernel
theorem dX6_isKey_6 : decode cX6_isKey 6 = .ok (.ireturn, 1) := by decide +kernel
set_option maxRecDepth 20000 in
theorem ggX6_isRow_X6_isKey : GoodIn wsX6_isRow wsX6_isKey := goodIn_r _ [4, 5, 6, 3, 7] (by decide +kernel) (by decide +kernel)
set_option maxRecDepth 20000 in
theorem gX6_isRow_X6_isKey : GoodIn wsX6_isRow (va_wsS RX6 147 yX6_isKey wsX6_isKey) := goodIn_app (goodIn_of _ (by decide +kernel)) ggX6_isRow_X6_isKey
set_option maxRecDepth 20000 in
theorem ggX6_isRow_X6_isWithin : GoodIn wsX6_isRow wsX6_isWithin := goodIn_r _ [7] (by decide +kernel) (by decide +kernel)
set_option maxRecDepth 20000 in
theorem gX6_isRow_X6_isWithin : GoodIn wsX6_isRow (va_wsS RX6 76 yX6_isWithin wsX6_isWithin) := goodIn_app (goodIn_of _ (by decide +kernel)) ggX6_isRow_X6_isWithin
theorem dX6_isRow_0 : decode cX6_isRow 0 = .ok (.iload_n 0, 1) := by decide +kernel
theorem dX6_isRow_1 : decode cX6_isRow 1 = .ok (.invokestatic 147, 3) := by decide +kernel
theorem dX6_isRow_4 : decode cX6_isRow 4 = .ok (.ifCond .eq 16, 3) := by decide +kernel
theorem dX6_isRow_7 : decode cX6_isRow 7 = .ok (.iload_n 1, 1) := by decide +kernel
theorem dX6_isRow_8 : decode cX6_isRow 8 = .ok (.bipush 99, 2) := by decide +kernel
theorem dX6_isRow_10 : decode cX6_isRow 10 = .ok (.invokestatic 76, 3) := by decide +kernel
theorem dX6_isRow_13 : decode cX6_isRow 13 = .ok (.ifCond .eq 7, 3) := by decide +kernel
theorem dX6_isRow_16 : decode cX6_isRow 16 = .ok (.iconst 1, 1) := by decide +kernel
theorem dX6_isRow_17 : decode cX6_isRow 17 = .ok (.goto 4, 3) := by decide +kernel
theorem dX6_isRow_20 : decode cX6_isRow 20 = .ok (.iconst 0, 1) := by decide +kernel
theorem dX6_isRow_21 : decode cX6_isRow 21 = .ok (.ireturn, 1) := by decide +kernel
theorem dX6_copyNumbers_0 : decode cX6_copyNumbers 0 = .ok (.aload_n 0, 1) := by decide +kernel
theorem dX6_copyNumbers_1 : decode cX6_copyNumbers 1 = .ok (.iconst 0, 1) := by decide +kernel
theorem dX6_copyNumbers_2 : decode cX6_copyNumbers 2 = .ok (.aload_n 1, 1) := by decide +kernel
theorem dX6_copyNumbers_3 : decode cX6_copyNumbers 3 = .ok (.iconst 0, 1) := by decide +kernel
theorem dX6_copyNumbers_4 : decode cX6_copyNumbers 4 = .ok (.aload_n 0, 1) := by decide +kernel
theorem dX6_copyNumbers_5 : decode cX6_copyNumbers 5 = .ok (.arraylength, 1) := by decide +kernel
theorem dX6_copyNumbers_6 : decode cX6_copyNumbers 6 = .ok (.aload_n 1, 1) := by decide +kernel
theorem dX6_copyNumbers_7 : decode cX6_copyNumbers 7 = .ok (.arraylength, 1) := by decide +kernel
theorem dX6_copyNumbers_8 : decode cX6_copyNumbers 8 = .ok (.invokestatic 117, 3) := by decide +kernel
theorem dX6_copyNumbers_11 : decode cX6_copyNumbers 11 = .ok (.invokestatic 225, 3) := by decide +kernel
theorem dX6_copyNumbers_14 : decode cX6_copyNumbers 14 = .ok (.return_, 1) := by decide +kernel
theorem dX7_init_0 : decode cX7_init 0 = .ok (.aload_n 0, 1) := by decide +kernel
theorem dX7_init_1 : decode cX7_init 1 = .ok (.invokespecial 1, 3) := by decide +kernel
theorem dX7_init_4 : decode cX7_init 4 = .ok (.aload_n 0, 1) := by decide +kernel
theorem dX7_init_5 : decode cX7_init 5 = .ok (.bipush 127, 2) := by decide +kernel
theorem dX7_init_7 : decode cX7_init 7 = .ok (.newarray .int, 2) := by decide +kernel
theorem dX7_init_9 : decode cX7_init 9 = .ok (.putfield 7, 3) := by decide +kernel
theorem dX7_init_12 : decode cX7_init 12 = .ok (.aload_n 0, 1) := by decide +kernel
theorem dX7_init_13 : decode cX7_init 13 = .ok (.sipush 508, 3) := by decide +kernel
theorem dX7_init_16 : decode cX7_init 16 = .ok (.newarray .int, 2) := by decide +kernel
theorem dX7_init_18 : decode cX7_init 18 = .ok (.putfield 13, 3) := by decide +kernel
theorem dX7_init_21 : decode cX7_init 21 = .ok (.aload_n 0, 1) := by decide +kernel
theorem dX7_init_22 : decode cX7_init 22 = .ok (.bipush 127, 2) := by decide +kernel
theorem dX7_init_24 : decode cX7_init 24 = .ok (.newarray .int, 2) := by decide +kernel
theorem dX7_init_26 : decode cX7_init 26 = .ok (.putfield 16, 3) := by decide +kernel
theorem dX7_init_29 : decode cX7_init 29 = .ok (.aload_n 0, 1) := by decide +kernel
theorem dX7_init_30 : decode cX7_init 30 = .ok (.bipush 127, 2) := by decide +kernel
theorem dX7_init_32 : decode cX7_init 32 = .ok (.newarray .int, 2) := by decide +kernel
theorem dX7_init_34 : decode cX7_init 34 = .ok (.putfield 19, 3) := by decide +kernel
theorem dX7_init_37 : decode cX7_init 37 = .ok (.aload_n 0, 1) := by decide +kernel
theorem dX7_init_38 : decode cX7_init 38 = .ok (.bipush 60, 2) := by decide +kernel
theorem dX7_init_40 : decode cX7_init 40 = .ok (.newarray .int, 2) := by decide +kernel
theorem dX7_init_42 : decode cX7_init 42 = .ok (.putfield 22, 3) := by decide +kernel
theorem dX7_init_45 : decode cX7_init 45 = .ok (.aload_n 0, 1) := by decide +kernel
theorem dX7_init_46 : decode cX7_init 46 = .ok (.iconst 3, 1) := by decide +kernel
theorem dX7_init_47 : decode cX7_init 47 = .ok (.newarray .int, 2) := by decide +kernel
theorem dX7_init_49 : decode cX7_init 49 = .ok (.putfield 25, 3) := by decide +kernel
theorem dX7_init_52 : decode cX7_init 52 = .ok (.aload_n 0, 1) := by decide +kernel
theorem dX7_init_53 : decode cX7_init 53 = .ok (.bipush 124, 2) := by decide +kernel
theorem dX7_init_55 : decode cX7_init 55 = .ok (.newarray .int, 2) := by decide +kernel
theorem dX7_init_57 : decode cX7_init 57 = .ok (.putfield 28, 3) := by decide +kernel
theorem dX7_init_60 : decode cX7_init 60 = .ok (.aload_n 0, 1) := by decide +kernel
theorem dX7_init_61 : decode cX7_init 61 = .ok (.getfield 7, 3) := by decide +kernel
theorem dX7_init_64 : decode cX7_init 64 = .ok (.iconst 0, 1) := by decide +kernel
theorem dX7_init_65 : decode cX7_init 65 = .ok (.bipush 12, 2) := by decide +kernel
theorem dX7_init_67 : decode cX7_init 67 = .ok (.iastore, 1) := by decide +kernel
theorem dX7_init_68 : decode cX7_init 68 = .ok (.aload_n 0, 1) := by decide +kernel
theorem dX7_init_69 : decode cX7_init 69 = .ok (.getfield 7, 3) := by decide +kernel
theorem dX7_init_72 : decode cX7_init 72 = .ok (.iconst 4, 1) := by decide +kernel
theorem dX7_init_73 : decode cX7_init 73 = .ok (.bipush 99, 2) := by decide +kernel
theorem dX7_init_75 : decode cX7_init 75 = .ok (.iastore, 1) := by decide +kernel
theorem dX7_init_76 : decode cX7_init 76 = .ok (.return_, 1) := by decide +kernel
theorem dX7_in_0 : decode cX7_in 0 = .ok (.iload_n 0, 1) := by decide +kernel
theorem dX7_in_1 : decode cX7_in 1 = .ok (.iload_n 1, 1) := by decide +kernel
theorem dX7_in_2 : decode cX7_in 2 = .ok (.if_icmp .lt 12, 3) := by decide +kernel
theorem dX7_in_5 : decode cX7_in 5 = .ok (.iload_n 0, 1) := by decide +kernel
theorem dX7_in_6 : decode cX7_in 6 = .ok (.iload_n 2, 1) := by decide +kernel
theorem dX7_in_7 : decode cX7_in 7 = .ok (.if_icmp .gt 7, 3) := by decide +kernel
theorem dX7_in_10 : decode cX7_in 10 = .ok (.iconst 1, 1) := by decide +kernel
theorem dX7_in_11 : decode cX7_in 11 = .ok (.goto 4, 3) := by decide +kernel
theorem dX7_in_14 : decode cX7_in 14 = .ok (.iconst 0, 1) := by decide +kernel
theorem dX7_in_15 : decode cX7_in 15 = .ok (.ireturn, 1) := by decide +kernel
theorem dX7_changes_0 : decode cX7_changes 0 = .ok (.aload_n 0, 1) := by decide +kernel
theorem dX7_changes_1 : decode cX7_changes 1 = .ok (.getfield 31, 3) := by decide +kernel
theorem dX7_changes_4 : decode cX7_changes 4 = .ok (.ifCond .eq 4, 3) := by decide +kernel
theorem dX7_changes_7 : decode cX7_changes 7 = .ok (.return_, 1) := by decide +kernel
theorem dX7_changes_8 : decode cX7_changes 8 = .ok (.aload_n 0, 1) := by decide +kernel
theorem dX7_changes_9 : decode cX7_changes 9 = .ok (.getfield 35, 3) := by decide +kernel
theorem dX7_changes_12 : decode cX7_changes 12 = .ok (.iconst 4, 1) := by decide +kernel
theorem dX7_changes_13 : decode cX7_changes 13 = .ok (.if_icmp .ne 43, 3) := by decide +kernel
theorem dX7_changes_16 : decode cX7_changes 16 = .ok (.iconst 0, 1) := by decide +kernel
theorem dX7_changes_17 : decode cX7_changes 17 = .ok (.istore_n 1, 1) := by decide +kernel
theorem dX7_changes_18 : decode cX7_changes 18 = .ok (.iload_n 1, 1) := by decide +kernel
theorem dX7_changes_19 : decode cX7_changes 19 = .ok (.sipush 381, 3) := by decide +kernel
theorem dX7_changes_22 : decode cX7_changes 22 = .ok (.if_icmp .ge 24, 3) := by decide +kernel
theorem dX7_changes_25 : decode cX7_changes 25 = .ok (.aload_n 0, 1) := by decide +kernel
theorem dX7_changes_26 : decode cX7_changes 26 = .ok (.getfield 13, 3) := by decide +kernel
theorem dX7_changes_29 : decode cX7_changes 29 = .ok (.iload_n 1, 1) := by decide +kernel
theorem dX7_changes_30 : decode cX7_changes 30 = .ok (.aload_n 0, 1) := by decide +kernel
theorem dX7_changes_31 : decode cX7_changes 31 = .ok (.getfield 13, 3) := by decide +kernel
theorem dX7_changes_34 : decode cX7_changes 34 = .ok (.iload_n 1, 1) := by decide +kernel
theorem dX7_changes_35 : decode cX7_changes 35 = .ok (.bipush 127, 2) := by decide +kernel
theorem dX7_changes_37 : decode cX7_changes 37 = .ok (.iadd, 1) := by decide +kernel
theorem dX7_changes_38 : decode cX7_changes 38 = .ok (.iaload, 1) := by decide +kernel
theorem dX7_changes_39 : decode cX7_changes 39 = .ok (.iastore, 1) := by decide +kernel
theorem dX7_changes_40 : decode cX7_changes 40 = .ok (.iinc 1 1, 3) := by decide +kernel
theorem dX7_changes_43 : decode cX7_changes 43 = .ok (.goto (-25), 3) := by decide +kernel
theorem dX7_changes_46 : decode cX7_changes 46 = .ok (.aload_n 0, 1) := by decide +kernel
theorem dX7_changes_47 : decode cX7_changes 47 = .ok (.dup, 1) := by decide +kernel
theorem dX7_changes_48 : decode cX7_changes 48 = .ok (.getfield 35, 3) := by decide +kernel
theorem dX7_changes_51 : decode cX7_changes 51 = .ok (.iconst 1, 1) := by decide +kernel
theorem dX7_changes_52 : decode cX7_changes 52 = .ok (.isub, 1) := by decide +kernel
theorem dX7_changes_53 : decode cX7_changes 53 = .ok (.putfield 35, 3) := by decide +kernel
theorem dX7_changes_56 : decode cX7_changes 56 = .ok (.iconst 0, 1) := by decide +kernel
theorem dX7_changes_57 : decode cX7_changes 57 = .ok (.istore_n 1, 1) := by decide +kernel
theorem dX7_changes_58 : decode cX7_changes 58 = .ok (.iload_n 1, 1) := by decide +kernel
theorem dX7_changes_59 : decode cX7_changes 59 = .ok (.bipush 127, 2) := by decide +kernel
theorem dX7_changes_61 : decode cX7_changes 61 = .ok (.if_icmp .ge 29, 3) := by decide +kernel
theorem dX7_changes_64 : decode cX7_changes 64 = .ok (.aload_n 0, 1) := by decide +kernel
theorem dX7_changes_65 : decode cX7_changes 65 = .ok (.getfield 13, 3) := by decide +kernel
theorem dX7_changes_68 : decode cX7_changes 68 = .ok (.bipush 127, 2) := by decide +kernel
theorem dX7_changes_70 : decode cX7_changes 70 = .ok (.aload_n 0, 1) := by decide +kernel
theorem dX7_changes_71 : decode cX7_changes 71 = .ok (.getfield 35, 3) := by decide +kernel
theorem dX7_changes_74 : decode cX7_changes 74 = .ok (.imul, 1) := by decide +kernel
theorem dX7_changes_75 : decode cX7_changes 75 = .ok (.iload_n 1, 1) := by decide +kernel
theorem dX7_changes_76 : decode cX7_changes 76 = .ok (.iadd, 1) := by decide +kernel
theorem dX7_changes_77 : decode cX7_changes 77 = .ok (.aload_n 0, 1) := by decide +kernel
theorem dX7_changes_78 : decode cX7_changes 78 = .ok (.getfield 7, 3) := by decide +kernel
theorem dX7_changes_81 : decode cX7_changes 81 = .ok (.iload_n 1, 1) := by decide +kernel
theorem dX7_changes_82 : decode cX7_changes 82 = .ok (.iaload, 1) := by decide +kernel
theorem dX7_changes_83 : decode cX7_changes 83 = .ok (.iastore, 1) := by decide +kernel
theorem dX7_changes_84 : decode cX7_changes 84 = .ok (.iinc 1 1, 3) := by decide +kernel
theorem dX7_changes_87 : decode cX7_changes 87 = .ok (.goto (-29), 3) := by decide +kernel
theorem dX7_changes_90 : decode cX7_changes 90 = .ok (.aload_n 0, 1) := by decide +kernel
theorem dX7_changes_91 : decode cX7_changes 91 = .ok (.dup, 1) := by decide +kernel
theorem dX7_changes_92 : decode cX7_changes 92 = .ok (.getfield 35, 3) := by decide +kernel
theorem dX7_changes_95 : decode cX7_changes 95 = .ok (.iconst 1, 1) := by decide +kernel
theorem dX7_changes_96 : decode cX7_changes 96 = .ok (.iadd, 1) := by decide +kernel
theorem dX7_changes_97 : decode cX7_changes 97 = .ok (.putfield 35, 3) := by decide +kernel
theorem dX7_changes_100 : decode cX7_changes 100 = .ok (.return_, 1) := by decide +kernel
theorem dX7_putsAside_0 : decode cX7_putsAside 0 = .ok (.iconst 0, 1) := by decide +kernel
theorem dX7_putsAside_1 : decode cX7_putsAside 1 = .ok (.istore_n 1, 1) := by decide +kernel
theorem dX7_putsAside_2 : decode cX7_putsAside 2 = .ok (.iload_n 1, 1) := by decide +kernel
theorem dX7_putsAside_3 : decode cX7_putsAside 3 = .ok (.bipush 127, 2) := by decide +kernel
theorem dX7_putsAside_5 : decode cX7_putsAside 5 = .ok (.if_icmp .ge 21, 3) := by decide +kernel
theorem dX7_putsAside_8 : decode cX7_putsAside 8 = .ok (.aload_n 0, 1) := by decide +kernel
theorem dX7_putsAside_9 : decode cX7_putsAside 9 = .ok (.getfield 19, 3) := by decide +kernel
theorem dX7_putsAside_12 : decode cX7_putsAside 12 = .ok (.iload_n 1, 1) := by decide +kernel
theorem dX7_putsAside_13 : decode cX7_putsAside 13 = .ok (.aload_n 0, 1) := by decide +kernel
theorem dX7_putsAside_14 : decode cX7_putsAside 14 = .ok (.getfield 7, 3) := by decide +kernel
theorem dX7_putsAside_17 : decode cX7_putsAside 17 = .ok (.iload_n 1, 1) := by decide +kernel
theorem dX7_putsAside_18 : decode cX7_putsAside 18 = .ok (.iaload, 1) := by decide +kernel
theorem dX7_putsAside_19 : decode cX7_putsAside 19 = .ok (.iastore, 1) := by decide +kernel
theorem dX7_putsAside_20 : decode cX7_putsAside 20 = .ok (.iinc 1 1, 3) := by decide +kernel
theorem dX7_putsAside_23 : decode cX7_putsAside 23 = .ok (.goto (-21), 3) := by decide +kernel
theorem dX7_putsAside_26 : decode cX7_putsAside 26 = .ok (.return_, 1) := by decide +kernel
theorem dX7_putsBack_0 : decode cX7_putsBack 0 = .ok (.iconst 0, 1) := by decide +kernel
theorem dX7_putsBack_1 : decode cX7_putsBack 1 = .ok (.istore_n 1, 1) := by decide +kernel
theorem dX7_putsBack_2 : decode cX7_putsBack 2 = .ok (.iload_n 1, 1) := by decide +kernel
theorem dX7_putsBack_3 : decode cX7_putsBack 3 = .ok (.bipush 127, 2) := by decide +kernel
theorem dX7_putsBack_5 : decode cX7_putsBack 5 = .ok (.if_icmp .ge 21, 3) := by decide +kernel
theorem dX7_putsBack_8 : decode cX7_putsBack 8 = .ok (.aload_n 0, 1) := by decide +kernel
theorem dX7_putsBack_9 : decode cX7_putsBack 9 = .ok (.getfield 7, 3) := by decide +kernel
theorem dX7_putsBack_12 : decode cX7_putsBack 12 = .ok (.iload_n 1, 1) := by decide +kernel
theorem dX7_putsBack_13 : decode cX7_putsBack 13 = .ok (.aload_n 0, 1) := by decide +kernel
theorem dX7_putsBack_14 : decode cX7_putsBack 14 = .ok (.getfield 19, 3) := by decide +kernel
theorem dX7_putsBack_17 : decode cX7_putsBack 17 = .ok (.iload_n 1, 1) := by decide +kernel
theorem dX7_putsBack_18 : decode cX7_putsBack 18 = .ok (.iaload, 1) := by decide +kernel
theorem dX7_putsBack_19 : decode cX7_putsBack 19 = .ok (.iastore, 1) := by decide +kernel
theorem dX7_putsBack_20 : decode cX7_putsBack 20 = .ok (.iinc 1 1, 3) := by decide +kernel
theorem dX7_putsBack_23 : decode cX7_putsBack 23 = .ok (.goto (-21), 3) := by decide +kernel
theorem dX7_putsBack_26 : decode cX7_putsBack 26 = .ok (.return_, 1) := by decide +kernel
set_option maxRecDepth 20000 in
theorem ggX7_isRowOf_X7_in : GoodIn wsX7_isRowOf wsX7_in := goodIn_r _ [4] (by decide +kernel) (by decide +kernel)
set_option maxRecDepth 20000 in
theorem gX7_isRowOf_X7_in : GoodIn wsX7_isRowOf (va_wsS RX7 39 yX7_in wsX7_in) := goodIn_app (goodIn_of _ (by decide +kernel)) ggX7_isRowOf_X7_in
theorem dX7_isRowOf_0 : decode cX7_isRowOf 0 = .ok (.iload_n 0, 1) := by decide +kernel
theorem dX7_isRowOf_1 : decode cX7_isRowOf 1 = .ok (.iconst 0, 1) := by decide +kernel
theorem dX7_isRowOf_2 : decode cX7_isRowOf 2 = .ok (.bipush 9, 2) := by decide +kernel
theorem dX7_isRowOf_4 : decode cX7_isRowOf 4 = .ok (.invokestatic 39, 3) := by decide +kernel
theorem dX7_isRowOf_7 : decode cX7_isRowOf 7 = .ok (.ifCond .eq 17, 3) := by decide +kernel
theorem dX7_isRowOf_10 : decode cX7_isRowOf 10 = .ok (.iload_n 1, 1) := by decide +kernel
theorem dX7_isRowOf_11 : decode cX7_isRowOf 11 = .ok (.iconst 0, 1) := by decide +kernel
theorem dX7_isRowOf_12 : decode cX7_isRowOf 12 = .ok (.bipush 99, 2) := by decide +kernel
theorem dX7_isRowOf_14 : decode cX7_isRowOf 14 = .ok (.invokestatic 39, 3) := by decide +kernel
theorem dX7_isRowOf_17 : decode cX7_isRowOf 17 = .ok (.ifCond .eq 7, 3) := by decide +kernel
theorem dX7_isRowOf_20 : decode cX7_isRowOf 20 = .ok (.iconst 1, 1) := by decide +kernel
theorem dX7_isRowOf_21 : decode cX7_isRowOf 21 = .ok (.goto 4, 3) := by decide +kernel
theorem dX7_isRowOf_24 : decode cX7_isRowOf 24 = .ok (.iconst 0, 1) := by decide +kernel
theorem dX7_isRowOf_25 : decode cX7_isRowOf 25 = .ok (.ireturn, 1) := by decide +kernel
set_option maxRecDepth 20000 in
theorem ggX7_isInner_X7_in : GoodIn wsX7_isInner wsX7_in := goodIn_r _ [5] (by decide +kernel) (by decide +kernel)
set_option maxRecDepth 20000 in
theorem gX7_isInner_X7_in : GoodIn wsX7_isInner (va_wsS RX7 39 yX7_in wsX7_in) := goodIn_app (goodIn_of _ (by decide +kernel)) ggX7_isInner_X7_in
theorem dX7_isInner_0 : decode cX7_isInner 0 = .ok (.iload_n 1, 1) := by decide +kernel
theorem dX7_isInner_1 : decode cX7_isInner 1 = .ok (.iconst 0, 1) := by decide +kernel
theorem dX7_isInner_2 : decode cX7_isInner 2 = .ok (.aload_n 0, 1) := by decide +kernel
theorem dX7_isInner_3 : decode cX7_isInner 3 = .ok (.getfield 7, 3) := by decide +kernel
theorem dX7_isInner_6 : decode cX7_isInner 6 = .ok (.iconst 5, 1) := by decide +kernel
theorem dX7_isInner_7 : decode cX7_isInner 7 = .ok (.iaload, 1) := by decide +kernel
theorem dX7_isInner_8 : decode cX7_isInner 8 = .ok (.iconst 1, 1) := by decide +kernel
theorem dX7_isInner_9 : decode cX7_isInner 9 = .ok (.isub, 1) := by decide +kernel
theorem dX7_isInner_10 : decode cX7_isInner 10 = .ok (.invokestatic 39, 3) := by decide +kernel
theorem dX7_isInner_13 : decode cX7_isInner 13 = .ok (.ireturn, 1) := by decide +kernel
set_option maxRecDepth 20000 in
theorem ggX7_isOuter_X7_in : GoodIn wsX7_isOuter wsX7_in := goodIn_r _ [5] (by decide +kernel) (by decide +kernel)
set_option maxRecDepth 20000 in
theorem gX7_isOuter_X7_in : GoodIn wsX7_isOuter (va_wsS RX7 39 yX7_in wsX7_in) := goodIn_app (goodIn_of _ (by decide +kernel)) ggX7_isOuter_X7_in
theorem dX7_isOuter_0 : decode cX7_isOuter 0 = .ok (.iload_n 1, 1) := by decide +kernel
theorem dX7_isOuter_1 : decode cX7_isOuter 1 = .ok (.iconst 0, 1) := by decide +kernel
theorem dX7_isOuter_2 : decode cX7_isOuter 2 = .ok (.aload_n 0, 1) := by decide +kernel
theorem dX7_isOuter_3 : decode cX7_isOuter 3 = .ok (.getfield 7, 3) := by decide +kernel
theorem dX7_isOuter_6 : decode cX7_isOuter 6 = .ok (.bipush 6, 2) := by decide +kernel
theorem dX7_isOuter_8 : decode cX7_isOuter 8 = .ok (.iaload, 1) := by decide +kernel
theorem dX7_isOuter_9 : decode cX7_isOuter 9 = .ok (.iconst 1, 1) := by decide +kernel
theorem dX7_isOuter_10 : decode cX7_isOuter 10 = .ok (.isub, 1) := by decide +kernel
theorem dX7_isOuter_11 : decode cX7_isOuter 11 = .ok (.invokestatic 39, 3) := by decide +kernel
theorem dX7_isOuter_14 : decode cX7_isOuter 14 = .ok (.ireturn, 1) := by decide +kernel
theorem dX7_innerKey_0 : decode cX7_innerKey 0 = .ok (.aload_n 0, 1) := by decide +kernel
theorem dX7_innerKey_1 : decode cX7_innerKey 1 = .ok (.getfield 7, 3) := by decide +kernel
theorem dX7_innerKey_4 : decode cX7_innerKey 4 = .ok (.bipush 17, 2) := by decide +kernel
theorem dX7_innerKey_6 : decode cX7_innerKey 6 = .ok (.iconst 2, 1) := by decide +kernel
theorem dX7_innerKey_7 : decode cX7_innerKey 7 = .ok (.iload_n 1, 1) := by decide +kernel
theorem dX7_innerKey_8 : decode cX7_innerKey 8 = .ok (.imul, 1) := by decide +kernel
theorem dX7_innerKey_9 : decode cX7_innerKey 9 = .ok (.iadd, 1) := by decide +kernel
theorem dX7_innerKey_10 : decode cX7_innerKey 10 = .ok (.iaload, 1) := by decide +kernel
theorem dX7_innerKey_11 : decode cX7_innerKey 11 = .ok (.ireturn, 1) := by decide +kernel
theorem dX7_innerValue_0 : decode cX7_innerValue 0 = .ok (.aload_n 0, 1) := by decide +kernel
theorem dX7_innerValue_1 : decode cX7_innerValue 1 = .ok (.getfield 7, 3) := by decide +kernel
theorem dX7_innerValue_4 : decode cX7_innerValue 4 = .ok (.bipush 17, 2) := by decide +kernel
theorem dX7_innerValue_6 : decode cX7_innerValue 6 = .ok (.iconst 2, 1) := by decide +kernel
theorem dX7_innerValue_7 : decode cX7_innerValue 7 = .ok (.iload_n 1, 1) := by decide +kernel
theorem dX7_innerValue_8 : decode cX7_innerValue 8 = .ok (.imul, 1) := by decide +kernel
theorem dX7_innerValue_9 : decode cX7_innerValue 9 = .ok (.iadd, 1) := by decide +kernel
theorem dX7_innerValue_10 : decode cX7_innerValue 10 = .ok (.iconst 1, 1) := by decide +kernel
theorem dX7_innerValue_11 : decode cX7_innerValue 11 = .ok (.iadd, 1) := by decide +kernel
theorem dX7_innerValue_12 : decode cX7_innerValue 12 = .ok (.iaload, 1) := by decide +kernel
theorem dX7_innerValue_13 : decode cX7_innerValue 13 = .ok (.ireturn, 1) := by decide +kernel
set_option maxRecDepth 20000 in
theorem ggX7_isFound_X7_innerKey : GoodIn wsX7_isFound wsX7_innerKey := goodIn_r _ [6, 1, 14, 15, 16, 17, 18, 19, 20, 21, 22, 23, 24, 25, 26, 27] (by decide +kernel) (by decide +kernel)
set_option maxRecDepth 20000 in
theorem gX7_isFound_X7_innerKey : GoodIn wsX7_isFound (wsV RX7 43 RX7 yX7_innerKey wsX7_innerKey) := goodIn_app (goodIn_of _ (by decide +kernel)) ggX7_isFound_X7_innerKey
set_option maxRecDepth 20000 in
theorem ggX7_isFound_X7_innerValue : GoodIn wsX7_isFound wsX7_innerValue := goodIn_r _ [10, 1, 14, 15, 16, 17, 18, 19, 20, 21, 22, 23, 24, 25, 26, 27] (by decide +kernel) (by decide +kernel)
set_option maxRecDepth 20000 in
theorem gX7_isFound_X7_innerValue : GoodIn wsX7_isFound (wsV RX7 47 RX7 yX7_innerValue wsX7_innerValue) := goodIn_app (goodIn_of _ (by decide +kernel)) ggX7_isFound_X7_innerValue
set_option maxRecDepth 20000 in
theorem ggX7_isFound_X7_in : GoodIn wsX7_isFound wsX7_in := goodIn_r _ [13] (by decide +kernel) (by decide +kernel)
set_option maxRecDepth 20000 in
theorem gX7_isFound_X7_in : GoodIn wsX7_isFound (va_wsS RX7 39 yX7_in wsX7_in) := goodIn_app (goodIn_of _ (by decide +kernel)) ggX7_isFound_X7_in
theorem dX7_isFound_0 : decode cX7_isFound 0 = .ok (.aload_n 0, 1) := by decide +kernel
theorem dX7_isFound_1 : decode cX7_isFound 1 = .ok (.iload_n 1, 1) := by decide +kernel
theorem dX7_isFound_2 : decode cX7_isFound 2 = .ok (.invokevirtual 43, 3) := by decide +kernel
theorem dX7_isFound_5 : decode cX7_isFound 5 = .ok (.iload_n 2, 1) := by decide +kernel
theorem dX7_isFound_6 : decode cX7_isFound 6 = .ok (.if_icmp .ne 30, 3) := by decide +kernel
theorem dX7_isFound_9 : decode cX7_isFound 9 = .ok (.aload_n 0, 1) := by decide +kernel
theorem dX7_isFound_10 : decode cX7_isFound 10 = .ok (.iload_n 1, 1) := by decide +kernel
theorem dX7_isFound_11 : decode cX7_isFound 11 = .ok (.invokevirtual 47, 3) := by decide +kernel
theorem dX7_isFound_14 : decode cX7_isFound 14 = .ok (.aload_n 0, 1) := by decide +kernel
theorem dX7_isFound_15 : decode cX7_isFound 15 = .ok (.getfield 7, 3) := by decide +kernel
theorem dX7_isFound_18 : decode cX7_isFound 18 = .ok (.iconst 3, 1) := by decide +kernel
theorem dX7_isFound_19 : decode cX7_isFound 19 = .ok (.iaload, 1) := by decide +kernel
theorem dX7_isFound_20 : decode cX7_isFound 20 = .ok (.aload_n 0, 1) := by decide +kernel
theorem dX7_isFound_21 : decode cX7_isFound 21 = .ok (.getfield 7, 3) := by decide +kernel
theorem dX7_isFound_24 : decode cX7_isFound 24 = .ok (.iconst 4, 1) := by decide +kernel
theorem dX7_isFound_25 : decode cX7_isFound 25 = .ok (.iaload, 1) := by decide +kernel
theorem dX7_isFound_26 : decode cX7_isFound 26 = .ok (.invokestatic 39, 3) := by decide +kernel
theorem dX7_isFound_29 : decode cX7_isFound 29 = .ok (.ifCond .eq 7, 3) := by decide +kernel
theorem dX7_isFound_32 : decode cX7_isFound 32 = .ok (.iconst 1, 1) := by decide +kernel
theorem dX7_isFound_33 : decode cX7_isFound 33 = .ok (.goto 4, 3) := by decide +kernel
theorem dX7_isFound_36 : decode cX7_isFound 36 = .ok (.iconst 0, 1) := by decide +kernel
theorem dX7_isFound_37 : decode cX7_isFound 37 = .ok (.ireturn, 1) := by decide +kernel
set_option maxRecDepth 20000 in
theorem ggX7_found_X7_isFound : GoodIn wsX7_found wsX7_isFound := goodIn_r _ [6, 1, 7, 8, 9, 5, 10, 11, 12, 13, 14, 15, 16, 17, 18, 19, 20, 21, 22, 23, 24, 25, 26, 27, 28, 29, 30, 31] (by decide +kernel) (by decide +kernel)
set_option maxRecDepth 20000 in
theorem gX7_found_X7_isFound : GoodIn wsX7_found (wsV RX7 50 RX7 yX7_isFound wsX7_isFound) := goodIn_app (goodIn_of _ (by decide +kernel)) ggX7_found_X7_isFound
theorem dX7_found_0 : decode cX7_found 0 = .ok (.iconst 0, 1) := by decide +kernel
theorem dX7_found_1 : decode cX7_found 1 = .ok (.istore_n 2, 1) := by decide +kernel
theorem dX7_found_2 : decode cX7_found 2 = .ok (.iconst 0, 1) := by decide +kernel
theorem dX7_found_3 : decode cX7_found 3 = .ok (.istore_n 3, 1) := by decide +kernel
theorem dX7_found_4 : decode cX7_found 4 = .ok (.iload_n 3, 1) := by decide +kernel
theorem dX7_found_5 : decode cX7_found 5 = .ok (.aload_n 0, 1) := by decide +kernel
theorem dX7_found_6 : decode cX7_found 6 = .ok (.getfield 7, 3) := by decide +kernel
theorem dX7_found_9 : decode cX7_found 9 = .ok (.iconst 5, 1) := by decide +kernel
theorem dX7_found_10 : decode cX7_found 10 = .ok (.iaload, 1) := by decide +kernel
theorem dX7_found_11 : decode cX7_found 11 = .ok (.if_icmp .ge 26, 3) := by decide +kernel
theorem dX7_found_14 : decode cX7_found 14 = .ok (.iload_n 2, 1) := by decide +kernel
theorem dX7_found_15 : decode cX7_found 15 = .ok (.aload_n 0, 1) := by decide +kernel
theorem dX7_found_16 : decode cX7_found 16 = .ok (.iload_n 3, 1) := by decide +kernel
theorem dX7_found_17 : decode cX7_found 17 = .ok (.iload_n 1, 1) := by decide +kernel
theorem dX7_found_18 : decode cX7_found 18 = .ok (.invokevirtual 50, 3) := by decide +kernel
theorem dX7_found_21 : decode cX7_found 21 = .ok (.ifCond .eq 7, 3) := by decide +kernel
theorem dX7_found_24 : decode cX7_found 24 = .ok (.iconst 1, 1) := by decide +kernel
theorem dX7_found_25 : decode cX7_found 25 = .ok (.goto 4, 3) := by decide +kernel
theorem dX7_found_28 : decode cX7_found 28 = .ok (.iconst 0, 1) := by decide +kernel
theorem dX7_found_29 : decode cX7_found 29 = .ok (.iadd, 1) := by decide +kernel
theorem dX7_found_30 : decode cX7_found 30 = .ok (.istore_n 2, 1) := by decide +kernel
theorem dX7_found_31 : decode cX7_found 31 = .ok (.iinc 3 1, 3) := by decide +kernel
theorem dX7_found_34 : decode cX7_found 34 = .ok (.goto (-30), 3) := by decide +kernel
theorem dX7_found_37 : decode cX7_found 37 = .ok (.iload_n 2, 1) := by decide +kernel
theorem dX7_found_38 : decode cX7_found 38 = .ok (.ireturn, 1) := by decide +kernel
set_option maxRecDepth 20000 in
theorem ggX7_weight_X7_found : GoodIn wsX7_weight wsX7_found := goodIn_r _ [5, 6, 7, 8, 9, 4, 10, 11, 12, 13, 14, 15, 16, 17, 18, 19, 20, 21, 22, 23, 24, 25, 26, 27, 28, 29, 30, 31, 32, 33, 34, 35] (by decide +kernel) (by decide +kernel)
set_option maxRecDepth 20000 in
theorem gX7_weight_X7_found : GoodIn wsX7_weight (wsV RX7 54 RX7 yX7_found wsX7_found) := goodIn_app (goodIn_of _ (by decide +kernel)) ggX7_weight_X7_found
theorem dX7_weight_0 : decode cX7_weight 0 = .ok (.iconst 2, 1) := by decide +kernel
theorem dX7_weight_1 : decode cX7_weight 1 = .ok (.aload_n 0, 1) := by decide +kernel
theorem dX7_weight_2 : decode cX7_weight 2 = .ok (.iload_n 1, 1) := by decide +kernel
theorem dX7_weight_3 : decode cX7_weight 3 = .ok (.invokevirtual 54, 3) := by decide +kernel
theorem dX7_weight_6 : decode cX7_weight 6 = .ok (.iadd, 1) := by decide +kernel
theorem dX7_weight_7 : decode cX7_weight 7 = .ok (.ireturn, 1) := by decide +kernel
set_option maxRecDepth 20000 in
theorem ggX7_sum_X7_isFound : GoodIn wsX7_sum wsX7_isFound := goodIn_r _ [6, 1, 7, 8, 9, 5, 10, 11, 12, 13, 14, 15, 16, 17, 18, 19, 20, 21, 22, 23, 24, 25, 26, 27, 28, 29, 30, 31] (by decide +kernel) (by decide +kernel)
set_option maxRecDepth 20000 in
theorem gX7_sum_X7_isFound : GoodIn wsX7_sum (wsV RX7 50 RX7 yX7_isFound wsX7_isFound) := goodIn_app (goodIn_of _ (by decide +kernel)) ggX7_sum_X7_isFound
set_option maxRecDepth 20000 in
theorem ggX7_sum_X7_innerValue : GoodIn wsX7_sum wsX7_innerValue := goodIn_r _ [14, 1, 18, 19, 20, 21, 22, 23, 24, 25, 26, 27, 28, 29, 30, 31] (by decide +kernel) (by decide +kernel)
set_option maxRecDepth 20000 in
theorem gX7_sum_X7_innerValue : GoodIn wsX7_sum (wsV RX7 47 RX7 yX7_innerValue wsX7_innerValue) := goodIn_app (goodIn_of _ (by decide +kernel)) ggX7_sum_X7_innerValue
theorem dX7_sum_0 : decode cX7_sum 0 = .ok (.iconst 0, 1) := by decide +kernel
theorem dX7_sum_1 : decode cX7_sum 1 = .ok (.istore_n 2, 1) := by decide +kernel
theorem dX7_sum_2 : decode cX7_sum 2 = .ok (.iconst 0, 1) := by decide +kernel
theorem dX7_sum_3 : decode cX7_sum 3 = .ok (.istore_n 3, 1) := by decide +kernel
theorem dX7_sum_4 : decode cX7_sum 4 = .ok (.iload_n 3, 1) := by decide +kernel
theorem dX7_sum_5 : decode cX7_sum 5 = .ok (.aload_n 0, 1) := by decide +kernel
theorem dX7_sum_6 : decode cX7_sum 6 = .ok (.getfield 7, 3) := by decide +kernel
theorem dX7_sum_9 : decode cX7_sum 9 = .ok (.iconst 5, 1) := by decide +kernel
theorem dX7_sum_10 : decode cX7_sum 10 = .ok (.iaload, 1) := by decide +kernel
theorem dX7_sum_11 : decode cX7_sum 11 = .ok (.if_icmp .ge 30, 3) := by decide +kernel
theorem dX7_sum_14 : decode cX7_sum 14 = .ok (.iload_n 2, 1) := by decide +kernel
theorem dX7_sum_15 : decode cX7_sum 15 = .ok (.aload_n 0, 1) := by decide +kernel
theorem dX7_sum_16 : decode cX7_sum 16 = .ok (.iload_n 3, 1) := by decide +kernel
theorem dX7_sum_17 : decode cX7_sum 17 = .ok (.iload_n 1, 1) := by decide +kernel
theorem dX7_sum_18 : decode cX7_sum 18 = .ok (.invokevirtual 50, 3) := by decide +kernel
theorem dX7_sum_21 : decode cX7_sum 21 = .ok (.ifCond .eq 11, 3) := by decide +kernel
theorem dX7_sum_24 : decode cX7_sum 24 = .ok (.aload_n 0, 1) := by decide +kernel
theorem dX7_sum_25 : decode cX7_sum 25 = .ok (.iload_n 3, 1) := by decide +kernel
theorem dX7_sum_26 : decode cX7_sum 26 = .ok (.invokevirtual 47, 3) := by decide +kernel
theorem dX7_sum_29 : decode cX7_sum 29 = .ok (.goto 4, 3) := by decide +kernel
theorem dX7_sum_32 : decode cX7_sum 32 = .ok (.iconst 0, 1) := by decide +kernel
theorem dX7_sum_33 : decode cX7_sum 33 = .ok (.iadd, 1) := by decide +kernel
theorem dX7_sum_34 : decode cX7_sum 34 = .ok (.istore_n 2, 1) := by decide +kernel
theorem dX7_sum_35 : decode cX7_sum 35 = .ok (.iinc 3 1, 3) := by decide +kernel
theorem dX7_sum_38 : decode cX7_sum 38 = .ok (.goto (-34), 3) := by decide +kernel
theorem dX7_sum_41 : decode cX7_sum 41 = .ok (.iload_n 2, 1) := by decide +kernel
theorem dX7_sum_42 : decode cX7_sum 42 = .ok (.ireturn, 1) := by decide +kernel
set_option maxRecDepth 20000 in
theorem ggX7_firstRow_X7_isFound : GoodIn wsX7_firstRow wsX7_isFound := goodIn_r _ [6, 1, 7, 8, 9, 5, 10, 11, 12, 13, 14, 15, 16, 17, 18, 19, 20, 21, 22, 23, 24, 25, 26, 27, 28, 29, 30, 31] (by decide +kernel) (by decide +kernel)
set_option maxRecDepth 20000 in
theorem gX7_firstRow_X7_isFound : GoodIn wsX7_firstRow (wsV RX7 50 RX7 yX7_isFound wsX7_isFound) := goodIn_app (goodIn_of _ (by decide +kernel)) ggX7_firstRow_X7_isFound
theorem dX7_firstRow_0 : decode cX7_firstRow 0 = .ok (.iconst 0, 1) := by decide +kernel
theorem dX7_firstRow_1 : decode cX7_firstRow 1 = .ok (.istore_n 2, 1) := by decide +kernel
theorem dX7_firstRow_2 : decode cX7_firstRow 2 = .ok (.iload_n 2, 1) := by decide +kernel
theorem dX7_firstRow_3 : decode cX7_firstRow 3 = .ok (.aload_n 0, 1) := by decide +kernel
theorem dX7_firstRow_4 : decode cX7_firstRow 4 = .ok (.getfield 7, 3) := by decide +kernel
theorem dX7_firstRow_7 : decode cX7_firstRow 7 = .ok (.iconst 5, 1) := by decide +kernel
theorem dX7_firstRow_8 : decode cX7_firstRow 8 = .ok (.iaload, 1) := by decide +kernel
theorem dX7_firstRow_9 : decode cX7_firstRow 9 = .ok (.if_icmp .ge 20, 3) := by decide +kernel
theorem dX7_firstRow_12 : decode cX7_firstRow 12 = .ok (.aload_n 0, 1) := by decide +kernel
theorem dX7_firstRow_13 : decode cX7_firstRow 13 = .ok (.iload_n 2, 1) := by decide +kernel
theorem dX7_firstRow_14 : decode cX7_firstRow 14 = .ok (.iload_n 1, 1) := by decide +kernel
theorem dX7_firstRow_15 : decode cX7_firstRow 15 = .ok (.invokevirtual 50, 3) := by decide +kernel
theorem dX7_firstRow_18 : decode cX7_firstRow 18 = .ok (.ifCond .eq 5, 3) := by decide +kernel
theorem dX7_firstRow_21 : decode cX7_firstRow 21 = .ok (.iload_n 2, 1) := by decide +kernel
theorem dX7_firstRow_22 : decode cX7_firstRow 22 = .ok (.ireturn, 1) := by decide +kernel
theorem dX7_firstRow_23 : decode cX7_firstRow 23 = .ok (.iinc 2 1, 3) := by decide +kernel
theorem dX7_firstRow_26 : decode cX7_firstRow 26 = .ok (.goto (-24), 3) := by decide +kernel
theorem dX7_firstRow_29 : decode cX7_firstRow 29 = .ok (.bipush (-4), 2) := by decide +kernel
theorem dX7_firstRow_31 : decode cX7_firstRow 31 = .ok (.ireturn, 1) := by decide +kernel
set_option maxRecDepth 20000 in
theorem ggX7_tell_X7_found : GoodIn wsX7_tell wsX7_found := goodIn_r _ [5, 6, 7, 8, 9, 4, 10, 11, 12, 13, 14, 15, 16, 17, 18, 19, 20, 21, 34, 35, 36, 37, 38, 39, 40, 41, 42, 43, 44, 45, 46, 47] (by decide +kernel) (by decide +kernel)
set_option maxRecDepth 20000 in
theorem gX7_tell_X7_found : GoodIn wsX7_tell (wsV RX7 54 RX7 yX7_found wsX7_found) := goodIn_app (goodIn_of _ (by decide +kernel)) ggX7_tell_X7_found
set_option maxRecDepth 20000 in
theorem ggX7_tell_X7_weight : GoodIn wsX7_tell wsX7_weight := goodIn_r _ [25, 1, 2, 3, 4, 5, 6, 7, 8, 9, 10, 11, 12, 13, 14, 15, 16, 17, 18, 19, 20, 21, 34, 35, 36, 37, 38, 39, 40, 41, 42, 43, 44, 45, 46, 47] (by decide +kernel) (by decide +kernel)
set_option maxRecDepth 20000 in
theorem gX7_tell_X7_weight : GoodIn wsX7_tell (wsV RX7 57 RX7 yX7_weight wsX7_weight) := goodIn_app (goodIn_of _ (by decide +kernel)) ggX7_tell_X7_weight
set_option maxRecDepth 20000 in
theorem ggX7_tell_X7_sum : GoodIn wsX7_tell wsX7_sum := goodIn_r _ [29, 6, 7, 8, 9, 4, 10, 11, 12, 13, 14, 15, 16, 17, 18, 19, 20, 21, 34, 35, 36, 37, 38, 39, 40, 41, 42, 43, 44, 45, 46, 47] (by decide +kernel) (by decide +kernel)
set_option maxRecDepth 20000 in
theorem gX7_tell_X7_sum : GoodIn wsX7_tell (wsV RX7 60 RX7 yX7_sum wsX7_sum) := goodIn_app (goodIn_of _ (by decide +kernel)) ggX7_tell_X7_sum
set_option maxRecDepth 20000 in
theorem ggX7_tell_X7_firstRow : GoodIn wsX7_tell wsX7_firstRow := goodIn_r _ [33, 6, 7, 8, 9, 4, 10, 11, 12, 13, 14, 15, 16, 17, 18, 19, 20, 21, 34, 35, 36, 37, 38, 39, 40, 41, 42, 43, 44, 45, 46, 47] (by decide +kernel) (by decide +kernel)
set_option maxRecDepth 20000 in
theorem gX7_tell_X7_firstRow : GoodIn wsX7_tell (wsV RX7 63 RX7 yX7_firstRow wsX7_firstRow) := goodIn_app (goodIn_of _ (by decide +kernel)) ggX7_tell_X7_firstRow
theorem dX7_tell_0 : decode cX7_tell 0 = .ok (.iload_n 2, 1) := by decide +kernel
theorem dX7_tell_1 : decode cX7_tell 1 = .ok (.ifCond .ne 11, 3) := by decide +kernel
theorem dX7_tell_4 : decode cX7_tell 4 = .ok (.aload_n 0, 1) := by decide +kernel
theorem dX7_tell_5 : decode cX7_tell 5 = .ok (.iload_n 1, 1) := by decide +kernel
theorem dX7_tell_6 : decode cX7_tell 6 = .ok (.invokevirtual 54, 3) := by decide +kernel
theorem dX7_tell_9 : decode cX7_tell 9 = .ok (.goto 34, 3) := by decide +kernel
theorem dX7_tell_12 : decode cX7_tell 12 = .ok (.iload_n 2, 1) := by decide +kernel
theorem dX7_tell_13 : decode cX7_tell 13 = .ok (.iconst 1, 1) := by decide +kernel
theorem dX7_tell_14 : decode cX7_tell 14 = .ok (.if_icmp .ne 11, 3) := by decide +kernel
theorem dX7_tell_17 : decode cX7_tell 17 = .ok (.aload_n 0, 1) := by decide +kernel
theorem dX7_tell_18 : decode cX7_tell 18 = .ok (.iload_n 1, 1) := by decide +kernel
theorem dX7_tell_19 : decode cX7_tell 19 = .ok (.invokevirtual 57, 3) := by decide +kernel
theorem dX7_tell_22 : decode cX7_tell 22 = .ok (.goto 21, 3) := by decide +kernel
theorem dX7_tell_25 : decode cX7_tell 25 = .ok (.iload_n 2, 1) := by decide +kernel
theorem dX7_tell_26 : decode cX7_tell 26 = .ok (.iconst 2, 1) := by decide +kernel
theorem dX7_tell_27 : decode cX7_tell 27 = .ok (.if_icmp .ne 11, 3) := by decide +kernel
theorem dX7_tell_30 : decode cX7_tell 30 = .ok (.aload_n 0, 1) := by decide +kernel
theorem dX7_tell_31 : decode cX7_tell 31 = .ok (.iload_n 1, 1) := by decide +kernel
theorem dX7_tell_32 : decode cX7_tell 32 = .ok (.invokevirtual 60, 3) := by decide +kernel
theorem dX7_tell_35 : decode cX7_tell 35 = .ok (.goto 8, 3) := by decide +kernel
theorem dX7_tell_38 : decode cX7_tell 38 = .ok (.aload_n 0, 1) := by decide +kernel
theorem dX7_tell_39 : decode cX7_tell 39 = .ok (.iload_n 1, 1) := by decide +kernel
theorem dX7_tell_40 : decode cX7_tell 40 = .ok (.invokevirtual 63, 3) := by decide +kernel
theorem dX7_tell_43 : decode cX7_tell 43 = .ok (.ireturn, 1) := by decide +kernel
theorem dX7_isKnown_0 : decode cX7_isKnown 0 = .ok (.aload_n 0, 1) := by decide +kernel
theorem dX7_isKnown_1 : decode cX7_isKnown 1 = .ok (.getfield 7, 3) := by decide +kernel
theorem dX7_isKnown_4 : decode cX7_isKnown 4 = .ok (.bipush 97, 2) := by decide +kernel
theorem dX7_isKnown_6 : decode cX7_isKnown 6 = .ok (.iload_n 1, 1) := by decide +kernel
theorem dX7_isKnown_7 : decode cX7_isKnown 7 = .ok (.iadd, 1) := by decide +kernel
theorem dX7_isKnown_8 : decode cX7_isKnown 8 = .ok (.iaload, 1) := by decide +kernel
theorem dX7_isKnown_9 : decode cX7_isKnown 9 = .ok (.ifCond .le 7, 3) := by decide +kernel
theorem dX7_isKnown_12 : decode cX7_isKnown 12 = .ok (.iconst 1, 1) := by decide +kernel
theorem dX7_isKnown_13 : decode cX7_isKnown 13 = .ok (.goto 4, 3) := by decide +kernel
theorem dX7_isKnown_16 : decode cX7_isKnown 16 = .ok (.iconst 0, 1) := by decide +kernel
theorem dX7_isKnown_17 : decode cX7_isKnown 17 = .ok (.ireturn, 1) := by decide +kernel
set_option maxRecDepth 20000 in
theorem ggX7_known_X7_isKnown : GoodIn wsX7_known wsX7_isKnown := goodIn_r _ [5, 6, 7, 8, 9, 10, 11, 12, 13, 14, 15, 16, 17, 18, 19, 20] (by decide +kernel) (by decide +kernel)
set_option maxRecDepth 20000 in
theorem gX7_known_X7_isKnown : GoodIn wsX7_known (wsV RX7 66 RX7 yX7_isKnown wsX7_isKnown) := goodIn_app (goodIn_of _ (by decide +kernel)) ggX7_known_X7_isKnown
theorem dX7_known_0 : decode cX7_known 0 = .ok (.iconst 0, 1) := by decide +kernel
theorem dX7_known_1 : decode cX7_known 1 = .ok (.istore_n 1, 1) := by decide +kernel
theorem dX7_known_2 : decode cX7_known 2 = .ok (.iconst 0, 1) := by decide +kernel
theorem dX7_known_3 : decode cX7_known 3 = .ok (.istore_n 2, 1) := by decide +kernel
theorem dX7_known_4 : decode cX7_known 4 = .ok (.iload_n 2, 1) := by decide +kernel
theorem dX7_known_5 : decode cX7_known 5 = .ok (.bipush 10, 2) := by decide +kernel
theorem dX7_known_7 : decode cX7_known 7 = .ok (.if_icmp .ge 25, 3) := by decide +kernel
theorem dX7_known_10 : decode cX7_known 10 = .ok (.iload_n 1, 1) := by decide +kernel
theorem dX7_known_11 : decode cX7_known 11 = .ok (.aload_n 0, 1) := by decide +kernel
theorem dX7_known_12 : decode cX7_known 12 = .ok (.iload_n 2, 1) := by decide +kernel
theorem dX7_known_13 : decode cX7_known 13 = .ok (.invokevirtual 66, 3) := by decide +kernel
theorem dX7_known_16 : decode cX7_known 16 = .ok (.ifCond .eq 7, 3) := by decide +kernel
theorem dX7_known_19 : decode cX7_known 19 = .ok (.iconst 1, 1) := by decide +kernel
theorem dX7_known_20 : decode cX7_known 20 = .ok (.goto 4, 3) := by decide +kernel
theorem dX7_known_23 : decode cX7_known 23 = .ok (.iconst 0, 1) := by decide +kernel
theorem dX7_known_24 : decode cX7_known 24 = .ok (.iadd, 1) := by decide +kernel
theorem dX7_known_25 : decode cX7_known 25 = .ok (.istore_n 1, 1) := by decide +kernel
theorem dX7_known_26 : decode cX7_known 26 = .ok (.iinc 2 1, 3) := by decide +kernel
theorem dX7_known_29 : decode cX7_known 29 = .ok (.goto (-25), 3) := by decide +kernel
theorem dX7_known_32 : decode cX7_known 32 = .ok (.iload_n 1, 1) := by decide +kernel
theorem dX7_known_33 : decode cX7_known 33 = .ok (.ireturn, 1) := by decide +kernel
set_option maxRecDepth 20000 in
theorem ggX7_weights_X7_isKnown : GoodIn wsX7_weights wsX7_isKnown := goodIn_r _ [5, 6, 30, 31, 32, 33, 34, 35, 36, 37, 38, 39, 40, 41, 42, 43] (by decide +kernel) (by decide +kernel)
set_option maxRecDepth 20000 in
theorem gX7_weights_X7_isKnown : GoodIn wsX7_weights (wsV RX7 66 RX7 yX7_isKnown wsX7_isKnown) := goodIn_app (goodIn_of _ (by decide +kernel)) ggX7_weights_X7_isKnown
set_option maxRecDepth 20000 in
theorem ggX7_weights_X7_weight : GoodIn wsX7_weights wsX7_weight := goodIn_r _ [10, 11, 12, 13, 4, 14, 6, 15, 16, 17, 18, 19, 20, 21, 22, 23, 24, 25, 26, 27, 28, 29, 30, 31, 32, 33, 34, 35, 36, 37, 38, 39, 40, 41, 42, 43] (by decide +kernel) (by decide +kernel)
set_option maxRecDepth 20000 in
theorem gX7_weights_X7_weight : GoodIn wsX7_weights (wsV RX7 57 RX7 yX7_weight wsX7_weight) := goodIn_app (goodIn_of _ (by decide +kernel)) ggX7_weights_X7_weight
theorem dX7_weights_0 : decode cX7_weights 0 = .ok (.iconst 0, 1) := by decide +kernel
theorem dX7_weights_1 : decode cX7_weights 1 = .ok (.istore_n 1, 1) := by decide +kernel
theorem dX7_weights_2 : decode cX7_weights 2 = .ok (.iconst 0, 1) := by decide +kernel
theorem dX7_weights_3 : decode cX7_weights 3 = .ok (.istore_n 2, 1) := by decide +kernel
theorem dX7_weights_4 : decode cX7_weights 4 = .ok (.iload_n 2, 1) := by decide +kernel
theorem dX7_weights_5 : decode cX7_weights 5 = .ok (.bipush 10, 2) := by decide +kernel
theorem dX7_weights_7 : decode cX7_weights 7 = .ok (.if_icmp .ge 29, 3) := by decide +kernel
theorem dX7_weights_10 : decode cX7_weights 10 = .ok (.iload_n 1, 1) := by decide +kernel
theorem dX7_weights_11 : decode cX7_weights 11 = .ok (.aload_n 0, 1) := by decide +kernel
theorem dX7_weights_12 : decode cX7_weights 12 = .ok (.iload_n 2, 1) := by decide +kernel
theorem dX7_weights_13 : decode cX7_weights 13 = .ok (.invokevirtual 66, 3) := by decide +kernel
theorem dX7_weights_16 : decode cX7_weights 16 = .ok (.ifCond .eq 11, 3) := by decide +kernel
theorem dX7_weights_19 : decode cX7_weights 19 = .ok (.aload_n 0, 1) := by decide +kernel
theorem dX7_weights_20 : decode cX7_weights 20 = .ok (.iload_n 2, 1) := by decide +kernel
theorem dX7_weights_21 : decode cX7_weights 21 = .ok (.invokevirtual 57, 3) := by decide +kernel
theorem dX7_weights_24 : decode cX7_weights 24 = .ok (.goto 4, 3) := by decide +kernel
theorem dX7_weights_27 : decode cX7_weights 27 = .ok (.iconst 0, 1) := by decide +kernel
theorem dX7_weights_28 : decode cX7_weights 28 = .ok (.iadd, 1) := by decide +kernel
theorem dX7_weights_29 : decode cX7_weights 29 = .ok (.istore_n 1, 1) := by decide +kernel
theorem dX7_weights_30 : decode cX7_weights 30 = .ok (.iinc 2 1, 3) := by decide +kernel
theorem dX7_weights_33 : decode cX7_weights 33 = .ok (.goto (-29), 3) := by decide +kernel
theorem dX7_weights_36 : decode cX7_weights 36 = .ok (.iload_n 1, 1) := by decide +kernel
theorem dX7_weights_37 : decode cX7_weights 37 = .ok (.ireturn, 1) := by decide +kernel
theorem dX7_isAhead_0 : decode cX7_isAhead 0 = .ok (.aload_n 0, 1) := by decide +kernel
theorem dX7_isAhead_1 : decode cX7_isAhead 1 = .ok (.getfield 7, 3) := by decide +kernel
theorem dX7_isAhead_4 : decode cX7_isAhead 4 = .ok (.iconst 1, 1) := by decide +kernel
theorem dX7_isAhead_5 : decode cX7_isAhead 5 = .ok (.iaload, 1) := by decide +kernel
theorem dX7_isAhead_6 : decode cX7_isAhead 6 = .ok (.iconst 2, 1) := by decide +kernel
theorem dX7_isAhead_7 : decode cX7_isAhead 7 = .ok (.if_icmp .ne 30, 3) := by decide +kernel
theorem dX7_isAhead_10 : decode cX7_isAhead 10 = .ok (.aload_n 0, 1) := by decide +kernel
theorem dX7_isAhead_11 : decode cX7_isAhead 11 = .ok (.getfield 7, 3) := by decide +kernel
theorem dX7_isAhead_14 : decode cX7_isAhead 14 = .ok (.bipush 117, 2) := by decide +kernel
theorem dX7_isAhead_16 : decode cX7_isAhead 16 = .ok (.iload_n 1, 1) := by decide +kernel
theorem dX7_isAhead_17 : decode cX7_isAhead 17 = .ok (.iadd, 1) := by decide +kernel
theorem dX7_isAhead_18 : decode cX7_isAhead 18 = .ok (.iaload, 1) := by decide +kernel
theorem dX7_isAhead_19 : decode cX7_isAhead 19 = .ok (.aload_n 0, 1) := by decide +kernel
theorem dX7_isAhead_20 : decode cX7_isAhead 20 = .ok (.getfield 7, 3) := by decide +kernel
theorem dX7_isAhead_23 : decode cX7_isAhead 23 = .ok (.bipush 117, 2) := by decide +kernel
theorem dX7_isAhead_25 : decode cX7_isAhead 25 = .ok (.iload_n 2, 1) := by decide +kernel
theorem dX7_isAhead_26 : decode cX7_isAhead 26 = .ok (.iadd, 1) := by decide +kernel
theorem dX7_isAhead_27 : decode cX7_isAhead 27 = .ok (.iaload, 1) := by decide +kernel
theorem dX7_isAhead_28 : decode cX7_isAhead 28 = .ok (.if_icmp .ge 7, 3) := by decide +kernel
theorem dX7_isAhead_31 : decode cX7_isAhead 31 = .ok (.iconst 1, 1) := by decide +kernel
theorem dX7_isAhead_32 : decode cX7_isAhead 32 = .ok (.goto 4, 3) := by decide +kernel
theorem dX7_isAhead_35 : decode cX7_isAhead 35 = .ok (.iconst 0, 1) := by decide +kernel
theorem dX7_isAhead_36 : decode cX7_isAhead 36 = .ok (.ireturn, 1) := by decide +kernel
theorem dX7_isAhead_37 : decode cX7_isAhead 37 = .ok (.aload_n 0, 1) := by decide +kernel
theorem dX7_isAhead_38 : decode cX7_isAhead 38 = .ok (.getfield 7, 3) := by decide +kernel
theorem dX7_isAhead_41 : decode cX7_isAhead 41 = .ok (.iconst 1, 1) := by decide +kernel
theorem dX7_isAhead_42 : decode cX7_isAhead 42 = .ok (.iaload, 1) := by decide +kernel
theorem dX7_isAhead_43 : decode cX7_isAhead 43 = .ok (.iconst 1, 1) := by decide +kernel
theorem dX7_isAhead_44 : decode cX7_isAhead 44 = .ok (.if_icmp .ne 25, 3) := by decide +kernel
theorem dX7_isAhead_47 : decode cX7_isAhead 47 = .ok (.aload_n 0, 1) := by decide +kernel
theorem dX7_isAhead_48 : decode cX7_isAhead 48 = .ok (.getfield 7, 3) := by decide +kernel
theorem dX7_isAhead_51 : decode cX7_isAhead 51 = .ok (.bipush 97, 2) := by decide +kernel
theorem dX7_isAhead_53 : decode cX7_isAhead 53 = .ok (.iload_n 1, 1) := by decide +kernel
theorem dX7_isAhead_54 : decode cX7_isAhead 54 = .ok (.iadd, 1) := by decide +kernel
theorem dX7_isAhead_55 : decode cX7_isAhead 55 = .ok (.iaload, 1) := by decide +kernel
theorem dX7_isAhead_56 : decode cX7_isAhead 56 = .ok (.aload_n 0, 1) := by decide +kernel
theorem dX7_isAhead_57 : decode cX7_isAhead 57 = .ok (.getfield 7, 3) := by decide +kernel
theorem dX7_isAhead_60 : decode cX7_isAhead 60 = .ok (.bipush 97, 2) := by decide +kernel
theorem dX7_isAhead_62 : decode cX7_isAhead 62 = .ok (.iload_n 2, 1) := by decide +kernel
theorem dX7_isAhead_63 : decode cX7_isAhead 63 = .ok (.iadd, 1) := by decide +kernel
theorem dX7_isAhead_64 : decode cX7_isAhead 64 = .ok (.iaload, 1) := by decide +kernel
theorem dX7_isAhead_65 : decode cX7_isAhead 65 = .ok (.isub, 1) := by decide +kernel
theorem dX7_isAhead_66 : decode cX7_isAhead 66 = .ok (.goto 4, 3) := by decide +kernel
theorem dX7_isAhead_69 : decode cX7_isAhead 69 = .ok (.iconst 0, 1) := by decide +kernel
theorem dX7_isAhead_70 : decode cX7_isAhead 70 = .ok (.istore_n 3, 1) := by decide +kernel
theorem dX7_isAhead_71 : decode cX7_isAhead 71 = .ok (.iload_n 3, 1) := by decide +kernel
theorem dX7_isAhead_72 : decode cX7_isAhead 72 = .ok (.ifCond .lt 28, 3) := by decide +kernel
theorem dX7_isAhead_75 : decode cX7_isAhead 75 = .ok (.iload_n 3, 1) := by decide +kernel
theorem dX7_isAhead_76 : decode cX7_isAhead 76 = .ok (.ifCond .ne 28, 3) := by decide +kernel
theorem dX7_isAhead_79 : decode cX7_isAhead 79 = .ok (.aload_n 0, 1) := by decide +kernel
theorem dX7_isAhead_80 : decode cX7_isAhead 80 = .ok (.getfield 7, 3) := by decide +kernel
theorem dX7_isAhead_83 : decode cX7_isAhead 83 = .ok (.bipush 107, 2) := by decide +kernel
theorem dX7_isAhead_85 : decode cX7_isAhead 85 = .ok (.iload_n 1, 1) := by decide +kernel
theorem dX7_isAhead_86 : decode cX7_isAhead 86 = .ok (.iadd, 1) := by decide +kernel
theorem dX7_isAhead_87 : decode cX7_isAhead 87 = .ok (.iaload, 1) := by decide +kernel
theorem dX7_isAhead_88 : decode cX7_isAhead 88 = .ok (.aload_n 0, 1) := by decide +kernel
theorem dX7_isAhead_89 : decode cX7_isAhead 89 = .ok (.getfield 7, 3) := by decide +kernel
theorem dX7_isAhead_92 : decode cX7_isAhead 92 = .ok (.bipush 107, 2) := by decide +kernel
theorem dX7_isAhead_94 : decode cX7_isAhead 94 = .ok (.iload_n 2, 1) := by decide +kernel
theorem dX7_isAhead_95 : decode cX7_isAhead 95 = .ok (.iadd, 1) := by decide +kernel
theorem dX7_isAhead_96 : decode cX7_isAhead 96 = .ok (.iaload, 1) := by decide +kernel
theorem dX7_isAhead_97 : decode cX7_isAhead 97 = .ok (.if_icmp .ge 7, 3) := by decide +kernel
theorem dX7_isAhead_100 : decode cX7_isAhead 100 = .ok (.iconst 1, 1) := by decide +kernel
theorem dX7_isAhead_101 : decode cX7_isAhead 101 = .ok (.goto 4, 3) := by decide +kernel
theorem dX7_isAhead_104 : decode cX7_isAhead 104 = .ok (.iconst 0, 1) := by decide +kernel
theorem dX7_isAhead_105 : decode cX7_isAhead 105 = .ok (.ireturn, 1) := by decide +kernel
set_option maxRecDepth 20000 in
theorem ggX7_orderOf_X7_isKnown : GoodIn wsX7_orderOf wsX7_isKnown := goodIn_r _ [5, 6, 11, 12, 13, 14, 15, 16, 17, 18, 19, 20, 21, 22, 23, 24] (by decide +kernel) (by decide +kernel)
set_option maxRecDepth 20000 in
theorem gX7_orderOf_X7_isKnown : GoodIn wsX7_orderOf (wsV RX7 66 RX7 yX7_isKnown wsX7_isKnown) := goodIn_app (goodIn_of _ (by decide +kernel)) ggX7_orderOf_X7_isKnown
set_option maxRecDepth 20000 in
theorem ggX7_orderOf_X7_isAhead : GoodIn wsX7_orderOf wsX7_isAhead := goodIn_r _ [10, 6, 11, 12, 13, 14, 15, 16, 17, 18, 19, 20, 21, 22, 23, 24] (by decide +kernel) (by decide +kernel)
set_option maxRecDepth 20000 in
theorem gX7_orderOf_X7_isAhead : GoodIn wsX7_orderOf (wsV RX7 70 RX7 yX7_isAhead wsX7_isAhead) := goodIn_app (goodIn_of _ (by decide +kernel)) ggX7_orderOf_X7_isAhead
theorem dX7_orderOf_0 : decode cX7_orderOf 0 = .ok (.iconst 0, 1) := by decide +kernel
theorem dX7_orderOf_1 : decode cX7_orderOf 1 = .ok (.istore_n 2, 1) := by decide +kernel
theorem dX7_orderOf_2 : decode cX7_orderOf 2 = .ok (.iconst 0, 1) := by decide +kernel
theorem dX7_orderOf_3 : decode cX7_orderOf 3 = .ok (.istore_n 3, 1) := by decide +kernel
theorem dX7_orderOf_4 : decode cX7_orderOf 4 = .ok (.iload_n 3, 1) := by decide +kernel
theorem dX7_orderOf_5 : decode cX7_orderOf 5 = .ok (.bipush 10, 2) := by decide +kernel
theorem dX7_orderOf_7 : decode cX7_orderOf 7 = .ok (.if_icmp .ge 34, 3) := by decide +kernel
theorem dX7_orderOf_10 : decode cX7_orderOf 10 = .ok (.iload_n 2, 1) := by decide +kernel
theorem dX7_orderOf_11 : decode cX7_orderOf 11 = .ok (.aload_n 0, 1) := by decide +kernel
theorem dX7_orderOf_12 : decode cX7_orderOf 12 = .ok (.iload_n 3, 1) := by decide +kernel
theorem dX7_orderOf_13 : decode cX7_orderOf 13 = .ok (.invokevirtual 66, 3) := by decide +kernel
theorem dX7_orderOf_16 : decode cX7_orderOf 16 = .ok (.ifCond .eq 16, 3) := by decide +kernel
theorem dX7_orderOf_19 : decode cX7_orderOf 19 = .ok (.aload_n 0, 1) := by decide +kernel
theorem dX7_orderOf_20 : decode cX7_orderOf 20 = .ok (.iload_n 3, 1) := by decide +kernel
theorem dX7_orderOf_21 : decode cX7_orderOf 21 = .ok (.iload_n 1, 1) := by decide +kernel
theorem dX7_orderOf_22 : decode cX7_orderOf 22 = .ok (.invokevirtual 70, 3) := by decide +kernel
theorem dX7_orderOf_25 : decode cX7_orderOf 25 = .ok (.ifCond .eq 7, 3) := by decide +kernel
theorem dX7_orderOf_28 : decode cX7_orderOf 28 = .ok (.iconst 1, 1) := by decide +kernel
theorem dX7_orderOf_29 : decode cX7_orderOf 29 = .ok (.goto 4, 3) := by decide +kernel
theorem dX7_orderOf_32 : decode cX7_orderOf 32 = .ok (.iconst 0, 1) := by decide +kernel
theorem dX7_orderOf_33 : decode cX7_orderOf 33 = .ok (.iadd, 1) := by decide +kernel
theorem dX7_orderOf_34 : decode cX7_orderOf 34 = .ok (.istore_n 2, 1) := by decide +kernel
theorem dX7_orderOf_35 : decode cX7_orderOf 35 = .ok (.iinc 3 1, 3) := by decide +kernel
theorem dX7_orderOf_38 : decode cX7_orderOf 38 = .ok (.goto (-34), 3) := by decide +kernel
theorem dX7_orderOf_41 : decode cX7_orderOf 41 = .ok (.iload_n 2, 1) := by decide +kernel
theorem dX7_orderOf_42 : decode cX7_orderOf 42 = .ok (.ireturn, 1) := by decide +kernel
set_option maxRecDepth 20000 in
theorem ggX7_first_X7_isKnown : GoodIn wsX7_first wsX7_isKnown := goodIn_r _ [5, 6, 11, 12, 13, 14, 15, 16, 17, 18, 19, 20, 21, 22, 23, 24] (by decide +kernel) (by decide +kernel)
set_option maxRecDepth 20000 in
theorem gX7_first_X7_isKnown : GoodIn wsX7_first (wsV RX7 66 RX7 yX7_isKnown wsX7_isKnown) := goodIn_app (goodIn_of _ (by decide +kernel)) ggX7_first_X7_isKnown
set_option maxRecDepth 20000 in
theorem ggX7_first_X7_isAhead : GoodIn wsX7_first wsX7_isAhead := goodIn_r _ [10, 6, 11, 12, 13, 14, 15, 16, 17, 18, 19, 20, 21, 22, 23, 24] (by decide +kernel) (by decide +kernel)
set_option maxRecDepth 20000 in
theorem gX7_first_X7_isAhead : GoodIn wsX7_first (wsV RX7 70 RX7 yX7_isAhead wsX7_isAhead) := goodIn_app (goodIn_of _ (by decide +kernel)) ggX7_first_X7_isAhead
theorem dX7_first_0 : decode cX7_first 0 = .ok (.bipush (-4), 2) := by decide +kernel
theorem dX7_first_2 : decode cX7_first 2 = .ok (.istore_n 2, 1) := by decide +kernel
theorem dX7_first_3 : decode cX7_first 3 = .ok (.iconst 0, 1) := by decide +kernel
theorem dX7_first_4 : decode cX7_first 4 = .ok (.istore_n 3, 1) := by decide +kernel
theorem dX7_first_5 : decode cX7_first 5 = .ok (.iload_n 3, 1) := by decide +kernel
theorem dX7_first_6 : decode cX7_first 6 = .ok (.bipush 10, 2) := by decide +kernel
theorem dX7_first_8 : decode cX7_first 8 = .ok (.if_icmp .ge 41, 3) := by decide +kernel
theorem dX7_first_11 : decode cX7_first 11 = .ok (.iload_n 3, 1) := by decide +kernel
theorem dX7_first_12 : decode cX7_first 12 = .ok (.iload_n 1, 1) := by decide +kernel
theorem dX7_first_13 : decode cX7_first 13 = .ok (.if_icmp .eq 28, 3) := by decide +kernel
theorem dX7_first_16 : decode cX7_first 16 = .ok (.aload_n 0, 1) := by decide +kernel
theorem dX7_first_17 : decode cX7_first 17 = .ok (.iload_n 3, 1) := by decide +kernel
theorem dX7_first_18 : decode cX7_first 18 = .ok (.invokevirtual 66, 3) := by decide +kernel
theorem dX7_first_21 : decode cX7_first 21 = .ok (.ifCond .eq 20, 3) := by decide +kernel
theorem dX7_first_24 : decode cX7_first 24 = .ok (.iload_n 2, 1) := by decide +kernel
theorem dX7_first_25 : decode cX7_first 25 = .ok (.ifCond .lt 12, 3) := by decide +kernel
theorem dX7_first_28 : decode cX7_first 28 = .ok (.aload_n 0, 1) := by decide +kernel
theorem dX7_first_29 : decode cX7_first 29 = .ok (.iload_n 3, 1) := by decide +kernel
theorem dX7_first_30 : decode cX7_first 30 = .ok (.iload_n 2, 1) := by decide +kernel
theorem dX7_first_31 : decode cX7_first 31 = .ok (.invokevirtual 70, 3) := by decide +kernel
theorem dX7_first_34 : decode cX7_first 34 = .ok (.ifCond .eq 7, 3) := by decide +kernel
theorem dX7_first_37 : decode cX7_first 37 = .ok (.iload_n 3, 1) := by decide +kernel
theorem dX7_first_38 : decode cX7_first 38 = .ok (.goto 4, 3) := by decide +kernel
theorem dX7_first_41 : decode cX7_first 41 = .ok (.iload_n 2, 1) := by decide +kernel
theorem dX7_first_42 : decode cX7_first 42 = .ok (.istore_n 2, 1) := by decide +kernel
theorem dX7_first_43 : decode cX7_first 43 = .ok (.iinc 3 1, 3) := by decide +kernel
theorem dX7_first_46 : decode cX7_first 46 = .ok (.goto (-41), 3) := by decide +kernel
theorem dX7_first_49 : decode cX7_first 49 = .ok (.iload_n 2, 1) := by decide +kernel
theorem dX7_first_50 : decode cX7_first 50 = .ok (.ireturn, 1) := by decide +kernel
set_option maxRecDepth 20000 in
theorem ggX7_makesRoom_X7_first : GoodIn wsX7_makesRoom wsX7_first := goodIn_r _ [6, 7, 8, 9, 5, 10, 1, 11, 12, 13, 14, 42, 43, 44, 45, 46, 47, 48, 49, 50, 51, 52, 53, 54, 55] (by decide +kernel) (by decide +kernel)
set_option maxRecDepth 20000 in
theorem gX7_makesRoom_X7_first : GoodIn wsX7_makesRoom (wsV RX7 73 RX7 yX7_first wsX7_first) := goodIn_app (goodIn_of _ (by decide +kernel)) ggX7_makesRoom_X7_first
set_option maxRecDepth 20000 in
theorem ggX7_makesRoom_X7_weights : GoodIn wsX7_makesRoom wsX7_weights := goodIn_r _ [18, 7, 8, 9, 5, 10, 1, 19, 20, 21, 22, 23, 24, 25, 26, 27, 28, 29, 30, 31, 32, 33, 34, 35, 36, 37, 38, 39, 40, 41, 42, 43, 44, 45, 46, 47, 48, 49, 50, 51, 52, 53, 54, 55] (by decide +kernel) (by decide +kernel)
set_option maxRecDepth 20000 in
theorem gX7_makesRoom_X7_weights : GoodIn wsX7_makesRoom (wsV RX7 76 RX7 yX7_weights wsX7_weights) := goodIn_app (goodIn_of _ (by decide +kernel)) ggX7_makesRoom_X7_weights
theorem dX7_makesRoom_0 : decode cX7_makesRoom 0 = .ok (.iconst 0, 1) := by decide +kernel
theorem dX7_makesRoom_1 : decode cX7_makesRoom 1 = .ok (.istore_n 2, 1) := by decide +kernel
theorem dX7_makesRoom_2 : decode cX7_makesRoom 2 = .ok (.aload_n 0, 1) := by decide +kernel
theorem dX7_makesRoom_3 : decode cX7_makesRoom 3 = .ok (.iload_n 1, 1) := by decide +kernel
theorem dX7_makesRoom_4 : decode cX7_makesRoom 4 = .ok (.invokevirtual 73, 3) := by decide +kernel
theorem dX7_makesRoom_7 : decode cX7_makesRoom 7 = .ok (.istore_n 3, 1) := by decide +kernel
theorem dX7_makesRoom_8 : decode cX7_makesRoom 8 = .ok (.iload_n 3, 1) := by decide +kernel
theorem dX7_makesRoom_9 : decode cX7_makesRoom 9 = .ok (.ifCond .lt 38, 3) := by decide +kernel
theorem dX7_makesRoom_12 : decode cX7_makesRoom 12 = .ok (.aload_n 0, 1) := by decide +kernel
theorem dX7_makesRoom_13 : decode cX7_makesRoom 13 = .ok (.invokevirtual 76, 3) := by decide +kernel
theorem dX7_makesRoom_16 : decode cX7_makesRoom 16 = .ok (.aload_n 0, 1) := by decide +kernel
theorem dX7_makesRoom_17 : decode cX7_makesRoom 17 = .ok (.getfield 7, 3) := by decide +kernel
theorem dX7_makesRoom_20 : decode cX7_makesRoom 20 = .ok (.iconst 0, 1) := by decide +kernel
theorem dX7_makesRoom_21 : decode cX7_makesRoom 21 = .ok (.iaload, 1) := by decide +kernel
theorem dX7_makesRoom_22 : decode cX7_makesRoom 22 = .ok (.if_icmp .le 25, 3) := by decide +kernel
theorem dX7_makesRoom_25 : decode cX7_makesRoom 25 = .ok (.aload_n 0, 1) := by decide +kernel
theorem dX7_makesRoom_26 : decode cX7_makesRoom 26 = .ok (.getfield 7, 3) := by decide +kernel
theorem dX7_makesRoom_29 : decode cX7_makesRoom 29 = .ok (.bipush 97, 2) := by decide +kernel
theorem dX7_makesRoom_31 : decode cX7_makesRoom 31 = .ok (.iload_n 3, 1) := by decide +kernel
theorem dX7_makesRoom_32 : decode cX7_makesRoom 32 = .ok (.iadd, 1) := by decide +kernel
theorem dX7_makesRoom_33 : decode cX7_makesRoom 33 = .ok (.iconst 0, 1) := by decide +kernel
theorem dX7_makesRoom_34 : decode cX7_makesRoom 34 = .ok (.iastore, 1) := by decide +kernel
theorem dX7_makesRoom_35 : decode cX7_makesRoom 35 = .ok (.iinc 2 1, 3) := by decide +kernel
theorem dX7_makesRoom_38 : decode cX7_makesRoom 38 = .ok (.aload_n 0, 1) := by decide +kernel
theorem dX7_makesRoom_39 : decode cX7_makesRoom 39 = .ok (.iload_n 1, 1) := by decide +kernel
theorem dX7_makesRoom_40 : decode cX7_makesRoom 40 = .ok (.invokevirtual 73, 3) := by decide +kernel
theorem dX7_makesRoom_43 : decode cX7_makesRoom 43 = .ok (.istore_n 3, 1) := by decide +kernel
theorem dX7_makesRoom_44 : decode cX7_makesRoom 44 = .ok (.goto (-36), 3) := by decide +kernel
theorem dX7_makesRoom_47 : decode cX7_makesRoom 47 = .ok (.aload_n 0, 1) := by decide +kernel
theorem dX7_makesRoom_48 : decode cX7_makesRoom 48 = .ok (.getfield 7, 3) := by decide +kernel
theorem dX7_makesRoom_51 : decode cX7_makesRoom 51 = .ok (.bipush 12, 2) := by decide +kernel
theorem dX7_makesRoom_53 : decode cX7_makesRoom 53 = .ok (.dup2, 1) := by decide +kernel
theorem dX7_makesRoom_54 : decode cX7_makesRoom 54 = .ok (.iaload, 1) := by decide +kernel
theorem dX7_makesRoom_55 : decode cX7_makesRoom 55 = .ok (.iload_n 2, 1) := by decide +kernel
theorem dX7_makesRoom_56 : decode cX7_makesRoom 56 = .ok (.iadd, 1) := by decide +kernel
theorem dX7_makesRoom_57 : decode cX7_makesRoom 57 = .ok (.iastore, 1) := by decide +kernel
theorem dX7_makesRoom_58 : decode cX7_makesRoom 58 = .ok (.iload_n 2, 1) := by decide +kernel
theorem dX7_makesRoom_59 : decode cX7_makesRoom 59 = .ok (.ireturn, 1) := by decide +kernel
set_option maxRecDepth 20000 in
theorem ggX7_throwsOut_X7_isKnown : GoodIn wsX7_throwsOut wsX7_isKnown := goodIn_r _ [6, 1, 7, 8, 9, 10, 11, 12, 13, 14, 15, 16, 17, 18, 19, 20] (by decide +kernel) (by decide +kernel)
set_option maxRecDepth 20000 in
theorem gX7_throwsOut_X7_isKnown : GoodIn wsX7_throwsOut (wsV RX7 66 RX7 yX7_isKnown wsX7_isKnown) := goodIn_app (goodIn_of _ (by decide +kernel)) ggX7_throwsOut_X7_isKnown
theorem dX7_throwsOut_0 : decode cX7_throwsOut 0 = .ok (.aload_n 0, 1) := by decide +kernel
theorem dX7_throwsOut_1 : decode cX7_throwsOut 1 = .ok (.iload_n 1, 1) := by decide +kernel
theorem dX7_throwsOut_2 : decode cX7_throwsOut 2 = .ok (.invokevirtual 66, 3) := by decide +kernel
theorem dX7_throwsOut_5 : decode cX7_throwsOut 5 = .ok (.ifCond .ne 5, 3) := by decide +kernel
theorem dX7_throwsOut_8 : decode cX7_throwsOut 8 = .ok (.iconst 0, 1) := by decide +kernel
theorem dX7_throwsOut_9 : decode cX7_throwsOut 9 = .ok (.ireturn, 1) := by decide +kernel
theorem dX7_throwsOut_10 : decode cX7_throwsOut 10 = .ok (.aload_n 0, 1) := by decide +kernel
theorem dX7_throwsOut_11 : decode cX7_throwsOut 11 = .ok (.getfield 7, 3) := by decide +kernel
theorem dX7_throwsOut_14 : decode cX7_throwsOut 14 = .ok (.bipush 97, 2) := by decide +kernel
theorem dX7_throwsOut_16 : decode cX7_throwsOut 16 = .ok (.iload_n 1, 1) := by decide +kernel
theorem dX7_throwsOut_17 : decode cX7_throwsOut 17 = .ok (.iadd, 1) := by decide +kernel
theorem dX7_throwsOut_18 : decode cX7_throwsOut 18 = .ok (.iconst 0, 1) := by decide +kernel
theorem dX7_throwsOut_19 : decode cX7_throwsOut 19 = .ok (.iastore, 1) := by decide +kernel
theorem dX7_throwsOut_20 : decode cX7_throwsOut 20 = .ok (.aload_n 0, 1) := by decide +kernel
theorem dX7_throwsOut_21 : decode cX7_throwsOut 21 = .ok (.getfield 7, 3) := by decide +kernel
theorem dX7_throwsOut_24 : decode cX7_throwsOut 24 = .ok (.bipush 13, 2) := by decide +kernel
theorem dX7_throwsOut_26 : decode cX7_throwsOut 26 = .ok (.dup2, 1) := by decide +kernel
theorem dX7_throwsOut_27 : decode cX7_throwsOut 27 = .ok (.iaload, 1) := by decide +kernel
theorem dX7_throwsOut_28 : decode cX7_throwsOut 28 = .ok (.iconst 1, 1) := by decide +kernel
theorem dX7_throwsOut_29 : decode cX7_throwsOut 29 = .ok (.iadd, 1) := by decide +kernel
theorem dX7_throwsOut_30 : decode cX7_throwsOut 30 = .ok (.iastore, 1) := by decide +kernel
theorem dX7_throwsOut_31 : decode cX7_throwsOut 31 = .ok (.iconst 1, 1) := by decide +kernel
theorem dX7_throwsOut_32 : decode cX7_throwsOut 32 = .ok (.ireturn, 1) := by decide +kernel
set_option maxRecDepth 20000 in
theorem ggX7_throwsAll_X7_throwsOut : GoodIn wsX7_throwsAll wsX7_throwsOut := goodIn_r _ [5, 6, 7, 8, 9, 4, 10, 11, 12, 13, 14, 15, 16, 17, 18, 19, 20, 21, 22, 23, 24] (by decide +kernel) (by decide +kernel)
set_option maxRecDepth 20000 in
theorem gX7_throwsAll_X7_throwsOut : GoodIn wsX7_throwsAll (wsV RX7 80 RX7 yX7_throwsOut wsX7_throwsOut) := goodIn_app (goodIn_of _ (by decide +kernel)) ggX7_throwsAll_X7_throwsOut
theorem dX7_throwsAll_0 : decode cX7_throwsAll 0 = .ok (.iconst 0, 1) := by decide +kernel
theorem dX7_throwsAll_1 : decode cX7_throwsAll 1 = .ok (.istore_n 1, 1) := by decide +kernel
theorem dX7_throwsAll_2 : decode cX7_throwsAll 2 = .ok (.iconst 0, 1) := by decide +kernel
theorem dX7_throwsAll_3 : decode cX7_throwsAll 3 = .ok (.istore_n 2, 1) := by decide +kernel
theorem dX7_throwsAll_4 : decode cX7_throwsAll 4 = .ok (.iload_n 2, 1) := by decide +kernel
theorem dX7_throwsAll_5 : decode cX7_throwsAll 5 = .ok (.bipush 10, 2) := by decide +kernel
theorem dX7_throwsAll_7 : decode cX7_throwsAll 7 = .ok (.if_icmp .ge 17, 3) := by decide +kernel
theorem dX7_throwsAll_10 : decode cX7_throwsAll 10 = .ok (.iload_n 1, 1) := by decide +kernel
theorem dX7_throwsAll_11 : decode cX7_throwsAll 11 = .ok (.aload_n 0, 1) := by decide +kernel
theorem dX7_throwsAll_12 : decode cX7_throwsAll 12 = .ok (.iload_n 2, 1) := by decide +kernel
theorem dX7_throwsAll_13 : decode cX7_throwsAll 13 = .ok (.invokevirtual 80, 3) := by decide +kernel
theorem dX7_throwsAll_16 : decode cX7_throwsAll 16 = .ok (.iadd, 1) := by decide +kernel
theorem dX7_throwsAll_17 : decode cX7_throwsAll 17 = .ok (.istore_n 1, 1) := by decide +kernel
theorem dX7_throwsAll_18 : decode cX7_throwsAll 18 = .ok (.iinc 2 1, 3) := by decide +kernel
theorem dX7_throwsAll_21 : decode cX7_throwsAll 21 = .ok (.goto (-17), 3) := by decide +kernel
theorem dX7_throwsAll_24 : decode cX7_throwsAll 24 = .ok (.iload_n 1, 1) := by decide +kernel
theorem dX7_throwsAll_25 : decode cX7_throwsAll 25 = .ok (.ireturn, 1) := by decide +kernel
set_option maxRecDepth 20000 in
theorem ggX7_keeps_X7_throwsAll : GoodIn wsX7_keeps wsX7_throwsAll := goodIn_r _ [6, 7, 8, 9, 5, 10, 1, 11, 12, 13, 14, 15, 16, 17, 18, 19, 20, 21, 22, 23, 24, 25, 26, 27, 28] (by decide +kernel) (by decide +kernel)
set_option maxRecDepth 20000 in
theorem gX7_keeps_X7_throwsAll : GoodIn wsX7_keeps (wsV RX7 83 RX7 yX7_throwsAll wsX7_throwsAll) := goodIn_app (goodIn_of _ (by decide +kernel)) ggX7_keeps_X7_throwsAll
set_option maxRecDepth 20000 in
theorem ggX7_keeps_X7_isKnown : GoodIn wsX7_keeps wsX7_isKnown := goodIn_r _ [14, 1, 15, 16, 17, 18, 19, 20, 21, 22, 23, 24, 25, 26, 27, 28] (by decide +kernel) (by decide +kernel)
set_option maxRecDepth 20000 in
theorem gX7_keeps_X7_isKnown : GoodIn wsX7_keeps (wsV RX7 66 RX7 yX7_isKnown wsX7_isKnown) := goodIn_app (goodIn_of _ (by decide +kernel)) ggX7_keeps_X7_isKnown
set_option maxRecDepth 20000 in
theorem ggX7_keeps_X7_throwsOut : GoodIn wsX7_keeps wsX7_throwsOut := goodIn_r _ [10, 1, 11, 12, 13, 5, 14, 15, 16, 17, 18, 19, 20, 21, 22, 23, 24, 25, 26, 27, 28] (by decide +kernel) (by decide +kernel)
set_option maxRecDepth 20000 in
theorem gX7_keeps_X7_throwsOut : GoodIn wsX7_keeps (wsV RX7 80 RX7 yX7_throwsOut wsX7_throwsOut) := goodIn_app (goodIn_of _ (by decide +kernel)) ggX7_keeps_X7_throwsOut
theorem dX7_keeps_0 : decode cX7_keeps 0 = .ok (.iconst 0, 1) := by decide +kernel
theorem dX7_keeps_1 : decode cX7_keeps 1 = .ok (.istore_n 3, 1) := by decide +kernel
theorem dX7_keeps_2 : decode cX7_keeps 2 = .ok (.aload_n 0, 1) := by decide +kernel
theorem dX7_keeps_3 : decode cX7_keeps 3 = .ok (.getfield 7, 3) := by decide +kernel
theorem dX7_keeps_6 : decode cX7_keeps 6 = .ok (.iconst 2, 1) := by decide +kernel
theorem dX7_keeps_7 : decode cX7_keeps 7 = .ok (.iaload, 1) := by decide +kernel
theorem dX7_keeps_8 : decode cX7_keeps 8 = .ok (.iconst 1, 1) := by decide +kernel
theorem dX7_keeps_9 : decode cX7_keeps 9 = .ok (.if_icmp .ne 8, 3) := by decide +kernel
theorem dX7_keeps_12 : decode cX7_keeps 12 = .ok (.aload_n 0, 1) := by decide +kernel
theorem dX7_keeps_13 : decode cX7_keeps 13 = .ok (.invokevirtual 83, 3) := by decide +kernel
theorem dX7_keeps_16 : decode cX7_keeps 16 = .ok (.istore_n 3, 1) := by decide +kernel
theorem dX7_keeps_17 : decode cX7_keeps 17 = .ok (.iconst 0, 1) := by decide +kernel
theorem dX7_keeps_18 : decode cX7_keeps 18 = .ok (.istore 4, 2) := by decide +kernel
theorem dX7_keeps_20 : decode cX7_keeps 20 = .ok (.iload 4, 2) := by decide +kernel
theorem dX7_keeps_22 : decode cX7_keeps 22 = .ok (.bipush 10, 2) := by decide +kernel
theorem dX7_keeps_24 : decode cX7_keeps 24 = .ok (.if_icmp .ge 81, 3) := by decide +kernel
theorem dX7_keeps_27 : decode cX7_keeps 27 = .ok (.iload_n 3, 1) := by decide +kernel
theorem dX7_keeps_28 : decode cX7_keeps 28 = .ok (.ifCond .lt 77, 3) := by decide +kernel
theorem dX7_keeps_31 : decode cX7_keeps 31 = .ok (.iload 4, 2) := by decide +kernel
theorem dX7_keeps_33 : decode cX7_keeps 33 = .ok (.iload_n 1, 1) := by decide +kernel
theorem dX7_keeps_34 : decode cX7_keeps 34 = .ok (.if_icmp .eq 9, 3) := by decide +kernel
theorem dX7_keeps_37 : decode cX7_keeps 37 = .ok (.iload 4, 2) := by decide +kernel
theorem dX7_keeps_39 : decode cX7_keeps 39 = .ok (.iload_n 2, 1) := by decide +kernel
theorem dX7_keeps_40 : decode cX7_keeps 40 = .ok (.if_icmp .ne 59, 3) := by decide +kernel
theorem dX7_keeps_43 : decode cX7_keeps 43 = .ok (.aload_n 0, 1) := by decide +kernel
theorem dX7_keeps_44 : decode cX7_keeps 44 = .ok (.getfield 7, 3) := by decide +kernel
theorem dX7_keeps_47 : decode cX7_keeps 47 = .ok (.bipush 15, 2) := by decide +kernel
theorem dX7_keeps_49 : decode cX7_keeps 49 = .ok (.dup2, 1) := by decide +kernel
theorem dX7_keeps_50 : decode cX7_keeps 50 = .ok (.iaload, 1) := by decide +kernel
theorem dX7_keeps_51 : decode cX7_keeps 51 = .ok (.aload_n 0, 1) := by decide +kernel
theorem dX7_keeps_52 : decode cX7_keeps 52 = .ok (.getfield 7, 3) := by decide +kernel
theorem dX7_keeps_55 : decode cX7_keeps 55 = .ok (.iconst 2, 1) := by decide +kernel
theorem dX7_keeps_56 : decode cX7_keeps 56 = .ok (.iaload, 1) := by decide +kernel
theorem dX7_keeps_57 : decode cX7_keeps 57 = .ok (.iconst 2, 1) := by decide +kernel
theorem dX7_keeps_58 : decode cX7_keeps 58 = .ok (.if_icmp .ne 16, 3) := by decide +kernel
theorem dX7_keeps_61 : decode cX7_keeps 61 = .ok (.aload_n 0, 1) := by decide +kernel
theorem dX7_keeps_62 : decode cX7_keeps 62 = .ok (.iload 4, 2) := by decide +kernel
theorem dX7_keeps_64 : decode cX7_keeps 64 = .ok (.invokevirtual 66, 3) := by decide +kernel
theorem dX7_keeps_67 : decode cX7_keeps 67 = .ok (.ifCond .eq 7, 3) := by decide +kernel
theorem dX7_keeps_70 : decode cX7_keeps 70 = .ok (.iconst 1, 1) := by decide +kernel
theorem dX7_keeps_71 : decode cX7_keeps 71 = .ok (.goto 4, 3) := by decide +kernel
theorem dX7_keeps_74 : decode cX7_keeps 74 = .ok (.iconst 0, 1) := by decide +kernel
theorem dX7_keeps_75 : decode cX7_keeps 75 = .ok (.iadd, 1) := by decide +kernel
theorem dX7_keeps_76 : decode cX7_keeps 76 = .ok (.iastore, 1) := by decide +kernel
theorem dX7_keeps_77 : decode cX7_keeps 77 = .ok (.iload_n 3, 1) := by decide +kernel
theorem dX7_keeps_78 : decode cX7_keeps 78 = .ok (.aload_n 0, 1) := by decide +kernel
theorem dX7_keeps_79 : decode cX7_keeps 79 = .ok (.getfield 7, 3) := by decide +kernel
theorem dX7_keeps_82 : decode cX7_keeps 82 = .ok (.iconst 2, 1) := by decide +kernel
theorem dX7_keeps_83 : decode cX7_keeps 83 = .ok (.iaload, 1) := by decide +kernel
theorem dX7_keeps_84 : decode cX7_keeps 84 = .ok (.ifCond .ne 12, 3) := by decide +kernel
theorem dX7_keeps_87 : decode cX7_keeps 87 = .ok (.aload_n 0, 1) := by decide +kernel
theorem dX7_keeps_88 : decode cX7_keeps 88 = .ok (.iload 4, 2) := by decide +kernel
theorem dX7_keeps_90 : decode cX7_keeps 90 = .ok (.invokevirtual 80, 3) := by decide +kernel
theorem dX7_keeps_93 : decode cX7_keeps 93 = .ok (.goto 4, 3) := by decide +kernel
theorem dX7_keeps_96 : decode cX7_keeps 96 = .ok (.iconst 0, 1) := by decide +kernel
theorem dX7_keeps_97 : decode cX7_keeps 97 = .ok (.iadd, 1) := by decide +kernel
theorem dX7_keeps_98 : decode cX7_keeps 98 = .ok (.istore_n 3, 1) := by decide +kernel
theorem dX7_keeps_99 : decode cX7_keeps 99 = .ok (.iinc 4 1, 3) := by decide +kernel
theorem dX7_keeps_102 : decode cX7_keeps 102 = .ok (.goto (-82), 3) := by decide +kernel
theorem dX7_keeps_105 : decode cX7_keeps 105 = .ok (.return_, 1) := by decide +kernel
set_option maxRecDepth 20000 in
theorem ggX7_looks_X7_isKnown : GoodIn wsX7_looks wsX7_isKnown := goodIn_r _ [6, 1, 46, 47, 48, 49, 50, 51, 52, 53, 54, 55, 56, 57, 58, 59] (by decide +kernel) (by decide +kernel)
set_option maxRecDepth 20000 in
theorem gX7_looks_X7_isKnown : GoodIn wsX7_looks (wsV RX7 66 RX7 yX7_isKnown wsX7_isKnown) := goodIn_app (goodIn_of _ (by decide +kernel)) ggX7_looks_X7_isKnown
set_option maxRecDepth 20000 in
theorem ggX7_looks_X7_weight : GoodIn wsX7_looks wsX7_weight := goodIn_r _ [10, 11, 12, 13, 5, 14, 1, 15, 16, 17, 18, 19, 20, 21, 22, 23, 24, 25, 26, 27, 28, 29, 46, 47, 48, 49, 50, 51, 52, 53, 54, 55, 56, 57, 58, 59] (by decide +kernel) (by decide +kernel)
set_option maxRecDepth 20000 in
theorem gX7_looks_X7_weight : GoodIn wsX7_looks (wsV RX7 57 RX7 yX7_weight wsX7_weight) := goodIn_app (goodIn_of _ (by decide +kernel)) ggX7_looks_X7_weight
set_option maxRecDepth 20000 in
theorem ggX7_looks_X7_makesRoom : GoodIn wsX7_looks wsX7_makesRoom := goodIn_r _ [33, 1, 34, 35, 36, 5, 37, 2, 3, 4, 6, 38, 39, 40, 41, 42, 43, 44, 45, 7, 8, 9, 10, 11, 12, 13, 14, 15, 16, 17, 18, 19, 20, 21, 22, 23, 24, 25, 26, 27, 28, 29, 46, 47, 48, 49, 50, 51, 52, 53, 54, 55, 56, 57, 58, 59] (by decide +kernel) (by decide +kernel)
set_option maxRecDepth 20000 in
theorem gX7_looks_X7_makesRoom : GoodIn wsX7_looks (wsV RX7 86 RX7 yX7_makesRoom wsX7_makesRoom) := goodIn_app (goodIn_of _ (by decide +kernel)) ggX7_looks_X7_makesRoom
theorem dX7_looks_0 : decode cX7_looks 0 = .ok (.aload_n 0, 1) := by decide +kernel
theorem dX7_looks_1 : decode cX7_looks 1 = .ok (.getfield 7, 3) := by decide +kernel
theorem dX7_looks_4 : decode cX7_looks 4 = .ok (.bipush 16, 2) := by decide +kernel
theorem dX7_looks_6 : decode cX7_looks 6 = .ok (.dup2, 1) := by decide +kernel
theorem dX7_looks_7 : decode cX7_looks 7 = .ok (.iaload, 1) := by decide +kernel
theorem dX7_looks_8 : decode cX7_looks 8 = .ok (.iconst 1, 1) := by decide +kernel
theorem dX7_looks_9 : decode cX7_looks 9 = .ok (.iadd, 1) := by decide +kernel
theorem dX7_looks_10 : decode cX7_looks 10 = .ok (.iastore, 1) := by decide +kernel
theorem dX7_looks_11 : decode cX7_looks 11 = .ok (.aload_n 0, 1) := by decide +kernel
theorem dX7_looks_12 : decode cX7_looks 12 = .ok (.iload_n 1, 1) := by decide +kernel
theorem dX7_looks_13 : decode cX7_looks 13 = .ok (.invokevirtual 66, 3) := by decide +kernel
theorem dX7_looks_16 : decode cX7_looks 16 = .ok (.ifCond .eq 45, 3) := by decide +kernel
theorem dX7_looks_19 : decode cX7_looks 19 = .ok (.aload_n 0, 1) := by decide +kernel
theorem dX7_looks_20 : decode cX7_looks 20 = .ok (.getfield 7, 3) := by decide +kernel
theorem dX7_looks_23 : decode cX7_looks 23 = .ok (.bipush 97, 2) := by decide +kernel
theorem dX7_looks_25 : decode cX7_looks 25 = .ok (.iload_n 1, 1) := by decide +kernel
theorem dX7_looks_26 : decode cX7_looks 26 = .ok (.iadd, 1) := by decide +kernel
theorem dX7_looks_27 : decode cX7_looks 27 = .ok (.dup2, 1) := by decide +kernel
theorem dX7_looks_28 : decode cX7_looks 28 = .ok (.iaload, 1) := by decide +kernel
theorem dX7_looks_29 : decode cX7_looks 29 = .ok (.iconst 1, 1) := by decide +kernel
theorem dX7_looks_30 : decode cX7_looks 30 = .ok (.iadd, 1) := by decide +kernel
theorem dX7_looks_31 : decode cX7_looks 31 = .ok (.iastore, 1) := by decide +kernel
theorem dX7_looks_32 : decode cX7_looks 32 = .ok (.aload_n 0, 1) := by decide +kernel
theorem dX7_looks_33 : decode cX7_looks 33 = .ok (.getfield 7, 3) := by decide +kernel
theorem dX7_looks_36 : decode cX7_looks 36 = .ok (.bipush 107, 2) := by decide +kernel
theorem dX7_looks_38 : decode cX7_looks 38 = .ok (.iload_n 1, 1) := by decide +kernel
theorem dX7_looks_39 : decode cX7_looks 39 = .ok (.iadd, 1) := by decide +kernel
theorem dX7_looks_40 : decode cX7_looks 40 = .ok (.aload_n 0, 1) := by decide +kernel
theorem dX7_looks_41 : decode cX7_looks 41 = .ok (.getfield 7, 3) := by decide +kernel
theorem dX7_looks_44 : decode cX7_looks 44 = .ok (.bipush 16, 2) := by decide +kernel
theorem dX7_looks_46 : decode cX7_looks 46 = .ok (.iaload, 1) := by decide +kernel
theorem dX7_looks_47 : decode cX7_looks 47 = .ok (.iastore, 1) := by decide +kernel
theorem dX7_looks_48 : decode cX7_looks 48 = .ok (.aload_n 0, 1) := by decide +kernel
theorem dX7_looks_49 : decode cX7_looks 49 = .ok (.getfield 7, 3) := by decide +kernel
theorem dX7_looks_52 : decode cX7_looks 52 = .ok (.bipush 9, 2) := by decide +kernel
theorem dX7_looks_54 : decode cX7_looks 54 = .ok (.dup2, 1) := by decide +kernel
theorem dX7_looks_55 : decode cX7_looks 55 = .ok (.iaload, 1) := by decide +kernel
theorem dX7_looks_56 : decode cX7_looks 56 = .ok (.iconst 1, 1) := by decide +kernel
theorem dX7_looks_57 : decode cX7_looks 57 = .ok (.iadd, 1) := by decide +kernel
theorem dX7_looks_58 : decode cX7_looks 58 = .ok (.iastore, 1) := by decide +kernel
theorem dX7_looks_59 : decode cX7_looks 59 = .ok (.iconst 1, 1) := by decide +kernel
theorem dX7_looks_60 : decode cX7_looks 60 = .ok (.ireturn, 1) := by decide +kernel
theorem dX7_looks_61 : decode cX7_looks 61 = .ok (.aload_n 0, 1) := by decide +kernel
theorem dX7_looks_62 : decode cX7_looks 62 = .ok (.getfield 7, 3) := by decide +kernel
theorem dX7_looks_65 : decode cX7_looks 65 = .ok (.bipush 10, 2) := by decide +kernel
theorem dX7_looks_67 : decode cX7_looks 67 = .ok (.dup2, 1) := by decide +kernel
theorem dX7_looks_68 : decode cX7_looks 68 = .ok (.iaload, 1) := by decide +kernel
theorem dX7_looks_69 : decode cX7_looks 69 = .ok (.iconst 1, 1) := by decide +kernel
theorem dX7_looks_70 : decode cX7_looks 70 = .ok (.iadd, 1) := by decide +kernel
theorem dX7_looks_71 : decode cX7_looks 71 = .ok (.iastore, 1) := by decide +kernel
theorem dX7_looks_72 : decode cX7_looks 72 = .ok (.aload_n 0, 1) := by decide +kernel
theorem dX7_looks_73 : decode cX7_looks 73 = .ok (.iload_n 1, 1) := by decide +kernel
theorem dX7_looks_74 : decode cX7_looks 74 = .ok (.invokevirtual 57, 3) := by decide +kernel
theorem dX7_looks_77 : decode cX7_looks 77 = .ok (.aload_n 0, 1) := by decide +kernel
theorem dX7_looks_78 : decode cX7_looks 78 = .ok (.getfield 7, 3) := by decide +kernel
theorem dX7_looks_81 : decode cX7_looks 81 = .ok (.iconst 0, 1) := by decide +kernel
theorem dX7_looks_82 : decode cX7_looks 82 = .ok (.iaload, 1) := by decide +kernel
theorem dX7_looks_83 : decode cX7_looks 83 = .ok (.if_icmp .le 17, 3) := by decide +kernel
theorem dX7_looks_86 : decode cX7_looks 86 = .ok (.aload_n 0, 1) := by decide +kernel
theorem dX7_looks_87 : decode cX7_looks 87 = .ok (.getfield 7, 3) := by decide +kernel
theorem dX7_looks_90 : decode cX7_looks 90 = .ok (.bipush 14, 2) := by decide +kernel
theorem dX7_looks_92 : decode cX7_looks 92 = .ok (.dup2, 1) := by decide +kernel
theorem dX7_looks_93 : decode cX7_looks 93 = .ok (.iaload, 1) := by decide +kernel
theorem dX7_looks_94 : decode cX7_looks 94 = .ok (.iconst 1, 1) := by decide +kernel
theorem dX7_looks_95 : decode cX7_looks 95 = .ok (.iadd, 1) := by decide +kernel
theorem dX7_looks_96 : decode cX7_looks 96 = .ok (.iastore, 1) := by decide +kernel
theorem dX7_looks_97 : decode cX7_looks 97 = .ok (.goto 68, 3) := by decide +kernel
theorem dX7_looks_100 : decode cX7_looks 100 = .ok (.aload_n 0, 1) := by decide +kernel
theorem dX7_looks_101 : decode cX7_looks 101 = .ok (.getfield 7, 3) := by decide +kernel
theorem dX7_looks_104 : decode cX7_looks 104 = .ok (.bipush 97, 2) := by decide +kernel
theorem dX7_looks_106 : decode cX7_looks 106 = .ok (.iload_n 1, 1) := by decide +kernel
theorem dX7_looks_107 : decode cX7_looks 107 = .ok (.iadd, 1) := by decide +kernel
theorem dX7_looks_108 : decode cX7_looks 108 = .ok (.iconst 1, 1) := by decide +kernel
theorem dX7_looks_109 : decode cX7_looks 109 = .ok (.iastore, 1) := by decide +kernel
theorem dX7_looks_110 : decode cX7_looks 110 = .ok (.aload_n 0, 1) := by decide +kernel
theorem dX7_looks_111 : decode cX7_looks 111 = .ok (.getfield 7, 3) := by decide +kernel
theorem dX7_looks_114 : decode cX7_looks 114 = .ok (.bipush 107, 2) := by decide +kernel
theorem dX7_looks_116 : decode cX7_looks 116 = .ok (.iload_n 1, 1) := by decide +kernel
theorem dX7_looks_117 : decode cX7_looks 117 = .ok (.iadd, 1) := by decide +kernel
theorem dX7_looks_118 : decode cX7_looks 118 = .ok (.aload_n 0, 1) := by decide +kernel
theorem dX7_looks_119 : decode cX7_looks 119 = .ok (.getfield 7, 3) := by decide +kernel
theorem dX7_looks_122 : decode cX7_looks 122 = .ok (.bipush 16, 2) := by decide +kernel
theorem dX7_looks_124 : decode cX7_looks 124 = .ok (.iaload, 1) := by decide +kernel
theorem dX7_looks_125 : decode cX7_looks 125 = .ok (.iastore, 1) := by decide +kernel
theorem dX7_looks_126 : decode cX7_looks 126 = .ok (.aload_n 0, 1) := by decide +kernel
theorem dX7_looks_127 : decode cX7_looks 127 = .ok (.getfield 7, 3) := by decide +kernel
theorem dX7_looks_130 : decode cX7_looks 130 = .ok (.bipush 117, 2) := by decide +kernel
theorem dX7_looks_132 : decode cX7_looks 132 = .ok (.iload_n 1, 1) := by decide +kernel
theorem dX7_looks_133 : decode cX7_looks 133 = .ok (.iadd, 1) := by decide +kernel
theorem dX7_looks_134 : decode cX7_looks 134 = .ok (.aload_n 0, 1) := by decide +kernel
theorem dX7_looks_135 : decode cX7_looks 135 = .ok (.getfield 7, 3) := by decide +kernel
theorem dX7_looks_138 : decode cX7_looks 138 = .ok (.bipush 16, 2) := by decide +kernel
theorem dX7_looks_140 : decode cX7_looks 140 = .ok (.iaload, 1) := by decide +kernel
theorem dX7_looks_141 : decode cX7_looks 141 = .ok (.iastore, 1) := by decide +kernel
theorem dX7_looks_142 : decode cX7_looks 142 = .ok (.aload_n 0, 1) := by decide +kernel
theorem dX7_looks_143 : decode cX7_looks 143 = .ok (.getfield 7, 3) := by decide +kernel
theorem dX7_looks_146 : decode cX7_looks 146 = .ok (.bipush 8, 2) := by decide +kernel
theorem dX7_looks_148 : decode cX7_looks 148 = .ok (.dup2, 1) := by decide +kernel
theorem dX7_looks_149 : decode cX7_looks 149 = .ok (.iaload, 1) := by decide +kernel
theorem dX7_looks_150 : decode cX7_looks 150 = .ok (.aload_n 0, 1) := by decide +kernel
theorem dX7_looks_151 : decode cX7_looks 151 = .ok (.iload_n 1, 1) := by decide +kernel
theorem dX7_looks_152 : decode cX7_looks 152 = .ok (.invokevirtual 86, 3) := by decide +kernel
theorem dX7_looks_155 : decode cX7_looks 155 = .ok (.ifCond .ge 7, 3) := by decide +kernel
theorem dX7_looks_158 : decode cX7_looks 158 = .ok (.iconst 1, 1) := by decide +kernel
theorem dX7_looks_159 : decode cX7_looks 159 = .ok (.goto 4, 3) := by decide +kernel
theorem dX7_looks_162 : decode cX7_looks 162 = .ok (.iconst 0, 1) := by decide +kernel
theorem dX7_looks_163 : decode cX7_looks 163 = .ok (.iadd, 1) := by decide +kernel
theorem dX7_looks_164 : decode cX7_looks 164 = .ok (.iastore, 1) := by decide +kernel
theorem dX7_looks_165 : decode cX7_looks 165 = .ok (.iconst 2, 1) := by decide +kernel
theorem dX7_looks_166 : decode cX7_looks 166 = .ok (.aload_n 0, 1) := by decide +kernel
theorem dX7_looks_167 : decode cX7_looks 167 = .ok (.getfield 7, 3) := by decide +kernel
theorem dX7_looks_170 : decode cX7_looks 170 = .ok (.iconst 5, 1) := by decide +kernel
theorem dX7_looks_171 : decode cX7_looks 171 = .ok (.iaload, 1) := by decide +kernel
theorem dX7_looks_172 : decode cX7_looks 172 = .ok (.iadd, 1) := by decide +kernel
theorem dX7_looks_173 : decode cX7_looks 173 = .ok (.ireturn, 1) := by decide +kernel
set_option maxRecDepth 20000 in
theorem ggX7_adds_X7_keeps : GoodIn wsX7_adds wsX7_keeps := goodIn_r _ [6, 1, 7, 8, 9, 5, 10, 11, 12, 13, 14, 15, 16, 17, 18, 19, 20, 21, 22, 23, 24, 25, 26, 27, 28, 29, 30, 31, 32] (by decide +kernel) (by decide +kernel)
set_option maxRecDepth 20000 in
theorem gX7_adds_X7_keeps : GoodIn wsX7_adds (wsV RX7 89 RX7 yX7_keeps wsX7_keeps) := goodIn_app (goodIn_of _ (by decide +kernel)) ggX7_adds_X7_keeps
theorem dX7_adds_0 : decode cX7_adds 0 = .ok (.iload_n 1, 1) := by decide +kernel
theorem dX7_adds_1 : decode cX7_adds 1 = .ok (.ifCond .eq 8, 3) := by decide +kernel
theorem dX7_adds_4 : decode cX7_adds 4 = .ok (.bipush 17, 2) := by decide +kernel
theorem dX7_adds_6 : decode cX7_adds 6 = .ok (.goto 5, 3) := by decide +kernel
theorem dX7_adds_9 : decode cX7_adds 9 = .ok (.bipush 57, 2) := by decide +kernel
theorem dX7_adds_11 : decode cX7_adds 11 = .ok (.istore 4, 2) := by decide +kernel
theorem dX7_adds_13 : decode cX7_adds 13 = .ok (.iload_n 1, 1) := by decide +kernel
theorem dX7_adds_14 : decode cX7_adds 14 = .ok (.ifCond .eq 7, 3) := by decide +kernel
theorem dX7_adds_17 : decode cX7_adds 17 = .ok (.iconst 5, 1) := by decide +kernel
theorem dX7_adds_18 : decode cX7_adds 18 = .ok (.goto 5, 3) := by decide +kernel
theorem dX7_adds_21 : decode cX7_adds 21 = .ok (.bipush 6, 2) := by decide +kernel
theorem dX7_adds_23 : decode cX7_adds 23 = .ok (.istore 5, 2) := by decide +kernel
theorem dX7_adds_25 : decode cX7_adds 25 = .ok (.aload_n 0, 1) := by decide +kernel
theorem dX7_adds_26 : decode cX7_adds 26 = .ok (.getfield 7, 3) := by decide +kernel
theorem dX7_adds_29 : decode cX7_adds 29 = .ok (.iload 4, 2) := by decide +kernel
theorem dX7_adds_31 : decode cX7_adds 31 = .ok (.iconst 2, 1) := by decide +kernel
theorem dX7_adds_32 : decode cX7_adds 32 = .ok (.aload_n 0, 1) := by decide +kernel
theorem dX7_adds_33 : decode cX7_adds 33 = .ok (.getfield 7, 3) := by decide +kernel
theorem dX7_adds_36 : decode cX7_adds 36 = .ok (.iload 5, 2) := by decide +kernel
theorem dX7_adds_38 : decode cX7_adds 38 = .ok (.iaload, 1) := by decide +kernel
theorem dX7_adds_39 : decode cX7_adds 39 = .ok (.imul, 1) := by decide +kernel
theorem dX7_adds_40 : decode cX7_adds 40 = .ok (.iadd, 1) := by decide +kernel
theorem dX7_adds_41 : decode cX7_adds 41 = .ok (.iload_n 2, 1) := by decide +kernel
theorem dX7_adds_42 : decode cX7_adds 42 = .ok (.iastore, 1) := by decide +kernel
theorem dX7_adds_43 : decode cX7_adds 43 = .ok (.aload_n 0, 1) := by decide +kernel
theorem dX7_adds_44 : decode cX7_adds 44 = .ok (.getfield 7, 3) := by decide +kernel
theorem dX7_adds_47 : decode cX7_adds 47 = .ok (.iload 4, 2) := by decide +kernel
theorem dX7_adds_49 : decode cX7_adds 49 = .ok (.iconst 2, 1) := by decide +kernel
theorem dX7_adds_50 : decode cX7_adds 50 = .ok (.aload_n 0, 1) := by decide +kernel
theorem dX7_adds_51 : decode cX7_adds 51 = .ok (.getfield 7, 3) := by decide +kernel
theorem dX7_adds_54 : decode cX7_adds 54 = .ok (.iload 5, 2) := by decide +kernel
theorem dX7_adds_56 : decode cX7_adds 56 = .ok (.iaload, 1) := by decide +kernel
theorem dX7_adds_57 : decode cX7_adds 57 = .ok (.imul, 1) := by decide +kernel
theorem dX7_adds_58 : decode cX7_adds 58 = .ok (.iadd, 1) := by decide +kernel
theorem dX7_adds_59 : decode cX7_adds 59 = .ok (.iconst 1, 1) := by decide +kernel
theorem dX7_adds_60 : decode cX7_adds 60 = .ok (.iadd, 1) := by decide +kernel
theorem dX7_adds_61 : decode cX7_adds 61 = .ok (.iload_n 3, 1) := by decide +kernel
theorem dX7_adds_62 : decode cX7_adds 62 = .ok (.iastore, 1) := by decide +kernel
theorem dX7_adds_63 : decode cX7_adds 63 = .ok (.aload_n 0, 1) := by decide +kernel
theorem dX7_adds_64 : decode cX7_adds 64 = .ok (.getfield 7, 3) := by decide +kernel
theorem dX7_adds_67 : decode cX7_adds 67 = .ok (.iload 5, 2) := by decide +kernel
theorem dX7_adds_69 : decode cX7_adds 69 = .ok (.dup2, 1) := by decide +kernel
theorem dX7_adds_70 : decode cX7_adds 70 = .ok (.iaload, 1) := by decide +kernel
theorem dX7_adds_71 : decode cX7_adds 71 = .ok (.iconst 1, 1) := by decide +kernel
theorem dX7_adds_72 : decode cX7_adds 72 = .ok (.iadd, 1) := by decide +kernel
theorem dX7_adds_73 : decode cX7_adds 73 = .ok (.iastore, 1) := by decide +kernel
theorem dX7_adds_74 : decode cX7_adds 74 = .ok (.iload_n 1, 1) := by decide +kernel
theorem dX7_adds_75 : decode cX7_adds 75 = .ok (.ifCond .eq 9, 3) := by decide +kernel
theorem dX7_adds_78 : decode cX7_adds 78 = .ok (.aload_n 0, 1) := by decide +kernel
theorem dX7_adds_79 : decode cX7_adds 79 = .ok (.iload_n 2, 1) := by decide +kernel
theorem dX7_adds_80 : decode cX7_adds 80 = .ok (.iload_n 2, 1) := by decide +kernel
theorem dX7_adds_81 : decode cX7_adds 81 = .ok (.invokevirtual 89, 3) := by decide +kernel
theorem dX7_adds_84 : decode cX7_adds 84 = .ok (.aload_n 0, 1) := by decide +kernel
theorem dX7_adds_85 : decode cX7_adds 85 = .ok (.getfield 7, 3) := by decide +kernel
theorem dX7_adds_88 : decode cX7_adds 88 = .ok (.iload 5, 2) := by decide +kernel
theorem dX7_adds_90 : decode cX7_adds 90 = .ok (.iaload, 1) := by decide +kernel
theorem dX7_adds_91 : decode cX7_adds 91 = .ok (.iconst 1, 1) := by decide +kernel
theorem dX7_adds_92 : decode cX7_adds 92 = .ok (.isub, 1) := by decide +kernel
theorem dX7_adds_93 : decode cX7_adds 93 = .ok (.ireturn, 1) := by decide +kernel
set_option maxRecDepth 20000 in
theorem ggX7_add_X7_isRowOf : GoodIn wsX7_add wsX7_isRowOf := goodIn_r _ [5, 6, 7, 4, 8] (by decide +kernel) (by decide +kernel)
set_option maxRecDepth 20000 in
theorem gX7_add_X7_isRowOf : GoodIn wsX7_add (va_wsS RX7 93 yX7_isRowOf wsX7_isRowOf) := goodIn_app (goodIn_of _ (by decide +kernel)) ggX7_add_X7_isRowOf
set_option maxRecDepth 20000 in
theorem ggX7_add_X7_changes : GoodIn wsX7_add wsX7_changes := goodIn_r _ [12, 13, 14, 15, 1, 36, 37, 38, 39, 40, 41, 42, 43, 44, 45, 46, 47, 48, 49] (by decide +kernel) (by decide +kernel)
set_option maxRecDepth 20000 in
theorem gX7_add_X7_changes : GoodIn wsX7_add (wsV RX7 96 RX7 yX7_changes wsX7_changes) := goodIn_app (goodIn_of _ (by decide +kernel)) ggX7_add_X7_changes
set_option maxRecDepth 20000 in
theorem ggX7_add_X7_adds : GoodIn wsX7_add wsX7_adds := goodIn_r _ [19, 1, 20, 21, 22, 4, 23, 24, 25, 26, 27, 28, 29, 30, 31, 32, 33, 34, 35, 36, 37, 38, 39, 40, 41, 42, 43, 44, 45, 46, 47, 48, 49] (by decide +kernel) (by decide +kernel)
set_option maxRecDepth 20000 in
theorem gX7_add_X7_adds : GoodIn wsX7_add (wsV RX7 99 RX7 yX7_adds wsX7_adds) := goodIn_app (goodIn_of _ (by decide +kernel)) ggX7_add_X7_adds
theorem dX7_add_0 : decode cX7_add 0 = .ok (.iload_n 2, 1) := by decide +kernel
theorem dX7_add_1 : decode cX7_add 1 = .ok (.iload_n 3, 1) := by decide +kernel
theorem dX7_add_2 : decode cX7_add 2 = .ok (.invokestatic 93, 3) := by decide +kernel
theorem dX7_add_5 : decode cX7_add 5 = .ok (.ifCond .ne 5, 3) := by decide +kernel
theorem dX7_add_8 : decode cX7_add 8 = .ok (.iconst (-1), 1) := by decide +kernel
theorem dX7_add_9 : decode cX7_add 9 = .ok (.ireturn, 1) := by decide +kernel
theorem dX7_add_10 : decode cX7_add 10 = .ok (.aload_n 0, 1) := by decide +kernel
theorem dX7_add_11 : decode cX7_add 11 = .ok (.getfield 7, 3) := by decide +kernel
theorem dX7_add_14 : decode cX7_add 14 = .ok (.iload_n 1, 1) := by decide +kernel
theorem dX7_add_15 : decode cX7_add 15 = .ok (.ifCond .eq 7, 3) := by decide +kernel
theorem dX7_add_18 : decode cX7_add 18 = .ok (.iconst 5, 1) := by decide +kernel
theorem dX7_add_19 : decode cX7_add 19 = .ok (.goto 5, 3) := by decide +kernel
theorem dX7_add_22 : decode cX7_add 22 = .ok (.bipush 6, 2) := by decide +kernel
theorem dX7_add_24 : decode cX7_add 24 = .ok (.iaload, 1) := by decide +kernel
theorem dX7_add_25 : decode cX7_add 25 = .ok (.bipush 20, 2) := by decide +kernel
theorem dX7_add_27 : decode cX7_add 27 = .ok (.if_icmp .ne 6, 3) := by decide +kernel
theorem dX7_add_30 : decode cX7_add 30 = .ok (.bipush (-3), 2) := by decide +kernel
theorem dX7_add_32 : decode cX7_add 32 = .ok (.ireturn, 1) := by decide +kernel
theorem dX7_add_33 : decode cX7_add 33 = .ok (.aload_n 0, 1) := by decide +kernel
theorem dX7_add_34 : decode cX7_add 34 = .ok (.invokevirtual 96, 3) := by decide +kernel
theorem dX7_add_37 : decode cX7_add 37 = .ok (.aload_n 0, 1) := by decide +kernel
theorem dX7_add_38 : decode cX7_add 38 = .ok (.iload_n 1, 1) := by decide +kernel
theorem dX7_add_39 : decode cX7_add 39 = .ok (.iload_n 2, 1) := by decide +kernel
theorem dX7_add_40 : decode cX7_add 40 = .ok (.iload_n 3, 1) := by decide +kernel
theorem dX7_add_41 : decode cX7_add 41 = .ok (.invokevirtual 99, 3) := by decide +kernel
theorem dX7_add_44 : decode cX7_add 44 = .ok (.ireturn, 1) := by decide +kernel
set_option maxRecDepth 20000 in
theorem ggX7_drop_X7_isInner : GoodIn wsX7_drop wsX7_isInner := goodIn_r _ [6, 1, 7, 8, 5, 9, 37, 38, 39, 40, 41, 42, 43, 44, 45, 46, 47, 48, 49, 50] (by decide +kernel) (by decide +kernel)
set_option maxRecDepth 20000 in
theorem gX7_drop_X7_isInner : GoodIn wsX7_drop (wsV RX7 103 RX7 yX7_isInner wsX7_isInner) := goodIn_app (goodIn_of _ (by decide +kernel)) ggX7_drop_X7_isInner
set_option maxRecDepth 20000 in
theorem ggX7_drop_X7_isOuter : GoodIn wsX7_drop wsX7_isOuter := goodIn_r _ [13, 1, 7, 8, 5, 9, 37, 38, 39, 40, 41, 42, 43, 44, 45, 46, 47, 48, 49, 50] (by decide +kernel) (by decide +kernel)
set_option maxRecDepth 20000 in
theorem gX7_drop_X7_isOuter : GoodIn wsX7_drop (wsV RX7 106 RX7 yX7_isOuter wsX7_isOuter) := goodIn_app (goodIn_of _ (by decide +kernel)) ggX7_drop_X7_isOuter
set_option maxRecDepth 20000 in
theorem ggX7_drop_X7_changes : GoodIn wsX7_drop wsX7_changes := goodIn_r _ [17, 18, 19, 20, 1, 37, 38, 39, 40, 41, 42, 43, 44, 45, 46, 47, 48, 49, 50] (by decide +kernel) (by decide +kernel)
set_option maxRecDepth 20000 in
theorem gX7_drop_X7_changes : GoodIn wsX7_drop (wsV RX7 96 RX7 yX7_changes wsX7_changes) := goodIn_app (goodIn_of _ (by decide +kernel)) ggX7_drop_X7_changes
set_option maxRecDepth 20000 in
theorem ggX7_drop_X7_keeps : GoodIn wsX7_drop wsX7_keeps := goodIn_r _ [24, 1, 25, 26, 27, 5, 28, 29, 30, 31, 32, 33, 34, 35, 36, 37, 38, 39, 40, 41, 42, 43, 44, 45, 46, 47, 48, 49, 50] (by decide +kernel) (by decide +kernel)
set_option maxRecDepth 20000 in
theorem gX7_drop_X7_keeps : GoodIn wsX7_drop (wsV RX7 89 RX7 yX7_keeps wsX7_keeps) := goodIn_app (goodIn_of _ (by decide +kernel)) ggX7_drop_X7_keeps
theorem dX7_drop_0 : decode cX7_drop 0 = .ok (.iload_n 1, 1) := by decide +kernel
theorem dX7_drop_1 : decode cX7_drop 1 = .ok (.ifCond .eq 14, 3) := by decide +kernel
theorem dX7_drop_4 : decode cX7_drop 4 = .ok (.aload_n 0, 1) := by decide +kernel
theorem dX7_drop_5 : decode cX7_drop 5 = .ok (.iload_n 2, 1) := by decide +kernel
theorem dX7_drop_6 : decode cX7_drop 6 = .ok (.invokevirtual 103, 3) := by decide +kernel
theorem dX7_drop_9 : decode cX7_drop 9 = .ok (.ifCond .ne 16, 3) := by decide +kernel
theorem dX7_drop_12 : decode cX7_drop 12 = .ok (.goto 11, 3) := by decide +kernel
theorem dX7_drop_15 : decode cX7_drop 15 = .ok (.aload_n 0, 1) := by decide +kernel
theorem dX7_drop_16 : decode cX7_drop 16 = .ok (.iload_n 2, 1) := by decide +kernel
theorem dX7_drop_17 : decode cX7_drop 17 = .ok (.invokevirtual 106, 3) := by decide +kernel
theorem dX7_drop_20 : decode cX7_drop 20 = .ok (.ifCond .ne 5, 3) := by decide +kernel
theorem dX7_drop_23 : decode cX7_drop 23 = .ok (.iconst (-1), 1) := by decide +kernel
theorem dX7_drop_24 : decode cX7_drop 24 = .ok (.ireturn, 1) := by decide +kernel
theorem dX7_drop_25 : decode cX7_drop 25 = .ok (.aload_n 0, 1) := by decide +kernel
theorem dX7_drop_26 : decode cX7_drop 26 = .ok (.invokevirtual 96, 3) := by decide +kernel
theorem dX7_drop_29 : decode cX7_drop 29 = .ok (.iload_n 1, 1) := by decide +kernel
theorem dX7_drop_30 : decode cX7_drop 30 = .ok (.ifCond .eq 8, 3) := by decide +kernel
theorem dX7_drop_33 : decode cX7_drop 33 = .ok (.bipush 17, 2) := by decide +kernel
theorem dX7_drop_35 : decode cX7_drop 35 = .ok (.goto 5, 3) := by decide +kernel
theorem dX7_drop_38 : decode cX7_drop 38 = .ok (.bipush 57, 2) := by decide +kernel
theorem dX7_drop_40 : decode cX7_drop 40 = .ok (.istore_n 3, 1) := by decide +kernel
theorem dX7_drop_41 : decode cX7_drop 41 = .ok (.iload_n 1, 1) := by decide +kernel
theorem dX7_drop_42 : decode cX7_drop 42 = .ok (.ifCond .eq 7, 3) := by decide +kernel
theorem dX7_drop_45 : decode cX7_drop 45 = .ok (.iconst 5, 1) := by decide +kernel
theorem dX7_drop_46 : decode cX7_drop 46 = .ok (.goto 5, 3) := by decide +kernel
theorem dX7_drop_49 : decode cX7_drop 49 = .ok (.bipush 6, 2) := by decide +kernel
theorem dX7_drop_51 : decode cX7_drop 51 = .ok (.istore 4, 2) := by decide +kernel
theorem dX7_drop_53 : decode cX7_drop 53 = .ok (.aload_n 0, 1) := by decide +kernel
theorem dX7_drop_54 : decode cX7_drop 54 = .ok (.getfield 7, 3) := by decide +kernel
theorem dX7_drop_57 : decode cX7_drop 57 = .ok (.iload_n 3, 1) := by decide +kernel
theorem dX7_drop_58 : decode cX7_drop 58 = .ok (.iconst 2, 1) := by decide +kernel
theorem dX7_drop_59 : decode cX7_drop 59 = .ok (.iload_n 2, 1) := by decide +kernel
theorem dX7_drop_60 : decode cX7_drop 60 = .ok (.imul, 1) := by decide +kernel
theorem dX7_drop_61 : decode cX7_drop 61 = .ok (.iadd, 1) := by decide +kernel
theorem dX7_drop_62 : decode cX7_drop 62 = .ok (.iaload, 1) := by decide +kernel
theorem dX7_drop_63 : decode cX7_drop 63 = .ok (.istore 5, 2) := by decide +kernel
theorem dX7_drop_65 : decode cX7_drop 65 = .ok (.aload_n 0, 1) := by decide +kernel
theorem dX7_drop_66 : decode cX7_drop 66 = .ok (.getfield 7, 3) := by decide +kernel
theorem dX7_drop_69 : decode cX7_drop 69 = .ok (.iload 4, 2) := by decide +kernel
theorem dX7_drop_71 : decode cX7_drop 71 = .ok (.dup2, 1) := by decide +kernel
theorem dX7_drop_72 : decode cX7_drop 72 = .ok (.iaload, 1) := by decide +kernel
theorem dX7_drop_73 : decode cX7_drop 73 = .ok (.iconst 1, 1) := by decide +kernel
theorem dX7_drop_74 : decode cX7_drop 74 = .ok (.isub, 1) := by decide +kernel
theorem dX7_drop_75 : decode cX7_drop 75 = .ok (.iastore, 1) := by decide +kernel
theorem dX7_drop_76 : decode cX7_drop 76 = .ok (.iconst 2, 1) := by decide +kernel
theorem dX7_drop_77 : decode cX7_drop 77 = .ok (.iload_n 2, 1) := by decide +kernel
theorem dX7_drop_78 : decode cX7_drop 78 = .ok (.imul, 1) := by decide +kernel
theorem dX7_drop_79 : decode cX7_drop 79 = .ok (.istore 6, 2) := by decide +kernel
theorem dX7_drop_81 : decode cX7_drop 81 = .ok (.iload 6, 2) := by decide +kernel
theorem dX7_drop_83 : decode cX7_drop 83 = .ok (.iconst 2, 1) := by decide +kernel
theorem dX7_drop_84 : decode cX7_drop 84 = .ok (.aload_n 0, 1) := by decide +kernel
theorem dX7_drop_85 : decode cX7_drop 85 = .ok (.getfield 7, 3) := by decide +kernel
theorem dX7_drop_88 : decode cX7_drop 88 = .ok (.iload 4, 2) := by decide +kernel
theorem dX7_drop_90 : decode cX7_drop 90 = .ok (.iaload, 1) := by decide +kernel
theorem dX7_drop_91 : decode cX7_drop 91 = .ok (.imul, 1) := by decide +kernel
theorem dX7_drop_92 : decode cX7_drop 92 = .ok (.if_icmp .ge 29, 3) := by decide +kernel
theorem dX7_drop_95 : decode cX7_drop 95 = .ok (.aload_n 0, 1) := by decide +kernel
theorem dX7_drop_96 : decode cX7_drop 96 = .ok (.getfield 7, 3) := by decide +kernel
theorem dX7_drop_99 : decode cX7_drop 99 = .ok (.iload_n 3, 1) := by decide +kernel
theorem dX7_drop_100 : decode cX7_drop 100 = .ok (.iload 6, 2) := by decide +kernel
theorem dX7_drop_102 : decode cX7_drop 102 = .ok (.iadd, 1) := by decide +kernel
theorem dX7_drop_103 : decode cX7_drop 103 = .ok (.aload_n 0, 1) := by decide +kernel
theorem dX7_drop_104 : decode cX7_drop 104 = .ok (.getfield 7, 3) := by decide +kernel
theorem dX7_drop_107 : decode cX7_drop 107 = .ok (.iload_n 3, 1) := by decide +kernel
theorem dX7_drop_108 : decode cX7_drop 108 = .ok (.iload 6, 2) := by decide +kernel
theorem dX7_drop_110 : decode cX7_drop 110 = .ok (.iadd, 1) := by decide +kernel
theorem dX7_drop_111 : decode cX7_drop 111 = .ok (.iconst 2, 1) := by decide +kernel
theorem dX7_drop_112 : decode cX7_drop 112 = .ok (.iadd, 1) := by decide +kernel
theorem dX7_drop_113 : decode cX7_drop 113 = .ok (.iaload, 1) := by decide +kernel
theorem dX7_drop_114 : decode cX7_drop 114 = .ok (.iastore, 1) := by decide +kernel
theorem dX7_drop_115 : decode cX7_drop 115 = .ok (.iinc 6 1, 3) := by decide +kernel
theorem dX7_drop_118 : decode cX7_drop 118 = .ok (.goto (-37), 3) := by decide +kernel
theorem dX7_drop_121 : decode cX7_drop 121 = .ok (.iload_n 1, 1) := by decide +kernel
theorem dX7_drop_122 : decode cX7_drop 122 = .ok (.ifCond .eq 14, 3) := by decide +kernel
theorem dX7_drop_125 : decode cX7_drop 125 = .ok (.aload_n 0, 1) := by decide +kernel
theorem dX7_drop_126 : decode cX7_drop 126 = .ok (.iload 5, 2) := by decide +kernel
theorem dX7_drop_128 : decode cX7_drop 128 = .ok (.iload 5, 2) := by decide +kernel
theorem dX7_drop_130 : decode cX7_drop 130 = .ok (.invokevirtual 89, 3) := by decide +kernel
theorem dX7_drop_133 : decode cX7_drop 133 = .ok (.goto 29, 3) := by decide +kernel
theorem dX7_drop_136 : decode cX7_drop 136 = .ok (.aload_n 0, 1) := by decide +kernel
theorem dX7_drop_137 : decode cX7_drop 137 = .ok (.getfield 7, 3) := by decide +kernel
theorem dX7_drop_140 : decode cX7_drop 140 = .ok (.bipush 7, 2) := by decide +kernel
theorem dX7_drop_142 : decode cX7_drop 142 = .ok (.dup2, 1) := by decide +kernel
theorem dX7_drop_143 : decode cX7_drop 143 = .ok (.iaload, 1) := by decide +kernel
theorem dX7_drop_144 : decode cX7_drop 144 = .ok (.iload_n 2, 1) := by decide +kernel
theorem dX7_drop_145 : decode cX7_drop 145 = .ok (.aload_n 0, 1) := by decide +kernel
theorem dX7_drop_146 : decode cX7_drop 146 = .ok (.getfield 7, 3) := by decide +kernel
theorem dX7_drop_149 : decode cX7_drop 149 = .ok (.bipush 7, 2) := by decide +kernel
theorem dX7_drop_151 : decode cX7_drop 151 = .ok (.iaload, 1) := by decide +kernel
theorem dX7_drop_152 : decode cX7_drop 152 = .ok (.if_icmp .ge 7, 3) := by decide +kernel
theorem dX7_drop_155 : decode cX7_drop 155 = .ok (.iconst 1, 1) := by decide +kernel
theorem dX7_drop_156 : decode cX7_drop 156 = .ok (.goto 4, 3) := by decide +kernel
theorem dX7_drop_159 : decode cX7_drop 159 = .ok (.iconst 0, 1) := by decide +kernel
end
section
theorem dX7_drop_160 : decode cX7_drop 160 = .ok (.isub, 1) := by decide +kernel
theorem dX7_drop_161 : decode cX7_drop 161 = .ok (.iastore, 1) := by decide +kernel
theorem dX7_drop_162 : decode cX7_drop 162 = .ok (.aload_n 0, 1) := by decide +kernel
theorem dX7_drop_163 : decode cX7_drop 163 = .ok (.getfield 7, 3) := by decide +kernel
theorem dX7_drop_166 : decode cX7_drop 166 = .ok (.iload 4, 2) := by decide +kernel
theorem dX7_drop_168 : decode cX7_drop 168 = .ok (.iaload, 1) := by decide +kernel
theorem dX7_drop_169 : decode cX7_drop 169 = .ok (.ireturn, 1) := by decide +kernel
set_option maxRecDepth 20000 in
theorem ggX7_change_X7_isInner : GoodIn wsX7_change wsX7_isInner := goodIn_r _ [6, 1, 7, 8, 5, 9, 44, 45, 46, 47, 48, 49, 50, 51, 52, 53, 54, 55, 56, 57] (by decide +kernel) (by decide +kernel)
set_option maxRecDepth 20000 in
theorem gX7_change_X7_isInner : GoodIn wsX7_change (wsV RX7 103 RX7 yX7_isInner wsX7_isInner) := goodIn_app (goodIn_of _ (by decide +kernel)) ggX7_change_X7_isInner
set_option maxRecDepth 20000 in
theorem ggX7_change_X7_isRowOf : GoodIn wsX7_change wsX7_isRowOf := goodIn_r _ [12, 7, 8, 5, 9] (by decide +kernel) (by decide +kernel)
set_option maxRecDepth 20000 in
theorem gX7_change_X7_isRowOf : GoodIn wsX7_change (va_wsS RX7 93 yX7_isRowOf wsX7_isRowOf) := goodIn_app (goodIn_of _ (by decide +kernel)) ggX7_change_X7_isRowOf
set_option maxRecDepth 20000 in
theorem ggX7_change_X7_changes : GoodIn wsX7_change wsX7_changes := goodIn_r _ [16, 17, 18, 19, 1, 44, 45, 46, 47, 48, 49, 50, 51, 52, 53, 54, 55, 56, 57] (by decide +kernel) (by decide +kernel)
set_option maxRecDepth 20000 in
theorem gX7_change_X7_changes : GoodIn wsX7_change (wsV RX7 96 RX7 yX7_changes wsX7_changes) := goodIn_app (goodIn_of _ (by decide +kernel)) ggX7_change_X7_changes
set_option maxRecDepth 20000 in
theorem ggX7_change_X7_innerKey : GoodIn wsX7_change wsX7_innerKey := goodIn_r _ [23, 1, 44, 45, 46, 47, 48, 49, 50, 51, 52, 53, 54, 55, 56, 57] (by decide +kernel) (by decide +kernel)
set_option maxRecDepth 20000 in
theorem gX7_change_X7_innerKey : GoodIn wsX7_change (wsV RX7 43 RX7 yX7_innerKey wsX7_innerKey) := goodIn_app (goodIn_of _ (by decide +kernel)) ggX7_change_X7_innerKey
set_option maxRecDepth 20000 in
theorem ggX7_change_X7_keeps : GoodIn wsX7_change wsX7_keeps := goodIn_r _ [27, 1, 28, 29, 30, 5, 31, 32, 33, 34, 35, 36, 37, 38, 39, 44, 45, 46, 47, 48, 49, 50, 51, 52, 53, 54, 55, 56, 57] (by decide +kernel) (by decide +kernel)
set_option maxRecDepth 20000 in
theorem gX7_change_X7_keeps : GoodIn wsX7_change (wsV RX7 89 RX7 yX7_keeps wsX7_keeps) := goodIn_app (goodIn_of _ (by decide +kernel)) ggX7_change_X7_keeps
set_option maxRecDepth 20000 in
theorem ggX7_change_X7_known : GoodIn wsX7_change wsX7_known := goodIn_r _ [43, 36, 37, 38, 5, 39, 1, 44, 45, 46, 47, 48, 49, 50, 51, 52, 53, 54, 55, 56, 57] (by decide +kernel) (by decide +kernel)
set_option maxRecDepth 20000 in
theorem gX7_change_X7_known : GoodIn wsX7_change (wsV RX7 109 RX7 yX7_known wsX7_known) := goodIn_app (goodIn_of _ (by decide +kernel)) ggX7_change_X7_known
theorem dX7_change_0 : decode cX7_change 0 = .ok (.aload_n 0, 1) := by decide +kernel
theorem dX7_change_1 : decode cX7_change 1 = .ok (.iload_n 1, 1) := by decide +kernel
theorem dX7_change_2 : decode cX7_change 2 = .ok (.invokevirtual 103, 3) := by decide +kernel
theorem dX7_change_5 : decode cX7_change 5 = .ok (.ifCond .eq 11, 3) := by decide +kernel
theorem dX7_change_8 : decode cX7_change 8 = .ok (.iload_n 2, 1) := by decide +kernel
theorem dX7_change_9 : decode cX7_change 9 = .ok (.iload_n 3, 1) := by decide +kernel
theorem dX7_change_10 : decode cX7_change 10 = .ok (.invokestatic 93, 3) := by decide +kernel
theorem dX7_change_13 : decode cX7_change 13 = .ok (.ifCond .ne 5, 3) := by decide +kernel
theorem dX7_change_16 : decode cX7_change 16 = .ok (.iconst (-1), 1) := by decide +kernel
theorem dX7_change_17 : decode cX7_change 17 = .ok (.ireturn, 1) := by decide +kernel
theorem dX7_change_18 : decode cX7_change 18 = .ok (.aload_n 0, 1) := by decide +kernel
theorem dX7_change_19 : decode cX7_change 19 = .ok (.invokevirtual 96, 3) := by decide +kernel
theorem dX7_change_22 : decode cX7_change 22 = .ok (.aload_n 0, 1) := by decide +kernel
theorem dX7_change_23 : decode cX7_change 23 = .ok (.iload_n 1, 1) := by decide +kernel
theorem dX7_change_24 : decode cX7_change 24 = .ok (.invokevirtual 43, 3) := by decide +kernel
theorem dX7_change_27 : decode cX7_change 27 = .ok (.istore 4, 2) := by decide +kernel
theorem dX7_change_29 : decode cX7_change 29 = .ok (.aload_n 0, 1) := by decide +kernel
theorem dX7_change_30 : decode cX7_change 30 = .ok (.getfield 7, 3) := by decide +kernel
theorem dX7_change_33 : decode cX7_change 33 = .ok (.bipush 17, 2) := by decide +kernel
theorem dX7_change_35 : decode cX7_change 35 = .ok (.iconst 2, 1) := by decide +kernel
theorem dX7_change_36 : decode cX7_change 36 = .ok (.iload_n 1, 1) := by decide +kernel
theorem dX7_change_37 : decode cX7_change 37 = .ok (.imul, 1) := by decide +kernel
theorem dX7_change_38 : decode cX7_change 38 = .ok (.iadd, 1) := by decide +kernel
theorem dX7_change_39 : decode cX7_change 39 = .ok (.iload_n 2, 1) := by decide +kernel
theorem dX7_change_40 : decode cX7_change 40 = .ok (.iastore, 1) := by decide +kernel
theorem dX7_change_41 : decode cX7_change 41 = .ok (.aload_n 0, 1) := by decide +kernel
theorem dX7_change_42 : decode cX7_change 42 = .ok (.getfield 7, 3) := by decide +kernel
theorem dX7_change_45 : decode cX7_change 45 = .ok (.bipush 17, 2) := by decide +kernel
theorem dX7_change_47 : decode cX7_change 47 = .ok (.iconst 2, 1) := by decide +kernel
theorem dX7_change_48 : decode cX7_change 48 = .ok (.iload_n 1, 1) := by decide +kernel
theorem dX7_change_49 : decode cX7_change 49 = .ok (.imul, 1) := by decide +kernel
theorem dX7_change_50 : decode cX7_change 50 = .ok (.iadd, 1) := by decide +kernel
theorem dX7_change_51 : decode cX7_change 51 = .ok (.iconst 1, 1) := by decide +kernel
theorem dX7_change_52 : decode cX7_change 52 = .ok (.iadd, 1) := by decide +kernel
theorem dX7_change_53 : decode cX7_change 53 = .ok (.iload_n 3, 1) := by decide +kernel
theorem dX7_change_54 : decode cX7_change 54 = .ok (.iastore, 1) := by decide +kernel
theorem dX7_change_55 : decode cX7_change 55 = .ok (.aload_n 0, 1) := by decide +kernel
theorem dX7_change_56 : decode cX7_change 56 = .ok (.iload 4, 2) := by decide +kernel
theorem dX7_change_58 : decode cX7_change 58 = .ok (.iload_n 2, 1) := by decide +kernel
theorem dX7_change_59 : decode cX7_change 59 = .ok (.invokevirtual 89, 3) := by decide +kernel
theorem dX7_change_62 : decode cX7_change 62 = .ok (.aload_n 0, 1) := by decide +kernel
theorem dX7_change_63 : decode cX7_change 63 = .ok (.invokevirtual 109, 3) := by decide +kernel
theorem dX7_change_66 : decode cX7_change 66 = .ok (.ireturn, 1) := by decide +kernel
set_option maxRecDepth 20000 in
theorem ggX7_steps_X7_looks : GoodIn wsX7_steps wsX7_looks := goodIn_r _ [6, 1, 7, 8, 9, 5, 10, 11, 12, 13, 14, 15, 16, 17, 18, 19, 20, 21, 22, 23, 24, 25, 26, 27, 28, 29, 30, 31, 32, 33, 34, 35, 36, 37, 38, 39, 40, 41, 42, 43, 44, 45, 46, 47, 48, 49, 54, 55, 56, 57, 58, 59, 60, 61, 62, 63, 64, 65, 66, 67] (by decide +kernel) (by decide +kernel)
set_option maxRecDepth 20000 in
theorem gX7_steps_X7_looks : GoodIn wsX7_steps (wsV RX7 112 RX7 yX7_looks wsX7_looks) := goodIn_app (goodIn_of _ (by decide +kernel)) ggX7_steps_X7_looks
set_option maxRecDepth 20000 in
theorem ggX7_steps_X7_sum : GoodIn wsX7_steps wsX7_sum := goodIn_r _ [53, 1, 19, 20, 21, 5, 22, 23, 24, 25, 26, 27, 28, 29, 30, 31, 32, 33, 54, 55, 56, 57, 58, 59, 60, 61, 62, 63, 64, 65, 66, 67] (by decide +kernel) (by decide +kernel)
set_option maxRecDepth 20000 in
theorem gX7_steps_X7_sum : GoodIn wsX7_steps (wsV RX7 60 RX7 yX7_sum wsX7_sum) := goodIn_app (goodIn_of _ (by decide +kernel)) ggX7_steps_X7_sum
theorem dX7_steps_0 : decode cX7_steps 0 = .ok (.iconst 0, 1) := by decide +kernel
theorem dX7_steps_1 : decode cX7_steps 1 = .ok (.istore_n 2, 1) := by decide +kernel
theorem dX7_steps_2 : decode cX7_steps 2 = .ok (.iconst 0, 1) := by decide +kernel
theorem dX7_steps_3 : decode cX7_steps 3 = .ok (.istore_n 3, 1) := by decide +kernel
theorem dX7_steps_4 : decode cX7_steps 4 = .ok (.iload_n 3, 1) := by decide +kernel
theorem dX7_steps_5 : decode cX7_steps 5 = .ok (.iload_n 1, 1) := by decide +kernel
theorem dX7_steps_6 : decode cX7_steps 6 = .ok (.if_icmp .ge 101, 3) := by decide +kernel
theorem dX7_steps_9 : decode cX7_steps 9 = .ok (.aload_n 0, 1) := by decide +kernel
theorem dX7_steps_10 : decode cX7_steps 10 = .ok (.getfield 7, 3) := by decide +kernel
theorem dX7_steps_13 : decode cX7_steps 13 = .ok (.bipush 7, 2) := by decide +kernel
theorem dX7_steps_15 : decode cX7_steps 15 = .ok (.iaload, 1) := by decide +kernel
theorem dX7_steps_16 : decode cX7_steps 16 = .ok (.aload_n 0, 1) := by decide +kernel
theorem dX7_steps_17 : decode cX7_steps 17 = .ok (.getfield 7, 3) := by decide +kernel
theorem dX7_steps_20 : decode cX7_steps 20 = .ok (.bipush 6, 2) := by decide +kernel
theorem dX7_steps_22 : decode cX7_steps 22 = .ok (.iaload, 1) := by decide +kernel
theorem dX7_steps_23 : decode cX7_steps 23 = .ok (.if_icmp .ge 84, 3) := by decide +kernel
theorem dX7_steps_26 : decode cX7_steps 26 = .ok (.aload_n 0, 1) := by decide +kernel
theorem dX7_steps_27 : decode cX7_steps 27 = .ok (.getfield 7, 3) := by decide +kernel
theorem dX7_steps_30 : decode cX7_steps 30 = .ok (.bipush 57, 2) := by decide +kernel
theorem dX7_steps_32 : decode cX7_steps 32 = .ok (.iconst 2, 1) := by decide +kernel
theorem dX7_steps_33 : decode cX7_steps 33 = .ok (.aload_n 0, 1) := by decide +kernel
theorem dX7_steps_34 : decode cX7_steps 34 = .ok (.getfield 7, 3) := by decide +kernel
theorem dX7_steps_37 : decode cX7_steps 37 = .ok (.bipush 7, 2) := by decide +kernel
theorem dX7_steps_39 : decode cX7_steps 39 = .ok (.iaload, 1) := by decide +kernel
theorem dX7_steps_40 : decode cX7_steps 40 = .ok (.imul, 1) := by decide +kernel
theorem dX7_steps_41 : decode cX7_steps 41 = .ok (.iadd, 1) := by decide +kernel
theorem dX7_steps_42 : decode cX7_steps 42 = .ok (.iaload, 1) := by decide +kernel
theorem dX7_steps_43 : decode cX7_steps 43 = .ok (.istore 4, 2) := by decide +kernel
theorem dX7_steps_45 : decode cX7_steps 45 = .ok (.iload_n 2, 1) := by decide +kernel
theorem dX7_steps_46 : decode cX7_steps 46 = .ok (.aload_n 0, 1) := by decide +kernel
theorem dX7_steps_47 : decode cX7_steps 47 = .ok (.iload 4, 2) := by decide +kernel
theorem dX7_steps_49 : decode cX7_steps 49 = .ok (.invokevirtual 112, 3) := by decide +kernel
theorem dX7_steps_52 : decode cX7_steps 52 = .ok (.iadd, 1) := by decide +kernel
theorem dX7_steps_53 : decode cX7_steps 53 = .ok (.istore_n 2, 1) := by decide +kernel
theorem dX7_steps_54 : decode cX7_steps 54 = .ok (.aload_n 0, 1) := by decide +kernel
theorem dX7_steps_55 : decode cX7_steps 55 = .ok (.getfield 7, 3) := by decide +kernel
theorem dX7_steps_58 : decode cX7_steps 58 = .ok (.bipush 8, 2) := by decide +kernel
theorem dX7_steps_60 : decode cX7_steps 60 = .ok (.dup2, 1) := by decide +kernel
theorem dX7_steps_61 : decode cX7_steps 61 = .ok (.iaload, 1) := by decide +kernel
theorem dX7_steps_62 : decode cX7_steps 62 = .ok (.aload_n 0, 1) := by decide +kernel
theorem dX7_steps_63 : decode cX7_steps 63 = .ok (.getfield 7, 3) := by decide +kernel
theorem dX7_steps_66 : decode cX7_steps 66 = .ok (.bipush 57, 2) := by decide +kernel
theorem dX7_steps_68 : decode cX7_steps 68 = .ok (.iconst 2, 1) := by decide +kernel
theorem dX7_steps_69 : decode cX7_steps 69 = .ok (.aload_n 0, 1) := by decide +kernel
theorem dX7_steps_70 : decode cX7_steps 70 = .ok (.getfield 7, 3) := by decide +kernel
theorem dX7_steps_73 : decode cX7_steps 73 = .ok (.bipush 7, 2) := by decide +kernel
theorem dX7_steps_75 : decode cX7_steps 75 = .ok (.iaload, 1) := by decide +kernel
theorem dX7_steps_76 : decode cX7_steps 76 = .ok (.imul, 1) := by decide +kernel
theorem dX7_steps_77 : decode cX7_steps 77 = .ok (.iadd, 1) := by decide +kernel
theorem dX7_steps_78 : decode cX7_steps 78 = .ok (.iconst 1, 1) := by decide +kernel
theorem dX7_steps_79 : decode cX7_steps 79 = .ok (.iadd, 1) := by decide +kernel
theorem dX7_steps_80 : decode cX7_steps 80 = .ok (.iaload, 1) := by decide +kernel
theorem dX7_steps_81 : decode cX7_steps 81 = .ok (.aload_n 0, 1) := by decide +kernel
theorem dX7_steps_82 : decode cX7_steps 82 = .ok (.iload 4, 2) := by decide +kernel
theorem dX7_steps_84 : decode cX7_steps 84 = .ok (.invokevirtual 60, 3) := by decide +kernel
theorem dX7_steps_87 : decode cX7_steps 87 = .ok (.imul, 1) := by decide +kernel
theorem dX7_steps_88 : decode cX7_steps 88 = .ok (.iadd, 1) := by decide +kernel
theorem dX7_steps_89 : decode cX7_steps 89 = .ok (.iastore, 1) := by decide +kernel
theorem dX7_steps_90 : decode cX7_steps 90 = .ok (.aload_n 0, 1) := by decide +kernel
theorem dX7_steps_91 : decode cX7_steps 91 = .ok (.getfield 7, 3) := by decide +kernel
theorem dX7_steps_94 : decode cX7_steps 94 = .ok (.bipush 7, 2) := by decide +kernel
theorem dX7_steps_96 : decode cX7_steps 96 = .ok (.dup2, 1) := by decide +kernel
theorem dX7_steps_97 : decode cX7_steps 97 = .ok (.iaload, 1) := by decide +kernel
theorem dX7_steps_98 : decode cX7_steps 98 = .ok (.iconst 1, 1) := by decide +kernel
theorem dX7_steps_99 : decode cX7_steps 99 = .ok (.iadd, 1) := by decide +kernel
theorem dX7_steps_100 : decode cX7_steps 100 = .ok (.iastore, 1) := by decide +kernel
theorem dX7_steps_101 : decode cX7_steps 101 = .ok (.iinc 3 1, 3) := by decide +kernel
theorem dX7_steps_104 : decode cX7_steps 104 = .ok (.goto (-100), 3) := by decide +kernel
theorem dX7_steps_107 : decode cX7_steps 107 = .ok (.aload_n 0, 1) := by decide +kernel
theorem dX7_steps_108 : decode cX7_steps 108 = .ok (.getfield 7, 3) := by decide +kernel
theorem dX7_steps_111 : decode cX7_steps 111 = .ok (.bipush 11, 2) := by decide +kernel
theorem dX7_steps_113 : decode cX7_steps 113 = .ok (.dup2, 1) := by decide +kernel
theorem dX7_steps_114 : decode cX7_steps 114 = .ok (.iaload, 1) := by decide +kernel
theorem dX7_steps_115 : decode cX7_steps 115 = .ok (.iload_n 2, 1) := by decide +kernel
theorem dX7_steps_116 : decode cX7_steps 116 = .ok (.iadd, 1) := by decide +kernel
theorem dX7_steps_117 : decode cX7_steps 117 = .ok (.iastore, 1) := by decide +kernel
theorem dX7_steps_118 : decode cX7_steps 118 = .ok (.iload_n 2, 1) := by decide +kernel
theorem dX7_steps_119 : decode cX7_steps 119 = .ok (.ireturn, 1) := by decide +kernel
set_option maxRecDepth 20000 in
theorem ggX7_step_X7_in : GoodIn wsX7_step wsX7_in := goodIn_r _ [5] (by decide +kernel) (by decide +kernel)
set_option maxRecDepth 20000 in
theorem gX7_step_X7_in : GoodIn wsX7_step (va_wsS RX7 39 yX7_in wsX7_in) := goodIn_app (goodIn_of _ (by decide +kernel)) ggX7_step_X7_in
set_option maxRecDepth 20000 in
theorem ggX7_step_X7_changes : GoodIn wsX7_step wsX7_changes := goodIn_r _ [9, 10, 11, 12, 1, 65, 66, 67, 68, 69, 70, 71, 72, 73, 74, 75, 76, 77, 78] (by decide +kernel) (by decide +kernel)
set_option maxRecDepth 20000 in
theorem gX7_step_X7_changes : GoodIn wsX7_step (wsV RX7 96 RX7 yX7_changes wsX7_changes) := goodIn_app (goodIn_of _ (by decide +kernel)) ggX7_step_X7_changes
set_option maxRecDepth 20000 in
theorem ggX7_step_X7_steps : GoodIn wsX7_step wsX7_steps := goodIn_r _ [16, 1, 17, 18, 19, 4, 20, 21, 22, 23, 24, 25, 26, 27, 28, 29, 30, 31, 32, 33, 34, 35, 36, 37, 38, 39, 40, 41, 42, 43, 44, 2, 3, 5, 45, 46, 47, 48, 49, 50, 51, 52, 53, 54, 55, 56, 57, 58, 59, 60, 61, 62, 63, 64, 65, 66, 67, 68, 69, 70, 71, 72, 73, 74, 75, 76, 77, 78] (by decide +kernel) (by decide +kernel)
set_option maxRecDepth 20000 in
theorem gX7_step_X7_steps : GoodIn wsX7_step (wsV RX7 115 RX7 yX7_steps wsX7_steps) := goodIn_app (goodIn_of _ (by decide +kernel)) ggX7_step_X7_steps
theorem dX7_step_0 : decode cX7_step 0 = .ok (.iload_n 1, 1) := by decide +kernel
theorem dX7_step_1 : decode cX7_step 1 = .ok (.iconst 1, 1) := by decide +kernel
theorem dX7_step_2 : decode cX7_step 2 = .ok (.bipush 20, 2) := by decide +kernel
theorem dX7_step_4 : decode cX7_step 4 = .ok (.invokestatic 39, 3) := by decide +kernel
theorem dX7_step_7 : decode cX7_step 7 = .ok (.ifCond .ne 5, 3) := by decide +kernel
theorem dX7_step_10 : decode cX7_step 10 = .ok (.iconst (-1), 1) := by decide +kernel
theorem dX7_step_11 : decode cX7_step 11 = .ok (.ireturn, 1) := by decide +kernel
theorem dX7_step_12 : decode cX7_step 12 = .ok (.aload_n 0, 1) := by decide +kernel
theorem dX7_step_13 : decode cX7_step 13 = .ok (.getfield 7, 3) := by decide +kernel
theorem dX7_step_16 : decode cX7_step 16 = .ok (.bipush 7, 2) := by decide +kernel
theorem dX7_step_18 : decode cX7_step 18 = .ok (.iaload, 1) := by decide +kernel
theorem dX7_step_19 : decode cX7_step 19 = .ok (.aload_n 0, 1) := by decide +kernel
theorem dX7_step_20 : decode cX7_step 20 = .ok (.getfield 7, 3) := by decide +kernel
theorem dX7_step_23 : decode cX7_step 23 = .ok (.bipush 6, 2) := by decide +kernel
theorem dX7_step_25 : decode cX7_step 25 = .ok (.iaload, 1) := by decide +kernel
theorem dX7_step_26 : decode cX7_step 26 = .ok (.if_icmp .ne 6, 3) := by decide +kernel
theorem dX7_step_29 : decode cX7_step 29 = .ok (.bipush (-2), 2) := by decide +kernel
theorem dX7_step_31 : decode cX7_step 31 = .ok (.ireturn, 1) := by decide +kernel
theorem dX7_step_32 : decode cX7_step 32 = .ok (.aload_n 0, 1) := by decide +kernel
theorem dX7_step_33 : decode cX7_step 33 = .ok (.invokevirtual 96, 3) := by decide +kernel
theorem dX7_step_36 : decode cX7_step 36 = .ok (.aload_n 0, 1) := by decide +kernel
theorem dX7_step_37 : decode cX7_step 37 = .ok (.iload_n 1, 1) := by decide +kernel
theorem dX7_step_38 : decode cX7_step 38 = .ok (.invokevirtual 115, 3) := by decide +kernel
theorem dX7_step_41 : decode cX7_step 41 = .ok (.ireturn, 1) := by decide +kernel
set_option maxRecDepth 20000 in
theorem ggX7_again_X7_changes : GoodIn wsX7_again wsX7_changes := goodIn_r _ [6, 7, 8, 9, 1, 10, 11, 12, 13, 14, 15, 16, 17, 18, 19, 20, 21, 22, 23] (by decide +kernel) (by decide +kernel)
set_option maxRecDepth 20000 in
theorem gX7_again_X7_changes : GoodIn wsX7_again (wsV RX7 96 RX7 yX7_changes wsX7_changes) := goodIn_app (goodIn_of _ (by decide +kernel)) ggX7_again_X7_changes
theorem dX7_again_0 : decode cX7_again 0 = .ok (.aload_n 0, 1) := by decide +kernel
theorem dX7_again_1 : decode cX7_again 1 = .ok (.invokevirtual 96, 3) := by decide +kernel
theorem dX7_again_4 : decode cX7_again 4 = .ok (.aload_n 0, 1) := by decide +kernel
theorem dX7_again_5 : decode cX7_again 5 = .ok (.getfield 7, 3) := by decide +kernel
theorem dX7_again_8 : decode cX7_again 8 = .ok (.bipush 8, 2) := by decide +kernel
theorem dX7_again_10 : decode cX7_again 10 = .ok (.iaload, 1) := by decide +kernel
theorem dX7_again_11 : decode cX7_again 11 = .ok (.istore_n 1, 1) := by decide +kernel
theorem dX7_again_12 : decode cX7_again 12 = .ok (.aload_n 0, 1) := by decide +kernel
theorem dX7_again_13 : decode cX7_again 13 = .ok (.getfield 7, 3) := by decide +kernel
theorem dX7_again_16 : decode cX7_again 16 = .ok (.bipush 7, 2) := by decide +kernel
theorem dX7_again_18 : decode cX7_again 18 = .ok (.iconst 0, 1) := by decide +kernel
theorem dX7_again_19 : decode cX7_again 19 = .ok (.iastore, 1) := by decide +kernel
theorem dX7_again_20 : decode cX7_again 20 = .ok (.aload_n 0, 1) := by decide +kernel
theorem dX7_again_21 : decode cX7_again 21 = .ok (.getfield 7, 3) := by decide +kernel
theorem dX7_again_24 : decode cX7_again 24 = .ok (.bipush 8, 2) := by decide +kernel
theorem dX7_again_26 : decode cX7_again 26 = .ok (.iconst 0, 1) := by decide +kernel
theorem dX7_again_27 : decode cX7_again 27 = .ok (.iastore, 1) := by decide +kernel
theorem dX7_again_28 : decode cX7_again 28 = .ok (.iload_n 1, 1) := by decide +kernel
theorem dX7_again_29 : decode cX7_again 29 = .ok (.ireturn, 1) := by decide +kernel
set_option maxRecDepth 20000 in
theorem ggX7_forget_X7_changes : GoodIn wsX7_forget wsX7_changes := goodIn_r _ [5, 6, 7, 8, 9, 22, 23, 24, 25, 26, 27, 28, 29, 30, 31, 32, 33, 34, 35] (by decide +kernel) (by decide +kernel)
set_option maxRecDepth 20000 in
theorem gX7_forget_X7_changes : GoodIn wsX7_forget (wsV RX7 96 RX7 yX7_changes wsX7_changes) := goodIn_app (goodIn_of _ (by decide +kernel)) ggX7_forget_X7_changes
set_option maxRecDepth 20000 in
theorem ggX7_forget_X7_throwsAll : GoodIn wsX7_forget wsX7_throwsAll := goodIn_r _ [13, 14, 15, 16, 4, 17, 9, 18, 19, 20, 21, 22, 23, 24, 25, 26, 27, 28, 29, 30, 31, 32, 33, 34, 35] (by decide +kernel) (by decide +kernel)
set_option maxRecDepth 20000 in
theorem gX7_forget_X7_throwsAll : GoodIn wsX7_forget (wsV RX7 83 RX7 yX7_throwsAll wsX7_throwsAll) := goodIn_app (goodIn_of _ (by decide +kernel)) ggX7_forget_X7_throwsAll
theorem dX7_forget_0 : decode cX7_forget 0 = .ok (.aload_n 0, 1) := by decide +kernel
theorem dX7_forget_1 : decode cX7_forget 1 = .ok (.invokevirtual 96, 3) := by decide +kernel
theorem dX7_forget_4 : decode cX7_forget 4 = .ok (.aload_n 0, 1) := by decide +kernel
theorem dX7_forget_5 : decode cX7_forget 5 = .ok (.invokevirtual 83, 3) := by decide +kernel
theorem dX7_forget_8 : decode cX7_forget 8 = .ok (.ireturn, 1) := by decide +kernel
set_option maxRecDepth 20000 in
theorem ggX7_sets_X7_makesRoom : GoodIn wsX7_sets wsX7_makesRoom := goodIn_r _ [6, 1, 7, 8, 9, 5, 10, 11, 12, 13, 14, 15, 16, 17, 18, 19, 20, 21, 22, 23, 24, 25, 26, 27, 28, 29, 30, 31, 32, 33, 34, 35, 36, 37, 38, 39, 40, 41, 42, 43, 44, 45, 54, 55, 56, 57, 58, 59, 60, 61, 62, 63, 64, 65, 66, 67] (by decide +kernel) (by decide +kernel)
set_option maxRecDepth 20000 in
theorem gX7_sets_X7_makesRoom : GoodIn wsX7_sets (wsV RX7 86 RX7 yX7_makesRoom wsX7_makesRoom) := goodIn_app (goodIn_of _ (by decide +kernel)) ggX7_sets_X7_makesRoom
set_option maxRecDepth 20000 in
theorem ggX7_sets_X7_throwsAll : GoodIn wsX7_sets wsX7_throwsAll := goodIn_r _ [49, 50, 51, 52, 5, 53, 1, 11, 12, 13, 14, 54, 55, 56, 57, 58, 59, 60, 61, 62, 63, 64, 65, 66, 67] (by decide +kernel) (by decide +kernel)
set_option maxRecDepth 20000 in
theorem gX7_sets_X7_throwsAll : GoodIn wsX7_sets (wsV RX7 83 RX7 yX7_throwsAll wsX7_throwsAll) := goodIn_app (goodIn_of _ (by decide +kernel)) ggX7_sets_X7_throwsAll
theorem dX7_sets_0 : decode cX7_sets 0 = .ok (.aload_n 0, 1) := by decide +kernel
theorem dX7_sets_1 : decode cX7_sets 1 = .ok (.getfield 7, 3) := by decide +kernel
theorem dX7_sets_4 : decode cX7_sets 4 = .ok (.iload_n 1, 1) := by decide +kernel
theorem dX7_sets_5 : decode cX7_sets 5 = .ok (.iload_n 2, 1) := by decide +kernel
theorem dX7_sets_6 : decode cX7_sets 6 = .ok (.iastore, 1) := by decide +kernel
theorem dX7_sets_7 : decode cX7_sets 7 = .ok (.iload_n 1, 1) := by decide +kernel
theorem dX7_sets_8 : decode cX7_sets 8 = .ok (.ifCond .ne 12, 3) := by decide +kernel
theorem dX7_sets_11 : decode cX7_sets 11 = .ok (.aload_n 0, 1) := by decide +kernel
theorem dX7_sets_12 : decode cX7_sets 12 = .ok (.bipush (-4), 2) := by decide +kernel
theorem dX7_sets_14 : decode cX7_sets 14 = .ok (.invokevirtual 86, 3) := by decide +kernel
theorem dX7_sets_17 : decode cX7_sets 17 = .ok (.goto 7, 3) := by decide +kernel
theorem dX7_sets_20 : decode cX7_sets 20 = .ok (.aload_n 0, 1) := by decide +kernel
theorem dX7_sets_21 : decode cX7_sets 21 = .ok (.invokevirtual 83, 3) := by decide +kernel
theorem dX7_sets_24 : decode cX7_sets 24 = .ok (.ireturn, 1) := by decide +kernel
set_option maxRecDepth 20000 in
theorem ggX7_set_X7_in : GoodIn wsX7_set wsX7_in := goodIn_r _ [4] (by decide +kernel) (by decide +kernel)
set_option maxRecDepth 20000 in
theorem gX7_set_X7_in : GoodIn wsX7_set (va_wsS RX7 39 yX7_in wsX7_in) := goodIn_app (goodIn_of _ (by decide +kernel)) ggX7_set_X7_in
set_option maxRecDepth 20000 in
theorem ggX7_set_X7_changes : GoodIn wsX7_set wsX7_changes := goodIn_r _ [8, 9, 10, 11, 12, 65, 66, 67, 68, 69, 70, 71, 72, 73, 74, 75, 76, 77, 78] (by decide +kernel) (by decide +kernel)
set_option maxRecDepth 20000 in
theorem gX7_set_X7_changes : GoodIn wsX7_set (wsV RX7 96 RX7 yX7_changes wsX7_changes) := goodIn_app (goodIn_of _ (by decide +kernel)) ggX7_set_X7_changes
set_option maxRecDepth 20000 in
theorem ggX7_set_X7_sets : GoodIn wsX7_set wsX7_sets := goodIn_r _ [16, 12, 17, 18, 19, 3, 20, 21, 22, 23, 24, 25, 26, 27, 28, 29, 30, 31, 32, 33, 34, 35, 36, 37, 38, 39, 40, 41, 42, 43, 44, 45, 46, 47, 48, 49, 50, 51, 52, 53, 54, 55, 56, 1, 2, 4, 57, 58, 59, 60, 61, 62, 63, 64, 65, 66, 67, 68, 69, 70, 71, 72, 73, 74, 75, 76, 77, 78] (by decide +kernel) (by decide +kernel)
set_option maxRecDepth 20000 in
theorem gX7_set_X7_sets : GoodIn wsX7_set (wsV RX7 118 RX7 yX7_sets wsX7_sets) := goodIn_app (goodIn_of _ (by decide +kernel)) ggX7_set_X7_sets
theorem dX7_set_0 : decode cX7_set 0 = .ok (.iload_n 1, 1) := by decide +kernel
theorem dX7_set_1 : decode cX7_set 1 = .ok (.iconst 0, 1) := by decide +kernel
theorem dX7_set_2 : decode cX7_set 2 = .ok (.iconst 4, 1) := by decide +kernel
theorem dX7_set_3 : decode cX7_set 3 = .ok (.invokestatic 39, 3) := by decide +kernel
theorem dX7_set_6 : decode cX7_set 6 = .ok (.ifCond .eq 31, 3) := by decide +kernel
theorem dX7_set_9 : decode cX7_set 9 = .ok (.iload_n 2, 1) := by decide +kernel
theorem dX7_set_10 : decode cX7_set 10 = .ok (.iconst 0, 1) := by decide +kernel
theorem dX7_set_11 : decode cX7_set 11 = .ok (.iload_n 1, 1) := by decide +kernel
theorem dX7_set_12 : decode cX7_set 12 = .ok (.ifCond .ne 8, 3) := by decide +kernel
theorem dX7_set_15 : decode cX7_set 15 = .ok (.bipush 60, 2) := by decide +kernel
theorem dX7_set_17 : decode cX7_set 17 = .ok (.goto 14, 3) := by decide +kernel
theorem dX7_set_20 : decode cX7_set 20 = .ok (.iload_n 1, 1) := by decide +kernel
theorem dX7_set_21 : decode cX7_set 21 = .ok (.iconst 3, 1) := by decide +kernel
theorem dX7_set_22 : decode cX7_set 22 = .ok (.if_icmp .ge 7, 3) := by decide +kernel
theorem dX7_set_25 : decode cX7_set 25 = .ok (.iconst 2, 1) := by decide +kernel
theorem dX7_set_26 : decode cX7_set 26 = .ok (.goto 5, 3) := by decide +kernel
theorem dX7_set_29 : decode cX7_set 29 = .ok (.bipush 99, 2) := by decide +kernel
theorem dX7_set_31 : decode cX7_set 31 = .ok (.invokestatic 39, 3) := by decide +kernel
theorem dX7_set_34 : decode cX7_set 34 = .ok (.ifCond .ne 5, 3) := by decide +kernel
theorem dX7_set_37 : decode cX7_set 37 = .ok (.iconst (-1), 1) := by decide +kernel
theorem dX7_set_38 : decode cX7_set 38 = .ok (.ireturn, 1) := by decide +kernel
theorem dX7_set_39 : decode cX7_set 39 = .ok (.aload_n 0, 1) := by decide +kernel
theorem dX7_set_40 : decode cX7_set 40 = .ok (.invokevirtual 96, 3) := by decide +kernel
theorem dX7_set_43 : decode cX7_set 43 = .ok (.aload_n 0, 1) := by decide +kernel
theorem dX7_set_44 : decode cX7_set 44 = .ok (.iload_n 1, 1) := by decide +kernel
theorem dX7_set_45 : decode cX7_set 45 = .ok (.iload_n 2, 1) := by decide +kernel
theorem dX7_set_46 : decode cX7_set 46 = .ok (.invokevirtual 118, 3) := by decide +kernel
theorem dX7_set_49 : decode cX7_set 49 = .ok (.ireturn, 1) := by decide +kernel
set_option maxRecDepth 20000 in
theorem ggX7_append_X7_in : GoodIn wsX7_append wsX7_in := goodIn_r _ [6] (by decide +kernel) (by decide +kernel)
set_option maxRecDepth 20000 in
theorem gX7_append_X7_in : GoodIn wsX7_append (va_wsS RX7 39 yX7_in wsX7_in) := goodIn_app (goodIn_of _ (by decide +kernel)) ggX7_append_X7_in
theorem dX7_append_0 : decode cX7_append 0 = .ok (.iload_n 1, 1) := by decide +kernel
theorem dX7_append_1 : decode cX7_append 1 = .ok (.bipush 33, 2) := by decide +kernel
theorem dX7_append_3 : decode cX7_append 3 = .ok (.bipush 126, 2) := by decide +kernel
theorem dX7_append_5 : decode cX7_append 5 = .ok (.invokestatic 39, 3) := by decide +kernel
theorem dX7_append_8 : decode cX7_append 8 = .ok (.ifCond .ne 5, 3) := by decide +kernel
theorem dX7_append_11 : decode cX7_append 11 = .ok (.iconst (-1), 1) := by decide +kernel
theorem dX7_append_12 : decode cX7_append 12 = .ok (.ireturn, 1) := by decide +kernel
theorem dX7_append_13 : decode cX7_append 13 = .ok (.aload_n 0, 1) := by decide +kernel
theorem dX7_append_14 : decode cX7_append 14 = .ok (.getfield 122, 3) := by decide +kernel
theorem dX7_append_17 : decode cX7_append 17 = .ok (.bipush 60, 2) := by decide +kernel
theorem dX7_append_19 : decode cX7_append 19 = .ok (.if_icmp .ne 6, 3) := by decide +kernel
theorem dX7_append_22 : decode cX7_append 22 = .ok (.bipush (-3), 2) := by decide +kernel
theorem dX7_append_24 : decode cX7_append 24 = .ok (.ireturn, 1) := by decide +kernel
theorem dX7_append_25 : decode cX7_append 25 = .ok (.aload_n 0, 1) := by decide +kernel
theorem dX7_append_26 : decode cX7_append 26 = .ok (.getfield 22, 3) := by decide +kernel
theorem dX7_append_29 : decode cX7_append 29 = .ok (.aload_n 0, 1) := by decide +kernel
theorem dX7_append_30 : decode cX7_append 30 = .ok (.getfield 122, 3) := by decide +kernel
theorem dX7_append_33 : decode cX7_append 33 = .ok (.iload_n 1, 1) := by decide +kernel
theorem dX7_append_34 : decode cX7_append 34 = .ok (.iastore, 1) := by decide +kernel
theorem dX7_append_35 : decode cX7_append 35 = .ok (.aload_n 0, 1) := by decide +kernel
theorem dX7_append_36 : decode cX7_append 36 = .ok (.dup, 1) := by decide +kernel
theorem dX7_append_37 : decode cX7_append 37 = .ok (.getfield 122, 3) := by decide +kernel
theorem dX7_append_40 : decode cX7_append 40 = .ok (.iconst 1, 1) := by decide +kernel
theorem dX7_append_41 : decode cX7_append 41 = .ok (.iadd, 1) := by decide +kernel
theorem dX7_append_42 : decode cX7_append 42 = .ok (.putfield 122, 3) := by decide +kernel
theorem dX7_append_45 : decode cX7_append 45 = .ok (.aload_n 0, 1) := by decide +kernel
theorem dX7_append_46 : decode cX7_append 46 = .ok (.getfield 122, 3) := by decide +kernel
theorem dX7_append_49 : decode cX7_append 49 = .ok (.ireturn, 1) := by decide +kernel
theorem dX7_clear_0 : decode cX7_clear 0 = .ok (.aload_n 0, 1) := by decide +kernel
theorem dX7_clear_1 : decode cX7_clear 1 = .ok (.getfield 122, 3) := by decide +kernel
theorem dX7_clear_4 : decode cX7_clear 4 = .ok (.istore_n 1, 1) := by decide +kernel
theorem dX7_clear_5 : decode cX7_clear 5 = .ok (.aload_n 0, 1) := by decide +kernel
theorem dX7_clear_6 : decode cX7_clear 6 = .ok (.iconst 0, 1) := by decide +kernel
theorem dX7_clear_7 : decode cX7_clear 7 = .ok (.putfield 122, 3) := by decide +kernel
theorem dX7_clear_10 : decode cX7_clear 10 = .ok (.iload_n 1, 1) := by decide +kernel
theorem dX7_clear_11 : decode cX7_clear 11 = .ok (.ireturn, 1) := by decide +kernel
set_option maxRecDepth 20000 in
theorem ggX7_isAt_X7_in : GoodIn wsX7_isAt wsX7_in := goodIn_r _ [7] (by decide +kernel) (by decide +kernel)
set_option maxRecDepth 20000 in
theorem gX7_isAt_X7_in : GoodIn wsX7_isAt (va_wsS RX7 39 yX7_in wsX7_in) := goodIn_app (goodIn_of _ (by decide +kernel)) ggX7_isAt_X7_in
theorem dX7_isAt_0 : decode cX7_isAt 0 = .ok (.aload_n 0, 1) := by decide +kernel
theorem dX7_isAt_1 : decode cX7_isAt 1 = .ok (.getfield 125, 3) := by decide +kernel
theorem dX7_isAt_4 : decode cX7_isAt 4 = .ok (.aload_n 0, 1) := by decide +kernel
theorem dX7_isAt_5 : decode cX7_isAt 5 = .ok (.getfield 122, 3) := by decide +kernel
theorem dX7_isAt_8 : decode cX7_isAt 8 = .ok (.if_icmp .ge 24, 3) := by decide +kernel
theorem dX7_isAt_11 : decode cX7_isAt 11 = .ok (.aload_n 0, 1) := by decide +kernel
theorem dX7_isAt_12 : decode cX7_isAt 12 = .ok (.getfield 22, 3) := by decide +kernel
theorem dX7_isAt_15 : decode cX7_isAt 15 = .ok (.aload_n 0, 1) := by decide +kernel
theorem dX7_isAt_16 : decode cX7_isAt 16 = .ok (.getfield 125, 3) := by decide +kernel
theorem dX7_isAt_19 : decode cX7_isAt 19 = .ok (.iaload, 1) := by decide +kernel
theorem dX7_isAt_20 : decode cX7_isAt 20 = .ok (.iload_n 1, 1) := by decide +kernel
theorem dX7_isAt_21 : decode cX7_isAt 21 = .ok (.iload_n 2, 1) := by decide +kernel
theorem dX7_isAt_22 : decode cX7_isAt 22 = .ok (.invokestatic 39, 3) := by decide +kernel
theorem dX7_isAt_25 : decode cX7_isAt 25 = .ok (.ifCond .eq 7, 3) := by decide +kernel
theorem dX7_isAt_28 : decode cX7_isAt 28 = .ok (.iconst 1, 1) := by decide +kernel
theorem dX7_isAt_29 : decode cX7_isAt 29 = .ok (.goto 4, 3) := by decide +kernel
theorem dX7_isAt_32 : decode cX7_isAt 32 = .ok (.iconst 0, 1) := by decide +kernel
theorem dX7_isAt_33 : decode cX7_isAt 33 = .ok (.ireturn, 1) := by decide +kernel
set_option maxRecDepth 20000 in
theorem ggX7_sign_X7_isAt : GoodIn wsX7_sign wsX7_isAt := goodIn_r _ [6, 1, 7, 8, 9, 10, 5, 11, 12, 13, 14, 15, 16, 17, 18, 19, 20, 21, 22, 23, 24, 25] (by decide +kernel) (by decide +kernel)
set_option maxRecDepth 20000 in
theorem gX7_sign_X7_isAt : GoodIn wsX7_sign (wsV RX7 128 RX7 yX7_isAt wsX7_isAt) := goodIn_app (goodIn_of _ (by decide +kernel)) ggX7_sign_X7_isAt
theorem dX7_sign_0 : decode cX7_sign 0 = .ok (.aload_n 0, 1) := by decide +kernel
theorem dX7_sign_1 : decode cX7_sign 1 = .ok (.iload_n 1, 1) := by decide +kernel
theorem dX7_sign_2 : decode cX7_sign 2 = .ok (.iload_n 1, 1) := by decide +kernel
theorem dX7_sign_3 : decode cX7_sign 3 = .ok (.invokevirtual 128, 3) := by decide +kernel
theorem dX7_sign_6 : decode cX7_sign 6 = .ok (.istore_n 2, 1) := by decide +kernel
theorem dX7_sign_7 : decode cX7_sign 7 = .ok (.aload_n 0, 1) := by decide +kernel
theorem dX7_sign_8 : decode cX7_sign 8 = .ok (.dup, 1) := by decide +kernel
theorem dX7_sign_9 : decode cX7_sign 9 = .ok (.getfield 125, 3) := by decide +kernel
theorem dX7_sign_12 : decode cX7_sign 12 = .ok (.iload_n 2, 1) := by decide +kernel
theorem dX7_sign_13 : decode cX7_sign 13 = .ok (.ifCond .eq 7, 3) := by decide +kernel
theorem dX7_sign_16 : decode cX7_sign 16 = .ok (.iconst 1, 1) := by decide +kernel
theorem dX7_sign_17 : decode cX7_sign 17 = .ok (.goto 4, 3) := by decide +kernel
theorem dX7_sign_20 : decode cX7_sign 20 = .ok (.iconst 0, 1) := by decide +kernel
theorem dX7_sign_21 : decode cX7_sign 21 = .ok (.iadd, 1) := by decide +kernel
theorem dX7_sign_22 : decode cX7_sign 22 = .ok (.putfield 125, 3) := by decide +kernel
theorem dX7_sign_25 : decode cX7_sign 25 = .ok (.iload_n 2, 1) := by decide +kernel
theorem dX7_sign_26 : decode cX7_sign 26 = .ok (.ireturn, 1) := by decide +kernel
set_option maxRecDepth 20000 in
theorem ggX7_number_X7_isAt : GoodIn wsX7_number wsX7_isAt := goodIn_r _ [9, 2, 10, 1, 11, 12, 8, 13, 14, 15, 16, 17, 18, 19, 20, 21, 22, 23, 24, 25, 26, 27] (by decide +kernel) (by decide +kernel)
set_option maxRecDepth 20000 in
theorem gX7_number_X7_isAt : GoodIn wsX7_number (wsV RX7 128 RX7 yX7_isAt wsX7_isAt) := goodIn_app (goodIn_of _ (by decide +kernel)) ggX7_number_X7_isAt
theorem dX7_number_0 : decode cX7_number 0 = .ok (.aload_n 0, 1) := by decide +kernel
theorem dX7_number_1 : decode cX7_number 1 = .ok (.bipush 48, 2) := by decide +kernel
theorem dX7_number_3 : decode cX7_number 3 = .ok (.iload_n 2, 1) := by decide +kernel
theorem dX7_number_4 : decode cX7_number 4 = .ok (.iadd, 1) := by decide +kernel
theorem dX7_number_5 : decode cX7_number 5 = .ok (.bipush 57, 2) := by decide +kernel
theorem dX7_number_7 : decode cX7_number 7 = .ok (.invokevirtual 128, 3) := by decide +kernel
theorem dX7_number_10 : decode cX7_number 10 = .ok (.ifCond .ne 5, 3) := by decide +kernel
theorem dX7_number_13 : decode cX7_number 13 = .ok (.iconst 0, 1) := by decide +kernel
theorem dX7_number_14 : decode cX7_number 14 = .ok (.ireturn, 1) := by decide +kernel
theorem dX7_number_15 : decode cX7_number 15 = .ok (.aload_n 0, 1) := by decide +kernel
theorem dX7_number_16 : decode cX7_number 16 = .ok (.getfield 22, 3) := by decide +kernel
theorem dX7_number_19 : decode cX7_number 19 = .ok (.aload_n 0, 1) := by decide +kernel
theorem dX7_number_20 : decode cX7_number 20 = .ok (.getfield 125, 3) := by decide +kernel
theorem dX7_number_23 : decode cX7_number 23 = .ok (.iaload, 1) := by decide +kernel
theorem dX7_number_24 : decode cX7_number 24 = .ok (.bipush 48, 2) := by decide +kernel
theorem dX7_number_26 : decode cX7_number 26 = .ok (.isub, 1) := by decide +kernel
theorem dX7_number_27 : decode cX7_number 27 = .ok (.istore 4, 2) := by decide +kernel
theorem dX7_number_29 : decode cX7_number 29 = .ok (.aload_n 0, 1) := by decide +kernel
theorem dX7_number_30 : decode cX7_number 30 = .ok (.dup, 1) := by decide +kernel
theorem dX7_number_31 : decode cX7_number 31 = .ok (.getfield 125, 3) := by decide +kernel
theorem dX7_number_34 : decode cX7_number 34 = .ok (.iconst 1, 1) := by decide +kernel
theorem dX7_number_35 : decode cX7_number 35 = .ok (.iadd, 1) := by decide +kernel
theorem dX7_number_36 : decode cX7_number 36 = .ok (.putfield 125, 3) := by decide +kernel
theorem dX7_number_39 : decode cX7_number 39 = .ok (.iload 4, 2) := by decide +kernel
theorem dX7_number_41 : decode cX7_number 41 = .ok (.ifCond .le 69, 3) := by decide +kernel
theorem dX7_number_44 : decode cX7_number 44 = .ok (.aload_n 0, 1) := by decide +kernel
theorem dX7_number_45 : decode cX7_number 45 = .ok (.bipush 48, 2) := by decide +kernel
theorem dX7_number_47 : decode cX7_number 47 = .ok (.bipush 57, 2) := by decide +kernel
theorem dX7_number_49 : decode cX7_number 49 = .ok (.invokevirtual 128, 3) := by decide +kernel
theorem dX7_number_52 : decode cX7_number 52 = .ok (.ifCond .eq 58, 3) := by decide +kernel
theorem dX7_number_55 : decode cX7_number 55 = .ok (.bipush 10, 2) := by decide +kernel
theorem dX7_number_57 : decode cX7_number 57 = .ok (.iload 4, 2) := by decide +kernel
theorem dX7_number_59 : decode cX7_number 59 = .ok (.imul, 1) := by decide +kernel
theorem dX7_number_60 : decode cX7_number 60 = .ok (.aload_n 0, 1) := by decide +kernel
theorem dX7_number_61 : decode cX7_number 61 = .ok (.getfield 22, 3) := by decide +kernel
theorem dX7_number_64 : decode cX7_number 64 = .ok (.aload_n 0, 1) := by decide +kernel
theorem dX7_number_65 : decode cX7_number 65 = .ok (.getfield 125, 3) := by decide +kernel
theorem dX7_number_68 : decode cX7_number 68 = .ok (.iaload, 1) := by decide +kernel
theorem dX7_number_69 : decode cX7_number 69 = .ok (.iadd, 1) := by decide +kernel
theorem dX7_number_70 : decode cX7_number 70 = .ok (.bipush 48, 2) := by decide +kernel
theorem dX7_number_72 : decode cX7_number 72 = .ok (.isub, 1) := by decide +kernel
theorem dX7_number_73 : decode cX7_number 73 = .ok (.iload_n 3, 1) := by decide +kernel
theorem dX7_number_74 : decode cX7_number 74 = .ok (.if_icmp .gt 36, 3) := by decide +kernel
theorem dX7_number_77 : decode cX7_number 77 = .ok (.bipush 10, 2) := by decide +kernel
theorem dX7_number_79 : decode cX7_number 79 = .ok (.iload 4, 2) := by decide +kernel
theorem dX7_number_81 : decode cX7_number 81 = .ok (.imul, 1) := by decide +kernel
theorem dX7_number_82 : decode cX7_number 82 = .ok (.aload_n 0, 1) := by decide +kernel
theorem dX7_number_83 : decode cX7_number 83 = .ok (.getfield 22, 3) := by decide +kernel
theorem dX7_number_86 : decode cX7_number 86 = .ok (.aload_n 0, 1) := by decide +kernel
theorem dX7_number_87 : decode cX7_number 87 = .ok (.getfield 125, 3) := by decide +kernel
theorem dX7_number_90 : decode cX7_number 90 = .ok (.iaload, 1) := by decide +kernel
theorem dX7_number_91 : decode cX7_number 91 = .ok (.iadd, 1) := by decide +kernel
theorem dX7_number_92 : decode cX7_number 92 = .ok (.bipush 48, 2) := by decide +kernel
theorem dX7_number_94 : decode cX7_number 94 = .ok (.isub, 1) := by decide +kernel
theorem dX7_number_95 : decode cX7_number 95 = .ok (.istore 4, 2) := by decide +kernel
theorem dX7_number_97 : decode cX7_number 97 = .ok (.aload_n 0, 1) := by decide +kernel
theorem dX7_number_98 : decode cX7_number 98 = .ok (.dup, 1) := by decide +kernel
theorem dX7_number_99 : decode cX7_number 99 = .ok (.getfield 125, 3) := by decide +kernel
theorem dX7_number_102 : decode cX7_number 102 = .ok (.iconst 1, 1) := by decide +kernel
theorem dX7_number_103 : decode cX7_number 103 = .ok (.iadd, 1) := by decide +kernel
theorem dX7_number_104 : decode cX7_number 104 = .ok (.putfield 125, 3) := by decide +kernel
theorem dX7_number_107 : decode cX7_number 107 = .ok (.goto (-68), 3) := by decide +kernel
theorem dX7_number_110 : decode cX7_number 110 = .ok (.aload_n 0, 1) := by decide +kernel
theorem dX7_number_111 : decode cX7_number 111 = .ok (.getfield 28, 3) := by decide +kernel
theorem dX7_number_114 : decode cX7_number 114 = .ok (.iconst 4, 1) := by decide +kernel
theorem dX7_number_115 : decode cX7_number 115 = .ok (.aload_n 0, 1) := by decide +kernel
theorem dX7_number_116 : decode cX7_number 116 = .ok (.getfield 131, 3) := by decide +kernel
theorem dX7_number_119 : decode cX7_number 119 = .ok (.imul, 1) := by decide +kernel
theorem dX7_number_120 : decode cX7_number 120 = .ok (.iload_n 1, 1) := by decide +kernel
theorem dX7_number_121 : decode cX7_number 121 = .ok (.iadd, 1) := by decide +kernel
theorem dX7_number_122 : decode cX7_number 122 = .ok (.iload 4, 2) := by decide +kernel
theorem dX7_number_124 : decode cX7_number 124 = .ok (.iastore, 1) := by decide +kernel
theorem dX7_number_125 : decode cX7_number 125 = .ok (.iconst 1, 1) := by decide +kernel
theorem dX7_number_126 : decode cX7_number 126 = .ok (.ireturn, 1) := by decide +kernel
set_option maxRecDepth 20000 in
theorem ggX7_readsRow_X7_number : GoodIn wsX7_readsRow wsX7_number := goodIn_r _ [5, 6, 7, 8, 9, 10, 11, 12, 4, 13, 14, 15, 16, 17, 22, 23, 24, 25, 26, 27, 28, 29, 30, 31, 32, 33, 34, 35] (by decide +kernel) (by decide +kernel)
set_option maxRecDepth 20000 in
theorem gX7_readsRow_X7_number : GoodIn wsX7_readsRow (wsV RX7 134 RX7 yX7_number wsX7_number) := goodIn_app (goodIn_of _ (by decide +kernel)) ggX7_readsRow_X7_number
set_option maxRecDepth 20000 in
theorem ggX7_readsRow_X7_sign : GoodIn wsX7_readsRow wsX7_sign := goodIn_r _ [21, 7, 10, 11, 12, 4, 13, 14, 6, 15, 16, 17, 22, 23, 24, 25, 26, 27, 28, 29, 30, 31, 32, 33, 34, 35] (by decide +kernel) (by decide +kernel)
set_option maxRecDepth 20000 in
theorem gX7_readsRow_X7_sign : GoodIn wsX7_readsRow (wsV RX7 137 RX7 yX7_sign wsX7_sign) := goodIn_app (goodIn_of _ (by decide +kernel)) ggX7_readsRow_X7_sign
theorem dX7_readsRow_0 : decode cX7_readsRow 0 = .ok (.aload_n 0, 1) := by decide +kernel
theorem dX7_readsRow_1 : decode cX7_readsRow 1 = .ok (.iconst 1, 1) := by decide +kernel
theorem dX7_readsRow_2 : decode cX7_readsRow 2 = .ok (.iconst 0, 1) := by decide +kernel
theorem dX7_readsRow_3 : decode cX7_readsRow 3 = .ok (.bipush 9, 2) := by decide +kernel
theorem dX7_readsRow_5 : decode cX7_readsRow 5 = .ok (.invokevirtual 134, 3) := by decide +kernel
theorem dX7_readsRow_8 : decode cX7_readsRow 8 = .ok (.ifCond .eq 27, 3) := by decide +kernel
theorem dX7_readsRow_11 : decode cX7_readsRow 11 = .ok (.aload_n 0, 1) := by decide +kernel
theorem dX7_readsRow_12 : decode cX7_readsRow 12 = .ok (.bipush 58, 2) := by decide +kernel
theorem dX7_readsRow_14 : decode cX7_readsRow 14 = .ok (.invokevirtual 137, 3) := by decide +kernel
theorem dX7_readsRow_17 : decode cX7_readsRow 17 = .ok (.ifCond .eq 18, 3) := by decide +kernel
theorem dX7_readsRow_20 : decode cX7_readsRow 20 = .ok (.aload_n 0, 1) := by decide +kernel
theorem dX7_readsRow_21 : decode cX7_readsRow 21 = .ok (.iconst 2, 1) := by decide +kernel
theorem dX7_readsRow_22 : decode cX7_readsRow 22 = .ok (.iconst 0, 1) := by decide +kernel
theorem dX7_readsRow_23 : decode cX7_readsRow 23 = .ok (.bipush 99, 2) := by decide +kernel
theorem dX7_readsRow_25 : decode cX7_readsRow 25 = .ok (.invokevirtual 134, 3) := by decide +kernel
theorem dX7_readsRow_28 : decode cX7_readsRow 28 = .ok (.ifCond .eq 7, 3) := by decide +kernel
theorem dX7_readsRow_31 : decode cX7_readsRow 31 = .ok (.iconst 1, 1) := by decide +kernel
theorem dX7_readsRow_32 : decode cX7_readsRow 32 = .ok (.goto 4, 3) := by decide +kernel
theorem dX7_readsRow_35 : decode cX7_readsRow 35 = .ok (.iconst 0, 1) := by decide +kernel
theorem dX7_readsRow_36 : decode cX7_readsRow 36 = .ok (.ireturn, 1) := by decide +kernel
set_option maxRecDepth 20000 in
theorem ggX7_deed_X7_readsRow : GoodIn wsX7_deed wsX7_readsRow := goodIn_r _ [10, 11, 12, 13, 9, 14, 3, 1, 4, 5, 15, 16, 17, 18, 2, 19, 20, 21, 22, 23, 24, 25, 26, 27, 28, 29, 30, 31, 32, 33, 34, 35, 36, 37, 38, 39] (by decide +kernel) (by decide +kernel)
set_option maxRecDepth 20000 in
theorem gX7_deed_X7_readsRow : GoodIn wsX7_deed (wsV RX7 140 RX7 yX7_readsRow wsX7_readsRow) := goodIn_app (goodIn_of _ (by decide +kernel)) ggX7_deed_X7_readsRow
set_option maxRecDepth 20000 in
theorem ggX7_deed_X7_number : GoodIn wsX7_deed wsX7_number := goodIn_r _ [14, 3, 1, 4, 5, 15, 16, 17, 9, 18, 2, 19, 20, 21, 26, 27, 28, 29, 30, 31, 32, 33, 34, 35, 36, 37, 38, 39] (by decide +kernel) (by decide +kernel)
set_option maxRecDepth 20000 in
theorem gX7_deed_X7_number : GoodIn wsX7_deed (wsV RX7 134 RX7 yX7_number wsX7_number) := goodIn_app (goodIn_of _ (by decide +kernel)) ggX7_deed_X7_number
theorem dX7_deed_0 : decode cX7_deed 0 = .ok (.aload_n 0, 1) := by decide +kernel
theorem dX7_deed_1 : decode cX7_deed 1 = .ok (.getfield 125, 3) := by decide +kernel
theorem dX7_deed_4 : decode cX7_deed 4 = .ok (.aload_n 0, 1) := by decide +kernel
theorem dX7_deed_5 : decode cX7_deed 5 = .ok (.getfield 122, 3) := by decide +kernel
theorem dX7_deed_8 : decode cX7_deed 8 = .ok (.if_icmp .ge 15, 3) := by decide +kernel
theorem dX7_deed_11 : decode cX7_deed 11 = .ok (.aload_n 0, 1) := by decide +kernel
theorem dX7_deed_12 : decode cX7_deed 12 = .ok (.getfield 22, 3) := by decide +kernel
theorem dX7_deed_15 : decode cX7_deed 15 = .ok (.aload_n 0, 1) := by decide +kernel
theorem dX7_deed_16 : decode cX7_deed 16 = .ok (.getfield 125, 3) := by decide +kernel
theorem dX7_deed_19 : decode cX7_deed 19 = .ok (.iaload, 1) := by decide +kernel
theorem dX7_deed_20 : decode cX7_deed 20 = .ok (.goto 4, 3) := by decide +kernel
theorem dX7_deed_23 : decode cX7_deed 23 = .ok (.iconst 0, 1) := by decide +kernel
theorem dX7_deed_24 : decode cX7_deed 24 = .ok (.istore_n 1, 1) := by decide +kernel
theorem dX7_deed_25 : decode cX7_deed 25 = .ok (.aload_n 0, 1) := by decide +kernel
theorem dX7_deed_26 : decode cX7_deed 26 = .ok (.getfield 28, 3) := by decide +kernel
theorem dX7_deed_29 : decode cX7_deed 29 = .ok (.iconst 4, 1) := by decide +kernel
theorem dX7_deed_30 : decode cX7_deed 30 = .ok (.aload_n 0, 1) := by decide +kernel
theorem dX7_deed_31 : decode cX7_deed 31 = .ok (.getfield 131, 3) := by decide +kernel
theorem dX7_deed_34 : decode cX7_deed 34 = .ok (.imul, 1) := by decide +kernel
theorem dX7_deed_35 : decode cX7_deed 35 = .ok (.iload_n 1, 1) := by decide +kernel
theorem dX7_deed_36 : decode cX7_deed 36 = .ok (.iastore, 1) := by decide +kernel
theorem dX7_deed_37 : decode cX7_deed 37 = .ok (.aload_n 0, 1) := by decide +kernel
theorem dX7_deed_38 : decode cX7_deed 38 = .ok (.getfield 28, 3) := by decide +kernel
theorem dX7_deed_41 : decode cX7_deed 41 = .ok (.iconst 4, 1) := by decide +kernel
theorem dX7_deed_42 : decode cX7_deed 42 = .ok (.aload_n 0, 1) := by decide +kernel
theorem dX7_deed_43 : decode cX7_deed 43 = .ok (.getfield 131, 3) := by decide +kernel
theorem dX7_deed_46 : decode cX7_deed 46 = .ok (.imul, 1) := by decide +kernel
theorem dX7_deed_47 : decode cX7_deed 47 = .ok (.iconst 3, 1) := by decide +kernel
theorem dX7_deed_48 : decode cX7_deed 48 = .ok (.iadd, 1) := by decide +kernel
theorem dX7_deed_49 : decode cX7_deed 49 = .ok (.aload_n 0, 1) := by decide +kernel
theorem dX7_deed_50 : decode cX7_deed 50 = .ok (.getfield 125, 3) := by decide +kernel
theorem dX7_deed_53 : decode cX7_deed 53 = .ok (.iastore, 1) := by decide +kernel
theorem dX7_deed_54 : decode cX7_deed 54 = .ok (.iload_n 1, 1) := by decide +kernel
theorem dX7_deed_55 : decode cX7_deed 55 = .ok (.bipush 115, 2) := by decide +kernel
theorem dX7_deed_57 : decode cX7_deed 57 = .ok (.if_icmp .eq 23, 3) := by decide +kernel
theorem dX7_deed_60 : decode cX7_deed 60 = .ok (.iload_n 1, 1) := by decide +kernel
theorem dX7_deed_61 : decode cX7_deed 61 = .ok (.bipush 43, 2) := by decide +kernel
theorem dX7_deed_63 : decode cX7_deed 63 = .ok (.if_icmp .eq 17, 3) := by decide +kernel
theorem dX7_deed_66 : decode cX7_deed 66 = .ok (.iload_n 1, 1) := by decide +kernel
theorem dX7_deed_67 : decode cX7_deed 67 = .ok (.bipush 45, 2) := by decide +kernel
theorem dX7_deed_69 : decode cX7_deed 69 = .ok (.if_icmp .eq 11, 3) := by decide +kernel
theorem dX7_deed_72 : decode cX7_deed 72 = .ok (.iload_n 1, 1) := by decide +kernel
theorem dX7_deed_73 : decode cX7_deed 73 = .ok (.bipush 114, 2) := by decide +kernel
theorem dX7_deed_75 : decode cX7_deed 75 = .ok (.if_icmp .eq 5, 3) := by decide +kernel
theorem dX7_deed_78 : decode cX7_deed 78 = .ok (.iconst 0, 1) := by decide +kernel
theorem dX7_deed_79 : decode cX7_deed 79 = .ok (.ireturn, 1) := by decide +kernel
theorem dX7_deed_80 : decode cX7_deed 80 = .ok (.aload_n 0, 1) := by decide +kernel
theorem dX7_deed_81 : decode cX7_deed 81 = .ok (.dup, 1) := by decide +kernel
theorem dX7_deed_82 : decode cX7_deed 82 = .ok (.getfield 125, 3) := by decide +kernel
theorem dX7_deed_85 : decode cX7_deed 85 = .ok (.iconst 1, 1) := by decide +kernel
theorem dX7_deed_86 : decode cX7_deed 86 = .ok (.iadd, 1) := by decide +kernel
theorem dX7_deed_87 : decode cX7_deed 87 = .ok (.putfield 125, 3) := by decide +kernel
theorem dX7_deed_90 : decode cX7_deed 90 = .ok (.iload_n 1, 1) := by decide +kernel
theorem dX7_deed_91 : decode cX7_deed 91 = .ok (.bipush 114, 2) := by decide +kernel
theorem dX7_deed_93 : decode cX7_deed 93 = .ok (.if_icmp .eq 50, 3) := by decide +kernel
theorem dX7_deed_96 : decode cX7_deed 96 = .ok (.iload_n 1, 1) := by decide +kernel
theorem dX7_deed_97 : decode cX7_deed 97 = .ok (.bipush 43, 2) := by decide +kernel
theorem dX7_deed_99 : decode cX7_deed 99 = .ok (.if_icmp .ne 13, 3) := by decide +kernel
theorem dX7_deed_102 : decode cX7_deed 102 = .ok (.aload_n 0, 1) := by decide +kernel
theorem dX7_deed_103 : decode cX7_deed 103 = .ok (.invokevirtual 140, 3) := by decide +kernel
theorem dX7_deed_106 : decode cX7_deed 106 = .ok (.ifCond .eq 41, 3) := by decide +kernel
theorem dX7_deed_109 : decode cX7_deed 109 = .ok (.goto 34, 3) := by decide +kernel
theorem dX7_deed_112 : decode cX7_deed 112 = .ok (.iload_n 1, 1) := by decide +kernel
theorem dX7_deed_113 : decode cX7_deed 113 = .ok (.bipush 115, 2) := by decide +kernel
theorem dX7_deed_115 : decode cX7_deed 115 = .ok (.if_icmp .ne 17, 3) := by decide +kernel
theorem dX7_deed_118 : decode cX7_deed 118 = .ok (.aload_n 0, 1) := by decide +kernel
theorem dX7_deed_119 : decode cX7_deed 119 = .ok (.iconst 1, 1) := by decide +kernel
theorem dX7_deed_120 : decode cX7_deed 120 = .ok (.iconst 1, 1) := by decide +kernel
theorem dX7_deed_121 : decode cX7_deed 121 = .ok (.bipush 20, 2) := by decide +kernel
theorem dX7_deed_123 : decode cX7_deed 123 = .ok (.invokevirtual 134, 3) := by decide +kernel
theorem dX7_deed_126 : decode cX7_deed 126 = .ok (.ifCond .eq 21, 3) := by decide +kernel
theorem dX7_deed_129 : decode cX7_deed 129 = .ok (.goto 14, 3) := by decide +kernel
theorem dX7_deed_132 : decode cX7_deed 132 = .ok (.aload_n 0, 1) := by decide +kernel
theorem dX7_deed_133 : decode cX7_deed 133 = .ok (.iconst 1, 1) := by decide +kernel
theorem dX7_deed_134 : decode cX7_deed 134 = .ok (.iconst 0, 1) := by decide +kernel
theorem dX7_deed_135 : decode cX7_deed 135 = .ok (.bipush 19, 2) := by decide +kernel
theorem dX7_deed_137 : decode cX7_deed 137 = .ok (.invokevirtual 134, 3) := by decide +kernel
theorem dX7_deed_140 : decode cX7_deed 140 = .ok (.ifCond .eq 7, 3) := by decide +kernel
theorem dX7_deed_143 : decode cX7_deed 143 = .ok (.iconst 1, 1) := by decide +kernel
theorem dX7_deed_144 : decode cX7_deed 144 = .ok (.goto 4, 3) := by decide +kernel
theorem dX7_deed_147 : decode cX7_deed 147 = .ok (.iconst 0, 1) := by decide +kernel
theorem dX7_deed_148 : decode cX7_deed 148 = .ok (.ireturn, 1) := by decide +kernel
set_option maxRecDepth 20000 in
theorem ggX7_fault_X7_in : GoodIn wsX7_fault wsX7_in := goodIn_r _ [7] (by decide +kernel) (by decide +kernel)
set_option maxRecDepth 20000 in
theorem gX7_fault_X7_in : GoodIn wsX7_fault (va_wsS RX7 39 yX7_in wsX7_in) := goodIn_app (goodIn_of _ (by decide +kernel)) ggX7_fault_X7_in
set_option maxRecDepth 20000 in
theorem ggX7_fault_X7_readsRow : GoodIn wsX7_fault wsX7_readsRow := goodIn_r _ [11, 12, 13, 14, 6, 15, 16, 1, 17, 2, 18, 19, 20, 21, 3, 4, 5, 7, 22, 23, 24, 25, 30, 31, 32, 33, 34, 35, 36, 37, 38, 39, 40, 41, 42, 43] (by decide +kernel) (by decide +kernel)
set_option maxRecDepth 20000 in
theorem gX7_fault_X7_readsRow : GoodIn wsX7_fault (wsV RX7 140 RX7 yX7_readsRow wsX7_readsRow) := goodIn_app (goodIn_of _ (by decide +kernel)) ggX7_fault_X7_readsRow
set_option maxRecDepth 20000 in
theorem ggX7_fault_X7_deed : GoodIn wsX7_fault wsX7_deed := goodIn_r _ [29, 1, 3, 16, 17, 2, 8, 9, 10, 6, 11, 12, 13, 14, 15, 18, 19, 20, 21, 4, 5, 7, 22, 23, 24, 25, 30, 31, 32, 33, 34, 35, 36, 37, 38, 39, 40, 41, 42, 43] (by decide +kernel) (by decide +kernel)
set_option maxRecDepth 20000 in
theorem gX7_fault_X7_deed : GoodIn wsX7_fault (wsV RX7 144 RX7 yX7_deed wsX7_deed) := goodIn_app (goodIn_of _ (by decide +kernel)) ggX7_fault_X7_deed
set_option maxRecDepth 20000 in
theorem ggX7_fault_X7_sign : GoodIn wsX7_fault wsX7_sign := goodIn_r _ [25, 1, 18, 19, 20, 6, 21, 3, 16, 4, 5, 7, 30, 31, 32, 33, 34, 35, 36, 37, 38, 39, 40, 41, 42, 43] (by decide +kernel) (by decide +kernel)
set_option maxRecDepth 20000 in
theorem gX7_fault_X7_sign : GoodIn wsX7_fault (wsV RX7 137 RX7 yX7_sign wsX7_sign) := goodIn_app (goodIn_of _ (by decide +kernel)) ggX7_fault_X7_sign
theorem dX7_fault_0 : decode cX7_fault 0 = .ok (.iload_n 1, 1) := by decide +kernel
theorem dX7_fault_1 : decode cX7_fault 1 = .ok (.iconst 0, 1) := by decide +kernel
theorem dX7_fault_2 : decode cX7_fault 2 = .ok (.iconst 1, 1) := by decide +kernel
theorem dX7_fault_3 : decode cX7_fault 3 = .ok (.invokestatic 39, 3) := by decide +kernel
theorem dX7_fault_6 : decode cX7_fault 6 = .ok (.ifCond .ne 5, 3) := by decide +kernel
theorem dX7_fault_9 : decode cX7_fault 9 = .ok (.iconst (-1), 1) := by decide +kernel
theorem dX7_fault_10 : decode cX7_fault 10 = .ok (.ireturn, 1) := by decide +kernel
theorem dX7_fault_11 : decode cX7_fault 11 = .ok (.aload_n 0, 1) := by decide +kernel
theorem dX7_fault_12 : decode cX7_fault 12 = .ok (.iconst 0, 1) := by decide +kernel
theorem dX7_fault_13 : decode cX7_fault 13 = .ok (.putfield 125, 3) := by decide +kernel
theorem dX7_fault_16 : decode cX7_fault 16 = .ok (.aload_n 0, 1) := by decide +kernel
theorem dX7_fault_17 : decode cX7_fault 17 = .ok (.iconst 0, 1) := by decide +kernel
theorem dX7_fault_18 : decode cX7_fault 18 = .ok (.putfield 131, 3) := by decide +kernel
theorem dX7_fault_21 : decode cX7_fault 21 = .ok (.iconst 1, 1) := by decide +kernel
theorem dX7_fault_22 : decode cX7_fault 22 = .ok (.istore_n 2, 1) := by decide +kernel
theorem dX7_fault_23 : decode cX7_fault 23 = .ok (.iload_n 2, 1) := by decide +kernel
theorem dX7_fault_24 : decode cX7_fault 24 = .ok (.ifCond .eq 58, 3) := by decide +kernel
theorem dX7_fault_27 : decode cX7_fault 27 = .ok (.iload_n 1, 1) := by decide +kernel
theorem dX7_fault_28 : decode cX7_fault 28 = .ok (.ifCond .ne 13, 3) := by decide +kernel
theorem dX7_fault_31 : decode cX7_fault 31 = .ok (.aload_n 0, 1) := by decide +kernel
theorem dX7_fault_32 : decode cX7_fault 32 = .ok (.invokevirtual 140, 3) := by decide +kernel
theorem dX7_fault_35 : decode cX7_fault 35 = .ok (.ifCond .eq 13, 3) := by decide +kernel
theorem dX7_fault_38 : decode cX7_fault 38 = .ok (.goto 15, 3) := by decide +kernel
theorem dX7_fault_41 : decode cX7_fault 41 = .ok (.aload_n 0, 1) := by decide +kernel
theorem dX7_fault_42 : decode cX7_fault 42 = .ok (.invokevirtual 144, 3) := by decide +kernel
theorem dX7_fault_45 : decode cX7_fault 45 = .ok (.ifCond .ne 8, 3) := by decide +kernel
theorem dX7_fault_48 : decode cX7_fault 48 = .ok (.aload_n 0, 1) := by decide +kernel
theorem dX7_fault_49 : decode cX7_fault 49 = .ok (.getfield 125, 3) := by decide +kernel
theorem dX7_fault_52 : decode cX7_fault 52 = .ok (.ireturn, 1) := by decide +kernel
theorem dX7_fault_53 : decode cX7_fault 53 = .ok (.aload_n 0, 1) := by decide +kernel
theorem dX7_fault_54 : decode cX7_fault 54 = .ok (.dup, 1) := by decide +kernel
theorem dX7_fault_55 : decode cX7_fault 55 = .ok (.getfield 131, 3) := by decide +kernel
theorem dX7_fault_58 : decode cX7_fault 58 = .ok (.iconst 1, 1) := by decide +kernel
theorem dX7_fault_59 : decode cX7_fault 59 = .ok (.iadd, 1) := by decide +kernel
theorem dX7_fault_60 : decode cX7_fault 60 = .ok (.putfield 131, 3) := by decide +kernel
theorem dX7_fault_63 : decode cX7_fault 63 = .ok (.aload_n 0, 1) := by decide +kernel
theorem dX7_fault_64 : decode cX7_fault 64 = .ok (.iload_n 1, 1) := by decide +kernel
theorem dX7_fault_65 : decode cX7_fault 65 = .ok (.ifCond .ne 8, 3) := by decide +kernel
theorem dX7_fault_68 : decode cX7_fault 68 = .ok (.bipush 44, 2) := by decide +kernel
theorem dX7_fault_70 : decode cX7_fault 70 = .ok (.goto 5, 3) := by decide +kernel
theorem dX7_fault_73 : decode cX7_fault 73 = .ok (.bipush 59, 2) := by decide +kernel
theorem dX7_fault_75 : decode cX7_fault 75 = .ok (.invokevirtual 137, 3) := by decide +kernel
theorem dX7_fault_78 : decode cX7_fault 78 = .ok (.istore_n 2, 1) := by decide +kernel
theorem dX7_fault_79 : decode cX7_fault 79 = .ok (.goto (-56), 3) := by decide +kernel
theorem dX7_fault_82 : decode cX7_fault 82 = .ok (.aload_n 0, 1) := by decide +kernel
theorem dX7_fault_83 : decode cX7_fault 83 = .ok (.getfield 125, 3) := by decide +kernel
theorem dX7_fault_86 : decode cX7_fault 86 = .ok (.aload_n 0, 1) := by decide +kernel
theorem dX7_fault_87 : decode cX7_fault 87 = .ok (.getfield 122, 3) := by decide +kernel
theorem dX7_fault_90 : decode cX7_fault 90 = .ok (.if_icmp .ne 8, 3) := by decide +kernel
theorem dX7_fault_93 : decode cX7_fault 93 = .ok (.bipush (-4), 2) := by decide +kernel
theorem dX7_fault_95 : decode cX7_fault 95 = .ok (.goto 7, 3) := by decide +kernel
theorem dX7_fault_98 : decode cX7_fault 98 = .ok (.aload_n 0, 1) := by decide +kernel
theorem dX7_fault_99 : decode cX7_fault 99 = .ok (.getfield 125, 3) := by decide +kernel
theorem dX7_fault_102 : decode cX7_fault 102 = .ok (.ireturn, 1) := by decide +kernel
set_option maxRecDepth 20000 in
theorem ggX7_fill_X7_fault : GoodIn wsX7_fill wsX7_fault := goodIn_r _ [9, 10, 2, 4, 11, 12, 8, 13, 14, 15, 16, 17, 18, 19, 20, 21, 22, 3, 23, 24, 25, 26, 27, 28, 29, 30, 31, 32, 33, 34, 62, 63, 64, 65, 66, 67, 68, 69, 70, 71, 72, 73, 74, 75] (by decide +kernel) (by decide +kernel)
set_option maxRecDepth 20000 in
theorem gX7_fill_X7_fault : GoodIn wsX7_fill (wsV RX7 147 RX7 yX7_fault wsX7_fault) := goodIn_app (goodIn_of _ (by decide +kernel)) ggX7_fill_X7_fault
set_option maxRecDepth 20000 in
theorem ggX7_fill_X7_changes : GoodIn wsX7_fill wsX7_changes := goodIn_r _ [38, 39, 40, 41, 1, 62, 63, 64, 65, 66, 67, 68, 69, 70, 71, 72, 73, 74, 75] (by decide +kernel) (by decide +kernel)
set_option maxRecDepth 20000 in
theorem gX7_fill_X7_changes : GoodIn wsX7_fill (wsV RX7 96 RX7 yX7_changes wsX7_changes) := goodIn_app (goodIn_of _ (by decide +kernel)) ggX7_fill_X7_changes
set_option maxRecDepth 20000 in
theorem ggX7_fill_X7_adds : GoodIn wsX7_fill wsX7_adds := goodIn_r _ [45, 1, 46, 47, 48, 8, 49, 50, 51, 52, 53, 54, 55, 56, 57, 58, 59, 60, 61, 62, 63, 64, 65, 66, 67, 68, 69, 70, 71, 72, 73, 74, 75] (by decide +kernel) (by decide +kernel)
set_option maxRecDepth 20000 in
theorem gX7_fill_X7_adds : GoodIn wsX7_fill (wsV RX7 99 RX7 yX7_adds wsX7_adds) := goodIn_app (goodIn_of _ (by decide +kernel)) ggX7_fill_X7_adds
theorem dX7_fill_0 : decode cX7_fill 0 = .ok (.aload_n 0, 1) := by decide +kernel
theorem dX7_fill_1 : decode cX7_fill 1 = .ok (.iconst 0, 1) := by decide +kernel
theorem dX7_fill_2 : decode cX7_fill 2 = .ok (.invokevirtual 147, 3) := by decide +kernel
theorem dX7_fill_5 : decode cX7_fill 5 = .ok (.bipush (-4), 2) := by decide +kernel
theorem dX7_fill_7 : decode cX7_fill 7 = .ok (.if_icmp .eq 6, 3) := by decide +kernel
theorem dX7_fill_10 : decode cX7_fill 10 = .ok (.bipush (-2), 2) := by decide +kernel
theorem dX7_fill_12 : decode cX7_fill 12 = .ok (.ireturn, 1) := by decide +kernel
theorem dX7_fill_13 : decode cX7_fill 13 = .ok (.iload_n 1, 1) := by decide +kernel
theorem dX7_fill_14 : decode cX7_fill 14 = .ok (.ifCond .eq 7, 3) := by decide +kernel
theorem dX7_fill_17 : decode cX7_fill 17 = .ok (.iconst 5, 1) := by decide +kernel
theorem dX7_fill_18 : decode cX7_fill 18 = .ok (.goto 5, 3) := by decide +kernel
theorem dX7_fill_21 : decode cX7_fill 21 = .ok (.bipush 6, 2) := by decide +kernel
theorem dX7_fill_23 : decode cX7_fill 23 = .ok (.istore_n 2, 1) := by decide +kernel
theorem dX7_fill_24 : decode cX7_fill 24 = .ok (.aload_n 0, 1) := by decide +kernel
theorem dX7_fill_25 : decode cX7_fill 25 = .ok (.getfield 7, 3) := by decide +kernel
theorem dX7_fill_28 : decode cX7_fill 28 = .ok (.iload_n 2, 1) := by decide +kernel
theorem dX7_fill_29 : decode cX7_fill 29 = .ok (.iaload, 1) := by decide +kernel
theorem dX7_fill_30 : decode cX7_fill 30 = .ok (.aload_n 0, 1) := by decide +kernel
theorem dX7_fill_31 : decode cX7_fill 31 = .ok (.getfield 131, 3) := by decide +kernel
theorem dX7_fill_34 : decode cX7_fill 34 = .ok (.iadd, 1) := by decide +kernel
theorem dX7_fill_35 : decode cX7_fill 35 = .ok (.bipush 20, 2) := by decide +kernel
theorem dX7_fill_37 : decode cX7_fill 37 = .ok (.if_icmp .le 6, 3) := by decide +kernel
theorem dX7_fill_40 : decode cX7_fill 40 = .ok (.bipush (-3), 2) := by decide +kernel
theorem dX7_fill_42 : decode cX7_fill 42 = .ok (.ireturn, 1) := by decide +kernel
theorem dX7_fill_43 : decode cX7_fill 43 = .ok (.aload_n 0, 1) := by decide +kernel
theorem dX7_fill_44 : decode cX7_fill 44 = .ok (.invokevirtual 96, 3) := by decide +kernel
theorem dX7_fill_47 : decode cX7_fill 47 = .ok (.iconst 0, 1) := by decide +kernel
theorem dX7_fill_48 : decode cX7_fill 48 = .ok (.istore_n 3, 1) := by decide +kernel
theorem dX7_fill_49 : decode cX7_fill 49 = .ok (.iconst 0, 1) := by decide +kernel
theorem dX7_fill_50 : decode cX7_fill 50 = .ok (.istore 4, 2) := by decide +kernel
theorem dX7_fill_52 : decode cX7_fill 52 = .ok (.iload 4, 2) := by decide +kernel
theorem dX7_fill_54 : decode cX7_fill 54 = .ok (.aload_n 0, 1) := by decide +kernel
theorem dX7_fill_55 : decode cX7_fill 55 = .ok (.getfield 131, 3) := by decide +kernel
theorem dX7_fill_58 : decode cX7_fill 58 = .ok (.if_icmp .ge 37, 3) := by decide +kernel
theorem dX7_fill_61 : decode cX7_fill 61 = .ok (.aload_n 0, 1) := by decide +kernel
theorem dX7_fill_62 : decode cX7_fill 62 = .ok (.iload_n 1, 1) := by decide +kernel
theorem dX7_fill_63 : decode cX7_fill 63 = .ok (.aload_n 0, 1) := by decide +kernel
theorem dX7_fill_64 : decode cX7_fill 64 = .ok (.getfield 28, 3) := by decide +kernel
theorem dX7_fill_67 : decode cX7_fill 67 = .ok (.iconst 4, 1) := by decide +kernel
theorem dX7_fill_68 : decode cX7_fill 68 = .ok (.iload 4, 2) := by decide +kernel
theorem dX7_fill_70 : decode cX7_fill 70 = .ok (.imul, 1) := by decide +kernel
theorem dX7_fill_71 : decode cX7_fill 71 = .ok (.iconst 1, 1) := by decide +kernel
theorem dX7_fill_72 : decode cX7_fill 72 = .ok (.iadd, 1) := by decide +kernel
theorem dX7_fill_73 : decode cX7_fill 73 = .ok (.iaload, 1) := by decide +kernel
theorem dX7_fill_74 : decode cX7_fill 74 = .ok (.aload_n 0, 1) := by decide +kernel
theorem dX7_fill_75 : decode cX7_fill 75 = .ok (.getfield 28, 3) := by decide +kernel
theorem dX7_fill_78 : decode cX7_fill 78 = .ok (.iconst 4, 1) := by decide +kernel
theorem dX7_fill_79 : decode cX7_fill 79 = .ok (.iload 4, 2) := by decide +kernel
theorem dX7_fill_81 : decode cX7_fill 81 = .ok (.imul, 1) := by decide +kernel
theorem dX7_fill_82 : decode cX7_fill 82 = .ok (.iconst 2, 1) := by decide +kernel
theorem dX7_fill_83 : decode cX7_fill 83 = .ok (.iadd, 1) := by decide +kernel
theorem dX7_fill_84 : decode cX7_fill 84 = .ok (.iaload, 1) := by decide +kernel
theorem dX7_fill_85 : decode cX7_fill 85 = .ok (.invokevirtual 99, 3) := by decide +kernel
theorem dX7_fill_88 : decode cX7_fill 88 = .ok (.istore_n 3, 1) := by decide +kernel
theorem dX7_fill_89 : decode cX7_fill 89 = .ok (.iinc 4 1, 3) := by decide +kernel
theorem dX7_fill_92 : decode cX7_fill 92 = .ok (.goto (-40), 3) := by decide +kernel
theorem dX7_fill_95 : decode cX7_fill 95 = .ok (.aload_n 0, 1) := by decide +kernel
theorem dX7_fill_96 : decode cX7_fill 96 = .ok (.iconst 0, 1) := by decide +kernel
theorem dX7_fill_97 : decode cX7_fill 97 = .ok (.putfield 122, 3) := by decide +kernel
theorem dX7_fill_100 : decode cX7_fill 100 = .ok (.iload_n 3, 1) := by decide +kernel
theorem dX7_fill_101 : decode cX7_fill 101 = .ok (.iconst 1, 1) := by decide +kernel
theorem dX7_fill_102 : decode cX7_fill 102 = .ok (.iadd, 1) := by decide +kernel
theorem dX7_fill_103 : decode cX7_fill 103 = .ok (.ireturn, 1) := by decide +kernel
set_option maxRecDepth 20000 in
theorem ggX7_does_X7_step : GoodIn wsX7_does wsX7_step := goodIn_r _ [6, 7, 8, 9, 5, 10, 11, 12, 13, 14, 15, 16, 17, 18, 19, 20, 21, 22, 23, 24, 25, 26, 27, 28, 29, 30, 31, 32, 33, 34, 35, 36, 37, 38, 39, 40, 41, 42, 43, 44, 45, 46, 47, 48, 49, 50, 51, 52, 53, 54, 55, 56, 57, 58, 59, 60, 61, 62, 63, 64, 65, 66, 67, 68, 69, 109, 110, 111, 112, 113, 114, 115, 116, 117, 118, 119, 120, 121, 122] (by decide +kernel) (by decide +kernel)
set_option maxRecDepth 20000 in
theorem gX7_does_X7_step : GoodIn wsX7_does (wsV RX7 150 RX7 yX7_step wsX7_step) := goodIn_app (goodIn_of _ (by decide +kernel)) ggX7_does_X7_step
set_option maxRecDepth 20000 in
theorem ggX7_does_X7_add : GoodIn wsX7_does wsX7_add := goodIn_r _ [73, 7, 74, 75, 5, 76, 8, 9, 10, 11, 12, 13, 14, 15, 16, 17, 77, 78, 79, 80, 81, 82, 83, 84, 85, 86, 87, 88, 89, 90, 91, 92, 26, 27, 28, 29, 109, 110, 111, 112, 113, 114, 115, 116, 117, 118, 119, 120, 121, 122] (by decide +kernel) (by decide +kernel)
set_option maxRecDepth 20000 in
theorem gX7_does_X7_add : GoodIn wsX7_does (wsV RX7 153 RX7 yX7_add wsX7_add) := goodIn_app (goodIn_of _ (by decide +kernel)) ggX7_does_X7_add
set_option maxRecDepth 20000 in
theorem ggX7_does_X7_drop : GoodIn wsX7_does wsX7_drop := goodIn_r _ [96, 7, 97, 98, 99, 5, 100, 8, 9, 10, 101, 102, 103, 104, 11, 12, 13, 14, 15, 16, 17, 81, 82, 83, 84, 85, 86, 87, 88, 89, 90, 91, 92, 26, 27, 28, 29, 109, 110, 111, 112, 113, 114, 115, 116, 117, 118, 119, 120, 121, 122] (by decide +kernel) (by decide +kernel)
set_option maxRecDepth 20000 in
theorem gX7_does_X7_drop : GoodIn wsX7_does (wsV RX7 156 RX7 yX7_drop wsX7_drop) := goodIn_app (goodIn_of _ (by decide +kernel)) ggX7_does_X7_drop
set_option maxRecDepth 20000 in
theorem ggX7_does_X7_again : GoodIn wsX7_does wsX7_again := goodIn_r _ [108, 7, 11, 12, 13, 5, 14, 15, 16, 17, 109, 110, 111, 112, 113, 114, 115, 116, 117, 118, 119, 120, 121, 122] (by decide +kernel) (by decide +kernel)
set_option maxRecDepth 20000 in
theorem gX7_does_X7_again : GoodIn wsX7_does (wsV RX7 160 RX7 yX7_again wsX7_again) := goodIn_app (goodIn_of _ (by decide +kernel)) ggX7_does_X7_again
theorem dX7_does_0 : decode cX7_does 0 = .ok (.aload_n 0, 1) := by decide +kernel
theorem dX7_does_1 : decode cX7_does 1 = .ok (.getfield 28, 3) := by decide +kernel
theorem dX7_does_4 : decode cX7_does 4 = .ok (.iconst 4, 1) := by decide +kernel
theorem dX7_does_5 : decode cX7_does 5 = .ok (.iload_n 1, 1) := by decide +kernel
theorem dX7_does_6 : decode cX7_does 6 = .ok (.imul, 1) := by decide +kernel
theorem dX7_does_7 : decode cX7_does 7 = .ok (.iconst 1, 1) := by decide +kernel
theorem dX7_does_8 : decode cX7_does 8 = .ok (.iadd, 1) := by decide +kernel
theorem dX7_does_9 : decode cX7_does 9 = .ok (.iaload, 1) := by decide +kernel
theorem dX7_does_10 : decode cX7_does 10 = .ok (.istore_n 2, 1) := by decide +kernel
theorem dX7_does_11 : decode cX7_does 11 = .ok (.aload_n 0, 1) := by decide +kernel
theorem dX7_does_12 : decode cX7_does 12 = .ok (.getfield 28, 3) := by decide +kernel
theorem dX7_does_15 : decode cX7_does 15 = .ok (.iconst 4, 1) := by decide +kernel
theorem dX7_does_16 : decode cX7_does 16 = .ok (.iload_n 1, 1) := by decide +kernel
theorem dX7_does_17 : decode cX7_does 17 = .ok (.imul, 1) := by decide +kernel
theorem dX7_does_18 : decode cX7_does 18 = .ok (.iaload, 1) := by decide +kernel
theorem dX7_does_19 : decode cX7_does 19 = .ok (.lookupswitch 63 #[(43, 39), (45, 56), (115, 33)], 33) := by decide +kernel
theorem dX7_does_52 : decode cX7_does 52 = .ok (.aload_n 0, 1) := by decide +kernel
theorem dX7_does_53 : decode cX7_does 53 = .ok (.iload_n 2, 1) := by decide +kernel
theorem dX7_does_54 : decode cX7_does 54 = .ok (.invokevirtual 150, 3) := by decide +kernel
theorem dX7_does_57 : decode cX7_does 57 = .ok (.ireturn, 1) := by decide +kernel
theorem dX7_does_58 : decode cX7_does 58 = .ok (.aload_n 0, 1) := by decide +kernel
theorem dX7_does_59 : decode cX7_does 59 = .ok (.iconst 1, 1) := by decide +kernel
theorem dX7_does_60 : decode cX7_does 60 = .ok (.iload_n 2, 1) := by decide +kernel
theorem dX7_does_61 : decode cX7_does 61 = .ok (.aload_n 0, 1) := by decide +kernel
theorem dX7_does_62 : decode cX7_does 62 = .ok (.getfield 28, 3) := by decide +kernel
theorem dX7_does_65 : decode cX7_does 65 = .ok (.iconst 4, 1) := by decide +kernel
theorem dX7_does_66 : decode cX7_does 66 = .ok (.iload_n 1, 1) := by decide +kernel
theorem dX7_does_67 : decode cX7_does 67 = .ok (.imul, 1) := by decide +kernel
theorem dX7_does_68 : decode cX7_does 68 = .ok (.iconst 2, 1) := by decide +kernel
theorem dX7_does_69 : decode cX7_does 69 = .ok (.iadd, 1) := by decide +kernel
theorem dX7_does_70 : decode cX7_does 70 = .ok (.iaload, 1) := by decide +kernel
theorem dX7_does_71 : decode cX7_does 71 = .ok (.invokevirtual 153, 3) := by decide +kernel
theorem dX7_does_74 : decode cX7_does 74 = .ok (.ireturn, 1) := by decide +kernel
theorem dX7_does_75 : decode cX7_does 75 = .ok (.aload_n 0, 1) := by decide +kernel
theorem dX7_does_76 : decode cX7_does 76 = .ok (.iconst 1, 1) := by decide +kernel
theorem dX7_does_77 : decode cX7_does 77 = .ok (.iload_n 2, 1) := by decide +kernel
theorem dX7_does_78 : decode cX7_does 78 = .ok (.invokevirtual 156, 3) := by decide +kernel
theorem dX7_does_81 : decode cX7_does 81 = .ok (.ireturn, 1) := by decide +kernel
theorem dX7_does_82 : decode cX7_does 82 = .ok (.aload_n 0, 1) := by decide +kernel
theorem dX7_does_83 : decode cX7_does 83 = .ok (.invokevirtual 160, 3) := by decide +kernel
theorem dX7_does_86 : decode cX7_does 86 = .ok (.ireturn, 1) := by decide +kernel
set_option maxRecDepth 20000 in
theorem ggX7_carryOut_X7_fault : GoodIn wsX7_carryOut wsX7_fault := goodIn_r _ [11, 12, 4, 1, 13, 14, 10, 15, 16, 17, 18, 19, 20, 21, 22, 23, 24, 6, 25, 26, 27, 28, 29, 30, 31, 32, 33, 34, 35, 36, 143, 144, 145, 146, 147, 148, 149, 150, 151, 152, 153, 154, 155, 156] (by decide +kernel) (by decide +kernel)
set_option maxRecDepth 20000 in
theorem gX7_carryOut_X7_fault : GoodIn wsX7_carryOut (wsV RX7 147 RX7 yX7_fault wsX7_fault) := goodIn_app (goodIn_of _ (by decide +kernel)) ggX7_carryOut_X7_fault
set_option maxRecDepth 20000 in
theorem ggX7_carryOut_X7_changes : GoodIn wsX7_carryOut wsX7_changes := goodIn_r _ [40, 2, 41, 42, 43, 143, 144, 145, 146, 147, 148, 149, 150, 151, 152, 153, 154, 155, 156] (by decide +kernel) (by decide +kernel)
set_option maxRecDepth 20000 in
theorem gX7_carryOut_X7_changes : GoodIn wsX7_carryOut (wsV RX7 96 RX7 yX7_changes wsX7_changes) := goodIn_app (goodIn_of _ (by decide +kernel)) ggX7_carryOut_X7_changes
set_option maxRecDepth 20000 in
theorem ggX7_carryOut_X7_does : GoodIn wsX7_carryOut wsX7_does := goodIn_r _ [47, 6, 48, 49, 50, 10, 51, 43, 13, 14, 15, 37, 38, 39, 40, 2, 41, 42, 52, 53, 54, 55, 56, 57, 58, 59, 60, 61, 62, 63, 64, 65, 66, 67, 68, 69, 70, 71, 72, 73, 74, 75, 76, 77, 78, 79, 80, 81, 82, 83, 84, 85, 86, 87, 88, 89, 90, 91, 92, 93, 94, 95, 96, 97, 98, 99, 100, 101, 102, 103, 104, 105, 106, 107, 108, 109, 110, 111, 112, 113, 114, 115, 116, 117, 118, 119, 120, 121, 122, 123, 124, 125, 126, 127, 128, 129, 130, 131, 132, 133, 134, 135, 136, 137, 138, 139, 140, 141, 142, 143, 144, 145, 146, 147, 148, 149, 150, 151, 152, 153, 154, 155, 156] (by decide +kernel) (by decide +kernel)
set_option maxRecDepth 20000 in
theorem gX7_carryOut_X7_does : GoodIn wsX7_carryOut (wsV RX7 166 RX7 yX7_does wsX7_does) := goodIn_app (goodIn_of _ (by decide +kernel)) ggX7_carryOut_X7_does
theorem dX7_carryOut_0 : decode cX7_carryOut 0 = .ok (.aload_n 0, 1) := by decide +kernel
theorem dX7_carryOut_1 : decode cX7_carryOut 1 = .ok (.iconst 1, 1) := by decide +kernel
theorem dX7_carryOut_2 : decode cX7_carryOut 2 = .ok (.invokevirtual 147, 3) := by decide +kernel
theorem dX7_carryOut_5 : decode cX7_carryOut 5 = .ok (.bipush (-4), 2) := by decide +kernel
theorem dX7_carryOut_7 : decode cX7_carryOut 7 = .ok (.if_icmp .eq 6, 3) := by decide +kernel
theorem dX7_carryOut_10 : decode cX7_carryOut 10 = .ok (.bipush (-2), 2) := by decide +kernel
theorem dX7_carryOut_12 : decode cX7_carryOut 12 = .ok (.ireturn, 1) := by decide +kernel
theorem dX7_carryOut_13 : decode cX7_carryOut 13 = .ok (.aload_n 0, 1) := by decide +kernel
theorem dX7_carryOut_14 : decode cX7_carryOut 14 = .ok (.invokevirtual 96, 3) := by decide +kernel
theorem dX7_carryOut_17 : decode cX7_carryOut 17 = .ok (.aload_n 0, 1) := by decide +kernel
theorem dX7_carryOut_18 : decode cX7_carryOut 18 = .ok (.iconst 0, 1) := by decide +kernel
theorem dX7_carryOut_19 : decode cX7_carryOut 19 = .ok (.putfield 122, 3) := by decide +kernel
theorem dX7_carryOut_22 : decode cX7_carryOut 22 = .ok (.aload_n 0, 1) := by decide +kernel
theorem dX7_carryOut_23 : decode cX7_carryOut 23 = .ok (.iconst 1, 1) := by decide +kernel
theorem dX7_carryOut_24 : decode cX7_carryOut 24 = .ok (.putfield 31, 3) := by decide +kernel
theorem dX7_carryOut_27 : decode cX7_carryOut 27 = .ok (.aload_n 0, 1) := by decide +kernel
theorem dX7_carryOut_28 : decode cX7_carryOut 28 = .ok (.iconst 0, 1) := by decide +kernel
theorem dX7_carryOut_29 : decode cX7_carryOut 29 = .ok (.putfield 163, 3) := by decide +kernel
theorem dX7_carryOut_32 : decode cX7_carryOut 32 = .ok (.iconst 0, 1) := by decide +kernel
theorem dX7_carryOut_33 : decode cX7_carryOut 33 = .ok (.istore_n 1, 1) := by decide +kernel
theorem dX7_carryOut_34 : decode cX7_carryOut 34 = .ok (.iload_n 1, 1) := by decide +kernel
theorem dX7_carryOut_35 : decode cX7_carryOut 35 = .ok (.aload_n 0, 1) := by decide +kernel
theorem dX7_carryOut_36 : decode cX7_carryOut 36 = .ok (.getfield 131, 3) := by decide +kernel
theorem dX7_carryOut_39 : decode cX7_carryOut 39 = .ok (.if_icmp .ge 77, 3) := by decide +kernel
theorem dX7_carryOut_42 : decode cX7_carryOut 42 = .ok (.aload_n 0, 1) := by decide +kernel
theorem dX7_carryOut_43 : decode cX7_carryOut 43 = .ok (.getfield 163, 3) := by decide +kernel
theorem dX7_carryOut_46 : decode cX7_carryOut 46 = .ok (.ifCond .ne 70, 3) := by decide +kernel
theorem dX7_carryOut_49 : decode cX7_carryOut 49 = .ok (.aload_n 0, 1) := by decide +kernel
theorem dX7_carryOut_50 : decode cX7_carryOut 50 = .ok (.iload_n 1, 1) := by decide +kernel
theorem dX7_carryOut_51 : decode cX7_carryOut 51 = .ok (.invokevirtual 166, 3) := by decide +kernel
theorem dX7_carryOut_54 : decode cX7_carryOut 54 = .ok (.istore_n 2, 1) := by decide +kernel
theorem dX7_carryOut_55 : decode cX7_carryOut 55 = .ok (.aload_n 0, 1) := by decide +kernel
theorem dX7_carryOut_56 : decode cX7_carryOut 56 = .ok (.iload_n 2, 1) := by decide +kernel
theorem dX7_carryOut_57 : decode cX7_carryOut 57 = .ok (.ifCond .ge 7, 3) := by decide +kernel
theorem dX7_carryOut_60 : decode cX7_carryOut 60 = .ok (.iconst 1, 1) := by decide +kernel
theorem dX7_carryOut_61 : decode cX7_carryOut 61 = .ok (.goto 4, 3) := by decide +kernel
theorem dX7_carryOut_64 : decode cX7_carryOut 64 = .ok (.iconst 0, 1) := by decide +kernel
theorem dX7_carryOut_65 : decode cX7_carryOut 65 = .ok (.putfield 163, 3) := by decide +kernel
theorem dX7_carryOut_68 : decode cX7_carryOut 68 = .ok (.aload_n 0, 1) := by decide +kernel
theorem dX7_carryOut_69 : decode cX7_carryOut 69 = .ok (.getfield 25, 3) := by decide +kernel
theorem dX7_carryOut_72 : decode cX7_carryOut 72 = .ok (.iconst 0, 1) := by decide +kernel
theorem dX7_carryOut_73 : decode cX7_carryOut 73 = .ok (.iload_n 2, 1) := by decide +kernel
theorem dX7_carryOut_74 : decode cX7_carryOut 74 = .ok (.iastore, 1) := by decide +kernel
theorem dX7_carryOut_75 : decode cX7_carryOut 75 = .ok (.aload_n 0, 1) := by decide +kernel
theorem dX7_carryOut_76 : decode cX7_carryOut 76 = .ok (.getfield 25, 3) := by decide +kernel
theorem dX7_carryOut_79 : decode cX7_carryOut 79 = .ok (.iconst 1, 1) := by decide +kernel
theorem dX7_carryOut_80 : decode cX7_carryOut 80 = .ok (.iload_n 1, 1) := by decide +kernel
theorem dX7_carryOut_81 : decode cX7_carryOut 81 = .ok (.iastore, 1) := by decide +kernel
theorem dX7_carryOut_82 : decode cX7_carryOut 82 = .ok (.aload_n 0, 1) := by decide +kernel
theorem dX7_carryOut_83 : decode cX7_carryOut 83 = .ok (.getfield 25, 3) := by decide +kernel
theorem dX7_carryOut_86 : decode cX7_carryOut 86 = .ok (.iconst 2, 1) := by decide +kernel
theorem dX7_carryOut_87 : decode cX7_carryOut 87 = .ok (.aload_n 0, 1) := by decide +kernel
theorem dX7_carryOut_88 : decode cX7_carryOut 88 = .ok (.getfield 28, 3) := by decide +kernel
theorem dX7_carryOut_91 : decode cX7_carryOut 91 = .ok (.iconst 4, 1) := by decide +kernel
theorem dX7_carryOut_92 : decode cX7_carryOut 92 = .ok (.iload_n 1, 1) := by decide +kernel
theorem dX7_carryOut_93 : decode cX7_carryOut 93 = .ok (.imul, 1) := by decide +kernel
theorem dX7_carryOut_94 : decode cX7_carryOut 94 = .ok (.iconst 3, 1) := by decide +kernel
theorem dX7_carryOut_95 : decode cX7_carryOut 95 = .ok (.iadd, 1) := by decide +kernel
theorem dX7_carryOut_96 : decode cX7_carryOut 96 = .ok (.iaload, 1) := by decide +kernel
theorem dX7_carryOut_97 : decode cX7_carryOut 97 = .ok (.iastore, 1) := by decide +kernel
theorem dX7_carryOut_98 : decode cX7_carryOut 98 = .ok (.iload_n 1, 1) := by decide +kernel
theorem dX7_carryOut_99 : decode cX7_carryOut 99 = .ok (.aload_n 0, 1) := by decide +kernel
theorem dX7_carryOut_100 : decode cX7_carryOut 100 = .ok (.getfield 163, 3) := by decide +kernel
theorem dX7_carryOut_103 : decode cX7_carryOut 103 = .ok (.ifCond .eq 7, 3) := by decide +kernel
theorem dX7_carryOut_106 : decode cX7_carryOut 106 = .ok (.iconst 0, 1) := by decide +kernel
theorem dX7_carryOut_107 : decode cX7_carryOut 107 = .ok (.goto 4, 3) := by decide +kernel
theorem dX7_carryOut_110 : decode cX7_carryOut 110 = .ok (.iconst 1, 1) := by decide +kernel
theorem dX7_carryOut_111 : decode cX7_carryOut 111 = .ok (.iadd, 1) := by decide +kernel
theorem dX7_carryOut_112 : decode cX7_carryOut 112 = .ok (.istore_n 1, 1) := by decide +kernel
theorem dX7_carryOut_113 : decode cX7_carryOut 113 = .ok (.goto (-79), 3) := by decide +kernel
theorem dX7_carryOut_116 : decode cX7_carryOut 116 = .ok (.aload_n 0, 1) := by decide +kernel
theorem dX7_carryOut_117 : decode cX7_carryOut 117 = .ok (.iconst 0, 1) := by decide +kernel
theorem dX7_carryOut_118 : decode cX7_carryOut 118 = .ok (.putfield 31, 3) := by decide +kernel
theorem dX7_carryOut_121 : decode cX7_carryOut 121 = .ok (.iload_n 1, 1) := by decide +kernel
theorem dX7_carryOut_122 : decode cX7_carryOut 122 = .ok (.ireturn, 1) := by decide +kernel
set_option maxRecDepth 20000 in
theorem ggX7_why_X7_in : GoodIn wsX7_why wsX7_in := goodIn_r _ [6] (by decide +kernel) (by decide +kernel)
set_option maxRecDepth 20000 in
theorem gX7_why_X7_in : GoodIn wsX7_why (va_wsS RX7 39 yX7_in wsX7_in) := goodIn_app (goodIn_of _ (by decide +kernel)) ggX7_why_X7_in
theorem dX7_why_0 : decode cX7_why 0 = .ok (.iload_n 1, 1) := by decide +kernel
theorem dX7_why_1 : decode cX7_why 1 = .ok (.iconst 0, 1) := by decide +kernel
theorem dX7_why_2 : decode cX7_why 2 = .ok (.iconst 2, 1) := by decide +kernel
theorem dX7_why_3 : decode cX7_why 3 = .ok (.invokestatic 39, 3) := by decide +kernel
theorem dX7_why_6 : decode cX7_why 6 = .ok (.ifCond .ne 7, 3) := by decide +kernel
theorem dX7_why_9 : decode cX7_why 9 = .ok (.iconst (-1), 1) := by decide +kernel
theorem dX7_why_10 : decode cX7_why 10 = .ok (.goto 21, 3) := by decide +kernel
theorem dX7_why_13 : decode cX7_why 13 = .ok (.aload_n 0, 1) := by decide +kernel
theorem dX7_why_14 : decode cX7_why 14 = .ok (.getfield 163, 3) := by decide +kernel
theorem dX7_why_17 : decode cX7_why 17 = .ok (.ifCond .eq 12, 3) := by decide +kernel
theorem dX7_why_20 : decode cX7_why 20 = .ok (.aload_n 0, 1) := by decide +kernel
theorem dX7_why_21 : decode cX7_why 21 = .ok (.getfield 25, 3) := by decide +kernel
theorem dX7_why_24 : decode cX7_why 24 = .ok (.iload_n 1, 1) := by decide +kernel
theorem dX7_why_25 : decode cX7_why 25 = .ok (.iaload, 1) := by decide +kernel
theorem dX7_why_26 : decode cX7_why 26 = .ok (.goto 5, 3) := by decide +kernel
theorem dX7_why_29 : decode cX7_why 29 = .ok (.bipush (-4), 2) := by decide +kernel
theorem dX7_why_31 : decode cX7_why 31 = .ok (.ireturn, 1) := by decide +kernel
set_option maxRecDepth 20000 in
theorem ggX7_row_X7_isInner : GoodIn wsX7_row wsX7_isInner := goodIn_r _ [6, 1, 7, 8, 5, 9, 30, 31, 32, 33, 34, 35, 36, 37, 38, 39, 40, 41, 42, 43] (by decide +kernel) (by decide +kernel)
set_option maxRecDepth 20000 in
theorem gX7_row_X7_isInner : GoodIn wsX7_row (wsV RX7 103 RX7 yX7_isInner wsX7_isInner) := goodIn_app (goodIn_of _ (by decide +kernel)) ggX7_row_X7_isInner
set_option maxRecDepth 20000 in
theorem ggX7_row_X7_isOuter : GoodIn wsX7_row wsX7_isOuter := goodIn_r _ [13, 1, 7, 8, 5, 9, 30, 31, 32, 33, 34, 35, 36, 37, 38, 39, 40, 41, 42, 43] (by decide +kernel) (by decide +kernel)
set_option maxRecDepth 20000 in
theorem gX7_row_X7_isOuter : GoodIn wsX7_row (wsV RX7 106 RX7 yX7_isOuter wsX7_isOuter) := goodIn_app (goodIn_of _ (by decide +kernel)) ggX7_row_X7_isOuter
set_option maxRecDepth 20000 in
theorem ggX7_row_X7_in : GoodIn wsX7_row wsX7_in := goodIn_r _ [9] (by decide +kernel) (by decide +kernel)
set_option maxRecDepth 20000 in
theorem gX7_row_X7_in : GoodIn wsX7_row (va_wsS RX7 39 yX7_in wsX7_in) := goodIn_app (goodIn_of _ (by decide +kernel)) ggX7_row_X7_in
set_option maxRecDepth 20000 in
theorem ggX7_row_X7_innerKey : GoodIn wsX7_row wsX7_innerKey := goodIn_r _ [17, 1, 30, 31, 32, 33, 34, 35, 36, 37, 38, 39, 40, 41, 42, 43] (by decide +kernel) (by decide +kernel)
set_option maxRecDepth 20000 in
theorem gX7_row_X7_innerKey : GoodIn wsX7_row (wsV RX7 43 RX7 yX7_innerKey wsX7_innerKey) := goodIn_app (goodIn_of _ (by decide +kernel)) ggX7_row_X7_innerKey
set_option maxRecDepth 20000 in
theorem ggX7_row_X7_isKnown : GoodIn wsX7_row wsX7_isKnown := goodIn_r _ [21, 1, 30, 31, 32, 33, 34, 35, 36, 37, 38, 39, 40, 41, 42, 43] (by decide +kernel) (by decide +kernel)
set_option maxRecDepth 20000 in
theorem gX7_row_X7_isKnown : GoodIn wsX7_row (wsV RX7 66 RX7 yX7_isKnown wsX7_isKnown) := goodIn_app (goodIn_of _ (by decide +kernel)) ggX7_row_X7_isKnown
set_option maxRecDepth 20000 in
theorem ggX7_row_X7_isFound : GoodIn wsX7_row wsX7_isFound := goodIn_r _ [25, 1, 14, 15, 16, 5, 17, 26, 27, 28, 29, 7, 8, 9, 30, 31, 32, 33, 34, 35, 36, 37, 38, 39, 40, 41, 42, 43] (by decide +kernel) (by decide +kernel)
set_option maxRecDepth 20000 in
theorem gX7_row_X7_isFound : GoodIn wsX7_row (wsV RX7 50 RX7 yX7_isFound wsX7_isFound) := goodIn_app (goodIn_of _ (by decide +kernel)) ggX7_row_X7_isFound
theorem dX7_row_0 : decode cX7_row 0 = .ok (.iload_n 1, 1) := by decide +kernel
theorem dX7_row_1 : decode cX7_row 1 = .ok (.ifCond .eq 14, 3) := by decide +kernel
theorem dX7_row_4 : decode cX7_row 4 = .ok (.aload_n 0, 1) := by decide +kernel
theorem dX7_row_5 : decode cX7_row 5 = .ok (.iload_n 2, 1) := by decide +kernel
theorem dX7_row_6 : decode cX7_row 6 = .ok (.invokevirtual 103, 3) := by decide +kernel
theorem dX7_row_9 : decode cX7_row 9 = .ok (.ifCond .ne 14, 3) := by decide +kernel
theorem dX7_row_12 : decode cX7_row 12 = .ok (.goto 20, 3) := by decide +kernel
theorem dX7_row_15 : decode cX7_row 15 = .ok (.aload_n 0, 1) := by decide +kernel
theorem dX7_row_16 : decode cX7_row 16 = .ok (.iload_n 2, 1) := by decide +kernel
theorem dX7_row_17 : decode cX7_row 17 = .ok (.invokevirtual 106, 3) := by decide +kernel
theorem dX7_row_20 : decode cX7_row 20 = .ok (.ifCond .eq 12, 3) := by decide +kernel
theorem dX7_row_23 : decode cX7_row 23 = .ok (.iload_n 3, 1) := by decide +kernel
theorem dX7_row_24 : decode cX7_row 24 = .ok (.iconst 0, 1) := by decide +kernel
theorem dX7_row_25 : decode cX7_row 25 = .ok (.iconst 2, 1) := by decide +kernel
theorem dX7_row_26 : decode cX7_row 26 = .ok (.invokestatic 39, 3) := by decide +kernel
theorem dX7_row_29 : decode cX7_row 29 = .ok (.ifCond .ne 5, 3) := by decide +kernel
theorem dX7_row_32 : decode cX7_row 32 = .ok (.iconst (-1), 1) := by decide +kernel
theorem dX7_row_33 : decode cX7_row 33 = .ok (.ireturn, 1) := by decide +kernel
theorem dX7_row_34 : decode cX7_row 34 = .ok (.iload_n 3, 1) := by decide +kernel
theorem dX7_row_35 : decode cX7_row 35 = .ok (.iconst 2, 1) := by decide +kernel
theorem dX7_row_36 : decode cX7_row 36 = .ok (.if_icmp .ge 26, 3) := by decide +kernel
theorem dX7_row_39 : decode cX7_row 39 = .ok (.aload_n 0, 1) := by decide +kernel
theorem dX7_row_40 : decode cX7_row 40 = .ok (.getfield 7, 3) := by decide +kernel
theorem dX7_row_43 : decode cX7_row 43 = .ok (.iload_n 1, 1) := by decide +kernel
theorem dX7_row_44 : decode cX7_row 44 = .ok (.ifCond .eq 8, 3) := by decide +kernel
theorem dX7_row_47 : decode cX7_row 47 = .ok (.bipush 17, 2) := by decide +kernel
theorem dX7_row_49 : decode cX7_row 49 = .ok (.goto 5, 3) := by decide +kernel
theorem dX7_row_52 : decode cX7_row 52 = .ok (.bipush 57, 2) := by decide +kernel
theorem dX7_row_54 : decode cX7_row 54 = .ok (.iconst 2, 1) := by decide +kernel
theorem dX7_row_55 : decode cX7_row 55 = .ok (.iload_n 2, 1) := by decide +kernel
theorem dX7_row_56 : decode cX7_row 56 = .ok (.imul, 1) := by decide +kernel
theorem dX7_row_57 : decode cX7_row 57 = .ok (.iadd, 1) := by decide +kernel
theorem dX7_row_58 : decode cX7_row 58 = .ok (.iload_n 3, 1) := by decide +kernel
theorem dX7_row_59 : decode cX7_row 59 = .ok (.iadd, 1) := by decide +kernel
theorem dX7_row_60 : decode cX7_row 60 = .ok (.iaload, 1) := by decide +kernel
theorem dX7_row_61 : decode cX7_row 61 = .ok (.ireturn, 1) := by decide +kernel
theorem dX7_row_62 : decode cX7_row 62 = .ok (.iload_n 1, 1) := by decide +kernel
theorem dX7_row_63 : decode cX7_row 63 = .ok (.ifCond .eq 36, 3) := by decide +kernel
theorem dX7_row_66 : decode cX7_row 66 = .ok (.aload_n 0, 1) := by decide +kernel
theorem dX7_row_67 : decode cX7_row 67 = .ok (.aload_n 0, 1) := by decide +kernel
theorem dX7_row_68 : decode cX7_row 68 = .ok (.iload_n 2, 1) := by decide +kernel
theorem dX7_row_69 : decode cX7_row 69 = .ok (.invokevirtual 43, 3) := by decide +kernel
theorem dX7_row_72 : decode cX7_row 72 = .ok (.invokevirtual 66, 3) := by decide +kernel
theorem dX7_row_75 : decode cX7_row 75 = .ok (.ifCond .eq 20, 3) := by decide +kernel
theorem dX7_row_78 : decode cX7_row 78 = .ok (.aload_n 0, 1) := by decide +kernel
theorem dX7_row_79 : decode cX7_row 79 = .ok (.iload_n 2, 1) := by decide +kernel
theorem dX7_row_80 : decode cX7_row 80 = .ok (.aload_n 0, 1) := by decide +kernel
theorem dX7_row_81 : decode cX7_row 81 = .ok (.iload_n 2, 1) := by decide +kernel
theorem dX7_row_82 : decode cX7_row 82 = .ok (.invokevirtual 43, 3) := by decide +kernel
theorem dX7_row_85 : decode cX7_row 85 = .ok (.invokevirtual 50, 3) := by decide +kernel
theorem dX7_row_88 : decode cX7_row 88 = .ok (.ifCond .eq 7, 3) := by decide +kernel
theorem dX7_row_91 : decode cX7_row 91 = .ok (.iconst 1, 1) := by decide +kernel
theorem dX7_row_92 : decode cX7_row 92 = .ok (.goto 23, 3) := by decide +kernel
theorem dX7_row_95 : decode cX7_row 95 = .ok (.iconst 0, 1) := by decide +kernel
theorem dX7_row_96 : decode cX7_row 96 = .ok (.goto 19, 3) := by decide +kernel
theorem dX7_row_99 : decode cX7_row 99 = .ok (.iload_n 2, 1) := by decide +kernel
theorem dX7_row_100 : decode cX7_row 100 = .ok (.aload_n 0, 1) := by decide +kernel
theorem dX7_row_101 : decode cX7_row 101 = .ok (.getfield 7, 3) := by decide +kernel
theorem dX7_row_104 : decode cX7_row 104 = .ok (.bipush 7, 2) := by decide +kernel
theorem dX7_row_106 : decode cX7_row 106 = .ok (.iaload, 1) := by decide +kernel
theorem dX7_row_107 : decode cX7_row 107 = .ok (.if_icmp .ge 7, 3) := by decide +kernel
theorem dX7_row_110 : decode cX7_row 110 = .ok (.iconst 1, 1) := by decide +kernel
theorem dX7_row_111 : decode cX7_row 111 = .ok (.goto 4, 3) := by decide +kernel
theorem dX7_row_114 : decode cX7_row 114 = .ok (.iconst 0, 1) := by decide +kernel
theorem dX7_row_115 : decode cX7_row 115 = .ok (.istore 4, 2) := by decide +kernel
theorem dX7_row_117 : decode cX7_row 117 = .ok (.iload 4, 2) := by decide +kernel
theorem dX7_row_119 : decode cX7_row 119 = .ok (.ifCond .eq 7, 3) := by decide +kernel
theorem dX7_row_122 : decode cX7_row 122 = .ok (.iconst 1, 1) := by decide +kernel
theorem dX7_row_123 : decode cX7_row 123 = .ok (.goto 4, 3) := by decide +kernel
theorem dX7_row_126 : decode cX7_row 126 = .ok (.iconst 0, 1) := by decide +kernel
theorem dX7_row_127 : decode cX7_row 127 = .ok (.ireturn, 1) := by decide +kernel
set_option maxRecDepth 20000 in
theorem ggX7_answer_X7_in : GoodIn wsX7_answer wsX7_in := goodIn_r _ [4] (by decide +kernel) (by decide +kernel)
set_option maxRecDepth 20000 in
theorem gX7_answer_X7_in : GoodIn wsX7_answer (va_wsS RX7 39 yX7_in wsX7_in) := goodIn_app (goodIn_of _ (by decide +kernel)) ggX7_answer_X7_in
set_option maxRecDepth 20000 in
theorem ggX7_answer_X7_tell : GoodIn wsX7_answer wsX7_tell := goodIn_r _ [8, 9, 10, 11, 3, 12, 13, 14, 15, 16, 17, 18, 19, 20, 21, 22, 23, 24, 25, 1, 2, 4, 26, 27, 28, 29, 30, 31, 32, 33, 34, 35, 36, 37, 38, 39, 40, 41, 42, 43, 44, 45, 46, 47, 48, 49, 50, 51] (by decide +kernel) (by decide +kernel)
set_option maxRecDepth 20000 in
theorem gX7_answer_X7_tell : GoodIn wsX7_answer (wsV RX7 169 RX7 yX7_tell wsX7_tell) := goodIn_app (goodIn_of _ (by decide +kernel)) ggX7_answer_X7_tell
theorem dX7_answer_0 : decode cX7_answer 0 = .ok (.iload_n 1, 1) := by decide +kernel
theorem dX7_answer_1 : decode cX7_answer 1 = .ok (.iconst 0, 1) := by decide +kernel
theorem dX7_answer_2 : decode cX7_answer 2 = .ok (.bipush 9, 2) := by decide +kernel
theorem dX7_answer_4 : decode cX7_answer 4 = .ok (.invokestatic 39, 3) := by decide +kernel
theorem dX7_answer_7 : decode cX7_answer 7 = .ok (.ifCond .eq 21, 3) := by decide +kernel
theorem dX7_answer_10 : decode cX7_answer 10 = .ok (.iload_n 2, 1) := by decide +kernel
theorem dX7_answer_11 : decode cX7_answer 11 = .ok (.iconst 0, 1) := by decide +kernel
theorem dX7_answer_12 : decode cX7_answer 12 = .ok (.iconst 3, 1) := by decide +kernel
theorem dX7_answer_13 : decode cX7_answer 13 = .ok (.invokestatic 39, 3) := by decide +kernel
theorem dX7_answer_16 : decode cX7_answer 16 = .ok (.ifCond .eq 12, 3) := by decide +kernel
theorem dX7_answer_19 : decode cX7_answer 19 = .ok (.aload_n 0, 1) := by decide +kernel
theorem dX7_answer_20 : decode cX7_answer 20 = .ok (.iload_n 1, 1) := by decide +kernel
theorem dX7_answer_21 : decode cX7_answer 21 = .ok (.iload_n 2, 1) := by decide +kernel
theorem dX7_answer_22 : decode cX7_answer 22 = .ok (.invokevirtual 169, 3) := by decide +kernel
theorem dX7_answer_25 : decode cX7_answer 25 = .ok (.goto 4, 3) := by decide +kernel
theorem dX7_answer_28 : decode cX7_answer 28 = .ok (.iconst (-1), 1) := by decide +kernel
theorem dX7_answer_29 : decode cX7_answer 29 = .ok (.ireturn, 1) := by decide +kernel
set_option maxRecDepth 20000 in
theorem ggX7_remembered_X7_in : GoodIn wsX7_remembered wsX7_in := goodIn_r _ [5] (by decide +kernel) (by decide +kernel)
set_option maxRecDepth 20000 in
theorem gX7_remembered_X7_in : GoodIn wsX7_remembered (va_wsS RX7 39 yX7_in wsX7_in) := goodIn_app (goodIn_of _ (by decide +kernel)) ggX7_remembered_X7_in
set_option maxRecDepth 20000 in
theorem ggX7_remembered_X7_isKnown : GoodIn wsX7_remembered wsX7_isKnown := goodIn_r _ [9, 1, 50, 51, 52, 53, 54, 55, 56, 57, 58, 59, 60, 61, 62, 63] (by decide +kernel) (by decide +kernel)
set_option maxRecDepth 20000 in
theorem gX7_remembered_X7_isKnown : GoodIn wsX7_remembered (wsV RX7 66 RX7 yX7_isKnown wsX7_isKnown) := goodIn_app (goodIn_of _ (by decide +kernel)) ggX7_remembered_X7_isKnown
set_option maxRecDepth 20000 in
theorem ggX7_remembered_X7_orderOf : GoodIn wsX7_remembered wsX7_orderOf := goodIn_r _ [13, 6, 7, 8, 4, 9, 1, 14, 15, 16, 17, 50, 51, 52, 53, 54, 55, 56, 57, 58, 59, 60, 61, 62, 63] (by decide +kernel) (by decide +kernel)
set_option maxRecDepth 20000 in
theorem gX7_remembered_X7_orderOf : GoodIn wsX7_remembered (wsV RX7 172 RX7 yX7_orderOf wsX7_orderOf) := goodIn_app (goodIn_of _ (by decide +kernel)) ggX7_remembered_X7_orderOf
set_option maxRecDepth 20000 in
theorem ggX7_remembered_X7_tell : GoodIn wsX7_remembered wsX7_tell := goodIn_r _ [21, 22, 23, 24, 4, 25, 1, 26, 27, 28, 29, 30, 31, 32, 33, 34, 35, 36, 37, 2, 3, 5, 38, 39, 40, 41, 42, 43, 44, 45, 46, 47, 48, 49, 50, 51, 52, 53, 54, 55, 56, 57, 58, 59, 60, 61, 62, 63] (by decide +kernel) (by decide +kernel)
set_option maxRecDepth 20000 in
theorem gX7_remembered_X7_tell : GoodIn wsX7_remembered (wsV RX7 169 RX7 yX7_tell wsX7_tell) := goodIn_app (goodIn_of _ (by decide +kernel)) ggX7_remembered_X7_tell
theorem dX7_remembered_0 : decode cX7_remembered 0 = .ok (.iload_n 1, 1) := by decide +kernel
theorem dX7_remembered_1 : decode cX7_remembered 1 = .ok (.iconst 0, 1) := by decide +kernel
theorem dX7_remembered_2 : decode cX7_remembered 2 = .ok (.bipush 9, 2) := by decide +kernel
theorem dX7_remembered_4 : decode cX7_remembered 4 = .ok (.invokestatic 39, 3) := by decide +kernel
theorem dX7_remembered_7 : decode cX7_remembered 7 = .ok (.ifCond .eq 12, 3) := by decide +kernel
theorem dX7_remembered_10 : decode cX7_remembered 10 = .ok (.iload_n 2, 1) := by decide +kernel
theorem dX7_remembered_11 : decode cX7_remembered 11 = .ok (.iconst 0, 1) := by decide +kernel
theorem dX7_remembered_12 : decode cX7_remembered 12 = .ok (.iconst 5, 1) := by decide +kernel
theorem dX7_remembered_13 : decode cX7_remembered 13 = .ok (.invokestatic 39, 3) := by decide +kernel
theorem dX7_remembered_16 : decode cX7_remembered 16 = .ok (.ifCond .ne 5, 3) := by decide +kernel
theorem dX7_remembered_19 : decode cX7_remembered 19 = .ok (.iconst (-1), 1) := by decide +kernel
theorem dX7_remembered_20 : decode cX7_remembered 20 = .ok (.ireturn, 1) := by decide +kernel
theorem dX7_remembered_21 : decode cX7_remembered 21 = .ok (.aload_n 0, 1) := by decide +kernel
theorem dX7_remembered_22 : decode cX7_remembered 22 = .ok (.iload_n 1, 1) := by decide +kernel
theorem dX7_remembered_23 : decode cX7_remembered 23 = .ok (.invokevirtual 66, 3) := by decide +kernel
theorem dX7_remembered_26 : decode cX7_remembered 26 = .ok (.ifCond .ne 6, 3) := by decide +kernel
theorem dX7_remembered_29 : decode cX7_remembered 29 = .ok (.bipush (-4), 2) := by decide +kernel
theorem dX7_remembered_31 : decode cX7_remembered 31 = .ok (.ireturn, 1) := by decide +kernel
theorem dX7_remembered_32 : decode cX7_remembered 32 = .ok (.iload_n 2, 1) := by decide +kernel
theorem dX7_remembered_33 : decode cX7_remembered 33 = .ok (.iconst 4, 1) := by decide +kernel
theorem dX7_remembered_34 : decode cX7_remembered 34 = .ok (.if_icmp .ne 15, 3) := by decide +kernel
theorem dX7_remembered_37 : decode cX7_remembered 37 = .ok (.aload_n 0, 1) := by decide +kernel
theorem dX7_remembered_38 : decode cX7_remembered 38 = .ok (.getfield 7, 3) := by decide +kernel
theorem dX7_remembered_41 : decode cX7_remembered 41 = .ok (.bipush 97, 2) := by decide +kernel
theorem dX7_remembered_43 : decode cX7_remembered 43 = .ok (.iload_n 1, 1) := by decide +kernel
theorem dX7_remembered_44 : decode cX7_remembered 44 = .ok (.iadd, 1) := by decide +kernel
theorem dX7_remembered_45 : decode cX7_remembered 45 = .ok (.iaload, 1) := by decide +kernel
theorem dX7_remembered_46 : decode cX7_remembered 46 = .ok (.goto 22, 3) := by decide +kernel
theorem dX7_remembered_49 : decode cX7_remembered 49 = .ok (.iload_n 2, 1) := by decide +kernel
theorem dX7_remembered_50 : decode cX7_remembered 50 = .ok (.iconst 5, 1) := by decide +kernel
theorem dX7_remembered_51 : decode cX7_remembered 51 = .ok (.if_icmp .ne 11, 3) := by decide +kernel
theorem dX7_remembered_54 : decode cX7_remembered 54 = .ok (.aload_n 0, 1) := by decide +kernel
theorem dX7_remembered_55 : decode cX7_remembered 55 = .ok (.iload_n 1, 1) := by decide +kernel
theorem dX7_remembered_56 : decode cX7_remembered 56 = .ok (.invokevirtual 172, 3) := by decide +kernel
theorem dX7_remembered_59 : decode cX7_remembered 59 = .ok (.goto 9, 3) := by decide +kernel
theorem dX7_remembered_62 : decode cX7_remembered 62 = .ok (.aload_n 0, 1) := by decide +kernel
theorem dX7_remembered_63 : decode cX7_remembered 63 = .ok (.iload_n 1, 1) := by decide +kernel
theorem dX7_remembered_64 : decode cX7_remembered 64 = .ok (.iload_n 2, 1) := by decide +kernel
theorem dX7_remembered_65 : decode cX7_remembered 65 = .ok (.invokevirtual 169, 3) := by decide +kernel
theorem dX7_remembered_68 : decode cX7_remembered 68 = .ok (.ireturn, 1) := by decide +kernel
set_option maxRecDepth 20000 in
theorem ggX7_count_X7_known : GoodIn wsX7_count wsX7_known := goodIn_r _ [8, 9, 10, 11, 7, 12, 1, 40, 41, 42, 43, 44, 45, 46, 47, 48, 49, 50, 51, 52, 53] (by decide +kernel) (by decide +kernel)
set_option maxRecDepth 20000 in
theorem gX7_count_X7_known : GoodIn wsX7_count (wsV RX7 109 RX7 yX7_known wsX7_known) := goodIn_app (goodIn_of _ (by decide +kernel)) ggX7_count_X7_known
set_option maxRecDepth 20000 in
theorem ggX7_count_X7_weights : GoodIn wsX7_count wsX7_weights := goodIn_r _ [16, 9, 10, 11, 7, 12, 1, 17, 18, 19, 20, 21, 22, 23, 24, 25, 26, 27, 28, 29, 30, 31, 32, 33, 34, 35, 36, 37, 38, 39, 40, 41, 42, 43, 44, 45, 46, 47, 48, 49, 50, 51, 52, 53] (by decide +kernel) (by decide +kernel)
set_option maxRecDepth 20000 in
theorem gX7_count_X7_weights : GoodIn wsX7_count (wsV RX7 76 RX7 yX7_weights wsX7_weights) := goodIn_app (goodIn_of _ (by decide +kernel)) ggX7_count_X7_weights
theorem dX7_count_0 : decode cX7_count 0 = .ok (.iload_n 1, 1) := by decide +kernel
theorem dX7_count_1 : decode cX7_count 1 = .ok (.tableswitch 152 0 19 #[95, 103, 110, 115, 120, 120, 120, 120, 120, 120, 120, 120, 120, 132, 132, 132, 132, 132, 142, 147], 95) := by decide +kernel
theorem dX7_count_96 : decode cX7_count 96 = .ok (.aload_n 0, 1) := by decide +kernel
theorem dX7_count_97 : decode cX7_count 97 = .ok (.getfield 7, 3) := by decide +kernel
theorem dX7_count_100 : decode cX7_count 100 = .ok (.bipush 6, 2) := by decide +kernel
theorem dX7_count_102 : decode cX7_count 102 = .ok (.iaload, 1) := by decide +kernel
theorem dX7_count_103 : decode cX7_count 103 = .ok (.ireturn, 1) := by decide +kernel
theorem dX7_count_104 : decode cX7_count 104 = .ok (.aload_n 0, 1) := by decide +kernel
theorem dX7_count_105 : decode cX7_count 105 = .ok (.getfield 7, 3) := by decide +kernel
theorem dX7_count_108 : decode cX7_count 108 = .ok (.iconst 5, 1) := by decide +kernel
theorem dX7_count_109 : decode cX7_count 109 = .ok (.iaload, 1) := by decide +kernel
theorem dX7_count_110 : decode cX7_count 110 = .ok (.ireturn, 1) := by decide +kernel
theorem dX7_count_111 : decode cX7_count 111 = .ok (.aload_n 0, 1) := by decide +kernel
theorem dX7_count_112 : decode cX7_count 112 = .ok (.invokevirtual 109, 3) := by decide +kernel
theorem dX7_count_115 : decode cX7_count 115 = .ok (.ireturn, 1) := by decide +kernel
theorem dX7_count_116 : decode cX7_count 116 = .ok (.aload_n 0, 1) := by decide +kernel
theorem dX7_count_117 : decode cX7_count 117 = .ok (.invokevirtual 76, 3) := by decide +kernel
theorem dX7_count_120 : decode cX7_count 120 = .ok (.ireturn, 1) := by decide +kernel
theorem dX7_count_121 : decode cX7_count 121 = .ok (.aload_n 0, 1) := by decide +kernel
theorem dX7_count_122 : decode cX7_count 122 = .ok (.getfield 7, 3) := by decide +kernel
theorem dX7_count_125 : decode cX7_count 125 = .ok (.bipush 7, 2) := by decide +kernel
theorem dX7_count_127 : decode cX7_count 127 = .ok (.iload_n 1, 1) := by decide +kernel
theorem dX7_count_128 : decode cX7_count 128 = .ok (.iadd, 1) := by decide +kernel
theorem dX7_count_129 : decode cX7_count 129 = .ok (.iconst 4, 1) := by decide +kernel
theorem dX7_count_130 : decode cX7_count 130 = .ok (.isub, 1) := by decide +kernel
theorem dX7_count_131 : decode cX7_count 131 = .ok (.iaload, 1) := by decide +kernel
theorem dX7_count_132 : decode cX7_count 132 = .ok (.ireturn, 1) := by decide +kernel
theorem dX7_count_133 : decode cX7_count 133 = .ok (.aload_n 0, 1) := by decide +kernel
theorem dX7_count_134 : decode cX7_count 134 = .ok (.getfield 7, 3) := by decide +kernel
theorem dX7_count_137 : decode cX7_count 137 = .ok (.iload_n 1, 1) := by decide +kernel
theorem dX7_count_138 : decode cX7_count 138 = .ok (.bipush 13, 2) := by decide +kernel
theorem dX7_count_140 : decode cX7_count 140 = .ok (.isub, 1) := by decide +kernel
theorem dX7_count_141 : decode cX7_count 141 = .ok (.iaload, 1) := by decide +kernel
theorem dX7_count_142 : decode cX7_count 142 = .ok (.ireturn, 1) := by decide +kernel
theorem dX7_count_143 : decode cX7_count 143 = .ok (.aload_n 0, 1) := by decide +kernel
theorem dX7_count_144 : decode cX7_count 144 = .ok (.getfield 122, 3) := by decide +kernel
theorem dX7_count_147 : decode cX7_count 147 = .ok (.ireturn, 1) := by decide +kernel
theorem dX7_count_148 : decode cX7_count 148 = .ok (.aload_n 0, 1) := by decide +kernel
theorem dX7_count_149 : decode cX7_count 149 = .ok (.getfield 35, 3) := by decide +kernel
theorem dX7_count_152 : decode cX7_count 152 = .ok (.ireturn, 1) := by decide +kernel
theorem dX7_count_153 : decode cX7_count 153 = .ok (.iconst (-1), 1) := by decide +kernel
theorem dX7_count_154 : decode cX7_count 154 = .ok (.ireturn, 1) := by decide +kernel
set_option maxRecDepth 20000 in
theorem ggX7_total_X7_in : GoodIn wsX7_total wsX7_in := goodIn_r _ [5] (by decide +kernel) (by decide +kernel)
set_option maxRecDepth 20000 in
theorem gX7_total_X7_in : GoodIn wsX7_total (va_wsS RX7 39 yX7_in wsX7_in) := goodIn_app (goodIn_of _ (by decide +kernel)) ggX7_total_X7_in
set_option maxRecDepth 20000 in
theorem ggX7_total_X7_sum : GoodIn wsX7_total wsX7_sum := goodIn_r _ [9, 1, 10, 11, 12, 4, 13, 14, 15, 16, 17, 18, 19, 20, 21, 2, 3, 5, 22, 23, 24, 25, 26, 27, 28, 29, 30, 31, 32, 33, 34, 35] (by decide +kernel) (by decide +kernel)
set_option maxRecDepth 20000 in
theorem gX7_total_X7_sum : GoodIn wsX7_total (wsV RX7 60 RX7 yX7_sum wsX7_sum) := goodIn_app (goodIn_of _ (by decide +kernel)) ggX7_total_X7_sum
theorem dX7_total_0 : decode cX7_total 0 = .ok (.iload_n 1, 1) := by decide +kernel
theorem dX7_total_1 : decode cX7_total 1 = .ok (.iconst 0, 1) := by decide +kernel
theorem dX7_total_2 : decode cX7_total 2 = .ok (.iconst 1, 1) := by decide +kernel
theorem dX7_total_3 : decode cX7_total 3 = .ok (.invokestatic 39, 3) := by decide +kernel
theorem dX7_total_6 : decode cX7_total 6 = .ok (.ifCond .ne 5, 3) := by decide +kernel
theorem dX7_total_9 : decode cX7_total 9 = .ok (.iconst (-1), 1) := by decide +kernel
theorem dX7_total_10 : decode cX7_total 10 = .ok (.ireturn, 1) := by decide +kernel
theorem dX7_total_11 : decode cX7_total 11 = .ok (.iconst 0, 1) := by decide +kernel
theorem dX7_total_12 : decode cX7_total 12 = .ok (.istore_n 2, 1) := by decide +kernel
theorem dX7_total_13 : decode cX7_total 13 = .ok (.iconst 0, 1) := by decide +kernel
theorem dX7_total_14 : decode cX7_total 14 = .ok (.istore_n 3, 1) := by decide +kernel
theorem dX7_total_15 : decode cX7_total 15 = .ok (.iload_n 3, 1) := by decide +kernel
theorem dX7_total_16 : decode cX7_total 16 = .ok (.aload_n 0, 1) := by decide +kernel
theorem dX7_total_17 : decode cX7_total 17 = .ok (.getfield 7, 3) := by decide +kernel
theorem dX7_total_20 : decode cX7_total 20 = .ok (.bipush 6, 2) := by decide +kernel
theorem dX7_total_22 : decode cX7_total 22 = .ok (.iaload, 1) := by decide +kernel
theorem dX7_total_23 : decode cX7_total 23 = .ok (.if_icmp .ge 41, 3) := by decide +kernel
theorem dX7_total_26 : decode cX7_total 26 = .ok (.iload_n 2, 1) := by decide +kernel
theorem dX7_total_27 : decode cX7_total 27 = .ok (.aload_n 0, 1) := by decide +kernel
theorem dX7_total_28 : decode cX7_total 28 = .ok (.getfield 7, 3) := by decide +kernel
theorem dX7_total_31 : decode cX7_total 31 = .ok (.bipush 57, 2) := by decide +kernel
theorem dX7_total_33 : decode cX7_total 33 = .ok (.iconst 2, 1) := by decide +kernel
theorem dX7_total_34 : decode cX7_total 34 = .ok (.iload_n 3, 1) := by decide +kernel
theorem dX7_total_35 : decode cX7_total 35 = .ok (.imul, 1) := by decide +kernel
theorem dX7_total_36 : decode cX7_total 36 = .ok (.iadd, 1) := by decide +kernel
theorem dX7_total_37 : decode cX7_total 37 = .ok (.iconst 1, 1) := by decide +kernel
theorem dX7_total_38 : decode cX7_total 38 = .ok (.iadd, 1) := by decide +kernel
theorem dX7_total_39 : decode cX7_total 39 = .ok (.iaload, 1) := by decide +kernel
theorem dX7_total_40 : decode cX7_total 40 = .ok (.aload_n 0, 1) := by decide +kernel
theorem dX7_total_41 : decode cX7_total 41 = .ok (.aload_n 0, 1) := by decide +kernel
theorem dX7_total_42 : decode cX7_total 42 = .ok (.getfield 7, 3) := by decide +kernel
theorem dX7_total_45 : decode cX7_total 45 = .ok (.bipush 57, 2) := by decide +kernel
theorem dX7_total_47 : decode cX7_total 47 = .ok (.iconst 2, 1) := by decide +kernel
theorem dX7_total_48 : decode cX7_total 48 = .ok (.iload_n 3, 1) := by decide +kernel
theorem dX7_total_49 : decode cX7_total 49 = .ok (.imul, 1) := by decide +kernel
theorem dX7_total_50 : decode cX7_total 50 = .ok (.iadd, 1) := by decide +kernel
theorem dX7_total_51 : decode cX7_total 51 = .ok (.iaload, 1) := by decide +kernel
theorem dX7_total_52 : decode cX7_total 52 = .ok (.invokevirtual 60, 3) := by decide +kernel
theorem dX7_total_55 : decode cX7_total 55 = .ok (.imul, 1) := by decide +kernel
theorem dX7_total_56 : decode cX7_total 56 = .ok (.iadd, 1) := by decide +kernel
theorem dX7_total_57 : decode cX7_total 57 = .ok (.istore_n 2, 1) := by decide +kernel
theorem dX7_total_58 : decode cX7_total 58 = .ok (.iinc 3 1, 3) := by decide +kernel
theorem dX7_total_61 : decode cX7_total 61 = .ok (.goto (-46), 3) := by decide +kernel
theorem dX7_total_64 : decode cX7_total 64 = .ok (.iload_n 2, 1) := by decide +kernel
theorem dX7_total_65 : decode cX7_total 65 = .ok (.ireturn, 1) := by decide +kernel
theorem dX7_rate_0 : decode cX7_rate 0 = .ok (.aload_n 0, 1) := by decide +kernel
theorem dX7_rate_1 : decode cX7_rate 1 = .ok (.getfield 7, 3) := by decide +kernel
theorem dX7_rate_4 : decode cX7_rate 4 = .ok (.bipush 9, 2) := by decide +kernel
theorem dX7_rate_6 : decode cX7_rate 6 = .ok (.iaload, 1) := by decide +kernel
theorem dX7_rate_7 : decode cX7_rate 7 = .ok (.i2d, 1) := by decide +kernel
theorem dX7_rate_8 : decode cX7_rate 8 = .ok (.dstore_n 1, 1) := by decide +kernel
theorem dX7_rate_9 : decode cX7_rate 9 = .ok (.aload_n 0, 1) := by decide +kernel
theorem dX7_rate_10 : decode cX7_rate 10 = .ok (.getfield 7, 3) := by decide +kernel
theorem dX7_rate_13 : decode cX7_rate 13 = .ok (.bipush 9, 2) := by decide +kernel
theorem dX7_rate_15 : decode cX7_rate 15 = .ok (.iaload, 1) := by decide +kernel
theorem dX7_rate_16 : decode cX7_rate 16 = .ok (.aload_n 0, 1) := by decide +kernel
theorem dX7_rate_17 : decode cX7_rate 17 = .ok (.getfield 7, 3) := by decide +kernel
theorem dX7_rate_20 : decode cX7_rate 20 = .ok (.bipush 10, 2) := by decide +kernel
theorem dX7_rate_22 : decode cX7_rate 22 = .ok (.iaload, 1) := by decide +kernel
theorem dX7_rate_23 : decode cX7_rate 23 = .ok (.iadd, 1) := by decide +kernel
theorem dX7_rate_24 : decode cX7_rate 24 = .ok (.istore_n 3, 1) := by decide +kernel
theorem dX7_rate_25 : decode cX7_rate 25 = .ok (.iload_n 3, 1) := by decide +kernel
theorem dX7_rate_26 : decode cX7_rate 26 = .ok (.ifCond .ne 7, 3) := by decide +kernel
theorem dX7_rate_29 : decode cX7_rate 29 = .ok (.dconst 0, 1) := by decide +kernel
theorem dX7_rate_30 : decode cX7_rate 30 = .ok (.goto 7, 3) := by decide +kernel
theorem dX7_rate_33 : decode cX7_rate 33 = .ok (.dload_n 1, 1) := by decide +kernel
theorem dX7_rate_34 : decode cX7_rate 34 = .ok (.iload_n 3, 1) := by decide +kernel
theorem dX7_rate_35 : decode cX7_rate 35 = .ok (.i2d, 1) := by decide +kernel
theorem dX7_rate_36 : decode cX7_rate 36 = .ok (.ddiv, 1) := by decide +kernel
theorem dX7_rate_37 : decode cX7_rate 37 = .ok (.dreturn, 1) := by decide +kernel
set_option maxRecDepth 20000 in
theorem ggX7_ifBound_X7_in : GoodIn wsX7_ifBound wsX7_in := goodIn_r _ [5] (by decide +kernel) (by decide +kernel)
set_option maxRecDepth 20000 in
theorem gX7_ifBound_X7_in : GoodIn wsX7_ifBound (va_wsS RX7 39 yX7_in wsX7_in) := goodIn_app (goodIn_of _ (by decide +kernel)) ggX7_ifBound_X7_in
set_option maxRecDepth 20000 in
theorem ggX7_ifBound_X7_putsAside : GoodIn wsX7_ifBound wsX7_putsAside := goodIn_r _ [9, 10, 1, 79, 80, 81, 82, 83, 84, 85, 86, 87, 88, 89, 90, 91, 92] (by decide +kernel) (by decide +kernel)
set_option maxRecDepth 20000 in
theorem gX7_ifBound_X7_putsAside : GoodIn wsX7_ifBound (wsV RX7 175 RX7 yX7_putsAside wsX7_putsAside) := goodIn_app (goodIn_of _ (by decide +kernel)) ggX7_ifBound_X7_putsAside
set_option maxRecDepth 20000 in
theorem ggX7_ifBound_X7_sets : GoodIn wsX7_ifBound wsX7_sets := goodIn_r _ [14, 1, 15, 16, 17, 4, 18, 19, 20, 21, 22, 23, 24, 25, 26, 27, 28, 29, 30, 31, 32, 33, 34, 35, 36, 37, 38, 39, 40, 41, 42, 43, 44, 45, 46, 47, 48, 49, 50, 51, 52, 53, 54, 2, 3, 5, 55, 56, 57, 58, 59, 60, 61, 62, 79, 80, 81, 82, 83, 84, 85, 86, 87, 88, 89, 90, 91, 92] (by decide +kernel) (by decide +kernel)
set_option maxRecDepth 20000 in
theorem gX7_ifBound_X7_sets : GoodIn wsX7_ifBound (wsV RX7 118 RX7 yX7_sets wsX7_sets) := goodIn_app (goodIn_of _ (by decide +kernel)) ggX7_ifBound_X7_sets
set_option maxRecDepth 20000 in
theorem ggX7_ifBound_X7_steps : GoodIn wsX7_ifBound wsX7_steps := goodIn_r _ [66, 1, 67, 68, 69, 4, 70, 23, 24, 25, 26, 35, 36, 37, 38, 39, 40, 41, 42, 43, 44, 45, 46, 47, 48, 49, 50, 51, 52, 53, 54, 2, 3, 5, 15, 16, 17, 18, 19, 20, 21, 22, 27, 28, 29, 30, 31, 32, 33, 34, 71, 72, 73, 74, 79, 80, 81, 82, 83, 84, 85, 86, 87, 88, 89, 90, 91, 92] (by decide +kernel) (by decide +kernel)
set_option maxRecDepth 20000 in
theorem gX7_ifBound_X7_steps : GoodIn wsX7_ifBound (wsV RX7 115 RX7 yX7_steps wsX7_steps) := goodIn_app (goodIn_of _ (by decide +kernel)) ggX7_ifBound_X7_steps
set_option maxRecDepth 20000 in
theorem ggX7_ifBound_X7_putsBack : GoodIn wsX7_ifBound wsX7_putsBack := goodIn_r _ [78, 1, 10, 79, 80, 81, 82, 83, 84, 85, 86, 87, 88, 89, 90, 91, 92] (by decide +kernel) (by decide +kernel)
set_option maxRecDepth 20000 in
theorem gX7_ifBound_X7_putsBack : GoodIn wsX7_ifBound (wsV RX7 178 RX7 yX7_putsBack wsX7_putsBack) := goodIn_app (goodIn_of _ (by decide +kernel)) ggX7_ifBound_X7_putsBack
theorem dX7_ifBound_0 : decode cX7_ifBound 0 = .ok (.iload_n 1, 1) := by decide +kernel
theorem dX7_ifBound_1 : decode cX7_ifBound 1 = .ok (.iconst 0, 1) := by decide +kernel
theorem dX7_ifBound_2 : decode cX7_ifBound 2 = .ok (.bipush 60, 2) := by decide +kernel
theorem dX7_ifBound_4 : decode cX7_ifBound 4 = .ok (.invokestatic 39, 3) := by decide +kernel
theorem dX7_ifBound_7 : decode cX7_ifBound 7 = .ok (.ifCond .eq 12, 3) := by decide +kernel
theorem dX7_ifBound_10 : decode cX7_ifBound 10 = .ok (.iload_n 2, 1) := by decide +kernel
theorem dX7_ifBound_11 : decode cX7_ifBound 11 = .ok (.iconst 0, 1) := by decide +kernel
theorem dX7_ifBound_12 : decode cX7_ifBound 12 = .ok (.iconst 3, 1) := by decide +kernel
theorem dX7_ifBound_13 : decode cX7_ifBound 13 = .ok (.invokestatic 39, 3) := by decide +kernel
theorem dX7_ifBound_16 : decode cX7_ifBound 16 = .ok (.ifCond .ne 5, 3) := by decide +kernel
theorem dX7_ifBound_19 : decode cX7_ifBound 19 = .ok (.iconst (-1), 1) := by decide +kernel
theorem dX7_ifBound_20 : decode cX7_ifBound 20 = .ok (.ireturn, 1) := by decide +kernel
theorem dX7_ifBound_21 : decode cX7_ifBound 21 = .ok (.aload_n 0, 1) := by decide +kernel
theorem dX7_ifBound_22 : decode cX7_ifBound 22 = .ok (.getfield 7, 3) := by decide +kernel
theorem dX7_ifBound_25 : decode cX7_ifBound 25 = .ok (.bipush 9, 2) := by decide +kernel
theorem dX7_ifBound_27 : decode cX7_ifBound 27 = .ok (.iaload, 1) := by decide +kernel
theorem dX7_ifBound_28 : decode cX7_ifBound 28 = .ok (.istore_n 3, 1) := by decide +kernel
theorem dX7_ifBound_29 : decode cX7_ifBound 29 = .ok (.aload_n 0, 1) := by decide +kernel
theorem dX7_ifBound_30 : decode cX7_ifBound 30 = .ok (.getfield 7, 3) := by decide +kernel
theorem dX7_ifBound_33 : decode cX7_ifBound 33 = .ok (.bipush 10, 2) := by decide +kernel
theorem dX7_ifBound_35 : decode cX7_ifBound 35 = .ok (.iaload, 1) := by decide +kernel
theorem dX7_ifBound_36 : decode cX7_ifBound 36 = .ok (.istore 4, 2) := by decide +kernel
theorem dX7_ifBound_38 : decode cX7_ifBound 38 = .ok (.aload_n 0, 1) := by decide +kernel
theorem dX7_ifBound_39 : decode cX7_ifBound 39 = .ok (.getfield 7, 3) := by decide +kernel
theorem dX7_ifBound_42 : decode cX7_ifBound 42 = .ok (.bipush 12, 2) := by decide +kernel
theorem dX7_ifBound_44 : decode cX7_ifBound 44 = .ok (.iaload, 1) := by decide +kernel
theorem dX7_ifBound_45 : decode cX7_ifBound 45 = .ok (.istore 5, 2) := by decide +kernel
theorem dX7_ifBound_47 : decode cX7_ifBound 47 = .ok (.aload_n 0, 1) := by decide +kernel
theorem dX7_ifBound_48 : decode cX7_ifBound 48 = .ok (.invokevirtual 175, 3) := by decide +kernel
theorem dX7_ifBound_51 : decode cX7_ifBound 51 = .ok (.aload_n 0, 1) := by decide +kernel
theorem dX7_ifBound_52 : decode cX7_ifBound 52 = .ok (.iconst 0, 1) := by decide +kernel
theorem dX7_ifBound_53 : decode cX7_ifBound 53 = .ok (.iload_n 1, 1) := by decide +kernel
theorem dX7_ifBound_54 : decode cX7_ifBound 54 = .ok (.invokevirtual 118, 3) := by decide +kernel
theorem dX7_ifBound_57 : decode cX7_ifBound 57 = .ok (.istore 6, 2) := by decide +kernel
theorem dX7_ifBound_59 : decode cX7_ifBound 59 = .ok (.aload_n 0, 1) := by decide +kernel
theorem dX7_ifBound_60 : decode cX7_ifBound 60 = .ok (.iload 6, 2) := by decide +kernel
theorem dX7_ifBound_62 : decode cX7_ifBound 62 = .ok (.ifCond .ge 8, 3) := by decide +kernel
theorem dX7_ifBound_65 : decode cX7_ifBound 65 = .ok (.iload 6, 2) := by decide +kernel
theorem dX7_ifBound_67 : decode cX7_ifBound 67 = .ok (.goto 5, 3) := by decide +kernel
theorem dX7_ifBound_70 : decode cX7_ifBound 70 = .ok (.bipush 20, 2) := by decide +kernel
theorem dX7_ifBound_72 : decode cX7_ifBound 72 = .ok (.invokevirtual 115, 3) := by decide +kernel
theorem dX7_ifBound_75 : decode cX7_ifBound 75 = .ok (.istore 7, 2) := by decide +kernel
theorem dX7_ifBound_77 : decode cX7_ifBound 77 = .ok (.iload_n 2, 1) := by decide +kernel
theorem dX7_ifBound_78 : decode cX7_ifBound 78 = .ok (.ifCond .ne 8, 3) := by decide +kernel
theorem dX7_ifBound_81 : decode cX7_ifBound 81 = .ok (.iload 7, 2) := by decide +kernel
theorem dX7_ifBound_83 : decode cX7_ifBound 83 = .ok (.goto 48, 3) := by decide +kernel
theorem dX7_ifBound_86 : decode cX7_ifBound 86 = .ok (.iload_n 2, 1) := by decide +kernel
theorem dX7_ifBound_87 : decode cX7_ifBound 87 = .ok (.iconst 1, 1) := by decide +kernel
theorem dX7_ifBound_88 : decode cX7_ifBound 88 = .ok (.if_icmp .ne 15, 3) := by decide +kernel
theorem dX7_ifBound_91 : decode cX7_ifBound 91 = .ok (.aload_n 0, 1) := by decide +kernel
theorem dX7_ifBound_92 : decode cX7_ifBound 92 = .ok (.getfield 7, 3) := by decide +kernel
theorem dX7_ifBound_95 : decode cX7_ifBound 95 = .ok (.bipush 9, 2) := by decide +kernel
theorem dX7_ifBound_97 : decode cX7_ifBound 97 = .ok (.iaload, 1) := by decide +kernel
theorem dX7_ifBound_98 : decode cX7_ifBound 98 = .ok (.iload_n 3, 1) := by decide +kernel
theorem dX7_ifBound_99 : decode cX7_ifBound 99 = .ok (.isub, 1) := by decide +kernel
theorem dX7_ifBound_100 : decode cX7_ifBound 100 = .ok (.goto 31, 3) := by decide +kernel
theorem dX7_ifBound_103 : decode cX7_ifBound 103 = .ok (.iload_n 2, 1) := by decide +kernel
theorem dX7_ifBound_104 : decode cX7_ifBound 104 = .ok (.iconst 2, 1) := by decide +kernel
theorem dX7_ifBound_105 : decode cX7_ifBound 105 = .ok (.if_icmp .ne 16, 3) := by decide +kernel
theorem dX7_ifBound_108 : decode cX7_ifBound 108 = .ok (.aload_n 0, 1) := by decide +kernel
theorem dX7_ifBound_109 : decode cX7_ifBound 109 = .ok (.getfield 7, 3) := by decide +kernel
theorem dX7_ifBound_112 : decode cX7_ifBound 112 = .ok (.bipush 10, 2) := by decide +kernel
theorem dX7_ifBound_114 : decode cX7_ifBound 114 = .ok (.iaload, 1) := by decide +kernel
theorem dX7_ifBound_115 : decode cX7_ifBound 115 = .ok (.iload 4, 2) := by decide +kernel
theorem dX7_ifBound_117 : decode cX7_ifBound 117 = .ok (.isub, 1) := by decide +kernel
theorem dX7_ifBound_118 : decode cX7_ifBound 118 = .ok (.goto 13, 3) := by decide +kernel
theorem dX7_ifBound_121 : decode cX7_ifBound 121 = .ok (.aload_n 0, 1) := by decide +kernel
theorem dX7_ifBound_122 : decode cX7_ifBound 122 = .ok (.getfield 7, 3) := by decide +kernel
theorem dX7_ifBound_125 : decode cX7_ifBound 125 = .ok (.bipush 12, 2) := by decide +kernel
theorem dX7_ifBound_127 : decode cX7_ifBound 127 = .ok (.iaload, 1) := by decide +kernel
theorem dX7_ifBound_128 : decode cX7_ifBound 128 = .ok (.iload 5, 2) := by decide +kernel
theorem dX7_ifBound_130 : decode cX7_ifBound 130 = .ok (.isub, 1) := by decide +kernel
theorem dX7_ifBound_131 : decode cX7_ifBound 131 = .ok (.istore 8, 2) := by decide +kernel
theorem dX7_ifBound_133 : decode cX7_ifBound 133 = .ok (.aload_n 0, 1) := by decide +kernel
theorem dX7_ifBound_134 : decode cX7_ifBound 134 = .ok (.invokevirtual 178, 3) := by decide +kernel
theorem dX7_ifBound_137 : decode cX7_ifBound 137 = .ok (.iload 8, 2) := by decide +kernel
theorem dX7_ifBound_139 : decode cX7_ifBound 139 = .ok (.ireturn, 1) := by decide +kernel
theorem dX7_swaps_0 : decode cX7_swaps 0 = .ok (.iconst 0, 1) := by decide +kernel
theorem dX7_swaps_1 : decode cX7_swaps 1 = .ok (.istore_n 3, 1) := by decide +kernel
theorem dX7_swaps_2 : decode cX7_swaps 2 = .ok (.iload_n 3, 1) := by decide +kernel
theorem dX7_swaps_3 : decode cX7_swaps 3 = .ok (.iconst 2, 1) := by decide +kernel
theorem dX7_swaps_4 : decode cX7_swaps 4 = .ok (.if_icmp .ge 65, 3) := by decide +kernel
theorem dX7_swaps_7 : decode cX7_swaps 7 = .ok (.aload_n 0, 1) := by decide +kernel
theorem dX7_swaps_8 : decode cX7_swaps 8 = .ok (.getfield 7, 3) := by decide +kernel
theorem dX7_swaps_11 : decode cX7_swaps 11 = .ok (.bipush 57, 2) := by decide +kernel
theorem dX7_swaps_13 : decode cX7_swaps 13 = .ok (.iconst 2, 1) := by decide +kernel
theorem dX7_swaps_14 : decode cX7_swaps 14 = .ok (.iload_n 1, 1) := by decide +kernel
theorem dX7_swaps_15 : decode cX7_swaps 15 = .ok (.imul, 1) := by decide +kernel
theorem dX7_swaps_16 : decode cX7_swaps 16 = .ok (.iadd, 1) := by decide +kernel
theorem dX7_swaps_17 : decode cX7_swaps 17 = .ok (.iload_n 3, 1) := by decide +kernel
theorem dX7_swaps_18 : decode cX7_swaps 18 = .ok (.iadd, 1) := by decide +kernel
theorem dX7_swaps_19 : decode cX7_swaps 19 = .ok (.iaload, 1) := by decide +kernel
theorem dX7_swaps_20 : decode cX7_swaps 20 = .ok (.istore 4, 2) := by decide +kernel
theorem dX7_swaps_22 : decode cX7_swaps 22 = .ok (.aload_n 0, 1) := by decide +kernel
theorem dX7_swaps_23 : decode cX7_swaps 23 = .ok (.getfield 7, 3) := by decide +kernel
theorem dX7_swaps_26 : decode cX7_swaps 26 = .ok (.bipush 57, 2) := by decide +kernel
theorem dX7_swaps_28 : decode cX7_swaps 28 = .ok (.iconst 2, 1) := by decide +kernel
theorem dX7_swaps_29 : decode cX7_swaps 29 = .ok (.iload_n 1, 1) := by decide +kernel
theorem dX7_swaps_30 : decode cX7_swaps 30 = .ok (.imul, 1) := by decide +kernel
theorem dX7_swaps_31 : decode cX7_swaps 31 = .ok (.iadd, 1) := by decide +kernel
theorem dX7_swaps_32 : decode cX7_swaps 32 = .ok (.iload_n 3, 1) := by decide +kernel
theorem dX7_swaps_33 : decode cX7_swaps 33 = .ok (.iadd, 1) := by decide +kernel
theorem dX7_swaps_34 : decode cX7_swaps 34 = .ok (.aload_n 0, 1) := by decide +kernel
theorem dX7_swaps_35 : decode cX7_swaps 35 = .ok (.getfield 7, 3) := by decide +kernel
theorem dX7_swaps_38 : decode cX7_swaps 38 = .ok (.bipush 57, 2) := by decide +kernel
theorem dX7_swaps_40 : decode cX7_swaps 40 = .ok (.iconst 2, 1) := by decide +kernel
theorem dX7_swaps_41 : decode cX7_swaps 41 = .ok (.iload_n 2, 1) := by decide +kernel
theorem dX7_swaps_42 : decode cX7_swaps 42 = .ok (.imul, 1) := by decide +kernel
theorem dX7_swaps_43 : decode cX7_swaps 43 = .ok (.iadd, 1) := by decide +kernel
theorem dX7_swaps_44 : decode cX7_swaps 44 = .ok (.iload_n 3, 1) := by decide +kernel
theorem dX7_swaps_45 : decode cX7_swaps 45 = .ok (.iadd, 1) := by decide +kernel
theorem dX7_swaps_46 : decode cX7_swaps 46 = .ok (.iaload, 1) := by decide +kernel
theorem dX7_swaps_47 : decode cX7_swaps 47 = .ok (.iastore, 1) := by decide +kernel
theorem dX7_swaps_48 : decode cX7_swaps 48 = .ok (.aload_n 0, 1) := by decide +kernel
theorem dX7_swaps_49 : decode cX7_swaps 49 = .ok (.getfield 7, 3) := by decide +kernel
theorem dX7_swaps_52 : decode cX7_swaps 52 = .ok (.bipush 57, 2) := by decide +kernel
theorem dX7_swaps_54 : decode cX7_swaps 54 = .ok (.iconst 2, 1) := by decide +kernel
theorem dX7_swaps_55 : decode cX7_swaps 55 = .ok (.iload_n 2, 1) := by decide +kernel
theorem dX7_swaps_56 : decode cX7_swaps 56 = .ok (.imul, 1) := by decide +kernel
theorem dX7_swaps_57 : decode cX7_swaps 57 = .ok (.iadd, 1) := by decide +kernel
theorem dX7_swaps_58 : decode cX7_swaps 58 = .ok (.iload_n 3, 1) := by decide +kernel
theorem dX7_swaps_59 : decode cX7_swaps 59 = .ok (.iadd, 1) := by decide +kernel
theorem dX7_swaps_60 : decode cX7_swaps 60 = .ok (.iload 4, 2) := by decide +kernel
theorem dX7_swaps_62 : decode cX7_swaps 62 = .ok (.iastore, 1) := by decide +kernel
theorem dX7_swaps_63 : decode cX7_swaps 63 = .ok (.iinc 3 1, 3) := by decide +kernel
theorem dX7_swaps_66 : decode cX7_swaps 66 = .ok (.goto (-64), 3) := by decide +kernel
theorem dX7_swaps_69 : decode cX7_swaps 69 = .ok (.return_, 1) := by decide +kernel
set_option maxRecDepth 20000 in
theorem ggX7_sorts_X7_swaps : GoodIn wsX7_sorts wsX7_swaps := goodIn_r _ [6, 1, 7, 8, 9, 10, 11, 12, 13, 14, 15, 16, 17, 18, 19, 20] (by decide +kernel) (by decide +kernel)
set_option maxRecDepth 20000 in
theorem gX7_sorts_X7_swaps : GoodIn wsX7_sorts (wsV RX7 181 RX7 yX7_swaps wsX7_swaps) := goodIn_app (goodIn_of _ (by decide +kernel)) ggX7_sorts_X7_swaps
theorem dX7_sorts_0 : decode cX7_sorts 0 = .ok (.aload_n 0, 1) := by decide +kernel
theorem dX7_sorts_1 : decode cX7_sorts 1 = .ok (.getfield 7, 3) := by decide +kernel
theorem dX7_sorts_4 : decode cX7_sorts 4 = .ok (.bipush 7, 2) := by decide +kernel
theorem dX7_sorts_6 : decode cX7_sorts 6 = .ok (.iaload, 1) := by decide +kernel
theorem dX7_sorts_7 : decode cX7_sorts 7 = .ok (.iconst 1, 1) := by decide +kernel
theorem dX7_sorts_8 : decode cX7_sorts 8 = .ok (.iadd, 1) := by decide +kernel
theorem dX7_sorts_9 : decode cX7_sorts 9 = .ok (.istore_n 1, 1) := by decide +kernel
theorem dX7_sorts_10 : decode cX7_sorts 10 = .ok (.iload_n 1, 1) := by decide +kernel
theorem dX7_sorts_11 : decode cX7_sorts 11 = .ok (.aload_n 0, 1) := by decide +kernel
theorem dX7_sorts_12 : decode cX7_sorts 12 = .ok (.getfield 7, 3) := by decide +kernel
theorem dX7_sorts_15 : decode cX7_sorts 15 = .ok (.bipush 6, 2) := by decide +kernel
theorem dX7_sorts_17 : decode cX7_sorts 17 = .ok (.iaload, 1) := by decide +kernel
theorem dX7_sorts_18 : decode cX7_sorts 18 = .ok (.if_icmp .ge 63, 3) := by decide +kernel
theorem dX7_sorts_21 : decode cX7_sorts 21 = .ok (.iload_n 1, 1) := by decide +kernel
theorem dX7_sorts_22 : decode cX7_sorts 22 = .ok (.istore_n 2, 1) := by decide +kernel
theorem dX7_sorts_23 : decode cX7_sorts 23 = .ok (.iload_n 2, 1) := by decide +kernel
theorem dX7_sorts_24 : decode cX7_sorts 24 = .ok (.aload_n 0, 1) := by decide +kernel
theorem dX7_sorts_25 : decode cX7_sorts 25 = .ok (.getfield 7, 3) := by decide +kernel
theorem dX7_sorts_28 : decode cX7_sorts 28 = .ok (.bipush 7, 2) := by decide +kernel
theorem dX7_sorts_30 : decode cX7_sorts 30 = .ok (.iaload, 1) := by decide +kernel
theorem dX7_sorts_31 : decode cX7_sorts 31 = .ok (.if_icmp .le 44, 3) := by decide +kernel
theorem dX7_sorts_34 : decode cX7_sorts 34 = .ok (.aload_n 0, 1) := by decide +kernel
theorem dX7_sorts_35 : decode cX7_sorts 35 = .ok (.getfield 7, 3) := by decide +kernel
theorem dX7_sorts_38 : decode cX7_sorts 38 = .ok (.bipush 57, 2) := by decide +kernel
theorem dX7_sorts_40 : decode cX7_sorts 40 = .ok (.iconst 2, 1) := by decide +kernel
theorem dX7_sorts_41 : decode cX7_sorts 41 = .ok (.iload_n 2, 1) := by decide +kernel
theorem dX7_sorts_42 : decode cX7_sorts 42 = .ok (.imul, 1) := by decide +kernel
theorem dX7_sorts_43 : decode cX7_sorts 43 = .ok (.iadd, 1) := by decide +kernel
theorem dX7_sorts_44 : decode cX7_sorts 44 = .ok (.iaload, 1) := by decide +kernel
theorem dX7_sorts_45 : decode cX7_sorts 45 = .ok (.aload_n 0, 1) := by decide +kernel
theorem dX7_sorts_46 : decode cX7_sorts 46 = .ok (.getfield 7, 3) := by decide +kernel
theorem dX7_sorts_49 : decode cX7_sorts 49 = .ok (.bipush 57, 2) := by decide +kernel
theorem dX7_sorts_51 : decode cX7_sorts 51 = .ok (.iconst 2, 1) := by decide +kernel
theorem dX7_sorts_52 : decode cX7_sorts 52 = .ok (.iload_n 2, 1) := by decide +kernel
theorem dX7_sorts_53 : decode cX7_sorts 53 = .ok (.imul, 1) := by decide +kernel
theorem dX7_sorts_54 : decode cX7_sorts 54 = .ok (.iadd, 1) := by decide +kernel
theorem dX7_sorts_55 : decode cX7_sorts 55 = .ok (.iconst 2, 1) := by decide +kernel
theorem dX7_sorts_56 : decode cX7_sorts 56 = .ok (.isub, 1) := by decide +kernel
theorem dX7_sorts_57 : decode cX7_sorts 57 = .ok (.iaload, 1) := by decide +kernel
theorem dX7_sorts_58 : decode cX7_sorts 58 = .ok (.if_icmp .ge 17, 3) := by decide +kernel
theorem dX7_sorts_61 : decode cX7_sorts 61 = .ok (.aload_n 0, 1) := by decide +kernel
theorem dX7_sorts_62 : decode cX7_sorts 62 = .ok (.iload_n 2, 1) := by decide +kernel
theorem dX7_sorts_63 : decode cX7_sorts 63 = .ok (.iload_n 2, 1) := by decide +kernel
theorem dX7_sorts_64 : decode cX7_sorts 64 = .ok (.iconst 1, 1) := by decide +kernel
theorem dX7_sorts_65 : decode cX7_sorts 65 = .ok (.isub, 1) := by decide +kernel
theorem dX7_sorts_66 : decode cX7_sorts 66 = .ok (.invokevirtual 181, 3) := by decide +kernel
theorem dX7_sorts_69 : decode cX7_sorts 69 = .ok (.iinc 2 (-1), 3) := by decide +kernel
theorem dX7_sorts_72 : decode cX7_sorts 72 = .ok (.goto (-49), 3) := by decide +kernel
theorem dX7_sorts_75 : decode cX7_sorts 75 = .ok (.iinc 1 1, 3) := by decide +kernel
theorem dX7_sorts_78 : decode cX7_sorts 78 = .ok (.goto (-68), 3) := by decide +kernel
theorem dX7_sorts_81 : decode cX7_sorts 81 = .ok (.return_, 1) := by decide +kernel
set_option maxRecDepth 20000 in
theorem ggX7_turns_X7_swaps : GoodIn wsX7_turns wsX7_swaps := goodIn_r _ [6, 1, 7, 8, 9, 10, 11, 12, 13, 14, 15, 16, 17, 18, 19, 20] (by decide +kernel) (by decide +kernel)
set_option maxRecDepth 20000 in
theorem gX7_turns_X7_swaps : GoodIn wsX7_turns (wsV RX7 181 RX7 yX7_swaps wsX7_swaps) := goodIn_app (goodIn_of _ (by decide +kernel)) ggX7_turns_X7_swaps
theorem dX7_turns_0 : decode cX7_turns 0 = .ok (.aload_n 0, 1) := by decide +kernel
theorem dX7_turns_1 : decode cX7_turns 1 = .ok (.getfield 7, 3) := by decide +kernel
theorem dX7_turns_4 : decode cX7_turns 4 = .ok (.bipush 7, 2) := by decide +kernel
theorem dX7_turns_6 : decode cX7_turns 6 = .ok (.iaload, 1) := by decide +kernel
theorem dX7_turns_7 : decode cX7_turns 7 = .ok (.istore_n 1, 1) := by decide +kernel
theorem dX7_turns_8 : decode cX7_turns 8 = .ok (.aload_n 0, 1) := by decide +kernel
theorem dX7_turns_9 : decode cX7_turns 9 = .ok (.getfield 7, 3) := by decide +kernel
theorem dX7_turns_12 : decode cX7_turns 12 = .ok (.bipush 6, 2) := by decide +kernel
theorem dX7_turns_14 : decode cX7_turns 14 = .ok (.iaload, 1) := by decide +kernel
theorem dX7_turns_15 : decode cX7_turns 15 = .ok (.iconst 1, 1) := by decide +kernel
theorem dX7_turns_16 : decode cX7_turns 16 = .ok (.isub, 1) := by decide +kernel
theorem dX7_turns_17 : decode cX7_turns 17 = .ok (.istore_n 2, 1) := by decide +kernel
theorem dX7_turns_18 : decode cX7_turns 18 = .ok (.iload_n 1, 1) := by decide +kernel
theorem dX7_turns_19 : decode cX7_turns 19 = .ok (.iload_n 2, 1) := by decide +kernel
theorem dX7_turns_20 : decode cX7_turns 20 = .ok (.if_icmp .ge 18, 3) := by decide +kernel
theorem dX7_turns_23 : decode cX7_turns 23 = .ok (.aload_n 0, 1) := by decide +kernel
theorem dX7_turns_24 : decode cX7_turns 24 = .ok (.iload_n 1, 1) := by decide +kernel
theorem dX7_turns_25 : decode cX7_turns 25 = .ok (.iload_n 2, 1) := by decide +kernel
theorem dX7_turns_26 : decode cX7_turns 26 = .ok (.invokevirtual 181, 3) := by decide +kernel
theorem dX7_turns_29 : decode cX7_turns 29 = .ok (.iinc 1 1, 3) := by decide +kernel
theorem dX7_turns_32 : decode cX7_turns 32 = .ok (.iinc 2 (-1), 3) := by decide +kernel
theorem dX7_turns_35 : decode cX7_turns 35 = .ok (.goto (-17), 3) := by decide +kernel
theorem dX7_turns_38 : decode cX7_turns 38 = .ok (.return_, 1) := by decide +kernel
set_option maxRecDepth 20000 in
theorem ggX7_ifOrdered_X7_in : GoodIn wsX7_ifOrdered wsX7_in := goodIn_r _ [4] (by decide +kernel) (by decide +kernel)
set_option maxRecDepth 20000 in
theorem gX7_ifOrdered_X7_in : GoodIn wsX7_ifOrdered (va_wsS RX7 39 yX7_in wsX7_in) := goodIn_app (goodIn_of _ (by decide +kernel)) ggX7_ifOrdered_X7_in
set_option maxRecDepth 20000 in
theorem ggX7_ifOrdered_X7_putsAside : GoodIn wsX7_ifOrdered wsX7_putsAside := goodIn_r _ [8, 9, 10, 79, 80, 81, 82, 83, 84, 85, 86, 87, 88, 89, 90, 91, 92] (by decide +kernel) (by decide +kernel)
set_option maxRecDepth 20000 in
theorem gX7_ifOrdered_X7_putsAside : GoodIn wsX7_ifOrdered (wsV RX7 175 RX7 yX7_putsAside wsX7_putsAside) := goodIn_app (goodIn_of _ (by decide +kernel)) ggX7_ifOrdered_X7_putsAside
set_option maxRecDepth 20000 in
theorem ggX7_ifOrdered_X7_sorts : GoodIn wsX7_ifOrdered wsX7_sorts := goodIn_r _ [14, 10, 15, 16, 17, 3, 18, 79, 80, 81, 82, 83, 84, 85, 86, 87, 88, 89, 90, 91, 92] (by decide +kernel) (by decide +kernel)
set_option maxRecDepth 20000 in
theorem gX7_ifOrdered_X7_sorts : GoodIn wsX7_ifOrdered (wsV RX7 184 RX7 yX7_sorts wsX7_sorts) := goodIn_app (goodIn_of _ (by decide +kernel)) ggX7_ifOrdered_X7_sorts
set_option maxRecDepth 20000 in
theorem ggX7_ifOrdered_X7_turns : GoodIn wsX7_ifOrdered wsX7_turns := goodIn_r _ [22, 10, 15, 16, 17, 3, 18, 79, 80, 81, 82, 83, 84, 85, 86, 87, 88, 89, 90, 91, 92] (by decide +kernel) (by decide +kernel)
set_option maxRecDepth 20000 in
theorem gX7_ifOrdered_X7_turns : GoodIn wsX7_ifOrdered (wsV RX7 187 RX7 yX7_turns wsX7_turns) := goodIn_app (goodIn_of _ (by decide +kernel)) ggX7_ifOrdered_X7_turns
set_option maxRecDepth 20000 in
theorem ggX7_ifOrdered_X7_steps : GoodIn wsX7_ifOrdered wsX7_steps := goodIn_r _ [26, 10, 27, 28, 29, 3, 30, 31, 32, 33, 34, 35, 36, 37, 38, 39, 40, 41, 42, 43, 44, 45, 46, 47, 48, 49, 50, 51, 52, 53, 54, 1, 2, 4, 55, 56, 57, 58, 59, 60, 61, 62, 63, 64, 65, 66, 67, 68, 69, 70, 71, 72, 73, 74, 79, 80, 81, 82, 83, 84, 85, 86, 87, 88, 89, 90, 91, 92] (by decide +kernel) (by decide +kernel)
set_option maxRecDepth 20000 in
theorem gX7_ifOrdered_X7_steps : GoodIn wsX7_ifOrdered (wsV RX7 115 RX7 yX7_steps wsX7_steps) := goodIn_app (goodIn_of _ (by decide +kernel)) ggX7_ifOrdered_X7_steps
set_option maxRecDepth 20000 in
theorem ggX7_ifOrdered_X7_putsBack : GoodIn wsX7_ifOrdered wsX7_putsBack := goodIn_r _ [78, 10, 9, 79, 80, 81, 82, 83, 84, 85, 86, 87, 88, 89, 90, 91, 92] (by decide +kernel) (by decide +kernel)
set_option maxRecDepth 20000 in
theorem gX7_ifOrdered_X7_putsBack : GoodIn wsX7_ifOrdered (wsV RX7 178 RX7 yX7_putsBack wsX7_putsBack) := goodIn_app (goodIn_of _ (by decide +kernel)) ggX7_ifOrdered_X7_putsBack
theorem dX7_ifOrdered_0 : decode cX7_ifOrdered 0 = .ok (.iload_n 1, 1) := by decide +kernel
theorem dX7_ifOrdered_1 : decode cX7_ifOrdered 1 = .ok (.iconst 0, 1) := by decide +kernel
theorem dX7_ifOrdered_2 : decode cX7_ifOrdered 2 = .ok (.iconst 2, 1) := by decide +kernel
theorem dX7_ifOrdered_3 : decode cX7_ifOrdered 3 = .ok (.invokestatic 39, 3) := by decide +kernel
theorem dX7_ifOrdered_6 : decode cX7_ifOrdered 6 = .ok (.ifCond .ne 5, 3) := by decide +kernel
theorem dX7_ifOrdered_9 : decode cX7_ifOrdered 9 = .ok (.iconst (-1), 1) := by decide +kernel
theorem dX7_ifOrdered_10 : decode cX7_ifOrdered 10 = .ok (.ireturn, 1) := by decide +kernel
theorem dX7_ifOrdered_11 : decode cX7_ifOrdered 11 = .ok (.aload_n 0, 1) := by decide +kernel
theorem dX7_ifOrdered_12 : decode cX7_ifOrdered 12 = .ok (.invokevirtual 175, 3) := by decide +kernel
theorem dX7_ifOrdered_15 : decode cX7_ifOrdered 15 = .ok (.iload_n 1, 1) := by decide +kernel
theorem dX7_ifOrdered_16 : decode cX7_ifOrdered 16 = .ok (.iconst 1, 1) := by decide +kernel
theorem dX7_ifOrdered_17 : decode cX7_ifOrdered 17 = .ok (.if_icmp .ne 7, 3) := by decide +kernel
theorem dX7_ifOrdered_20 : decode cX7_ifOrdered 20 = .ok (.aload_n 0, 1) := by decide +kernel
theorem dX7_ifOrdered_21 : decode cX7_ifOrdered 21 = .ok (.invokevirtual 184, 3) := by decide +kernel
theorem dX7_ifOrdered_24 : decode cX7_ifOrdered 24 = .ok (.iload_n 1, 1) := by decide +kernel
theorem dX7_ifOrdered_25 : decode cX7_ifOrdered 25 = .ok (.iconst 2, 1) := by decide +kernel
theorem dX7_ifOrdered_26 : decode cX7_ifOrdered 26 = .ok (.if_icmp .ne 7, 3) := by decide +kernel
theorem dX7_ifOrdered_29 : decode cX7_ifOrdered 29 = .ok (.aload_n 0, 1) := by decide +kernel
theorem dX7_ifOrdered_30 : decode cX7_ifOrdered 30 = .ok (.invokevirtual 187, 3) := by decide +kernel
theorem dX7_ifOrdered_33 : decode cX7_ifOrdered 33 = .ok (.aload_n 0, 1) := by decide +kernel
theorem dX7_ifOrdered_34 : decode cX7_ifOrdered 34 = .ok (.bipush 20, 2) := by decide +kernel
theorem dX7_ifOrdered_36 : decode cX7_ifOrdered 36 = .ok (.invokevirtual 115, 3) := by decide +kernel
theorem dX7_ifOrdered_39 : decode cX7_ifOrdered 39 = .ok (.istore_n 2, 1) := by decide +kernel
theorem dX7_ifOrdered_40 : decode cX7_ifOrdered 40 = .ok (.aload_n 0, 1) := by decide +kernel
theorem dX7_ifOrdered_41 : decode cX7_ifOrdered 41 = .ok (.invokevirtual 178, 3) := by decide +kernel
theorem dX7_ifOrdered_44 : decode cX7_ifOrdered 44 = .ok (.iload_n 2, 1) := by decide +kernel
theorem dX7_ifOrdered_45 : decode cX7_ifOrdered 45 = .ok (.ireturn, 1) := by decide +kernel
set_option maxRecDepth 20000 in
theorem ggX7_leastBound_X7_ifBound : GoodIn wsX7_leastBound wsX7_ifBound := goodIn_r _ [5, 6, 7, 8, 4, 9, 10, 11, 12, 13, 14, 15, 16, 17, 18, 19, 20, 21, 22, 23, 24, 25, 26, 27, 28, 29, 30, 31, 32, 33, 34, 35, 36, 37, 38, 39, 40, 41, 42, 43, 44, 45, 46, 47, 48, 49, 50, 51, 52, 53, 54, 55, 56, 57, 58, 59, 60, 61, 62, 63, 64, 65, 66, 67, 68, 69, 70, 71, 72, 73, 74, 75, 76, 77, 78, 79, 80, 81, 82, 83, 84, 85, 86, 87, 88, 89, 90, 91, 92, 93, 94, 95, 96] (by decide +kernel) (by decide +kernel)
set_option maxRecDepth 20000 in
theorem gX7_leastBound_X7_ifBound : GoodIn wsX7_leastBound (wsV RX7 190 RX7 yX7_ifBound wsX7_ifBound) := goodIn_app (goodIn_of _ (by decide +kernel)) ggX7_leastBound_X7_ifBound
theorem dX7_leastBound_0 : decode cX7_leastBound 0 = .ok (.iconst 0, 1) := by decide +kernel
theorem dX7_leastBound_1 : decode cX7_leastBound 1 = .ok (.istore_n 1, 1) := by decide +kernel
theorem dX7_leastBound_2 : decode cX7_leastBound 2 = .ok (.aload_n 0, 1) := by decide +kernel
theorem dX7_leastBound_3 : decode cX7_leastBound 3 = .ok (.iconst 0, 1) := by decide +kernel
theorem dX7_leastBound_4 : decode cX7_leastBound 4 = .ok (.iconst 0, 1) := by decide +kernel
theorem dX7_leastBound_5 : decode cX7_leastBound 5 = .ok (.invokevirtual 190, 3) := by decide +kernel
theorem dX7_leastBound_8 : decode cX7_leastBound 8 = .ok (.istore_n 2, 1) := by decide +kernel
theorem dX7_leastBound_9 : decode cX7_leastBound 9 = .ok (.iconst 1, 1) := by decide +kernel
theorem dX7_leastBound_10 : decode cX7_leastBound 10 = .ok (.istore_n 3, 1) := by decide +kernel
theorem dX7_leastBound_11 : decode cX7_leastBound 11 = .ok (.iload_n 3, 1) := by decide +kernel
theorem dX7_leastBound_12 : decode cX7_leastBound 12 = .ok (.bipush 60, 2) := by decide +kernel
theorem dX7_leastBound_14 : decode cX7_leastBound 14 = .ok (.if_icmp .gt 42, 3) := by decide +kernel
theorem dX7_leastBound_17 : decode cX7_leastBound 17 = .ok (.aload_n 0, 1) := by decide +kernel
theorem dX7_leastBound_18 : decode cX7_leastBound 18 = .ok (.iload_n 3, 1) := by decide +kernel
theorem dX7_leastBound_19 : decode cX7_leastBound 19 = .ok (.iconst 0, 1) := by decide +kernel
theorem dX7_leastBound_20 : decode cX7_leastBound 20 = .ok (.invokevirtual 190, 3) := by decide +kernel
theorem dX7_leastBound_23 : decode cX7_leastBound 23 = .ok (.istore 4, 2) := by decide +kernel
theorem dX7_leastBound_25 : decode cX7_leastBound 25 = .ok (.iload 4, 2) := by decide +kernel
theorem dX7_leastBound_27 : decode cX7_leastBound 27 = .ok (.iload_n 2, 1) := by decide +kernel
theorem dX7_leastBound_28 : decode cX7_leastBound 28 = .ok (.if_icmp .ge 7, 3) := by decide +kernel
theorem dX7_leastBound_31 : decode cX7_leastBound 31 = .ok (.iload_n 3, 1) := by decide +kernel
theorem dX7_leastBound_32 : decode cX7_leastBound 32 = .ok (.goto 4, 3) := by decide +kernel
theorem dX7_leastBound_35 : decode cX7_leastBound 35 = .ok (.iload_n 1, 1) := by decide +kernel
theorem dX7_leastBound_36 : decode cX7_leastBound 36 = .ok (.istore_n 1, 1) := by decide +kernel
theorem dX7_leastBound_37 : decode cX7_leastBound 37 = .ok (.iload 4, 2) := by decide +kernel
theorem dX7_leastBound_39 : decode cX7_leastBound 39 = .ok (.iload_n 2, 1) := by decide +kernel
theorem dX7_leastBound_40 : decode cX7_leastBound 40 = .ok (.if_icmp .ge 8, 3) := by decide +kernel
theorem dX7_leastBound_43 : decode cX7_leastBound 43 = .ok (.iload 4, 2) := by decide +kernel
theorem dX7_leastBound_45 : decode cX7_leastBound 45 = .ok (.goto 4, 3) := by decide +kernel
theorem dX7_leastBound_48 : decode cX7_leastBound 48 = .ok (.iload_n 2, 1) := by decide +kernel
theorem dX7_leastBound_49 : decode cX7_leastBound 49 = .ok (.istore_n 2, 1) := by decide +kernel
theorem dX7_leastBound_50 : decode cX7_leastBound 50 = .ok (.iinc 3 1, 3) := by decide +kernel
theorem dX7_leastBound_53 : decode cX7_leastBound 53 = .ok (.goto (-42), 3) := by decide +kernel
theorem dX7_leastBound_56 : decode cX7_leastBound 56 = .ok (.iload_n 1, 1) := by decide +kernel
theorem dX7_leastBound_57 : decode cX7_leastBound 57 = .ok (.ireturn, 1) := by decide +kernel
theorem dX7_undo_0 : decode cX7_undo 0 = .ok (.aload_n 0, 1) := by decide +kernel
theorem dX7_undo_1 : decode cX7_undo 1 = .ok (.getfield 35, 3) := by decide +kernel
theorem dX7_undo_4 : decode cX7_undo 4 = .ok (.ifCond .ne 6, 3) := by decide +kernel
theorem dX7_undo_7 : decode cX7_undo 7 = .ok (.bipush (-2), 2) := by decide +kernel
theorem dX7_undo_9 : decode cX7_undo 9 = .ok (.ireturn, 1) := by decide +kernel
theorem dX7_undo_10 : decode cX7_undo 10 = .ok (.aload_n 0, 1) := by decide +kernel
theorem dX7_undo_11 : decode cX7_undo 11 = .ok (.dup, 1) := by decide +kernel
theorem dX7_undo_12 : decode cX7_undo 12 = .ok (.getfield 35, 3) := by decide +kernel
theorem dX7_undo_15 : decode cX7_undo 15 = .ok (.iconst 1, 1) := by decide +kernel
theorem dX7_undo_16 : decode cX7_undo 16 = .ok (.isub, 1) := by decide +kernel
theorem dX7_undo_17 : decode cX7_undo 17 = .ok (.putfield 35, 3) := by decide +kernel
theorem dX7_undo_20 : decode cX7_undo 20 = .ok (.iconst 0, 1) := by decide +kernel
theorem dX7_undo_21 : decode cX7_undo 21 = .ok (.istore_n 1, 1) := by decide +kernel
theorem dX7_undo_22 : decode cX7_undo 22 = .ok (.iload_n 1, 1) := by decide +kernel
theorem dX7_undo_23 : decode cX7_undo 23 = .ok (.bipush 127, 2) := by decide +kernel
theorem dX7_undo_25 : decode cX7_undo 25 = .ok (.if_icmp .ge 29, 3) := by decide +kernel
theorem dX7_undo_28 : decode cX7_undo 28 = .ok (.aload_n 0, 1) := by decide +kernel
theorem dX7_undo_29 : decode cX7_undo 29 = .ok (.getfield 7, 3) := by decide +kernel
theorem dX7_undo_32 : decode cX7_undo 32 = .ok (.iload_n 1, 1) := by decide +kernel
theorem dX7_undo_33 : decode cX7_undo 33 = .ok (.aload_n 0, 1) := by decide +kernel
theorem dX7_undo_34 : decode cX7_undo 34 = .ok (.getfield 13, 3) := by decide +kernel
theorem dX7_undo_37 : decode cX7_undo 37 = .ok (.bipush 127, 2) := by decide +kernel
theorem dX7_undo_39 : decode cX7_undo 39 = .ok (.aload_n 0, 1) := by decide +kernel
theorem dX7_undo_40 : decode cX7_undo 40 = .ok (.getfield 35, 3) := by decide +kernel
theorem dX7_undo_43 : decode cX7_undo 43 = .ok (.imul, 1) := by decide +kernel
theorem dX7_undo_44 : decode cX7_undo 44 = .ok (.iload_n 1, 1) := by decide +kernel
theorem dX7_undo_45 : decode cX7_undo 45 = .ok (.iadd, 1) := by decide +kernel
theorem dX7_undo_46 : decode cX7_undo 46 = .ok (.iaload, 1) := by decide +kernel
theorem dX7_undo_47 : decode cX7_undo 47 = .ok (.iastore, 1) := by decide +kernel
theorem dX7_undo_48 : decode cX7_undo 48 = .ok (.iinc 1 1, 3) := by decide +kernel
theorem dX7_undo_51 : decode cX7_undo 51 = .ok (.goto (-29), 3) := by decide +kernel
theorem dX7_undo_54 : decode cX7_undo 54 = .ok (.aload_n 0, 1) := by decide +kernel
theorem dX7_undo_55 : decode cX7_undo 55 = .ok (.getfield 35, 3) := by decide +kernel
theorem dX7_undo_58 : decode cX7_undo 58 = .ok (.ireturn, 1) := by decide +kernel
set_option maxRecDepth 20000 in
theorem ggX7_save_X7_known : GoodIn wsX7_save wsX7_known := goodIn_r _ [8, 9, 10, 11, 7, 12, 3, 13, 14, 15, 16, 17, 18, 19, 20, 21, 22, 23, 24, 25, 26] (by decide +kernel) (by decide +kernel)
set_option maxRecDepth 20000 in
theorem gX7_save_X7_known : GoodIn wsX7_save (wsV RX7 109 RX7 yX7_known wsX7_known) := goodIn_app (goodIn_of _ (by decide +kernel)) ggX7_save_X7_known
theorem dX7_save_0 : decode cX7_save 0 = .ok (.aload_n 0, 1) := by decide +kernel
theorem dX7_save_1 : decode cX7_save 1 = .ok (.iconst 1, 1) := by decide +kernel
theorem dX7_save_2 : decode cX7_save 2 = .ok (.putfield 193, 3) := by decide +kernel
theorem dX7_save_5 : decode cX7_save 5 = .ok (.iconst 0, 1) := by decide +kernel
theorem dX7_save_6 : decode cX7_save 6 = .ok (.istore_n 1, 1) := by decide +kernel
theorem dX7_save_7 : decode cX7_save 7 = .ok (.iload_n 1, 1) := by decide +kernel
theorem dX7_save_8 : decode cX7_save 8 = .ok (.bipush 127, 2) := by decide +kernel
theorem dX7_save_10 : decode cX7_save 10 = .ok (.if_icmp .ge 21, 3) := by decide +kernel
theorem dX7_save_13 : decode cX7_save 13 = .ok (.aload_n 0, 1) := by decide +kernel
theorem dX7_save_14 : decode cX7_save 14 = .ok (.getfield 16, 3) := by decide +kernel
theorem dX7_save_17 : decode cX7_save 17 = .ok (.iload_n 1, 1) := by decide +kernel
theorem dX7_save_18 : decode cX7_save 18 = .ok (.aload_n 0, 1) := by decide +kernel
theorem dX7_save_19 : decode cX7_save 19 = .ok (.getfield 7, 3) := by decide +kernel
theorem dX7_save_22 : decode cX7_save 22 = .ok (.iload_n 1, 1) := by decide +kernel
theorem dX7_save_23 : decode cX7_save 23 = .ok (.iaload, 1) := by decide +kernel
theorem dX7_save_24 : decode cX7_save 24 = .ok (.iastore, 1) := by decide +kernel
theorem dX7_save_25 : decode cX7_save 25 = .ok (.iinc 1 1, 3) := by decide +kernel
theorem dX7_save_28 : decode cX7_save 28 = .ok (.goto (-21), 3) := by decide +kernel
theorem dX7_save_31 : decode cX7_save 31 = .ok (.aload_n 0, 1) := by decide +kernel
theorem dX7_save_32 : decode cX7_save 32 = .ok (.invokevirtual 109, 3) := by decide +kernel
theorem dX7_save_35 : decode cX7_save 35 = .ok (.ireturn, 1) := by decide +kernel
set_option maxRecDepth 20000 in
theorem ggX7_restore_X7_changes : GoodIn wsX7_restore wsX7_changes := goodIn_r _ [8, 9, 10, 11, 2, 20, 21, 22, 23, 24, 25, 26, 27, 28, 29, 30, 31, 32, 33] (by decide +kernel) (by decide +kernel)
set_option maxRecDepth 20000 in
theorem gX7_restore_X7_changes : GoodIn wsX7_restore (wsV RX7 96 RX7 yX7_changes wsX7_changes) := goodIn_app (goodIn_of _ (by decide +kernel)) ggX7_restore_X7_changes
set_option maxRecDepth 20000 in
theorem ggX7_restore_X7_known : GoodIn wsX7_restore wsX7_known := goodIn_r _ [15, 16, 17, 18, 7, 19, 2, 20, 21, 22, 23, 24, 25, 26, 27, 28, 29, 30, 31, 32, 33] (by decide +kernel) (by decide +kernel)
set_option maxRecDepth 20000 in
theorem gX7_restore_X7_known : GoodIn wsX7_restore (wsV RX7 109 RX7 yX7_known wsX7_known) := goodIn_app (goodIn_of _ (by decide +kernel)) ggX7_restore_X7_known
theorem dX7_restore_0 : decode cX7_restore 0 = .ok (.aload_n 0, 1) := by decide +kernel
theorem dX7_restore_1 : decode cX7_restore 1 = .ok (.getfield 193, 3) := by decide +kernel
theorem dX7_restore_4 : decode cX7_restore 4 = .ok (.ifCond .ne 6, 3) := by decide +kernel
theorem dX7_restore_7 : decode cX7_restore 7 = .ok (.bipush (-2), 2) := by decide +kernel
theorem dX7_restore_9 : decode cX7_restore 9 = .ok (.ireturn, 1) := by decide +kernel
theorem dX7_restore_10 : decode cX7_restore 10 = .ok (.aload_n 0, 1) := by decide +kernel
theorem dX7_restore_11 : decode cX7_restore 11 = .ok (.invokevirtual 96, 3) := by decide +kernel
theorem dX7_restore_14 : decode cX7_restore 14 = .ok (.iconst 0, 1) := by decide +kernel
theorem dX7_restore_15 : decode cX7_restore 15 = .ok (.istore_n 1, 1) := by decide +kernel
theorem dX7_restore_16 : decode cX7_restore 16 = .ok (.iload_n 1, 1) := by decide +kernel
theorem dX7_restore_17 : decode cX7_restore 17 = .ok (.bipush 127, 2) := by decide +kernel
theorem dX7_restore_19 : decode cX7_restore 19 = .ok (.if_icmp .ge 21, 3) := by decide +kernel
theorem dX7_restore_22 : decode cX7_restore 22 = .ok (.aload_n 0, 1) := by decide +kernel
theorem dX7_restore_23 : decode cX7_restore 23 = .ok (.getfield 7, 3) := by decide +kernel
theorem dX7_restore_26 : decode cX7_restore 26 = .ok (.iload_n 1, 1) := by decide +kernel
theorem dX7_restore_27 : decode cX7_restore 27 = .ok (.aload_n 0, 1) := by decide +kernel
theorem dX7_restore_28 : decode cX7_restore 28 = .ok (.getfield 16, 3) := by decide +kernel
theorem dX7_restore_31 : decode cX7_restore 31 = .ok (.iload_n 1, 1) := by decide +kernel
theorem dX7_restore_32 : decode cX7_restore 32 = .ok (.iaload, 1) := by decide +kernel
theorem dX7_restore_33 : decode cX7_restore 33 = .ok (.iastore, 1) := by decide +kernel
theorem dX7_restore_34 : decode cX7_restore 34 = .ok (.iinc 1 1, 3) := by decide +kernel
theorem dX7_restore_37 : decode cX7_restore 37 = .ok (.goto (-21), 3) := by decide +kernel
theorem dX7_restore_40 : decode cX7_restore 40 = .ok (.aload_n 0, 1) := by decide +kernel
theorem dX7_restore_41 : decode cX7_restore 41 = .ok (.invokevirtual 109, 3) := by decide +kernel
theorem dX7_restore_44 : decode cX7_restore 44 = .ok (.ireturn, 1) := by decide +kernel
theorem dJ9_min_7cf53_0 : decode cJ9_min_7cf53 0 = .ok (.iload_n 0, 1) := by decide +kernel
theorem dJ9_min_7cf53_1 : decode cJ9_min_7cf53 1 = .ok (.iload_n 1, 1) := by decide +kernel
theorem dJ9_min_7cf53_2 : decode cJ9_min_7cf53 2 = .ok (.if_icmp .gt 7, 3) := by decide +kernel
theorem dJ9_min_7cf53_5 : decode cJ9_min_7cf53 5 = .ok (.iload_n 0, 1) := by decide +kernel
theorem dJ9_min_7cf53_6 : decode cJ9_min_7cf53 6 = .ok (.goto 4, 3) := by decide +kernel
theorem dJ9_min_7cf53_9 : decode cJ9_min_7cf53 9 = .ok (.iload_n 1, 1) := by decide +kernel
theorem dJ9_min_7cf53_10 : decode cJ9_min_7cf53 10 = .ok (.ireturn, 1) := by decide +kernel
abbrev vwCl : List vw_C := [(RX0, TX0, 3), (RX1, TX1, 3), (RX2, TX2, 4), (RX3, TX3, 9), (RX4, TX4, 8), (RX5, TX5, 3), (RX6, TX6, 9), (RX7, TX7, 14)]
end
section
/-! rows over an abstract state: own work -/
abbrev Hp : Type := Nat → Nat → Int32
abbrev Lv : Type := List (Nat × Value)
def lm_tys (z zo : ClassId) : List (ClassId × FieldType) := [(z, .int), (zo, .object "LoopMemo$State")]
def lm_NWl : List (String × Nat × MethodName) := [(RX0, 21, yX6_copyNumbers), (RX2, 21, yX6_copyNumbers), (RX4, 60, yX6_copyNumbers), (RX5, 18, yX6_copyNumbers), (RX4, 85, yX6_isRow)]
def lm_NW (U : State) : Prop := ∀ q ∈ lm_NWl, va_Nw (.methodLinkNest q.1 q.2.1 q.2.2 "LoopMemo") U
theorem lm_NW.same {u U : State} (h : u.vm = U.vm) (k : lm_NW u) : lm_NW U := fun q hq => va_Nw.same rfl h (k q hq)
theorem lm_NW.warm {u U : State} (h : u.WarmedH U.vm) (k : lm_NW u) : lm_NW U := fun q hq => va_Nw.warmM h (k q hq)
/-- ro: the heap is the start's own -/
def lm_I (D : va_G) (A : Nat → Prop) (s : State) (ro : Bool) (w : va_W) (H : Heap) (locs : List Loc) : Prop :=
  va_P D vwCl w H ∧ (ro = true → H = s.heap ∧ locs = []) ∧ (ro = false → va_D A w ∧ va_S A s.heap H locs)
def lm_St (p : Program) (l : Launch) (e : Env) (R : Room) (s : State) (m : MethodId) (args : Array Value) (below : List Frame) (meth : Method) (c : Code) (D : va_G) (A : Nat → Prop) (nL ce sl : Nat) (Q : State → Prop) (ro : Bool) (w : va_W) (pc : Nat) (lv : Lv) (st : List Value) : Prop :=
  ∀ (H : Heap) (locs : List Loc) (ls : Array Slot), lm_I D A s ro w H locs → lv_has ls nL lv → W p l e R s m args below meth c H locs ce sl Q (F0 m pc ls st)
def lm_Cx (p : Program) (s : State) (m : MethodId) (args : Array Value) (c : Code) (D : va_G) (z zo : ClassId) (nL : Nat) (own : String) (Ts : List Cond) (cc : ByteArray) : Prop :=
  p.tables.exec = Jvm.exec ∧ c.code = cc ∧ c.maxLocals = nL ∧ s.vm.findClass own = some m.cls ∧ (∀ w ∈ Ts, w.before args s = true) ∧ va_K D vwCl (lm_tys z zo) s ∧ lm_NW s
/-! permutations of a world -/
theorem lm_P_mem {D : va_G} {cl : List vw_C} {ws : va_W} {H : Heap} (h : va_P D cl ws H) {q : Nat × va_E} (hq : q ∈ ws) : va_at D cl q H := by
  obtain ⟨i, hi⟩ := List.getElem?_of_mem hq
  exact h i q hi
theorem lm_P_of {D : va_G} {cl : List vw_C} {ws : va_W} {H : Heap} (h : ∀ q ∈ ws, va_at D cl q H) : va_P D cl ws H := fun _ q hk => h q (List.mem_of_getElem? hk)
theorem lm_P_sub {D : va_G} {cl : List vw_C} {ws wc : va_W} {H : Heap} (h : va_P D cl ws H) (hs : ∀ q ∈ wc, q ∈ ws) : va_P D cl wc H := lm_P_of fun q hq => lm_P_mem h (hs q hq)
theorem lm_D_iff {A : Nat → Prop} {ws : va_W} : va_D A ws ↔ (ws.map Prod.fst).Nodup ∧ ∀ q ∈ ws, A q.1 := by
  constructor
  · intro h
    refine ⟨?_, fun q hq => ?_⟩
    · rw [List.nodup_iff_pairwise_ne, List.pairwise_iff_getElem]
      intro i j hi hj hij heq
      rw [List.getElem_map, List.getElem_map] at heq
      have hi' : i < ws.length := by simpa using hi
      have hj' : j < ws.length := by simpa using hj
      have := h.1 i j ws[i] ws[j] (List.getElem?_eq_getElem hi') (List.getElem?_eq_getElem hj') heq
      omega
    · obtain ⟨i, hi⟩ := List.getElem?_of_mem hq
      exact h.2 i q hi
  · intro ⟨h1, h2⟩
    refine ⟨fun i j x y hi hj hxy => ?_, fun k q hk => h2 q (List.mem_of_getElem? hk)⟩
    rw [List.nodup_iff_pairwise_ne, List.pairwise_iff_getElem] at h1
    have li := (List.getElem?_eq_some_iff.mp hi).1
    have lj := (List.getElem?_eq_some_iff.mp hj).1
    have ei := (List.getElem?_eq_some_iff.mp hi).2
    have ej := (List.getElem?_eq_some_iff.mp hj).2
    rcases Nat.lt_trichotomy i j with q | q | q
    · have := h1 i j (by simpa using li) (by simpa using lj) q
      rw [List.getElem_map, List.getElem_map, ei, ej] at this
      exact absurd hxy this
    · exact q
    · have := h1 j i (by simpa using lj) (by simpa using li) q
      rw [List.getElem_map, List.getElem_map, ei, ej] at this
      exact absurd hxy.symm this
theorem lm_D_perm {A : Nat → Prop} {w1 w2 : va_W} (hp : w1.Perm w2) (h : va_D A w1) : va_D A w2 := by
  rw [lm_D_iff] at h ⊢
  exact ⟨(hp.map _).nodup_iff.mp h.1, fun q hq => h.2 q (hp.mem_iff.mpr hq)⟩
theorem lm_P_perm {D : va_G} {cl : List vw_C} {w1 w2 : va_W} {H : Heap} (hp : w1.Perm w2) (h : va_P D cl w1 H) : va_P D cl w2 H := lm_P_sub h fun _ hq => hp.mem_iff.mpr hq
theorem lm_A_perm {w1 w2 : va_W} {sz q : Nat} (hp : w1.Perm w2) (h : va_A w1 sz q) : va_A w2 sz q := by
  rcases h with ⟨k, e, hk⟩ | h
  · obtain ⟨i, hi⟩ := List.getElem?_of_mem (hp.mem_iff.mp (List.mem_of_getElem? hk))
    exact Or.inl ⟨i, e, hi⟩
  · exact Or.inr h
/-- the frame rule, with the callee's cells ahead -/
theorem lm_frame {A0 : Nat → Prop} {D : va_G} {cl : List vw_C} {wc wr w1 : va_W} {H H1 : Heap} (hP : va_P D cl (wc ++ wr) H) (hD : va_D A0 (wc ++ wr)) (hk : ∀ q : Nat, q < H.size → ¬ va_A wc H.size q → H1[q]? = H[q]?) (hF : ∀ q, va_A wc H.size q → A0 q) (hP1 : va_P D cl w1 H1) (hD1 : va_D (va_A wc H.size) w1) : va_P D cl (w1 ++ wr) H1 ∧ va_D A0 (w1 ++ wr) := by
  have hDi := lm_D_iff.mp hD
  have hD1i := lm_D_iff.mp hD1
  have hnd := hDi.1
  rw [List.map_append, List.nodup_append] at hnd
  obtain ⟨-, n2, n3⟩ := hnd
  have apart : ∀ q ∈ wr, q.1 < H.size ∧ ¬ va_A wc H.size q.1 := by
    intro q hq
    have hl := (lm_P_mem hP (List.mem_append_right wc hq)).lt
    refine ⟨hl, fun h => ?_⟩
    rcases h with ⟨k, e, h⟩ | h
    · exact n3 q.1 (List.mem_map.mpr ⟨_, List.mem_of_getElem? h, rfl⟩) q.1 (List.mem_map.mpr ⟨q, hq, rfl⟩) rfl
    · omega
  refine ⟨va_P.app hP1 (lm_P_of fun q hq => ?_), lm_D_iff.mpr ⟨?_, fun q hq => ?_⟩⟩
  · obtain ⟨g1, g2⟩ := apart q hq
    exact (lm_P_mem hP (List.mem_append_right wc hq)).kept (hk q.1 g1 g2)
  · rw [List.map_append, List.nodup_append]
    refine ⟨hD1i.1, n2, fun a ha b hb hab => ?_⟩
    obtain ⟨x, hx, rfl⟩ := List.mem_map.mp ha
    obtain ⟨y, hy, rfl⟩ := List.mem_map.mp hb
    exact (apart y hy).2 (hab ▸ hD1i.2 x hx)
  · rcases List.mem_append.mp hq with h | h
    · exact hF _ (hD1i.2 q h)
    · exact hDi.2 q (List.mem_append_right wc h)
/-! contracts -/
def lm_Pc (D : va_G) (z zo : ClassId) (As : List Value) (w : va_W) (sz : Nat) : Array Value → State → Prop := va_Pc As (fun U => U.heap.size = sz ∧ va_P D vwCl w U.heap ∧ va_K D vwCl (lm_tys z zo) U ∧ lm_NW U ∧ va_D (fun _ => True) w)
def lm_Q (D : va_G) (rv : Option Value) (w w' : va_W) (sz : Nat) : Array Value → State → Outcome → State → Prop := fun _ st oc t => (oc = .returned rv ∧ va_P D vwCl w' t.heap ∧ va_D (va_A w sz) w') ∧ va_F (va_A w sz) st t
def lm_C (D : va_G) (z zo : ClassId) (l : Launch) (y : MethodName) (ws : List Cond) (fr lo : Nat) (As : List Value) (w : va_W) (rv : Option Value) (w' : va_W) : Prop :=
  ∀ sz : Nat, Met l y ws ({ frames := fr, cells := 0, slots := 0, locals := lo }) (lm_Pc D z zo As w sz) (lm_Q D rv w w' sz) 0 0 (va_A w sz)
def lm_PcR (D : va_G) (z zo : ClassId) (As : List Value) (w : va_W) : Array Value → State → Prop := va_Pc As (fun U => va_P D vwCl w U.heap ∧ va_K D vwCl (lm_tys z zo) U ∧ lm_NW U)
def lm_QR (rv : Option Value) : Array Value → State → Outcome → State → Prop := fun _ st oc t => oc = .returned rv ∧ t.heap = st.heap
def lm_CR (D : va_G) (z zo : ClassId) (l : Launch) (y : MethodName) (ws : List Cond) (fr lo : Nat) (As : List Value) (w : va_W) (rv : Option Value) : Prop :=
  Met l y ws ({ frames := fr, cells := 0, slots := 0, locals := lo }) (lm_PcR D z zo As w) (lm_QR rv) 0 0 (fun _ => False)
theorem lm_Pc.blind {D : va_G} {z zo : ClassId} {As : List Value} {w : va_W} {sz : Nat} : FrameBlind (lm_Pc D z zo As w sz) := by
  intro a U g mk ⟨h1, h2, h3, h4, h5, h6⟩
  exact ⟨h1, h2, h3, va_K.moved (u := U) (U := U.calling g mk a) (Vm.Alike.refl U.vm) h4, lm_NW.same (u := U) (U := U.calling g mk a) rfl h5, h6⟩
theorem lm_PcR.blind {D : va_G} {z zo : ClassId} {As : List Value} {w : va_W} : FrameBlind (lm_PcR D z zo As w) := by
  intro a U g mk ⟨h1, h3, h4, h5⟩
  exact ⟨h1, h3, va_K.moved (u := U) (U := U.calling g mk a) (Vm.Alike.refl U.vm) h4, lm_NW.same (u := U) (U := U.calling g mk a) rfl h5⟩
abbrev lm_End (below : List Frame) (D : va_G) (rv : Option Value) (w w' : va_W) (args : Array Value) (s : State) : State → Prop := MQ below (lm_Q D rv w w' s.heap.size) args s 0 0 (va_A w s.heap.size)
abbrev lm_EndR (below : List Frame) (rv : Option Value) (args : Array Value) (s : State) : State → Prop := MQ below (lm_QR rv) args s 0 0 (fun _ => False)
theorem lm_C.of {D : va_G} {z zo : ClassId} {l : Launch} {y : MethodName} {ws ws' : List Cond} {fr lo : Nat} {As : List Value} {w : va_W} {rv : Option Value} {w' : va_W} {cc : ByteArray} {maxL : Nat} {ret : Option FieldType} {own : String} (hy : plainName y.cls = true) (hw : ws = Cond.code y cc maxL ret :: ws') (hlen : (lg_sl As).length ≤ maxL) (hown : y.cls = own)
    (body : ∀ (p : Program) (e : Env) (s : State) (m : MethodId) (args : Array Value) (below : List Frame) (meth : Method) (c : Code), lm_Cx p s m args c D z zo maxL own ws cc → meth.sig.returnType = ret → meth.locks = false →
      lm_St p l e ({ frames := fr, cells := 0, slots := 0, locals := lo }) s m args below meth c D (va_A w s.heap.size) maxL 0 0 (lm_End below D rv w w' args s) false w 0 (lv_args 0 As) []) : lm_C D z zo l y ws fr lo As w rv w' := by
  intro sz
  refine Met.ofW (cc := cc) (maxL := maxL) (ret := ret) hy hw ?_
  intro p e s m args below meth c s₁ B hml hv
  obtain ⟨rfl, hsz, hP, hK, hN, hD0⟩ := hv
  subst hsz
  have hts := atoms_spec (ws := ws) B.pre
  have hown2 : s.vm.findClass own = some m.cls := by rw [← hown]; exact findClass_of_methodNamed B.named
  have hl := lv_entry As (n := maxL) hlen
  rw [lg_entry_eq]
  exact body p e s m As.toArray below meth c ⟨B.exec, B.bytes, hml, hown2, hts, hK, hN⟩ B.returns B.notSynchronized s.heap [] _ ⟨hP, fun h => (by cases h), fun _ => ⟨hD0.self, va_S.rf⟩⟩ hl
theorem lm_CR.of {D : va_G} {z zo : ClassId} {l : Launch} {y : MethodName} {ws ws' : List Cond} {fr lo : Nat} {As : List Value} {w : va_W} {rv : Option Value} {cc : ByteArray} {maxL : Nat} {ret : Option FieldType} {own : String} (hy : plainName y.cls = true) (hw : ws = Cond.code y cc maxL ret :: ws') (hlen : (lg_sl As).length ≤ maxL) (hown : y.cls = own)
    (body : ∀ (p : Program) (e : Env) (s : State) (m : MethodId) (args : Array Value) (below : List Frame) (meth : Method) (c : Code), lm_Cx p s m args c D z zo maxL own ws cc → meth.sig.returnType = ret → meth.locks = false →
      lm_St p l e ({ frames := fr, cells := 0, slots := 0, locals := lo }) s m args below meth c D (fun _ => False) maxL 0 0 (lm_EndR below rv args s) true w 0 (lv_args 0 As) []) : lm_CR D z zo l y ws fr lo As w rv := by
  refine Met.ofW (cc := cc) (maxL := maxL) (ret := ret) hy hw ?_
  intro p e s m args below meth c s₁ B hml hv
  obtain ⟨rfl, hP, hK, hN⟩ := hv
  have hts := atoms_spec (ws := ws) B.pre
  have hown2 : s.vm.findClass own = some m.cls := by rw [← hown]; exact findClass_of_methodNamed B.named
  have hl := lv_entry As (n := maxL) hlen
  rw [lg_entry_eq]
  exact body p e s m As.toArray below meth c ⟨B.exec, B.bytes, hml, hown2, hts, hK, hN⟩ B.returns B.notSynchronized s.heap [] _ ⟨hP, fun _ => ⟨rfl, rfl⟩, fun h => (by cases h)⟩ hl
section LM
variable {p : Program} {l : Launch} {e : Env} {R : Room} {s : State} {m : MethodId} {args : Array Value} {below : List Frame} {meth : Method} {c : Code} {D : va_G} {z zo : ClassId} {A : Nat → Prop} {nL ce sl : Nat} {Q : State → Prop} {own : String} {Ts : List Cond} {cc : ByteArray} {ro : Bool} {w w' : va_W} {pc pc' : Nat} {lv lv' : Lv} {st : List Value}
theorem lm_iconst (C : lm_Cx p s m args c D z zo nL own Ts cc) {n : Int} {v : Int32} (hd : decode cc pc = .ok (.iconst n, 1)) (hv : Int32.ofInt n = v) (hpc : pc + 1 = pc') (K : lm_St p l e R s m args below meth c D A nL ce sl Q ro w pc' lv (.int v :: st)) : lm_St p l e R s m args below meth c D A nL ce sl Q ro w pc lv st := by
  subst hpc
  exact fun H locs ls hI hL => lv_iconst C.1 C.2.1 hd hv (K H locs ls hI hL)
theorem lm_bipush (C : lm_Cx p s m args c D z zo nL own Ts cc) {n : Int} {v : Int32} (hd : decode cc pc = .ok (.bipush n, 2)) (hv : (Int8.ofInt n).toInt32 = v) (hpc : pc + 2 = pc') (K : lm_St p l e R s m args below meth c D A nL ce sl Q ro w pc' lv (.int v :: st)) : lm_St p l e R s m args below meth c D A nL ce sl Q ro w pc lv st := by
  subst hpc
  exact fun H locs ls hI hL => lv_bipush C.1 C.2.1 hd hv (K H locs ls hI hL)
theorem lm_sipush (C : lm_Cx p s m args c D z zo nL own Ts cc) {n : Int} {v : Int32} (hd : decode cc pc = .ok (.sipush n, 3)) (hv : (Int16.ofInt n).toInt32 = v) (hpc : pc + 3 = pc') (K : lm_St p l e R s m args below meth c D A nL ce sl Q ro w pc' lv (.int v :: st)) : lm_St p l e R s m args below meth c D A nL ce sl Q ro w pc lv st := by
  subst hpc
  exact fun H locs ls hI hL => lv_sipush C.1 C.2.1 hd hv (K H locs ls hI hL)
theorem lm_iload_n (C : lm_Cx p s m args c D z zo nL own Ts cc) {k : Fin 4} {i : Nat} {x : Int32} (hd : decode cc pc = .ok (.iload_n k, 1)) (hi : (k : Nat) = i) (q : Nat) (hl : lv[q]? = some (i, .int x)) (hpc : pc + 1 = pc') (K : lm_St p l e R s m args below meth c D A nL ce sl Q ro w pc' lv (.int x :: st)) : lm_St p l e R s m args below meth c D A nL ce sl Q ro w pc lv st := by
  subst hpc
  exact fun H locs ls hI hL => lv_iload_n C.1 C.2.1 hd hi (lv_at hL q hl) (K H locs ls hI hL)
theorem lm_iload (C : lm_Cx p s m args c D z zo nL own Ts cc) {i : Nat} {x : Int32} (hd : decode cc pc = .ok (.iload i, 2)) (q : Nat) (hl : lv[q]? = some (i, .int x)) (hpc : pc + 2 = pc') (K : lm_St p l e R s m args below meth c D A nL ce sl Q ro w pc' lv (.int x :: st)) : lm_St p l e R s m args below meth c D A nL ce sl Q ro w pc lv st := by
  subst hpc
  exact fun H locs ls hI hL => lv_iload C.1 C.2.1 hd (lv_at hL q hl) (K H locs ls hI hL)
theorem lm_aload_n (C : lm_Cx p s m args c D z zo nL own Ts cc) {k : Fin 4} {i : Nat} {x : Nat} (hd : decode cc pc = .ok (.aload_n k, 1)) (hi : (k : Nat) = i) (q : Nat) (hl : lv[q]? = some (i, .ref x)) (hpc : pc + 1 = pc') (K : lm_St p l e R s m args below meth c D A nL ce sl Q ro w pc' lv (.ref x :: st)) : lm_St p l e R s m args below meth c D A nL ce sl Q ro w pc lv st := by
  subst hpc
  exact fun H locs ls hI hL => lv_aload_n C.1 C.2.1 hd hi (lv_at hL q hl) (K H locs ls hI hL)
theorem lm_aload (C : lm_Cx p s m args c D z zo nL own Ts cc) {i : Nat} {x : Nat} (hd : decode cc pc = .ok (.aload i, 2)) (q : Nat) (hl : lv[q]? = some (i, .ref x)) (hpc : pc + 2 = pc') (K : lm_St p l e R s m args below meth c D A nL ce sl Q ro w pc' lv (.ref x :: st)) : lm_St p l e R s m args below meth c D A nL ce sl Q ro w pc lv st := by
  subst hpc
  exact fun H locs ls hI hL => lv_aload C.1 C.2.1 hd (lv_at hL q hl) (K H locs ls hI hL)
theorem lm_istore_n (C : lm_Cx p s m args c D z zo nL own Ts cc) {k : Fin 4} {i : Nat} {x : Int32} {lv1 : Lv} (hd : decode cc pc = .ok (.istore_n k, 1)) (hi : (k : Nat) = i) (hn : i < nL) (hl : (i, Value.int x) :: lv.filter (fun q => !(q.1 == i) && !(q.1 + 1 == i && q.2.category == 2)) = lv1) (ks : List Nat) (hq : lv_pick lv1 ks = lv') (hpc : pc + 1 = pc') (K : lm_St p l e R s m args below meth c D A nL ce sl Q ro w pc' lv' st) : lm_St p l e R s m args below meth c D A nL ce sl Q ro w pc lv (Value.int x :: st) := by
  subst hpc
  exact fun H locs ls hI hL => lv_istore_n C.1 C.2.1 hd hi hL hn hl (fun ls hl => K H locs ls hI (lv_sub hl ks hq))
theorem lm_istore (C : lm_Cx p s m args c D z zo nL own Ts cc) {i : Nat} {x : Int32} {lv1 : Lv} (hd : decode cc pc = .ok (.istore i, 2)) (hn : i < nL) (hl : (i, Value.int x) :: lv.filter (fun q => !(q.1 == i) && !(q.1 + 1 == i && q.2.category == 2)) = lv1) (ks : List Nat) (hq : lv_pick lv1 ks = lv') (hpc : pc + 2 = pc') (K : lm_St p l e R s m args below meth c D A nL ce sl Q ro w pc' lv' st) : lm_St p l e R s m args below meth c D A nL ce sl Q ro w pc lv (Value.int x :: st) := by
  subst hpc
  exact fun H locs ls hI hL => lv_istore C.1 C.2.1 hd hL hn hl (fun ls hl => K H locs ls hI (lv_sub hl ks hq))
theorem lm_astore_n (C : lm_Cx p s m args c D z zo nL own Ts cc) {k : Fin 4} {i : Nat} {x : Nat} {lv1 : Lv} (hd : decode cc pc = .ok (.astore_n k, 1)) (hi : (k : Nat) = i) (hn : i < nL) (hl : (i, Value.ref x) :: lv.filter (fun q => !(q.1 == i) && !(q.1 + 1 == i && q.2.category == 2)) = lv1) (ks : List Nat) (hq : lv_pick lv1 ks = lv') (hpc : pc + 1 = pc') (K : lm_St p l e R s m args below meth c D A nL ce sl Q ro w pc' lv' st) : lm_St p l e R s m args below meth c D A nL ce sl Q ro w pc lv (Value.ref x :: st) := by
  subst hpc
  exact fun H locs ls hI hL => lv_astore_n C.1 C.2.1 hd hi hL hn hl (fun ls hl => K H locs ls hI (lv_sub hl ks hq))
theorem lm_astore (C : lm_Cx p s m args c D z zo nL own Ts cc) {i : Nat} {x : Nat} {lv1 : Lv} (hd : decode cc pc = .ok (.astore i, 2)) (hn : i < nL) (hl : (i, Value.ref x) :: lv.filter (fun q => !(q.1 == i) && !(q.1 + 1 == i && q.2.category == 2)) = lv1) (ks : List Nat) (hq : lv_pick lv1 ks = lv') (hpc : pc + 2 = pc') (K : lm_St p l e R s m args below meth c D A nL ce sl Q ro w pc' lv' st) : lm_St p l e R s m args below meth c D A nL ce sl Q ro w pc lv (Value.ref x :: st) := by
  subst hpc
  exact fun H locs ls hI hL => lv_astore C.1 C.2.1 hd hL hn hl (fun ls hl => K H locs ls hI (lv_sub hl ks hq))
theorem lm_iinc (C : lm_Cx p s m args c D z zo nL own Ts cc) {i : Nat} {n : Int} {x : Int32} (v : Int32) {lv1 : Lv} (hd : decode cc pc = .ok (.iinc i n, 3)) (k : Nat) (hk : lv[k]? = some (i, .int x)) (hv : x + Int32.ofInt n = v) (hn : i < nL) (hl : (i, Value.int v) :: lv.filter (fun q => !(q.1 == i) && !(q.1 + 1 == i && q.2.category == 2)) = lv1) (ks : List Nat) (hq : lv_pick lv1 ks = lv') (hpc : pc + 3 = pc') (K : lm_St p l e R s m args below meth c D A nL ce sl Q ro w pc' lv' st) : lm_St p l e R s m args below meth c D A nL ce sl Q ro w pc lv st := by
  subst hpc
  exact fun H locs ls hI hL => lv_iinc C.1 C.2.1 hd hL hk hv hn hl (fun ls hl => K H locs ls hI (lv_sub hl ks hq))
theorem lm_iadd (C : lm_Cx p s m args c D z zo nL own Ts cc) {x y v : Int32} (hd : decode cc pc = .ok (.iadd, 1)) (hv : x + y = v) (hpc : pc + 1 = pc') (K : lm_St p l e R s m args below meth c D A nL ce sl Q ro w pc' lv (.int v :: st)) : lm_St p l e R s m args below meth c D A nL ce sl Q ro w pc lv (.int y :: .int x :: st) := by
  subst hpc
  exact fun H locs ls hI hL => lv_iadd C.1 C.2.1 hd (by rw [hv]; exact K H locs ls hI hL)
theorem lm_isub (C : lm_Cx p s m args c D z zo nL own Ts cc) {x y v : Int32} (hd : decode cc pc = .ok (.isub, 1)) (hv : x - y = v) (hpc : pc + 1 = pc') (K : lm_St p l e R s m args below meth c D A nL ce sl Q ro w pc' lv (.int v :: st)) : lm_St p l e R s m args below meth c D A nL ce sl Q ro w pc lv (.int y :: .int x :: st) := by
  subst hpc
  exact fun H locs ls hI hL => lv_isub C.1 C.2.1 hd (by rw [hv]; exact K H locs ls hI hL)
theorem lm_imul (C : lm_Cx p s m args c D z zo nL own Ts cc) {x y v : Int32} (hd : decode cc pc = .ok (.imul, 1)) (hv : x * y = v) (hpc : pc + 1 = pc') (K : lm_St p l e R s m args below meth c D A nL ce sl Q ro w pc' lv (.int v :: st)) : lm_St p l e R s m args below meth c D A nL ce sl Q ro w pc lv (.int y :: .int x :: st) := by
  subst hpc
  exact fun H locs ls hI hL => lv_imul C.1 C.2.1 hd (by rw [hv]; exact K H locs ls hI hL)
theorem lm_iand (C : lm_Cx p s m args c D z zo nL own Ts cc) {x y v : Int32} (hd : decode cc pc = .ok (.iand, 1)) (hv : x &&& y = v) (hpc : pc + 1 = pc') (K : lm_St p l e R s m args below meth c D A nL ce sl Q ro w pc' lv (.int v :: st)) : lm_St p l e R s m args below meth c D A nL ce sl Q ro w pc lv (.int y :: .int x :: st) := by
  subst hpc
  exact fun H locs ls hI hL => lv_iand C.1 C.2.1 hd (by rw [hv]; exact K H locs ls hI hL)
theorem lm_irem (C : lm_Cx p s m args c D z zo nL own Ts cc) {x y v : Int32} (hd : decode cc pc = .ok (.irem, 1)) (hne : ¬ y = 0) (hv : x - x / y * y = v) (hpc : pc + 1 = pc') (K : lm_St p l e R s m args below meth c D A nL ce sl Q ro w pc' lv (.int v :: st)) : lm_St p l e R s m args below meth c D A nL ce sl Q ro w pc lv (.int y :: .int x :: st) := by
  subst hpc
  exact fun H locs ls hI hL => lv_irem C.1 C.2.1 hd hne (by rw [hv]; exact K H locs ls hI hL)
theorem lm_dup (C : lm_Cx p s m args c D z zo nL own Ts cc) {va : Value} (hd : decode cc pc = .ok (.dup, 1)) (hva : va.category = 1) (hpc : pc + 1 = pc') (K : lm_St p l e R s m args below meth c D A nL ce sl Q ro w pc' lv (va :: va :: st)) : lm_St p l e R s m args below meth c D A nL ce sl Q ro w pc lv (va :: st) := by
  subst hpc
  exact fun H locs ls hI hL => lv_dup C.1 C.2.1 hd hva (K H locs ls hI hL)
theorem lm_dup2 (C : lm_Cx p s m args c D z zo nL own Ts cc) {va vb : Value} (hd : decode cc pc = .ok (.dup2, 1)) (hva : va.category = 1) (hvb : vb.category = 1) (hpc : pc + 1 = pc') (K : lm_St p l e R s m args below meth c D A nL ce sl Q ro w pc' lv (va :: vb :: va :: vb :: st)) : lm_St p l e R s m args below meth c D A nL ce sl Q ro w pc lv (va :: vb :: st) := by
  subst hpc
  exact fun H locs ls hI hL => lv_dup2_11 C.1 C.2.1 hd hva hvb (K H locs ls hI hL)
theorem lm_pop (C : lm_Cx p s m args c D z zo nL own Ts cc) {va : Value} (hd : decode cc pc = .ok (.pop, 1)) (hva : va.category = 1) (hpc : pc + 1 = pc') (K : lm_St p l e R s m args below meth c D A nL ce sl Q ro w pc' lv st) : lm_St p l e R s m args below meth c D A nL ce sl Q ro w pc lv (va :: st) := by
  subst hpc
  exact fun H locs ls hI hL => lv_pop C.1 C.2.1 hd hva (K H locs ls hI hL)
theorem lm_aconst_null (C : lm_Cx p s m args c D z zo nL own Ts cc) (hd : decode cc pc = .ok (.aconst_null, 1)) (hpc : pc + 1 = pc') (K : lm_St p l e R s m args below meth c D A nL ce sl Q ro w pc' lv (.null :: st)) : lm_St p l e R s m args below meth c D A nL ce sl Q ro w pc lv st := by
  subst hpc
  exact fun H locs ls hI hL => lv_null C.1 C.2.1 hd (K H locs ls hI hL)
theorem lm_i2l (C : lm_Cx p s m args c D z zo nL own Ts cc) {x : Int32} {v : Int64} (hd : decode cc pc = .ok (.i2l, 1)) (hv : x.toInt64 = v) (hpc : pc + 1 = pc') (K : lm_St p l e R s m args below meth c D A nL ce sl Q ro w pc' lv (.long v :: st)) : lm_St p l e R s m args below meth c D A nL ce sl Q ro w pc lv (.int x :: st) := by
  subst hpc
  exact fun H locs ls hI hL => lv_i2l C.1 C.2.1 hd hv (K H locs ls hI hL)
theorem lm_lconst (C : lm_Cx p s m args c D z zo nL own Ts cc) {n : Fin 2} {v : Int64} (hd : decode cc pc = .ok (.lconst n, 1)) (hv : Int64.ofNat (n : Nat) = v) (hpc : pc + 1 = pc') (K : lm_St p l e R s m args below meth c D A nL ce sl Q ro w pc' lv (.long v :: st)) : lm_St p l e R s m args below meth c D A nL ce sl Q ro w pc lv st := by
  subst hpc
  exact fun H locs ls hI hL => lv_lconst C.1 C.2.1 hd hv (K H locs ls hI hL)
theorem lm_lshl (C : lm_Cx p s m args c D z zo nL own Ts cc) {x v : Int64} {y : Int32} (hd : decode cc pc = .ok (.lshl, 1)) (hv : x <<< (y.toInt64 &&& 63) = v) (hpc : pc + 1 = pc') (K : lm_St p l e R s m args below meth c D A nL ce sl Q ro w pc' lv (.long v :: st)) : lm_St p l e R s m args below meth c D A nL ce sl Q ro w pc lv (.int y :: .long x :: st) := by
  subst hpc
  exact fun H locs ls hI hL => lv_lshl C.1 C.2.1 hd hv (K H locs ls hI hL)
theorem lm_ladd (C : lm_Cx p s m args c D z zo nL own Ts cc) {x y v : Int64} (hd : decode cc pc = .ok (.ladd, 1)) (hv : x + y = v) (hpc : pc + 1 = pc') (K : lm_St p l e R s m args below meth c D A nL ce sl Q ro w pc' lv (.long v :: st)) : lm_St p l e R s m args below meth c D A nL ce sl Q ro w pc lv (.long y :: .long x :: st) := by
  subst hpc
  exact fun H locs ls hI hL => lv_ladd C.1 C.2.1 hd (by rw [hv]; exact K H locs ls hI hL)
theorem lm_lcmp (C : lm_Cx p s m args c D z zo nL own Ts cc) {x y : Int64} {v : Int32} (hd : decode cc pc = .ok (.lcmp, 1)) (hv : lg_cmp x y = v) (hpc : pc + 1 = pc') (K : lm_St p l e R s m args below meth c D A nL ce sl Q ro w pc' lv (.int v :: st)) : lm_St p l e R s m args below meth c D A nL ce sl Q ro w pc lv (.long y :: .long x :: st) := by
  subst hpc
  exact fun H locs ls hI hL => W.lcmp C.1 C.2.1 hd (by rw [hv]; exact K H locs ls hI hL)
theorem lm_lvsub (ks : List Nat) (hq : lv_pick lv ks = lv') (K : lm_St p l e R s m args below meth c D A nL ce sl Q ro w pc lv' st) : lm_St p l e R s m args below meth c D A nL ce sl Q ro w pc lv st := fun H locs ls hI hL => K H locs ls hI (lv_sub hL ks hq)
theorem lm_if_eq (C : lm_Cx p s m args c D z zo nL own Ts cc) {x : Int32} {off : Int} {tgt : Nat} (hd : decode cc pc = .ok (.ifCond .eq off, 3)) (ht : (pc : Int) + off = (tgt : Int)) (hpc : pc + 3 = pc') (kt : x = 0 → lm_St p l e R s m args below meth c D A nL ce sl Q ro w tgt lv st) (kf : ¬ (x = 0) → lm_St p l e R s m args below meth c D A nL ce sl Q ro w pc' lv st) : lm_St p l e R s m args below meth c D A nL ce sl Q ro w pc lv (.int x :: st) := by
  subst hpc
  exact fun H locs ls hI hL => lv_if_eq C.1 C.2.1 hd ht (fun h => kt h H locs ls hI hL) (fun h => kf h H locs ls hI hL)
theorem lm_if_ne (C : lm_Cx p s m args c D z zo nL own Ts cc) {x : Int32} {off : Int} {tgt : Nat} (hd : decode cc pc = .ok (.ifCond .ne off, 3)) (ht : (pc : Int) + off = (tgt : Int)) (hpc : pc + 3 = pc') (kt : ¬ x = 0 → lm_St p l e R s m args below meth c D A nL ce sl Q ro w tgt lv st) (kf : ¬ (¬ x = 0) → lm_St p l e R s m args below meth c D A nL ce sl Q ro w pc' lv st) : lm_St p l e R s m args below meth c D A nL ce sl Q ro w pc lv (.int x :: st) := by
  subst hpc
  exact fun H locs ls hI hL => lv_if_ne C.1 C.2.1 hd ht (fun h => kt h H locs ls hI hL) (fun h => kf h H locs ls hI hL)
theorem lm_if_lt (C : lm_Cx p s m args c D z zo nL own Ts cc) {x : Int32} {off : Int} {tgt : Nat} (hd : decode cc pc = .ok (.ifCond .lt off, 3)) (ht : (pc : Int) + off = (tgt : Int)) (hpc : pc + 3 = pc') (kt : x < 0 → lm_St p l e R s m args below meth c D A nL ce sl Q ro w tgt lv st) (kf : ¬ (x < 0) → lm_St p l e R s m args below meth c D A nL ce sl Q ro w pc' lv st) : lm_St p l e R s m args below meth c D A nL ce sl Q ro w pc lv (.int x :: st) := by
  subst hpc
  exact fun H locs ls hI hL => lv_if_lt C.1 C.2.1 hd ht (fun h => kt h H locs ls hI hL) (fun h => kf h H locs ls hI hL)
theorem lm_if_ge (C : lm_Cx p s m args c D z zo nL own Ts cc) {x : Int32} {off : Int} {tgt : Nat} (hd : decode cc pc = .ok (.ifCond .ge off, 3)) (ht : (pc : Int) + off = (tgt : Int)) (hpc : pc + 3 = pc') (kt : 0 ≤ x → lm_St p l e R s m args below meth c D A nL ce sl Q ro w tgt lv st) (kf : ¬ (0 ≤ x) → lm_St p l e R s m args below meth c D A nL ce sl Q ro w pc' lv st) : lm_St p l e R s m args below meth c D A nL ce sl Q ro w pc lv (.int x :: st) := by
  subst hpc
  exact fun H locs ls hI hL => lv_if_ge C.1 C.2.1 hd ht (fun h => kt h H locs ls hI hL) (fun h => kf h H locs ls hI hL)
theorem lm_if_gt (C : lm_Cx p s m args c D z zo nL own Ts cc) {x : Int32} {off : Int} {tgt : Nat} (hd : decode cc pc = .ok (.ifCond .gt off, 3)) (ht : (pc : Int) + off = (tgt : Int)) (hpc : pc + 3 = pc') (kt : 0 < x → lm_St p l e R s m args below meth c D A nL ce sl Q ro w tgt lv st) (kf : ¬ (0 < x) → lm_St p l e R s m args below meth c D A nL ce sl Q ro w pc' lv st) : lm_St p l e R s m args below meth c D A nL ce sl Q ro w pc lv (.int x :: st) := by
  subst hpc
  exact fun H locs ls hI hL => lv_if_gt C.1 C.2.1 hd ht (fun h => kt h H locs ls hI hL) (fun h => kf h H locs ls hI hL)
theorem lm_if_le (C : lm_Cx p s m args c D z zo nL own Ts cc) {x : Int32} {off : Int} {tgt : Nat} (hd : decode cc pc = .ok (.ifCond .le off, 3)) (ht : (pc : Int) + off = (tgt : Int)) (hpc : pc + 3 = pc') (kt : x ≤ 0 → lm_St p l e R s m args below meth c D A nL ce sl Q ro w tgt lv st) (kf : ¬ (x ≤ 0) → lm_St p l e R s m args below meth c D A nL ce sl Q ro w pc' lv st) : lm_St p l e R s m args below meth c D A nL ce sl Q ro w pc lv (.int x :: st) := by
  subst hpc
  exact fun H locs ls hI hL => lv_if_le C.1 C.2.1 hd ht (fun h => kt h H locs ls hI hL) (fun h => kf h H locs ls hI hL)
theorem lm_icmp_eq (C : lm_Cx p s m args c D z zo nL own Ts cc) {x y : Int32} {off : Int} {tgt : Nat} (hd : decode cc pc = .ok (.if_icmp .eq off, 3)) (ht : (pc : Int) + off = (tgt : Int)) (hpc : pc + 3 = pc') (kt : x = y → lm_St p l e R s m args below meth c D A nL ce sl Q ro w tgt lv st) (kf : ¬ (x = y) → lm_St p l e R s m args below meth c D A nL ce sl Q ro w pc' lv st) : lm_St p l e R s m args below meth c D A nL ce sl Q ro w pc lv (.int y :: .int x :: st) := by
  subst hpc
  exact fun H locs ls hI hL => lv_icmp_eq C.1 C.2.1 hd ht (fun h => kt h H locs ls hI hL) (fun h => kf h H locs ls hI hL)
theorem lm_icmp_ne (C : lm_Cx p s m args c D z zo nL own Ts cc) {x y : Int32} {off : Int} {tgt : Nat} (hd : decode cc pc = .ok (.if_icmp .ne off, 3)) (ht : (pc : Int) + off = (tgt : Int)) (hpc : pc + 3 = pc') (kt : ¬ x = y → lm_St p l e R s m args below meth c D A nL ce sl Q ro w tgt lv st) (kf : ¬ (¬ x = y) → lm_St p l e R s m args below meth c D A nL ce sl Q ro w pc' lv st) : lm_St p l e R s m args below meth c D A nL ce sl Q ro w pc lv (.int y :: .int x :: st) := by
  subst hpc
  exact fun H locs ls hI hL => lv_icmp_ne C.1 C.2.1 hd ht (fun h => kt h H locs ls hI hL) (fun h => kf h H locs ls hI hL)
theorem lm_icmp_lt (C : lm_Cx p s m args c D z zo nL own Ts cc) {x y : Int32} {off : Int} {tgt : Nat} (hd : decode cc pc = .ok (.if_icmp .lt off, 3)) (ht : (pc : Int) + off = (tgt : Int)) (hpc : pc + 3 = pc') (kt : x < y → lm_St p l e R s m args below meth c D A nL ce sl Q ro w tgt lv st) (kf : ¬ (x < y) → lm_St p l e R s m args below meth c D A nL ce sl Q ro w pc' lv st) : lm_St p l e R s m args below meth c D A nL ce sl Q ro w pc lv (.int y :: .int x :: st) := by
  subst hpc
  exact fun H locs ls hI hL => lv_icmp_lt C.1 C.2.1 hd ht (fun h => kt h H locs ls hI hL) (fun h => kf h H locs ls hI hL)
theorem lm_icmp_ge (C : lm_Cx p s m args c D z zo nL own Ts cc) {x y : Int32} {off : Int} {tgt : Nat} (hd : decode cc pc = .ok (.if_icmp .ge off, 3)) (ht : (pc : Int) + off = (tgt : Int)) (hpc : pc + 3 = pc') (kt : y ≤ x → lm_St p l e R s m args below meth c D A nL ce sl Q ro w tgt lv st) (kf : ¬ (y ≤ x) → lm_St p l e R s m args below meth c D A nL ce sl Q ro w pc' lv st) : lm_St p l e R s m args below meth c D A nL ce sl Q ro w pc lv (.int y :: .int x :: st) := by
  subst hpc
  exact fun H locs ls hI hL => lv_icmp_ge C.1 C.2.1 hd ht (fun h => kt h H locs ls hI hL) (fun h => kf h H locs ls hI hL)
theorem lm_icmp_gt (C : lm_Cx p s m args c D z zo nL own Ts cc) {x y : Int32} {off : Int} {tgt : Nat} (hd : decode cc pc = .ok (.if_icmp .gt off, 3)) (ht : (pc : Int) + off = (tgt : Int)) (hpc : pc + 3 = pc') (kt : y < x → lm_St p l e R s m args below meth c D A nL ce sl Q ro w tgt lv st) (kf : ¬ (y < x) → lm_St p l e R s m args below meth c D A nL ce sl Q ro w pc' lv st) : lm_St p l e R s m args below meth c D A nL ce sl Q ro w pc lv (.int y :: .int x :: st) := by
  subst hpc
  exact fun H locs ls hI hL => lv_icmp_gt C.1 C.2.1 hd ht (fun h => kt h H locs ls hI hL) (fun h => kf h H locs ls hI hL)
theorem lm_icmp_le (C : lm_Cx p s m args c D z zo nL own Ts cc) {x y : Int32} {off : Int} {tgt : Nat} (hd : decode cc pc = .ok (.if_icmp .le off, 3)) (ht : (pc : Int) + off = (tgt : Int)) (hpc : pc + 3 = pc') (kt : x ≤ y → lm_St p l e R s m args below meth c D A nL ce sl Q ro w tgt lv st) (kf : ¬ (x ≤ y) → lm_St p l e R s m args below meth c D A nL ce sl Q ro w pc' lv st) : lm_St p l e R s m args below meth c D A nL ce sl Q ro w pc lv (.int y :: .int x :: st) := by
  subst hpc
  exact fun H locs ls hI hL => lv_icmp_le C.1 C.2.1 hd ht (fun h => kt h H locs ls hI hL) (fun h => kf h H locs ls hI hL)
theorem lm_goto (C : lm_Cx p s m args c D z zo nL own Ts cc) {off : Int} {tgt : Nat} (hd : decode cc pc = .ok (.goto off, 3)) (ht : (pc : Int) + off = (tgt : Int)) (K : lm_St p l e R s m args below meth c D A nL ce sl Q ro w tgt lv st) : lm_St p l e R s m args below meth c D A nL ce sl Q ro w pc lv st := fun H locs ls hI hL => lv_goto C.1 C.2.1 hd ht (K H locs ls hI hL)
theorem lm_ifnonnull (C : lm_Cx p s m args c D z zo nL own Ts cc) {x : Nat} {off : Int} {tgt : Nat} (hd : decode cc pc = .ok (.ifnonnull off, 3)) (ht : (pc : Int) + off = (tgt : Int)) (K : lm_St p l e R s m args below meth c D A nL ce sl Q ro w tgt lv st) : lm_St p l e R s m args below meth c D A nL ce sl Q ro w pc lv (.ref x :: st) := fun H locs ls hI hL => lv_ifnonnull C.1 C.2.1 hd ht (K H locs ls hI hL)
theorem lm_ifnonnullN (C : lm_Cx p s m args c D z zo nL own Ts cc) {off : Int} (hd : decode cc pc = .ok (.ifnonnull off, 3)) (hpc : pc + 3 = pc') (K : lm_St p l e R s m args below meth c D A nL ce sl Q ro w pc' lv st) : lm_St p l e R s m args below meth c D A nL ce sl Q ro w pc lv (.null :: st) := by
  subst hpc
  exact fun H locs ls hI hL => lv_ifnonnullN C.1 C.2.1 hd (K H locs ls hI hL)
theorem lm_ifnull (C : lm_Cx p s m args c D z zo nL own Ts cc) {x : Nat} {off : Int} (hd : decode cc pc = .ok (.ifnull off, 3)) (hpc : pc + 3 = pc') (K : lm_St p l e R s m args below meth c D A nL ce sl Q ro w pc' lv st) : lm_St p l e R s m args below meth c D A nL ce sl Q ro w pc lv (.ref x :: st) := by
  subst hpc
  exact fun H locs ls hI hL => lv_ifnull C.1 C.2.1 hd (K H locs ls hI hL)
theorem lm_ifnullN (C : lm_Cx p s m args c D z zo nL own Ts cc) {off : Int} {tgt : Nat} (hd : decode cc pc = .ok (.ifnull off, 3)) (ht : (pc : Int) + off = (tgt : Int)) (K : lm_St p l e R s m args below meth c D A nL ce sl Q ro w tgt lv st) : lm_St p l e R s m args below meth c D A nL ce sl Q ro w pc lv (.null :: st) := fun H locs ls hI hL => lv_ifnullN C.1 C.2.1 hd ht (K H locs ls hI hL)
theorem lm_tableIn (C : lm_Cx p s m args c D z zo nL own Ts cc) {dflt lo hi : Int} {offs : Array Int} {len : Nat} {x : Int32} {off : Int} {tgt : Nat} (v : Int32) (hd : decode cc pc = .ok (.tableswitch dflt lo hi offs, len)) (hx : x = v) (h1 : ¬ v.toInt < lo) (h2 : ¬ hi < v.toInt) (ho : offs[(v.toInt - lo).toNat]? = some off) (ht : (pc : Int) + off = (tgt : Int)) (K : lm_St p l e R s m args below meth c D A nL ce sl Q ro w tgt lv st) : lm_St p l e R s m args below meth c D A nL ce sl Q ro w pc lv (.int x :: st) := by
  subst hx
  exact fun H locs ls hI hL => lv_tableIn C.1 C.2.1 hd h1 h2 ho ht (K H locs ls hI hL)
theorem lm_tableOut (C : lm_Cx p s m args c D z zo nL own Ts cc) {dflt lo hi : Int} {offs : Array Int} {len : Nat} {x : Int32} {tgt : Nat} (hd : decode cc pc = .ok (.tableswitch dflt lo hi offs, len)) (h : x.toInt < lo ∨ hi < x.toInt) (ht : (pc : Int) + dflt = (tgt : Int)) (K : lm_St p l e R s m args below meth c D A nL ce sl Q ro w tgt lv st) : lm_St p l e R s m args below meth c D A nL ce sl Q ro w pc lv (.int x :: st) := fun H locs ls hI hL => lv_tableOut C.1 C.2.1 hd h ht (K H locs ls hI hL)
theorem lm_lookup (C : lm_Cx p s m args c D z zo nL own Ts cc) {dflt : Int} {ps : Array (Int × Int)} {len : Nat} {x : Int32} {off : Int} {tgt : Nat} (hd : decode cc pc = .ok (.lookupswitch dflt ps, len)) (hp : (ps.toList.zip (ps.toList.drop 1)).all (fun (a, next) => a.1 < next.1) = true) (ho : Op.lookupswitch.offset ps.toList dflt x.toInt = off) (ht : (pc : Int) + off = (tgt : Int)) (K : lm_St p l e R s m args below meth c D A nL ce sl Q ro w tgt lv st) : lm_St p l e R s m args below meth c D A nL ce sl Q ro w pc lv (.int x :: st) := fun H locs ls hI hL => lv_lookup C.1 C.2.1 hd hp ho ht (K H locs ls hI hL)
theorem lm_getf (C : lm_Cx p s m args c D z zo nL own Ts cc) {ref Cn : String} {T : u_T} {N ci index : Nat} (hin : ∀ w ∈ u_ws Cn T N, w ∈ Ts) (q0 : Nat) {a : Nat} {fs : List Value} (he : w[q0]? = some (a, .inr (ci, fs))) (hc : vwCl[ci]? = some (Cn, T, N)) (k : Nat) (hk : k < N) (hlink : Cond.fieldLink own index ref (T k).2.1 (T k).2.2.1 ∈ Ts) (hsame : (T k).1 = ref) {v : Value} (hv : fs[k]? = some v) (hd : decode cc pc = .ok (.getfield index, 3)) (hpc : pc + 3 = pc') (K : lm_St p l e R s m args below meth c D A nL ce sl Q ro w pc' lv (v :: st)) : lm_St p l e R s m args below meth c D A nL ce sl Q ro w pc lv (.ref a :: st) := by
  subst hpc
  exact fun H locs ls hI hL => va_get (D := D) C.1 C.2.1 C.2.2.2.2.1 hin C.2.2.2.1 C.2.2.2.2.2.1 hI.1 q0 he hc k hk (C.2.2.2.2.1 _ hlink) (fun _ h9 => hsame ▸ h9) hv hd (K H locs ls hI hL)
theorem lm_iald (C : lm_Cx p s m args c D z zo nL own Ts cc) (q0 : Nat) {a : Nat} {n : Nat} {f : Nat → Int32} (ha : w[q0]? = some (a, .inl (z, n, .inl f))) {i v : Int32} (hin : vp_in i n) (hv : f i.toNatClampNeg = v) (hd : decode cc pc = .ok (.iaload, 1)) (hpc : pc + 1 = pc') (K : lm_St p l e R s m args below meth c D A nL ce sl Q ro w pc' lv (.int v :: st)) : lm_St p l e R s m args below meth c D A nL ce sl Q ro w pc lv (.int i :: .ref a :: st) := by
  subst hpc hv
  exact fun H locs ls hI hL => va_iald (D := D) C.1 C.2.1 C.2.2.2.2.2.1 hI.1 q0 0 ha rfl hin hd (K H locs ls hI hL)
theorem lm_alen (C : lm_Cx p s m args c D z zo nL own Ts cc) (q0 : Nat) {a : Nat} {x : vp_A} (ha : w[q0]? = some (a, .inl (z, x))) {v : Int32} (hv : Int32.ofNat x.1 = v) (hd : decode cc pc = .ok (.arraylength, 1)) (hpc : pc + 1 = pc') (K : lm_St p l e R s m args below meth c D A nL ce sl Q ro w pc' lv (.int v :: st)) : lm_St p l e R s m args below meth c D A nL ce sl Q ro w pc lv (.ref a :: st) := by
  subst hpc
  exact fun H locs ls hI hL => va_alen (D := D) C.1 C.2.1 C.2.2.2.2.2.1 hI.1 q0 0 ha rfl hv hd (K H locs ls hI hL)
theorem lm_alenO (C : lm_Cx p s m args c D z zo nL own Ts cc) (q0 : Nat) {a : Nat} {x : vp_A} (ha : w[q0]? = some (a, .inl (zo, x))) {v : Int32} (hv : Int32.ofNat x.1 = v) (hd : decode cc pc = .ok (.arraylength, 1)) (hpc : pc + 1 = pc') (K : lm_St p l e R s m args below meth c D A nL ce sl Q ro w pc' lv (.int v :: st)) : lm_St p l e R s m args below meth c D A nL ce sl Q ro w pc lv (.ref a :: st) := by
  subst hpc
  exact fun H locs ls hI hL => va_alen (D := D) C.1 C.2.1 C.2.2.2.2.2.1 hI.1 q0 1 ha rfl hv hd (K H locs ls hI hL)
theorem lm_aald (C : lm_Cx p s m args c D z zo nL own Ts cc) (q0 : Nat) {a : Nat} {n : Nat} {f : Nat → Option Nat} (ha : w[q0]? = some (a, .inl (zo, n, .inr (.inr (.inr (.inr f)))))) {i : Int32} {v : Value} (hin : vp_in i n) (hv : va_rf (f i.toNatClampNeg) = v) (hd : decode cc pc = .ok (.aaload, 1)) (hpc : pc + 1 = pc') (K : lm_St p l e R s m args below meth c D A nL ce sl Q ro w pc' lv (v :: st)) : lm_St p l e R s m args below meth c D A nL ce sl Q ro w pc lv (.int i :: .ref a :: st) := by
  subst hpc hv
  exact fun H locs ls hI hL => va_aldq (D := D) C.1 C.2.1 C.2.2.2.2.2.1 hI.1 q0 1 ha rfl hin hd (K H locs ls hI hL)
theorem lm_putf (C : lm_Cx p s m args c D z zo nL own Ts cc) {ref Cn : String} {T : u_T} {N ci index : Nat} (hin : ∀ w ∈ u_ws Cn T N, w ∈ Ts) (ty0 : Nat → FieldType) (hty : ∀ k, k < N → parseFieldDescriptor (T k).2.2.1 = some (ty0 k)) (hnm : ∀ a, a < N → ∀ b, b < N → a ≠ b → (T a).2.1 ≠ (T b).2.1) (q0 : Nat) {a : Nat} {fs : List Value} (he : w[q0]? = some (a, .inr (ci, fs))) (hc : vwCl[ci]? = some (Cn, T, N)) (k : Nat) (hk : k < N) (hlink : Cond.fieldLink own index ref (T k).2.1 (T k).2.2.1 ∈ Ts) (hsame : (T k).1 = ref) (hfin : (T k).2.2.2 = false) {ty : FieldType} {v : Value} (hty2 : ty0 k = ty) (hn : narrow ty v = v) (hfit : fits ty v = true) (hl : k < fs.length) (hd : decode cc pc = .ok (.putfield index, 3)) (hw : w.set q0 (a, .inr (ci, fs.set k v)) = w') (hpc : pc + 3 = pc') (K : lm_St p l e R s m args below meth c D A nL ce sl Q false w' pc' lv st) : lm_St p l e R s m args below meth c D A nL ce sl Q false w pc lv (v :: .ref a :: st) := by
  subst hpc hw
  exact fun H locs ls hI hL => va_put (D := D) C.1 C.2.1 C.2.2.2.2.1 hin ty0 hty hnm C.2.2.2.1 C.2.2.2.2.2.1 hI.1 (hI.2.2 rfl).1 (hI.2.2 rfl).2 q0 he hc k hk (C.2.2.2.2.1 _ hlink) (fun _ h9 => hsame ▸ h9) hfin (by rw [hty k hk, hty2]) hn hfit hl hd (fun H1 locs1 hP hD hS => K H1 locs1 ls ⟨hP, fun h => (by cases h), fun _ => ⟨hD, hS⟩⟩ hL)
theorem lm_iast (C : lm_Cx p s m args c D z zo nL own Ts cc) (q0 : Nat) {a : Nat} {n : Nat} {f : Nat → Int32} (ha : w[q0]? = some (a, .inl (z, n, .inl f))) {i x : Int32} (hin : vp_in i n) (hd : decode cc pc = .ok (.iastore, 1)) (hw : w.set q0 (a, .inl (z, n, .inl (upd f i.toNatClampNeg x))) = w') (hpc : pc + 1 = pc') (K : lm_St p l e R s m args below meth c D A nL ce sl Q false w' pc' lv st) : lm_St p l e R s m args below meth c D A nL ce sl Q false w pc lv (.int x :: .int i :: .ref a :: st) := by
  subst hpc hw
  exact fun H locs ls hI hL => va_iast (D := D) C.1 C.2.1 C.2.2.2.2.2.1 hI.1 (hI.2.2 rfl).1 (hI.2.2 rfl).2 q0 0 ha rfl hin hd (fun H1 locs1 hP hD hS => K H1 locs1 ls ⟨hP, fun h => (by cases h), fun _ => ⟨hD, hS⟩⟩ hL)
theorem lm_iretR (C : lm_Cx p s m args c D z zo nL own Ts cc) (hr : meth.sig.returnType = some .int) (hk : meth.locks = false) {v : Int32} {rv : Option Value} (hv : rv = some (.int v)) (hd : decode cc pc = .ok (.ireturn, 1)) : lm_St p l e R s m args below meth c D (fun _ => False) nL 0 0 (lm_EndR below rv args s) true w pc lv [.int v] := by
  subst hv
  intro H locs ls hI hL
  obtain ⟨rfl, rfl⟩ := hI.2.1 rfl
  exact W.iret (v := v) C.1 C.2.1 hr (fun t ht hW => ⟨rfl, ht⟩) (fun q hq => absurd hq List.not_mem_nil) hd hk
theorem lm_zretR (C : lm_Cx p s m args c D z zo nL own Ts cc) (hr : meth.sig.returnType = some .boolean) (hk : meth.locks = false) {v : Int32} {rv : Option Value} (hb : narrow .boolean (.int v) = .int v) (hv : rv = some (.int v)) (hd : decode cc pc = .ok (.ireturn, 1)) : lm_St p l e R s m args below meth c D (fun _ => False) nL 0 0 (lm_EndR below rv args s) true w pc lv [.int v] := by
  subst hv
  intro H locs ls hI hL
  obtain ⟨rfl, rfl⟩ := hI.2.1 rfl
  exact W.zret (v := v) C.1 C.2.1 hr hb (fun t ht hW => ⟨rfl, ht⟩) (fun q hq => absurd hq List.not_mem_nil) hd hk
theorem lm_lretR (C : lm_Cx p s m args c D z zo nL own Ts cc) (hr : meth.sig.returnType = some .long) (hk : meth.locks = false) {v : Int64} {rv : Option Value} (hv : rv = some (.long v)) (hd : decode cc pc = .ok (.lreturn, 1)) : lm_St p l e R s m args below meth c D (fun _ => False) nL 0 0 (lm_EndR below rv args s) true w pc lv [.long v] := by
  subst hv
  intro H locs ls hI hL
  obtain ⟨rfl, rfl⟩ := hI.2.1 rfl
  exact W.lret (v := v) C.1 C.2.1 hr (fun t ht hW => ⟨rfl, ht⟩) (fun q hq => absurd hq List.not_mem_nil) hd hk
theorem lm_aretR (C : lm_Cx p s m args c D z zo nL own Ts cc) {rt : FieldType} (hr : meth.sig.returnType = some rt) (hk : meth.locks = false) (hrt : (∃ n, rt = .object n) ∨ ∃ t, rt = .array t) {v : Value} {rv : Option Value} (ha : v = .null ∨ ∃ a, v = .ref a) (hv : rv = some v) (hd : decode cc pc = .ok (.areturn, 1)) : lm_St p l e R s m args below meth c D (fun _ => False) nL 0 0 (lm_EndR below rv args s) true w pc lv [v] := by
  subst hv
  intro H locs ls hI hL
  obtain ⟨rfl, rfl⟩ := hI.2.1 rfl
  exact W.aret (v := v) C.1 C.2.1 hr hrt ha (fun t ht hW => ⟨rfl, ht⟩) (fun q hq => absurd hq List.not_mem_nil) hd hk
theorem lm_iret (C : lm_Cx p s m args c D z zo nL own Ts cc) {w0 : va_W} (hr : meth.sig.returnType = some .int) (hk : meth.locks = false) {v : Int32} {rv : Option Value} (hv : rv = some (.int v)) (hw : w = w') (hd : decode cc pc = .ok (.ireturn, 1)) : lm_St p l e R s m args below meth c D (va_A w0 s.heap.size) nL 0 0 (lm_End below D rv w0 w' args s) false w pc lv [.int v] := by
  subst hv hw
  intro H locs ls hI hL
  obtain ⟨hD, hS⟩ := hI.2.2 rfl
  exact W.iret (v := v) C.1 C.2.1 hr (fun t ht hW => ⟨⟨rfl, by rw [ht]; exact hI.1, hD⟩, hS.F ht⟩) hS.2.2 hd hk
theorem lm_zret (C : lm_Cx p s m args c D z zo nL own Ts cc) {w0 : va_W} (hr : meth.sig.returnType = some .boolean) (hk : meth.locks = false) {v : Int32} {rv : Option Value} (hb : narrow .boolean (.int v) = .int v) (hv : rv = some (.int v)) (hw : w = w') (hd : decode cc pc = .ok (.ireturn, 1)) : lm_St p l e R s m args below meth c D (va_A w0 s.heap.size) nL 0 0 (lm_End below D rv w0 w' args s) false w pc lv [.int v] := by
  subst hv hw
  intro H locs ls hI hL
  obtain ⟨hD, hS⟩ := hI.2.2 rfl
  exact W.zret (v := v) C.1 C.2.1 hr hb (fun t ht hW => ⟨⟨rfl, by rw [ht]; exact hI.1, hD⟩, hS.F ht⟩) hS.2.2 hd hk
theorem lm_vret (C : lm_Cx p s m args c D z zo nL own Ts cc) {w0 : va_W} (hr : meth.sig.returnType = none) (hk : meth.locks = false) {rv : Option Value} (hv : rv = none) (hw : w = w') (hd : decode cc pc = .ok (.return_, 1)) : lm_St p l e R s m args below meth c D (va_A w0 s.heap.size) nL 0 0 (lm_End below D rv w0 w' args s) false w pc lv [] := by
  subst hv hw
  intro H locs ls hI hL
  obtain ⟨hD, hS⟩ := hI.2.2 rfl
  exact W.vret C.1 C.2.1 hr (fun t ht hW => ⟨⟨rfl, by rw [ht]; exact hI.1, hD⟩, hS.F ht⟩) hS.2.2 hd hk
theorem lm_aret (C : lm_Cx p s m args c D z zo nL own Ts cc) {w0 : va_W} {rt : FieldType} (hr : meth.sig.returnType = some rt) (hk : meth.locks = false) (hrt : (∃ n, rt = .object n) ∨ ∃ t, rt = .array t) {v : Value} {rv : Option Value} (ha : v = .null ∨ ∃ a, v = .ref a) (hv : rv = some v) (hw : w = w') (hd : decode cc pc = .ok (.areturn, 1)) : lm_St p l e R s m args below meth c D (va_A w0 s.heap.size) nL 0 0 (lm_End below D rv w0 w' args s) false w pc lv [v] := by
  subst hv hw
  intro H locs ls hI hL
  obtain ⟨hD, hS⟩ := hI.2.2 rfl
  exact W.aret (v := v) C.1 C.2.1 hr hrt ha (fun t ht hW => ⟨⟨rfl, by rw [ht]; exact hI.1, hD⟩, hS.F ht⟩) hS.2.2 hd hk
theorem lm_goR {y : MethodName} {rv : Option Value} {As : List Value} {wc : va_W} {stk st' : List Value} {mcA : Array Value} (hrun : ∀ (H : Heap) (locs : List Loc) (ls : Array Slot), lm_I D A s ro w H locs → lv_has ls nL lv → va_Run p l e R s m args below meth c H locs ce sl 0 0 (F0 m pc ls stk) st (lm_QR rv mcA) (fun _ => False)) (hst : rv.toList ++ st = st') (hpc : pc + 3 = pc') (K : lm_St p l e R s m args below meth c D A nL ce sl Q ro w pc' lv st') : lm_St p l e R s m args below meth c D A nL ce sl Q ro w pc lv stk := by
  subst hpc hst
  intro H locs ls hI hL T hT X
  obtain ⟨v, st₀, t, T', L, h0, X', hf, e1, e2, ⟨hv, hh⟩, go⟩ := hrun H locs ls hI hL T hT X
  have hv2 : v = rv := by cases hv; rfl
  subst hv2
  have hL0 : L = [] := by
    cases L with
    | nil => rfl
    | cons a b => exact absurd (hf a List.mem_cons_self) id
  subst hL0
  rw [List.append_nil] at X'
  obtain ⟨t2, a1, b1⟩ := K H locs ls hI hL T' (by rw [e1, hh, h0]) X'
  exact ⟨t2, go t2 a1, b1⟩
theorem lm_goW {rv : Option Value} {wc wr w1 : va_W} {stk st' : List Value} {mcA : Array Value} (hA : ∀ q, s.heap.size ≤ q → A q) (hp : w.Perm (wc ++ wr)) (hp' : (w1 ++ wr).Perm w') (hrun : ∀ (H : Heap) (locs : List Loc) (ls : Array Slot), lm_I D A s false w H locs → lv_has ls nL lv → va_Run p l e R s m args below meth c H locs ce sl 0 0 (F0 m pc ls stk) st (lm_Q D rv wc w1 H.size mcA) (va_A wc H.size)) (hst : rv.toList ++ st = st') (hpc : pc + 3 = pc') (K : lm_St p l e R s m args below meth c D A nL ce sl Q false w' pc' lv st') : lm_St p l e R s m args below meth c D A nL ce sl Q false w pc lv stk := by
  subst hpc hst
  intro H locs ls hI hL T hT X
  obtain ⟨v, st₀, t, T', L, h0, X', hf, e1, e2, ⟨⟨hv, hP1, hD1⟩, hz, hk⟩, go⟩ := hrun H locs ls hI hL T hT X
  have hv2 : v = rv := by cases hv; rfl
  subst hv2
  rw [h0] at hz hk
  obtain ⟨hD, hS⟩ := hI.2.2 rfl
  have hPp := lm_P_perm hp hI.1
  have hDp := lm_D_perm hp hD
  have hF : ∀ q, va_A wc H.size q → A q := by
    intro q hq
    rcases hq with ⟨k, e9, hq⟩ | hq
    · exact (lm_D_iff.mp hDp).2 (q, e9) (List.mem_append_left _ (List.mem_of_getElem? hq))
    · exact hA q (Nat.le_trans hS.1 hq)
  obtain ⟨hP2, hD2⟩ := lm_frame hPp hDp hk hF hP1 hD1
  have hS2 : va_S A s.heap t.heap (locs ++ L) := ⟨Nat.le_trans hS.1 hz, fun q h1 h2 => by rw [hk q (Nat.lt_of_lt_of_le h1 hS.1) (fun z9 => h2 (hF q z9))]; exact hS.2.1 q h1 h2, fun q hq => by
    rcases List.mem_append.mp hq with h | h
    · exact hS.2.2 q h
    · exact hF _ (hf q h)⟩
  obtain ⟨t2, a1, b1⟩ := K t.heap (locs ++ L) ls ⟨lm_P_perm hp' hP2, fun h => (by cases h), fun _ => ⟨lm_D_perm hp' hD2, hS2⟩⟩ hL T' e1 X'
  exact ⟨t2, go t2 a1, b1⟩
theorem lm_callVR (C : lm_Cx p s m args c D z zo nL own Ts cc) {y : MethodName} {bytes : ByteArray} {maxL : Nat} {ret : Option FieldType} {wsy wsy' : List Cond} {fr lo n index : Nat} {Cn : String} {b : Nat} {As : List Value} {wc : va_W} {rv : Option Value} {ci N : Nat} {T : u_T} {fs : List Value} {stk st' : List Value} (hM : lm_CR D z zo l y wsy fr lo (.ref b :: As) wc rv) (hG : GoodIn Ts (wsV own index Cn y wsy)) (hw : wsy = Cond.code y bytes maxL ret :: wsy') (hdv : y.cls = Cn ∧ y.cls ≠ "java/lang/invoke/MethodHandle" ∧ y.cls ≠ "java/lang/invoke/VarHandle" ∧ (parseMethodDescriptor y.desc).map (fun d => d.parameters.length) = some n) (hR : fr + 1 ≤ R.frames ∧ 8 + (maxL + 11) + lo ≤ R.locals) (hce : ce + 0 ≤ R.cells ∧ sl + 0 ≤ R.slots) (q0 : Nat) (he : w[q0]? = some (b, .inr (ci, fs))) (hc : vwCl[ci]? = some (Cn, T, N)) (hsub : ∀ q ∈ wc, q ∈ w) (hn : As.length = n) (hstk : stk = As.reverse ++ .ref b :: st) (hcat : (st.map fun v => v.category).sum ≤ 8) (hd : decode cc pc = .ok (.invokevirtual index, 3)) (hst : rv.toList ++ st = st') (hpc : pc + 3 = pc') (K : lm_St p l e R s m args below meth c D A nL ce sl Q ro w pc' lv st') : lm_St p l e R s m args below meth c D A nL ce sl Q ro w pc lv stk := by
  subst hstk
  refine lm_goR (y := y) (As := As) (wc := wc) (rv := rv) (mcA := (Value.ref b :: As).toArray) (fun H locs ls hI hL => ?_) hst hpc K
  exact va_runV (As := As) (rest := st) ⟨C.1, C.2.1, C.2.2.1, C.2.2.2.1, C.2.2.2.2.1⟩ hM (cwV n C.2.2.2.2.1 hG hw rfl rfl hdv hR) ⟨lm_PcR.blind, va_recv C.2.2.2.2.2.1 hI.1 hc he, fun U hU hW => ⟨rfl, by rw [hU]; exact lm_P_sub hI.1 hsub, va_K.moved hW.alike C.2.2.2.2.2.1, lm_NW.warm hW C.2.2.2.2.2.2⟩⟩ rfl hn hL.1 rfl (lv_room hcat) hd hce
theorem lm_callV (C : lm_Cx p s m args c D z zo nL own Ts cc) {y : MethodName} {bytes : ByteArray} {maxL : Nat} {ret : Option FieldType} {wsy wsy' : List Cond} {fr lo n index : Nat} {Cn : String} {b : Nat} {As : List Value} {wc wr w1 : va_W} {rv : Option Value} {ci N : Nat} {T : u_T} {fs : List Value} {stk st' : List Value} (hA : ∀ q, s.heap.size ≤ q → A q) (hM : lm_C D z zo l y wsy fr lo (.ref b :: As) wc rv w1) (hG : GoodIn Ts (wsV own index Cn y wsy)) (hw : wsy = Cond.code y bytes maxL ret :: wsy') (hdv : y.cls = Cn ∧ y.cls ≠ "java/lang/invoke/MethodHandle" ∧ y.cls ≠ "java/lang/invoke/VarHandle" ∧ (parseMethodDescriptor y.desc).map (fun d => d.parameters.length) = some n) (hR : fr + 1 ≤ R.frames ∧ 8 + (maxL + 11) + lo ≤ R.locals) (hce : ce + 0 ≤ R.cells ∧ sl + 0 ≤ R.slots) (q0 : Nat) (he : w[q0]? = some (b, .inr (ci, fs))) (hc : vwCl[ci]? = some (Cn, T, N)) (hp : w.Perm (wc ++ wr)) (hp' : (w1 ++ wr).Perm w') (hn : As.length = n) (hstk : stk = As.reverse ++ .ref b :: st) (hcat : (st.map fun v => v.category).sum ≤ 8) (hd : decode cc pc = .ok (.invokevirtual index, 3)) (hst : rv.toList ++ st = st') (hpc : pc + 3 = pc') (K : lm_St p l e R s m args below meth c D A nL ce sl Q false w' pc' lv st') : lm_St p l e R s m args below meth c D A nL ce sl Q false w pc lv stk := by
  subst hstk
  refine lm_goW (rv := rv) (wc := wc) (wr := wr) (w1 := w1) (mcA := (Value.ref b :: As).toArray) hA hp hp' (fun H locs ls hI hL => ?_) hst hpc K
  have hD := lm_D_iff.mp (lm_D_perm hp (hI.2.2 rfl).1)
  exact va_runV (As := As) (rest := st) ⟨C.1, C.2.1, C.2.2.1, C.2.2.2.1, C.2.2.2.2.1⟩ (hM H.size) (cwV n C.2.2.2.2.1 hG hw rfl rfl hdv hR) ⟨lm_Pc.blind, va_recv C.2.2.2.2.2.1 hI.1 hc he, fun U hU hW => ⟨rfl, by rw [hU], by rw [hU]; exact lm_P_sub (lm_P_perm hp hI.1) (fun q hq => List.mem_append_left _ hq), va_K.moved hW.alike C.2.2.2.2.2.1, lm_NW.warm hW C.2.2.2.2.2.2, lm_D_iff.mpr ⟨(List.nodup_append.mp (List.map_append ▸ hD.1)).1, fun _ _ => trivial⟩⟩⟩ rfl hn hL.1 rfl (lv_room hcat) hd hce
theorem lm_callSR (C : lm_Cx p s m args c D z zo nL own Ts cc) {y : MethodName} {bytes : ByteArray} {maxL : Nat} {ret : Option FieldType} {wsy wsy' : List Cond} {fr lo n index : Nat} {As : List Value} {wc : va_W} {rv : Option Value} {stk st' : List Value} (hM : lm_CR D z zo l y wsy fr lo As wc rv) (hG : GoodIn Ts (va_wsS own index y wsy)) (hw : wsy = Cond.code y bytes maxL ret :: wsy') (hdv : y.cls ≠ "java/lang/invoke/MethodHandle" ∧ y.cls ≠ "java/lang/invoke/VarHandle" ∧ (parseMethodDescriptor y.desc).map (fun d => d.parameters.length) = some n) (hR : fr + 1 ≤ R.frames ∧ 8 + (maxL + 11) + lo ≤ R.locals) (hce : ce + 0 ≤ R.cells ∧ sl + 0 ≤ R.slots) (hsub : ∀ q ∈ wc, q ∈ w) (hn : As.length = n) (hstk : stk = As.reverse ++ st) (hcat : (st.map fun v => v.category).sum ≤ 8) (hd : decode cc pc = .ok (.invokestatic index, 3)) (hst : rv.toList ++ st = st') (hpc : pc + 3 = pc') (K : lm_St p l e R s m args below meth c D A nL ce sl Q ro w pc' lv st') : lm_St p l e R s m args below meth c D A nL ce sl Q ro w pc lv stk := by
  subst hstk
  refine lm_goR (y := y) (As := As) (wc := wc) (rv := rv) (mcA := As.toArray) (fun H locs ls hI hL => ?_) hst hpc K
  exact va_runS (As := As) (rest := st) ⟨C.1, C.2.1, C.2.2.1, C.2.2.2.1, C.2.2.2.2.1⟩ hM (va_cwS n C.2.2.2.2.1 hG hw rfl rfl hdv hR) ⟨lm_PcR.blind, fun U hU hW => ⟨rfl, by rw [hU]; exact lm_P_sub hI.1 hsub, va_K.moved hW.alike C.2.2.2.2.2.1, lm_NW.warm hW C.2.2.2.2.2.2⟩⟩ rfl hn hL.1 rfl (lv_room hcat) hd hce
theorem lm_callSNR (C : lm_Cx p s m args c D z zo nL own Ts cc) {y : MethodName} {bytes : ByteArray} {maxL : Nat} {ret : Option FieldType} {wsy wsy' : List Cond} {fr lo n index : Nat} {As : List Value} {wc : va_W} {rv : Option Value} {stk st' : List Value} (hM : lm_CR D z zo l y wsy fr lo As wc rv) (hG : GoodIn Ts wsy) (hw : wsy = Cond.code y bytes maxL ret :: wsy') (hini : Cond.initialized y.cls ∈ Ts) (hstat : Cond.static y ∈ Ts) (hdv : y.cls ≠ "java/lang/invoke/MethodHandle" ∧ y.cls ≠ "java/lang/invoke/VarHandle" ∧ (parseMethodDescriptor y.desc).map (fun d => d.parameters.length) = some n) (hR : fr + 1 ≤ R.frames ∧ 8 + (maxL + 11) + lo ≤ R.locals) (hce : ce + 0 ≤ R.cells ∧ sl + 0 ≤ R.slots) (hnw : (own, index, y) ∈ lm_NWl) (hsub : ∀ q ∈ wc, q ∈ w) (hn : As.length = n) (hstk : stk = As.reverse ++ st) (hcat : (st.map fun v => v.category).sum ≤ 8) (hd : decode cc pc = .ok (.invokestatic index, 3)) (hst : rv.toList ++ st = st') (hpc : pc + 3 = pc') (K : lm_St p l e R s m args below meth c D A nL ce sl Q ro w pc' lv st') : lm_St p l e R s m args below meth c D A nL ce sl Q ro w pc lv stk := by
  subst hstk
  refine lm_goR (y := y) (As := As) (wc := wc) (rv := rv) (mcA := As.toArray) (fun H locs ls hI hL => ?_) hst hpc K
  exact va_runSN (As := As) (rest := st) ⟨C.1, C.2.1, C.2.2.1, C.2.2.2.1, C.2.2.2.2.1⟩ hM ⟨va_cnB (host := "LoopMemo") n C.2.2.2.2.1 hG hw rfl rfl (C.2.2.2.2.2.2 _ hnw) (C.2.2.2.2.1 _ hini) hdv hR, C.2.2.2.2.1 _ hstat, trivial⟩ ⟨lm_PcR.blind, fun U hU hW => ⟨rfl, by rw [hU]; exact lm_P_sub hI.1 hsub, va_K.moved hW.alike C.2.2.2.2.2.1, lm_NW.warm hW C.2.2.2.2.2.2⟩⟩ rfl hn hL.1 rfl (lv_room hcat) hd hce
theorem lm_callSN (C : lm_Cx p s m args c D z zo nL own Ts cc) {y : MethodName} {bytes : ByteArray} {maxL : Nat} {ret : Option FieldType} {wsy wsy' : List Cond} {fr lo n index : Nat} {As : List Value} {wc wr w1 : va_W} {rv : Option Value} {stk st' : List Value} (hA : ∀ q, s.heap.size ≤ q → A q) (hM : lm_C D z zo l y wsy fr lo As wc rv w1) (hG : GoodIn Ts wsy) (hw : wsy = Cond.code y bytes maxL ret :: wsy') (hini : Cond.initialized y.cls ∈ Ts) (hstat : Cond.static y ∈ Ts) (hdv : y.cls ≠ "java/lang/invoke/MethodHandle" ∧ y.cls ≠ "java/lang/invoke/VarHandle" ∧ (parseMethodDescriptor y.desc).map (fun d => d.parameters.length) = some n) (hR : fr + 1 ≤ R.frames ∧ 8 + (maxL + 11) + lo ≤ R.locals) (hce : ce + 0 ≤ R.cells ∧ sl + 0 ≤ R.slots) (hnw : (own, index, y) ∈ lm_NWl) (hp : w.Perm (wc ++ wr)) (hp' : (w1 ++ wr).Perm w') (hn : As.length = n) (hstk : stk = As.reverse ++ st) (hcat : (st.map fun v => v.category).sum ≤ 8) (hd : decode cc pc = .ok (.invokestatic index, 3)) (hst : rv.toList ++ st = st') (hpc : pc + 3 = pc') (K : lm_St p l e R s m args below meth c D A nL ce sl Q false w' pc' lv st') : lm_St p l e R s m args below meth c D A nL ce sl Q false w pc lv stk := by
  subst hstk
  refine lm_goW (rv := rv) (wc := wc) (wr := wr) (w1 := w1) (mcA := As.toArray) hA hp hp' (fun H locs ls hI hL => ?_) hst hpc K
  have hD := lm_D_iff.mp (lm_D_perm hp (hI.2.2 rfl).1)
  exact va_runSN (As := As) (rest := st) ⟨C.1, C.2.1, C.2.2.1, C.2.2.2.1, C.2.2.2.2.1⟩ (hM H.size) ⟨va_cnB (host := "LoopMemo") n C.2.2.2.2.1 hG hw rfl rfl (C.2.2.2.2.2.2 _ hnw) (C.2.2.2.2.1 _ hini) hdv hR, C.2.2.2.2.1 _ hstat, trivial⟩ ⟨lm_Pc.blind, fun U hU hW => ⟨rfl, by rw [hU], by rw [hU]; exact lm_P_sub (lm_P_perm hp hI.1) (fun q hq => List.mem_append_left _ hq), va_K.moved hW.alike C.2.2.2.2.2.1, lm_NW.warm hW C.2.2.2.2.2.2, lm_D_iff.mpr ⟨(List.nodup_append.mp (List.map_append ▸ hD.1)).1, fun _ _ => trivial⟩⟩⟩ rfl hn hL.1 rfl (lv_room hcat) hd hce
end LM
/-! how a method's function is read along a walk -/
def lm_br {α : Type} (c : Prop) [Decidable c] (a b : α) : α := if c then a else b
theorem lm_brt {α : Type} {c : Prop} [Decidable c] {a b y : α} (h : lm_br c a b = y) (hc : c) : a = y := by rw [← h]; exact (if_pos hc).symm
theorem lm_brf {α : Type} {c : Prop} [Decidable c] {a b y : α} (h : lm_br c a b = y) (hc : ¬ c) : b = y := by rw [← h]; exact (if_neg hc).symm
def lm_gi {α : Type} (i : Int32) (n : Nat) (x : Option α) : Option α := if i < 0 ∨ n ≤ i.toNatClampNeg then none else x
theorem lm_gie {α : Type} {i : Int32} {n : Nat} {x : Option α} {y : α} (h : lm_gi i n x = some y) : vp_in i n ∧ x = some y := by
  unfold lm_gi at h
  split at h
  · cases h
  · next hc => exact ⟨hc, h⟩
def lm_gd {α : Type} (c : Prop) [Decidable c] (x : Option α) : Option α := if c then x else none
theorem lm_gde {α : Type} {c : Prop} [Decidable c] {x : Option α} {y : α} (h : lm_gd c x = some y) : c ∧ x = some y := by
  unfold lm_gd at h
  split at h
  · next hc => exact ⟨hc, h⟩
  · cases h
def lm_bd {α β : Type} (o : Option α) (f : α → Option β) : Option β := match o with | none => none | some a => f a
theorem lm_bde {α β : Type} {o : Option α} {f : α → Option β} {y : β} (h : lm_bd o f = some y) : ∃ a, o = some a ∧ f a = some y := by
  cases o with
  | none => cases h
  | some a => exact ⟨a, rfl, h⟩
def lm_b2 {α β γ : Type} (o : Option (α × β)) (f : α → β → Option γ) : Option γ := match o with | none => none | some a => f a.1 a.2
theorem lm_b2e {α β γ : Type} {o : Option (α × β)} {f : α → β → Option γ} {y : γ} (h : lm_b2 o f = some y) : ∃ a b, o = some (a, b) ∧ f a b = some y := by
  cases o with
  | none => cases h
  | some a => exact ⟨a.1, a.2, rfl, h⟩
def lm_lt {α β : Type} (x : α) (f : α → β) : β := f x
theorem lm_lte {α β : Type} {x : α} {f : α → β} {y : β} (h : lm_lt x f = y) : ∃ a, x = a ∧ f a = y := ⟨x, rfl, h⟩
theorem lm_boolok {x : Int32} (h : x = 0 ∨ x = 1) : narrow .boolean (.int x) = .int x := by rcases h with rfl | rfl <;> rfl
theorem lm_boolfit {x : Int32} (h : x = 0 ∨ x = 1) : fits .boolean (.int x) = true := by rcases h with rfl | rfl <;> rfl
theorem lm_bool0 : narrow .boolean (.int 0) = .int 0 := rfl
theorem lm_bool1 : narrow .boolean (.int 1) = .int 1 := rfl
/-! blocks -/
def lm_u (σ : Hp) (c i : Nat) (x : Int32) : Hp := fun j => if j = c then upd (σ c) i x else σ j
def lm_ua (σ : Hp) (c : Nat) (f : Nat → Int32) : Hp := fun j => if j = c then f else σ j
def lm_uB (h : Nat → Hp) (k : Nat) (σ : Hp) : Nat → Hp := fun j => if j = k then σ else h j
theorem lm_pr {α : Type} {w : List α} : w.Perm (w ++ []) := by rw [List.append_nil]
theorem lm_pr' {α : Type} {w : List α} : (w ++ []).Perm w := by rw [List.append_nil]
def lm_sh {α : Type} (b : Nat) (f : Nat → α) : Nat → α := fun j => f (b + j)
def lm_sb (σ : Hp) (b n : Nat) (τ : Hp) : Hp := fun j => if b ≤ j ∧ j < b + n then τ (j - b) else σ j
end
