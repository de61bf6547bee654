section
-- ===== PART A: goes FIRST, ahead of the names: the tables' words, and 'selects' of the private methods out of them =====
/-- a private method of a class that the tables say can be made, by its rows of tables_1 -/
def lw_okq (q : MethodName × Nat) : Prop := (q.1.cls ≠ "java/lang/invoke/MethodHandle" ∧ q.1.cls ≠ "java/lang/invoke/VarHandle") ∧ Cond.instantiable q.1.cls q.2 ∈ tables_1 ∧ Cond.privateMethod q.1 ∈ tables_1 ∧ Cond.instanceMethod q.1 ∈ tables_1
theorem lw_p0 : lw_okq (⟨"SplitNodes", "isNode", "(I)Z"⟩, 14) := ⟨⟨by decide +kernel, by decide +kernel⟩, List.mem_of_getElem? (i := 15) (by decide +kernel), List.mem_of_getElem? (i := 274) (by decide +kernel), List.mem_of_getElem? (i := 275) (by decide +kernel)⟩
theorem lw_p1 : lw_okq (⟨"SplitNodes", "isVertex", "(I)Z"⟩, 14) := ⟨⟨by decide +kernel, by decide +kernel⟩, List.mem_of_getElem? (i := 15) (by decide +kernel), List.mem_of_getElem? (i := 290) (by decide +kernel), List.mem_of_getElem? (i := 291) (by decide +kernel)⟩
theorem lw_p2 : lw_okq (⟨"SplitNodes", "comeInto", "(II)V"⟩, 14) := ⟨⟨by decide +kernel, by decide +kernel⟩, List.mem_of_getElem? (i := 15) (by decide +kernel), List.mem_of_getElem? (i := 314) (by decide +kernel), List.mem_of_getElem? (i := 315) (by decide +kernel)⟩
theorem lw_p3 : lw_okq (⟨"SplitNodes", "isMarkRound", "(I)Z"⟩, 14) := ⟨⟨by decide +kernel, by decide +kernel⟩, List.mem_of_getElem? (i := 15) (by decide +kernel), List.mem_of_getElem? (i := 325) (by decide +kernel), List.mem_of_getElem? (i := 326) (by decide +kernel)⟩
theorem lw_p4 : lw_okq (⟨"SplitNodes", "keepMark", "(I)V"⟩, 14) := ⟨⟨by decide +kernel, by decide +kernel⟩, List.mem_of_getElem? (i := 15) (by decide +kernel), List.mem_of_getElem? (i := 329) (by decide +kernel), List.mem_of_getElem? (i := 330) (by decide +kernel)⟩
theorem lw_p5 : lw_okq (⟨"SplitNodes$Node", "swapMarks", "()V"⟩, 7) := ⟨⟨by decide +kernel, by decide +kernel⟩, List.mem_of_getElem? (i := 148) (by decide +kernel), List.mem_of_getElem? (i := 337) (by decide +kernel), List.mem_of_getElem? (i := 338) (by decide +kernel)⟩
theorem lw_p6 : lw_okq (⟨"SplitNodes", "copyVertices", "(ILSplitNodes$Values;LSplitNodes$Values;)V"⟩, 14) := ⟨⟨by decide +kernel, by decide +kernel⟩, List.mem_of_getElem? (i := 15) (by decide +kernel), List.mem_of_getElem? (i := 341) (by decide +kernel), List.mem_of_getElem? (i := 342) (by decide +kernel)⟩
theorem lw_p7 : lw_okq (⟨"SplitNodes", "writeLetters", "(I)V"⟩, 14) := ⟨⟨by decide +kernel, by decide +kernel⟩, List.mem_of_getElem? (i := 15) (by decide +kernel), List.mem_of_getElem? (i := 349) (by decide +kernel), List.mem_of_getElem? (i := 350) (by decide +kernel)⟩
theorem lw_p8 : lw_okq (⟨"SplitNodes$Desk", "gatherOf", "(ILSplitNodes$Graph;LSplitNodes$Values;IZ)V"⟩, 4) := ⟨⟨by decide +kernel, by decide +kernel⟩, List.mem_of_getElem? (i := 108) (by decide +kernel), List.mem_of_getElem? (i := 361) (by decide +kernel), List.mem_of_getElem? (i := 362) (by decide +kernel)⟩
theorem lw_p9 : lw_okq (⟨"SplitNodes$Desk", "placeOf", "(I)I"⟩, 4) := ⟨⟨by decide +kernel, by decide +kernel⟩, List.mem_of_getElem? (i := 108) (by decide +kernel), List.mem_of_getElem? (i := 372) (by decide +kernel), List.mem_of_getElem? (i := 373) (by decide +kernel)⟩
theorem lw_p10 : lw_okq (⟨"SplitNodes$Desk", "append", "(III)V"⟩, 4) := ⟨⟨by decide +kernel, by decide +kernel⟩, List.mem_of_getElem? (i := 108) (by decide +kernel), List.mem_of_getElem? (i := 383) (by decide +kernel), List.mem_of_getElem? (i := 384) (by decide +kernel)⟩
theorem lw_p11 : lw_okq (⟨"SplitNodes", "outcomeOf", "(LSplitNodes$Letter;)I"⟩, 14) := ⟨⟨by decide +kernel, by decide +kernel⟩, List.mem_of_getElem? (i := 15) (by decide +kernel), List.mem_of_getElem? (i := 475) (by decide +kernel), List.mem_of_getElem? (i := 476) (by decide +kernel)⟩
theorem lw_p12 : lw_okq (⟨"SplitNodes", "isComplete", "(LSplitNodes$Node;)Z"⟩, 14) := ⟨⟨by decide +kernel, by decide +kernel⟩, List.mem_of_getElem? (i := 15) (by decide +kernel), List.mem_of_getElem? (i := 487) (by decide +kernel), List.mem_of_getElem? (i := 488) (by decide +kernel)⟩
theorem lw_p13 : lw_okq (⟨"SplitNodes", "finishRound", "(I)V"⟩, 14) := ⟨⟨by decide +kernel, by decide +kernel⟩, List.mem_of_getElem? (i := 15) (by decide +kernel), List.mem_of_getElem? (i := 499) (by decide +kernel), List.mem_of_getElem? (i := 500) (by decide +kernel)⟩
theorem lw_p14 : lw_okq (⟨"SplitNodes", "takeMessages", "(I)V"⟩, 14) := ⟨⟨by decide +kernel, by decide +kernel⟩, List.mem_of_getElem? (i := 15) (by decide +kernel), List.mem_of_getElem? (i := 507) (by decide +kernel), List.mem_of_getElem? (i := 508) (by decide +kernel)⟩
theorem lw_p15 : lw_okq (⟨"SplitNodes$Inbox", "valueAfter", "(III)I"⟩, 3) := ⟨⟨by decide +kernel, by decide +kernel⟩, List.mem_of_getElem? (i := 92) (by decide +kernel), List.mem_of_getElem? (i := 535) (by decide +kernel), List.mem_of_getElem? (i := 536) (by decide +kernel)⟩
def lw_privs_1 : List (MethodName × Nat) := [(⟨"SplitNodes", "isNode", "(I)Z"⟩, 14), (⟨"SplitNodes", "isVertex", "(I)Z"⟩, 14), (⟨"SplitNodes", "comeInto", "(II)V"⟩, 14), (⟨"SplitNodes", "isMarkRound", "(I)Z"⟩, 14), (⟨"SplitNodes", "keepMark", "(I)V"⟩, 14), (⟨"SplitNodes$Node", "swapMarks", "()V"⟩, 7), (⟨"SplitNodes", "copyVertices", "(ILSplitNodes$Values;LSplitNodes$Values;)V"⟩, 14), (⟨"SplitNodes", "writeLetters", "(I)V"⟩, 14), (⟨"SplitNodes$Desk", "gatherOf", "(ILSplitNodes$Graph;LSplitNodes$Values;IZ)V"⟩, 4), (⟨"SplitNodes$Desk", "placeOf", "(I)I"⟩, 4), (⟨"SplitNodes$Desk", "append", "(III)V"⟩, 4), (⟨"SplitNodes", "outcomeOf", "(LSplitNodes$Letter;)I"⟩, 14), (⟨"SplitNodes", "isComplete", "(LSplitNodes$Node;)Z"⟩, 14), (⟨"SplitNodes", "finishRound", "(I)V"⟩, 14), (⟨"SplitNodes", "takeMessages", "(I)V"⟩, 14), (⟨"SplitNodes$Inbox", "valueAfter", "(III)I"⟩, 3)]
theorem lw_r1 : ∀ q ∈ lw_privs_1, lw_okq q := List.forall_mem_cons.mpr ⟨lw_p0, List.forall_mem_cons.mpr ⟨lw_p1, List.forall_mem_cons.mpr ⟨lw_p2, List.forall_mem_cons.mpr ⟨lw_p3, List.forall_mem_cons.mpr ⟨lw_p4, List.forall_mem_cons.mpr ⟨lw_p5, List.forall_mem_cons.mpr ⟨lw_p6, List.forall_mem_cons.mpr ⟨lw_p7, List.forall_mem_cons.mpr ⟨lw_p8, List.forall_mem_cons.mpr ⟨lw_p9, List.forall_mem_cons.mpr ⟨lw_p10, List.forall_mem_cons.mpr ⟨lw_p11, List.forall_mem_cons.mpr ⟨lw_p12, List.forall_mem_cons.mpr ⟨lw_p13, List.forall_mem_cons.mpr ⟨lw_p14, List.forall_mem_cons.mpr ⟨lw_p15, fun _ h => absurd h List.not_mem_nil⟩⟩⟩⟩⟩⟩⟩⟩⟩⟩⟩⟩⟩⟩⟩⟩
theorem lw_p16 : lw_okq (⟨"SplitNodes", "isAnyDown", "()Z"⟩, 14) := ⟨⟨by decide +kernel, by decide +kernel⟩, List.mem_of_getElem? (i := 15) (by decide +kernel), List.mem_of_getElem? (i := 567) (by decide +kernel), List.mem_of_getElem? (i := 568) (by decide +kernel)⟩
theorem lw_p17 : lw_okq (⟨"SplitNodes", "wholeMark", "()I"⟩, 14) := ⟨⟨by decide +kernel, by decide +kernel⟩, List.mem_of_getElem? (i := 15) (by decide +kernel), List.mem_of_getElem? (i := 571) (by decide +kernel), List.mem_of_getElem? (i := 572) (by decide +kernel)⟩
theorem lw_p18 : lw_okq (⟨"SplitNodes", "isMarkedByAll", "(I)Z"⟩, 14) := ⟨⟨by decide +kernel, by decide +kernel⟩, List.mem_of_getElem? (i := 15) (by decide +kernel), List.mem_of_getElem? (i := 575) (by decide +kernel), List.mem_of_getElem? (i := 576) (by decide +kernel)⟩
theorem lw_p19 : lw_okq (⟨"SplitNodes", "isLevel", "()Z"⟩, 14) := ⟨⟨by decide +kernel, by decide +kernel⟩, List.mem_of_getElem? (i := 15) (by decide +kernel), List.mem_of_getElem? (i := 587) (by decide +kernel), List.mem_of_getElem? (i := 588) (by decide +kernel)⟩
theorem lw_p20 : lw_okq (⟨"SplitNodes", "workAlone", "()V"⟩, 14) := ⟨⟨by decide +kernel, by decide +kernel⟩, List.mem_of_getElem? (i := 15) (by decide +kernel), List.mem_of_getElem? (i := 606) (by decide +kernel), List.mem_of_getElem? (i := 607) (by decide +kernel)⟩
theorem lw_p21 : lw_okq (⟨"SplitNodesModel", "wipe", "(I)V"⟩, 42) := ⟨⟨by decide +kernel, by decide +kernel⟩, List.mem_of_getElem? (i := 622) (by decide +kernel), List.mem_of_getElem? (i := 628) (by decide +kernel), List.mem_of_getElem? (i := 629) (by decide +kernel)⟩
theorem lw_p22 : lw_okq (⟨"SplitNodesModel", "isNode", "(I)Z"⟩, 42) := ⟨⟨by decide +kernel, by decide +kernel⟩, List.mem_of_getElem? (i := 622) (by decide +kernel), List.mem_of_getElem? (i := 770) (by decide +kernel), List.mem_of_getElem? (i := 771) (by decide +kernel)⟩
theorem lw_p23 : lw_okq (⟨"SplitNodesModel", "isVertex", "(I)Z"⟩, 42) := ⟨⟨by decide +kernel, by decide +kernel⟩, List.mem_of_getElem? (i := 622) (by decide +kernel), List.mem_of_getElem? (i := 778) (by decide +kernel), List.mem_of_getElem? (i := 779) (by decide +kernel)⟩
theorem lw_p24 : lw_okq (⟨"SplitNodesModel", "come", "(II)V"⟩, 42) := ⟨⟨by decide +kernel, by decide +kernel⟩, List.mem_of_getElem? (i := 622) (by decide +kernel), List.mem_of_getElem? (i := 798) (by decide +kernel), List.mem_of_getElem? (i := 799) (by decide +kernel)⟩
theorem lw_p25 : lw_okq (⟨"SplitNodesModel", "has", "(III)I"⟩, 42) := ⟨⟨by decide +kernel, by decide +kernel⟩, List.mem_of_getElem? (i := 622) (by decide +kernel), List.mem_of_getElem? (i := 802) (by decide +kernel), List.mem_of_getElem? (i := 803) (by decide +kernel)⟩
theorem lw_p26 : lw_okq (⟨"SplitNodesModel", "lay", "(II)V"⟩, 42) := ⟨⟨by decide +kernel, by decide +kernel⟩, List.mem_of_getElem? (i := 622) (by decide +kernel), List.mem_of_getElem? (i := 806) (by decide +kernel), List.mem_of_getElem? (i := 807) (by decide +kernel)⟩
theorem lw_p27 : lw_okq (⟨"SplitNodesModel", "keeps", "(III)I"⟩, 42) := ⟨⟨by decide +kernel, by decide +kernel⟩, List.mem_of_getElem? (i := 622) (by decide +kernel), List.mem_of_getElem? (i := 810) (by decide +kernel), List.mem_of_getElem? (i := 811) (by decide +kernel)⟩
theorem lw_p28 : lw_okq (⟨"SplitNodesModel", "mark", "(I)V"⟩, 42) := ⟨⟨by decide +kernel, by decide +kernel⟩, List.mem_of_getElem? (i := 622) (by decide +kernel), List.mem_of_getElem? (i := 814) (by decide +kernel), List.mem_of_getElem? (i := 815) (by decide +kernel)⟩
theorem lw_p29 : lw_okq (⟨"SplitNodesModel", "layMark", "(III)V"⟩, 42) := ⟨⟨by decide +kernel, by decide +kernel⟩, List.mem_of_getElem? (i := 622) (by decide +kernel), List.mem_of_getElem? (i := 818) (by decide +kernel), List.mem_of_getElem? (i := 819) (by decide +kernel)⟩
theorem lw_p30 : lw_okq (⟨"SplitNodesModel", "write", "(I)V"⟩, 42) := ⟨⟨by decide +kernel, by decide +kernel⟩, List.mem_of_getElem? (i := 622) (by decide +kernel), List.mem_of_getElem? (i := 822) (by decide +kernel), List.mem_of_getElem? (i := 823) (by decide +kernel)⟩
theorem lw_p31 : lw_okq (⟨"SplitNodesModel", "activeAt", "(I)I"⟩, 42) := ⟨⟨by decide +kernel, by decide +kernel⟩, List.mem_of_getElem? (i := 622) (by decide +kernel), List.mem_of_getElem? (i := 826) (by decide +kernel), List.mem_of_getElem? (i := 827) (by decide +kernel)⟩
def lw_privs_2 : List (MethodName × Nat) := [(⟨"SplitNodes", "isAnyDown", "()Z"⟩, 14), (⟨"SplitNodes", "wholeMark", "()I"⟩, 14), (⟨"SplitNodes", "isMarkedByAll", "(I)Z"⟩, 14), (⟨"SplitNodes", "isLevel", "()Z"⟩, 14), (⟨"SplitNodes", "workAlone", "()V"⟩, 14), (⟨"SplitNodesModel", "wipe", "(I)V"⟩, 42), (⟨"SplitNodesModel", "isNode", "(I)Z"⟩, 42), (⟨"SplitNodesModel", "isVertex", "(I)Z"⟩, 42), (⟨"SplitNodesModel", "come", "(II)V"⟩, 42), (⟨"SplitNodesModel", "has", "(III)I"⟩, 42), (⟨"SplitNodesModel", "lay", "(II)V"⟩, 42), (⟨"SplitNodesModel", "keeps", "(III)I"⟩, 42), (⟨"SplitNodesModel", "mark", "(I)V"⟩, 42), (⟨"SplitNodesModel", "layMark", "(III)V"⟩, 42), (⟨"SplitNodesModel", "write", "(I)V"⟩, 42), (⟨"SplitNodesModel", "activeAt", "(I)I"⟩, 42)]
theorem lw_r2 : ∀ q ∈ lw_privs_2, lw_okq q := List.forall_mem_cons.mpr ⟨lw_p16, List.forall_mem_cons.mpr ⟨lw_p17, List.forall_mem_cons.mpr ⟨lw_p18, List.forall_mem_cons.mpr ⟨lw_p19, List.forall_mem_cons.mpr ⟨lw_p20, List.forall_mem_cons.mpr ⟨lw_p21, List.forall_mem_cons.mpr ⟨lw_p22, List.forall_mem_cons.mpr ⟨lw_p23, List.forall_mem_cons.mpr ⟨lw_p24, List.forall_mem_cons.mpr ⟨lw_p25, List.forall_mem_cons.mpr ⟨lw_p26, List.forall_mem_cons.mpr ⟨lw_p27, List.forall_mem_cons.mpr ⟨lw_p28, List.forall_mem_cons.mpr ⟨lw_p29, List.forall_mem_cons.mpr ⟨lw_p30, List.forall_mem_cons.mpr ⟨lw_p31, fun _ h => absurd h List.not_mem_nil⟩⟩⟩⟩⟩⟩⟩⟩⟩⟩⟩⟩⟩⟩⟩⟩
theorem lw_p32 : lw_okq (⟨"SplitNodesModel", "message", "(II)I"⟩, 42) := ⟨⟨by decide +kernel, by decide +kernel⟩, List.mem_of_getElem? (i := 622) (by decide +kernel), List.mem_of_getElem? (i := 830) (by decide +kernel), List.mem_of_getElem? (i := 831) (by decide +kernel)⟩
theorem lw_p33 : lw_okq (⟨"SplitNodesModel", "addEntry", "(IIII)V"⟩, 42) := ⟨⟨by decide +kernel, by decide +kernel⟩, List.mem_of_getElem? (i := 622) (by decide +kernel), List.mem_of_getElem? (i := 834) (by decide +kernel), List.mem_of_getElem? (i := 835) (by decide +kernel)⟩
theorem lw_p34 : lw_okq (⟨"SplitNodesModel", "folded", "(II)I"⟩, 42) := ⟨⟨by decide +kernel, by decide +kernel⟩, List.mem_of_getElem? (i := 622) (by decide +kernel), List.mem_of_getElem? (i := 838) (by decide +kernel), List.mem_of_getElem? (i := 839) (by decide +kernel)⟩
theorem lw_p35 : lw_okq (⟨"SplitNodesModel", "isLetter", "(I)Z"⟩, 42) := ⟨⟨by decide +kernel, by decide +kernel⟩, List.mem_of_getElem? (i := 622) (by decide +kernel), List.mem_of_getElem? (i := 846) (by decide +kernel), List.mem_of_getElem? (i := 847) (by decide +kernel)⟩
theorem lw_p36 : lw_okq (⟨"SplitNodesModel", "coming", "(I)I"⟩, 42) := ⟨⟨by decide +kernel, by decide +kernel⟩, List.mem_of_getElem? (i := 622) (by decide +kernel), List.mem_of_getElem? (i := 859) (by decide +kernel), List.mem_of_getElem? (i := 860) (by decide +kernel)⟩
theorem lw_p37 : lw_okq (⟨"SplitNodesModel", "takeOut", "(I)V"⟩, 42) := ⟨⟨by decide +kernel, by decide +kernel⟩, List.mem_of_getElem? (i := 622) (by decide +kernel), List.mem_of_getElem? (i := 863) (by decide +kernel), List.mem_of_getElem? (i := 864) (by decide +kernel)⟩
theorem lw_p38 : lw_okq (⟨"SplitNodesModel", "goOn", "(I)V"⟩, 42) := ⟨⟨by decide +kernel, by decide +kernel⟩, List.mem_of_getElem? (i := 622) (by decide +kernel), List.mem_of_getElem? (i := 867) (by decide +kernel), List.mem_of_getElem? (i := 868) (by decide +kernel)⟩
theorem lw_p39 : lw_okq (⟨"SplitNodesModel", "letters", "(I)I"⟩, 42) := ⟨⟨by decide +kernel, by decide +kernel⟩, List.mem_of_getElem? (i := 622) (by decide +kernel), List.mem_of_getElem? (i := 871) (by decide +kernel), List.mem_of_getElem? (i := 872) (by decide +kernel)⟩
theorem lw_p40 : lw_okq (⟨"SplitNodesModel", "take", "(I)V"⟩, 42) := ⟨⟨by decide +kernel, by decide +kernel⟩, List.mem_of_getElem? (i := 622) (by decide +kernel), List.mem_of_getElem? (i := 875) (by decide +kernel), List.mem_of_getElem? (i := 876) (by decide +kernel)⟩
theorem lw_p41 : lw_okq (⟨"SplitNodesModel", "begin", "()V"⟩, 42) := ⟨⟨by decide +kernel, by decide +kernel⟩, List.mem_of_getElem? (i := 622) (by decide +kernel), List.mem_of_getElem? (i := 879) (by decide +kernel), List.mem_of_getElem? (i := 880) (by decide +kernel)⟩
theorem lw_p42 : lw_okq (⟨"SplitNodesModel", "hear", "(III)V"⟩, 42) := ⟨⟨by decide +kernel, by decide +kernel⟩, List.mem_of_getElem? (i := 622) (by decide +kernel), List.mem_of_getElem? (i := 883) (by decide +kernel), List.mem_of_getElem? (i := 884) (by decide +kernel)⟩
theorem lw_p43 : lw_okq (⟨"SplitNodesModel", "behind", "(II)I"⟩, 42) := ⟨⟨by decide +kernel, by decide +kernel⟩, List.mem_of_getElem? (i := 622) (by decide +kernel), List.mem_of_getElem? (i := 887) (by decide +kernel), List.mem_of_getElem? (i := 888) (by decide +kernel)⟩
theorem lw_p44 : lw_okq (⟨"SplitNodesModel", "forget", "(I)V"⟩, 42) := ⟨⟨by decide +kernel, by decide +kernel⟩, List.mem_of_getElem? (i := 622) (by decide +kernel), List.mem_of_getElem? (i := 907) (by decide +kernel), List.mem_of_getElem? (i := 908) (by decide +kernel)⟩
theorem lw_p45 : lw_okq (⟨"SplitNodesModel", "isMarked", "(I)Z"⟩, 42) := ⟨⟨by decide +kernel, by decide +kernel⟩, List.mem_of_getElem? (i := 622) (by decide +kernel), List.mem_of_getElem? (i := 915) (by decide +kernel), List.mem_of_getElem? (i := 916) (by decide +kernel)⟩
theorem lw_p46 : lw_okq (⟨"SplitNodesModel", "hasMark", "(II)Z"⟩, 42) := ⟨⟨by decide +kernel, by decide +kernel⟩, List.mem_of_getElem? (i := 622) (by decide +kernel), List.mem_of_getElem? (i := 919) (by decide +kernel), List.mem_of_getElem? (i := 920) (by decide +kernel)⟩
theorem lw_p47 : lw_okq (⟨"SplitNodesModel", "goBack", "(II)V"⟩, 42) := ⟨⟨by decide +kernel, by decide +kernel⟩, List.mem_of_getElem? (i := 622) (by decide +kernel), List.mem_of_getElem? (i := 923) (by decide +kernel), List.mem_of_getElem? (i := 924) (by decide +kernel)⟩
def lw_privs_3 : List (MethodName × Nat) := [(⟨"SplitNodesModel", "message", "(II)I"⟩, 42), (⟨"SplitNodesModel", "addEntry", "(IIII)V"⟩, 42), (⟨"SplitNodesModel", "folded", "(II)I"⟩, 42), (⟨"SplitNodesModel", "isLetter", "(I)Z"⟩, 42), (⟨"SplitNodesModel", "coming", "(I)I"⟩, 42), (⟨"SplitNodesModel", "takeOut", "(I)V"⟩, 42), (⟨"SplitNodesModel", "goOn", "(I)V"⟩, 42), (⟨"SplitNodesModel", "letters", "(I)I"⟩, 42), (⟨"SplitNodesModel", "take", "(I)V"⟩, 42), (⟨"SplitNodesModel", "begin", "()V"⟩, 42), (⟨"SplitNodesModel", "hear", "(III)V"⟩, 42), (⟨"SplitNodesModel", "behind", "(II)I"⟩, 42), (⟨"SplitNodesModel", "forget", "(I)V"⟩, 42), (⟨"SplitNodesModel", "isMarked", "(I)Z"⟩, 42), (⟨"SplitNodesModel", "hasMark", "(II)Z"⟩, 42), (⟨"SplitNodesModel", "goBack", "(II)V"⟩, 42)]
theorem lw_r3 : ∀ q ∈ lw_privs_3, lw_okq q := List.forall_mem_cons.mpr ⟨lw_p32, List.forall_mem_cons.mpr ⟨lw_p33, List.forall_mem_cons.mpr ⟨lw_p34, List.forall_mem_cons.mpr ⟨lw_p35, List.forall_mem_cons.mpr ⟨lw_p36, List.forall_mem_cons.mpr ⟨lw_p37, List.forall_mem_cons.mpr ⟨lw_p38, List.forall_mem_cons.mpr ⟨lw_p39, List.forall_mem_cons.mpr ⟨lw_p40, List.forall_mem_cons.mpr ⟨lw_p41, List.forall_mem_cons.mpr ⟨lw_p42, List.forall_mem_cons.mpr ⟨lw_p43, List.forall_mem_cons.mpr ⟨lw_p44, List.forall_mem_cons.mpr ⟨lw_p45, List.forall_mem_cons.mpr ⟨lw_p46, List.forall_mem_cons.mpr ⟨lw_p47, fun _ h => absurd h List.not_mem_nil⟩⟩⟩⟩⟩⟩⟩⟩⟩⟩⟩⟩⟩⟩⟩⟩
theorem lw_p48 : lw_okq (⟨"SplitNodesModel", "oneRound", "()V"⟩, 42) := ⟨⟨by decide +kernel, by decide +kernel⟩, List.mem_of_getElem? (i := 622) (by decide +kernel), List.mem_of_getElem? (i := 939) (by decide +kernel), List.mem_of_getElem? (i := 940) (by decide +kernel)⟩
def lw_privs_4 : List (MethodName × Nat) := [(⟨"SplitNodesModel", "oneRound", "()V"⟩, 42)]
theorem lw_r4 : ∀ q ∈ lw_privs_4, lw_okq q := List.forall_mem_cons.mpr ⟨lw_p48, fun _ h => absurd h List.not_mem_nil⟩
def lw_privs : List (MethodName × Nat) := lw_privs_1 ++ (lw_privs_2 ++ (lw_privs_3 ++ (lw_privs_4)))
def lw_tbl : List Cond := k2_sels lw_privs ++ tables_1
theorem lw_privs_ok : ∀ q ∈ lw_privs, lw_okq q := by
  show ∀ q ∈ lw_privs_1 ++ (lw_privs_2 ++ (lw_privs_3 ++ (lw_privs_4))), lw_okq q
  exact List.forall_mem_append.mpr ⟨lw_r1, List.forall_mem_append.mpr ⟨lw_r2, List.forall_mem_append.mpr ⟨lw_r3, lw_r4⟩⟩⟩
end
section
def RX0 : String := "SplitNodes$Desk"
def TX0 : u_T := fun k => match k with
  | 0 => ("SplitNodes$Desk", "targets", "[I", true)
  | 1 => ("SplitNodes$Desk", "messages", "[I", true)
  | 2 => ("SplitNodes$Desk", "arcs", "[I", true)
  | _ => ("SplitNodes$Desk", "size", "I", false)
def tyX0 : Nat → FieldType := fun k => match k with
  | 0 => .array .int
  | 1 => .array .int
  | 2 => .array .int
  | _ => .int
theorem nmX0 : ∀ a, a < 4 → ∀ b, b < 4 → a ≠ b → (TX0 a).2.1 ≠ (TX0 b).2.1 := by decide +kernel
theorem tyX0_ok : ∀ k, k < 4 → parseFieldDescriptor (TX0 k).2.2.1 = some (tyX0 k) := by decide +kernel
abbrev cX0_init : ByteArray := prog_2_method_1_code
def yX0_init : MethodName := ⟨RX0, "<init>", "()V"⟩
abbrev cX0_gather : ByteArray := prog_2_method_2_code
def yX0_gather : MethodName := ⟨RX0, "gather", "(LSplitNodes$Graph;LSplitNodes$Values;IIZ)V"⟩
abbrev cX0_gatherOf : ByteArray := prog_2_method_3_code
def yX0_gatherOf : MethodName := ⟨RX0, "gatherOf", "(ILSplitNodes$Graph;LSplitNodes$Values;IZ)V"⟩
abbrev cX0_placeOf : ByteArray := prog_2_method_4_code
def yX0_placeOf : MethodName := ⟨RX0, "placeOf", "(I)I"⟩
abbrev cX0_append : ByteArray := prog_2_method_5_code
def yX0_append : MethodName := ⟨RX0, "append", "(III)V"⟩
def RX1 : String := "SplitNodes$Graph"
def TX1 : u_T := fun k => match k with
  | 0 => ("SplitNodes$Graph", "home", "[I", true)
  | 1 => ("SplitNodes$Graph", "first", "[I", true)
  | 2 => ("SplitNodes$Graph", "tails", "[I", true)
  | 3 => ("SplitNodes$Graph", "heads", "[I", true)
  | 4 => ("SplitNodes$Graph", "weights", "[I", true)
  | 5 => ("SplitNodes$Graph", "vertices", "I", false)
  | 6 => ("SplitNodes$Graph", "arcs", "I", false)
  | _ => ("SplitNodes$Graph", "kind", "I", false)
def tyX1 : Nat → FieldType := fun k => match k with
  | 0 => .array .int
  | 1 => .array .int
  | 2 => .array .int
  | 3 => .array .int
  | 4 => .array .int
  | 5 => .int
  | 6 => .int
  | _ => .int
theorem nmX1 : ∀ a, a < 8 → ∀ b, b < 8 → a ≠ b → (TX1 a).2.1 ≠ (TX1 b).2.1 := by decide +kernel
theorem tyX1_ok : ∀ k, k < 8 → parseFieldDescriptor (TX1 k).2.2.1 = some (tyX1 k) := by decide +kernel
abbrev cX1_init : ByteArray := prog_3_method_1_code
def yX1_init : MethodName := ⟨RX1, "<init>", "()V"⟩
abbrev cX1_clear : ByteArray := prog_3_method_2_code
def yX1_clear : MethodName := ⟨RX1, "clear", "()V"⟩
abbrev cX1_addVertex : ByteArray := prog_3_method_3_code
def yX1_addVertex : MethodName := ⟨RX1, "addVertex", "(II)I"⟩
abbrev cX1_addArc : ByteArray := prog_3_method_4_code
def yX1_addArc : MethodName := ⟨RX1, "addArc", "(III)I"⟩
abbrev cX1_leads : ByteArray := prog_3_method_5_code
def yX1_leads : MethodName := ⟨RX1, "leads", "(III)Z"⟩
abbrev cX1_message : ByteArray := prog_3_method_6_code
def yX1_message : MethodName := ⟨RX1, "message", "(ILSplitNodes$Values;)I"⟩
abbrev cX1_verticesAt : ByteArray := prog_3_method_7_code
def yX1_verticesAt : MethodName := ⟨RX1, "verticesAt", "(I)I"⟩
abbrev cX1_activeAt : ByteArray := prog_3_method_8_code
def yX1_activeAt : MethodName := ⟨RX1, "activeAt", "(ILSplitNodes$Values;)I"⟩
def RX2 : String := "SplitNodes$Inbox"
def TX2 : u_T := fun k => match k with
  | 0 => ("SplitNodes$Inbox", "any", "[Z", true)
  | 1 => ("SplitNodes$Inbox", "folded", "[I", true)
  | _ => ("SplitNodes$Inbox", "latestArc", "[I", true)
def tyX2 : Nat → FieldType := fun k => match k with
  | 0 => .array .boolean
  | 1 => .array .int
  | _ => .array .int
theorem nmX2 : ∀ a, a < 3 → ∀ b, b < 3 → a ≠ b → (TX2 a).2.1 ≠ (TX2 b).2.1 := by decide +kernel
theorem tyX2_ok : ∀ k, k < 3 → parseFieldDescriptor (TX2 k).2.2.1 = some (tyX2 k) := by decide +kernel
abbrev cX2_init : ByteArray := prog_4_method_1_code
def yX2_init : MethodName := ⟨RX2, "<init>", "()V"⟩
abbrev cX2_clear : ByteArray := prog_4_method_2_code
def yX2_clear : MethodName := ⟨RX2, "clear", "()V"⟩
abbrev cX2_put : ByteArray := prog_4_method_3_code
def yX2_put : MethodName := ⟨RX2, "put", "(IIII)V"⟩
abbrev cX2_putAll : ByteArray := prog_4_method_4_code
def yX2_putAll : MethodName := ⟨RX2, "putAll", "(ILSplitNodes$Letter;)V"⟩
abbrev cX2_settle : ByteArray := prog_4_method_5_code
def yX2_settle : MethodName := ⟨RX2, "settle", "(IILSplitNodes$Values;)V"⟩
abbrev cX2_valueAfter : ByteArray := prog_4_method_6_code
def yX2_valueAfter : MethodName := ⟨RX2, "valueAfter", "(III)I"⟩
def RX3 : String := "SplitNodes$Letter"
def TX3 : u_T := fun k => match k with
  | 0 => ("SplitNodes$Letter", "epoch", "I", true)
  | 1 => ("SplitNodes$Letter", "round", "I", true)
  | 2 => ("SplitNodes$Letter", "from", "I", true)
  | 3 => ("SplitNodes$Letter", "to", "I", true)
  | 4 => ("SplitNodes$Letter", "active", "I", true)
  | 5 => ("SplitNodes$Letter", "targets", "[I", true)
  | 6 => ("SplitNodes$Letter", "messages", "[I", true)
  | _ => ("SplitNodes$Letter", "arcs", "[I", true)
def tyX3 : Nat → FieldType := fun k => match k with
  | 0 => .int
  | 1 => .int
  | 2 => .int
  | 3 => .int
  | 4 => .int
  | 5 => .array .int
  | 6 => .array .int
  | _ => .array .int
theorem nmX3 : ∀ a, a < 8 → ∀ b, b < 8 → a ≠ b → (TX3 a).2.1 ≠ (TX3 b).2.1 := by decide +kernel
theorem tyX3_ok : ∀ k, k < 8 → parseFieldDescriptor (TX3 k).2.2.1 = some (tyX3 k) := by decide +kernel
abbrev cX3_init : ByteArray := prog_5_method_1_code
def yX3_init : MethodName := ⟨RX3, "<init>", "(IIIIILSplitNodes$Desk;)V"⟩
def RX4 : String := "SplitNodes$Mark"
def TX4 : u_T := fun k => match k with
  | 0 => ("SplitNodes$Mark", "values", "LSplitNodes$Values;", true)
  | _ => ("SplitNodes$Mark", "round", "I", false)
def tyX4 : Nat → FieldType := fun k => match k with
  | 0 => .object "SplitNodes$Values"
  | _ => .int
theorem nmX4 : ∀ a, a < 2 → ∀ b, b < 2 → a ≠ b → (TX4 a).2.1 ≠ (TX4 b).2.1 := by decide +kernel
theorem tyX4_ok : ∀ k, k < 2 → parseFieldDescriptor (TX4 k).2.2.1 = some (tyX4 k) := by decide +kernel
abbrev cX4_init : ByteArray := prog_6_method_1_code
def yX4_init : MethodName := ⟨RX4, "<init>", "()V"⟩
def RX5 : String := "SplitNodes$Net"
def TX5 : u_T := fun k => match k with
  | 0 => ("SplitNodes$Net", "letters", "[LSplitNodes$Letter;", true)
  | _ => ("SplitNodes$Net", "size", "I", false)
def tyX5 : Nat → FieldType := fun k => match k with
  | 0 => .array (.object "SplitNodes$Letter")
  | _ => .int
theorem nmX5 : ∀ a, a < 2 → ∀ b, b < 2 → a ≠ b → (TX5 a).2.1 ≠ (TX5 b).2.1 := by decide +kernel
theorem tyX5_ok : ∀ k, k < 2 → parseFieldDescriptor (TX5 k).2.2.1 = some (tyX5 k) := by decide +kernel
abbrev cX5_init : ByteArray := prog_7_method_1_code
def yX5_init : MethodName := ⟨RX5, "<init>", "()V"⟩
abbrev cX5_clear : ByteArray := prog_7_method_2_code
def yX5_clear : MethodName := ⟨RX5, "clear", "()V"⟩
abbrev cX5_at : ByteArray := prog_7_method_3_code
def yX5_at : MethodName := ⟨RX5, "at", "(I)LSplitNodes$Letter;"⟩
abbrev cX5_add : ByteArray := prog_7_method_4_code
def yX5_add : MethodName := ⟨RX5, "add", "(LSplitNodes$Letter;)Z"⟩
abbrev cX5_remove : ByteArray := prog_7_method_5_code
def yX5_remove : MethodName := ⟨RX5, "remove", "(I)V"⟩
def RX6 : String := "SplitNodes$Node"
def TX6 : u_T := fun k => match k with
  | 0 => ("SplitNodes$Node", "held", "[LSplitNodes$Letter;", true)
  | 1 => ("SplitNodes$Node", "kept", "[LSplitNodes$Letter;", true)
  | 2 => ("SplitNodes$Node", "newest", "LSplitNodes$Mark;", false)
  | 3 => ("SplitNodes$Node", "older", "LSplitNodes$Mark;", false)
  | 4 => ("SplitNodes$Node", "round", "I", false)
  | 5 => ("SplitNodes$Node", "ended", "Z", false)
  | _ => ("SplitNodes$Node", "down", "Z", false)
def tyX6 : Nat → FieldType := fun k => match k with
  | 0 => .array (.object "SplitNodes$Letter")
  | 1 => .array (.object "SplitNodes$Letter")
  | 2 => .object "SplitNodes$Mark"
  | 3 => .object "SplitNodes$Mark"
  | 4 => .int
  | 5 => .boolean
  | _ => .boolean
theorem nmX6 : ∀ a, a < 7 → ∀ b, b < 7 → a ≠ b → (TX6 a).2.1 ≠ (TX6 b).2.1 := by decide +kernel
theorem tyX6_ok : ∀ k, k < 7 → parseFieldDescriptor (TX6 k).2.2.1 = some (tyX6 k) := by decide +kernel
abbrev cX6_init : ByteArray := prog_8_method_1_code
def yX6_init : MethodName := ⟨RX6, "<init>", "()V"⟩
abbrev cX6_slot : ByteArray := prog_8_method_2_code
def yX6_slot : MethodName := ⟨RX6, "slot", "(II)I"⟩
abbrev cX6_clear : ByteArray := prog_8_method_3_code
def yX6_clear : MethodName := ⟨RX6, "clear", "()V"⟩
abbrev cX6_forgetLetters : ByteArray := prog_8_method_4_code
def yX6_forgetLetters : MethodName := ⟨RX6, "forgetLetters", "()V"⟩
abbrev cX6_forgetMarks : ByteArray := prog_8_method_5_code
def yX6_forgetMarks : MethodName := ⟨RX6, "forgetMarks", "()V"⟩
abbrev cX6_enter : ByteArray := prog_8_method_6_code
def yX6_enter : MethodName := ⟨RX6, "enter", "(I)V"⟩
abbrev cX6_hold : ByteArray := prog_8_method_7_code
def yX6_hold : MethodName := ⟨RX6, "hold", "(LSplitNodes$Letter;)V"⟩
abbrev cX6_holds : ByteArray := prog_8_method_8_code
def yX6_holds : MethodName := ⟨RX6, "holds", "(LSplitNodes$Letter;)Z"⟩
abbrev cX6_heldFrom : ByteArray := prog_8_method_9_code
def yX6_heldFrom : MethodName := ⟨RX6, "heldFrom", "(I)LSplitNodes$Letter;"⟩
abbrev cX6_lettersHeld : ByteArray := prog_8_method_10_code
def yX6_lettersHeld : MethodName := ⟨RX6, "lettersHeld", "()I"⟩
abbrev cX6_isToldActive : ByteArray := prog_8_method_11_code
def yX6_isToldActive : MethodName := ⟨RX6, "isToldActive", "()Z"⟩
abbrev cX6_keep : ByteArray := prog_8_method_12_code
def yX6_keep : MethodName := ⟨RX6, "keep", "(LSplitNodes$Letter;)V"⟩
abbrev cX6_keptFor : ByteArray := prog_8_method_13_code
def yX6_keptFor : MethodName := ⟨RX6, "keptFor", "(II)LSplitNodes$Letter;"⟩
abbrev cX6_nextMark : ByteArray := prog_8_method_14_code
def yX6_nextMark : MethodName := ⟨RX6, "nextMark", "()LSplitNodes$Mark;"⟩
abbrev cX6_swapMarks : ByteArray := prog_8_method_15_code
def yX6_swapMarks : MethodName := ⟨RX6, "swapMarks", "()V"⟩
abbrev cX6_fail : ByteArray := prog_8_method_16_code
def yX6_fail : MethodName := ⟨RX6, "fail", "()V"⟩
abbrev cX6_goBack : ByteArray := prog_8_method_17_code
def yX6_goBack : MethodName := ⟨RX6, "goBack", "(I)V"⟩
def RX7 : String := "SplitNodes$Values"
def TX7 : u_T := fun k => match k with
  | 0 => ("SplitNodes$Values", "value", "[I", true)
  | 1 => ("SplitNodes$Values", "total", "[I", true)
  | _ => ("SplitNodes$Values", "active", "[Z", true)
def tyX7 : Nat → FieldType := fun k => match k with
  | 0 => .array .int
  | 1 => .array .int
  | _ => .array .boolean
theorem nmX7 : ∀ a, a < 3 → ∀ b, b < 3 → a ≠ b → (TX7 a).2.1 ≠ (TX7 b).2.1 := by decide +kernel
theorem tyX7_ok : ∀ k, k < 3 → parseFieldDescriptor (TX7 k).2.2.1 = some (tyX7 k) := by decide +kernel
abbrev cX7_init : ByteArray := prog_9_method_1_code
def yX7_init : MethodName := ⟨RX7, "<init>", "()V"⟩
abbrev cX7_begin : ByteArray := prog_9_method_2_code
def yX7_begin : MethodName := ⟨RX7, "begin", "(II)V"⟩
abbrev cX7_copyVertex : ByteArray := prog_9_method_3_code
def yX7_copyVertex : MethodName := ⟨RX7, "copyVertex", "(ILSplitNodes$Values;)V"⟩
abbrev cX7_tell : ByteArray := prog_9_method_4_code
def yX7_tell : MethodName := ⟨RX7, "tell", "(II)J"⟩
def RX8 : String := "SplitNodes"
def TX8 : u_T := fun k => match k with
  | 0 => ("SplitNodes", "graph", "LSplitNodes$Graph;", true)
  | 1 => ("SplitNodes", "values", "LSplitNodes$Values;", true)
  | 2 => ("SplitNodes", "lone", "LSplitNodes$Values;", true)
  | 3 => ("SplitNodes", "inbox", "LSplitNodes$Inbox;", true)
  | 4 => ("SplitNodes", "desk", "LSplitNodes$Desk;", true)
  | 5 => ("SplitNodes", "net", "LSplitNodes$Net;", true)
  | 6 => ("SplitNodes", "row", "[LSplitNodes$Node;", true)
  | 7 => ("SplitNodes", "outcomes", "[I", true)
  | 8 => ("SplitNodes", "nodeCount", "I", false)
  | 9 => ("SplitNodes", "markEvery", "I", false)
  | 10 => ("SplitNodes", "joining", "Z", false)
  | 11 => ("SplitNodes", "started", "Z", false)
  | 12 => ("SplitNodes", "epoch", "I", false)
  | _ => ("SplitNodes", "written", "I", false)
def tyX8 : Nat → FieldType := fun k => match k with
  | 0 => .object "SplitNodes$Graph"
  | 1 => .object "SplitNodes$Values"
  | 2 => .object "SplitNodes$Values"
  | 3 => .object "SplitNodes$Inbox"
  | 4 => .object "SplitNodes$Desk"
  | 5 => .object "SplitNodes$Net"
  | 6 => .array (.object "SplitNodes$Node")
  | 7 => .array .int
  | 8 => .int
  | 9 => .int
  | 10 => .boolean
  | 11 => .boolean
  | 12 => .int
  | _ => .int
theorem nmX8 : ∀ a, a < 14 → ∀ b, b < 14 → a ≠ b → (TX8 a).2.1 ≠ (TX8 b).2.1 := by decide +kernel
theorem tyX8_ok : ∀ k, k < 14 → parseFieldDescriptor (TX8 k).2.2.1 = some (tyX8 k) := by decide +kernel
abbrev cX8_init : ByteArray := prog_1_method_1_code
def yX8_init : MethodName := ⟨RX8, "<init>", "()V"⟩
abbrev cX8_nodes : ByteArray := prog_1_method_2_code
def yX8_nodes : MethodName := ⟨RX8, "nodes", "(I)I"⟩
abbrev cX8_vertex : ByteArray := prog_1_method_3_code
def yX8_vertex : MethodName := ⟨RX8, "vertex", "(II)I"⟩
abbrev cX8_arc : ByteArray := prog_1_method_4_code
def yX8_arc : MethodName := ⟨RX8, "arc", "(III)I"⟩
abbrev cX8_kind : ByteArray := prog_1_method_5_code
def yX8_kind : MethodName := ⟨RX8, "kind", "(I)I"⟩
abbrev cX8_joined : ByteArray := prog_1_method_6_code
def yX8_joined : MethodName := ⟨RX8, "joined", "(Z)I"⟩
abbrev cX8_every : ByteArray := prog_1_method_7_code
def yX8_every : MethodName := ⟨RX8, "every", "(I)I"⟩
abbrev cX8_start : ByteArray := prog_1_method_8_code
def yX8_start : MethodName := ⟨RX8, "start", "()I"⟩
abbrev cX8_letter : ByteArray := prog_1_method_9_code
def yX8_letter : MethodName := ⟨RX8, "letter", "(II)I"⟩
abbrev cX8_entry : ByteArray := prog_1_method_10_code
def yX8_entry : MethodName := ⟨RX8, "entry", "(III)J"⟩
abbrev cX8_deliver : ByteArray := prog_1_method_11_code
def yX8_deliver : MethodName := ⟨RX8, "deliver", "(I)I"⟩
abbrev cX8_lose : ByteArray := prog_1_method_12_code
def yX8_lose : MethodName := ⟨RX8, "lose", "(I)I"⟩
abbrev cX8_copy : ByteArray := prog_1_method_13_code
def yX8_copy : MethodName := ⟨RX8, "copy", "(I)I"⟩
abbrev cX8_resend : ByteArray := prog_1_method_14_code
def yX8_resend : MethodName := ⟨RX8, "resend", "(II)I"⟩
abbrev cX8_crash : ByteArray := prog_1_method_15_code
def yX8_crash : MethodName := ⟨RX8, "crash", "(I)I"⟩
abbrev cX8_back : ByteArray := prog_1_method_16_code
def yX8_back : MethodName := ⟨RX8, "back", "()I"⟩
abbrev cX8_move : ByteArray := prog_1_method_17_code
def yX8_move : MethodName := ⟨RX8, "move", "(II)I"⟩
abbrev cX8_of : ByteArray := prog_1_method_18_code
def yX8_of : MethodName := ⟨RX8, "of", "(II)J"⟩
abbrev cX8_alone : ByteArray := prog_1_method_19_code
def yX8_alone : MethodName := ⟨RX8, "alone", "(III)J"⟩
abbrev cX8_node : ByteArray := prog_1_method_20_code
def yX8_node : MethodName := ⟨RX8, "node", "(II)I"⟩
abbrev cX8_told : ByteArray := prog_1_method_21_code
def yX8_told : MethodName := ⟨RX8, "told", "(I)I"⟩
abbrev cX8_isNode : ByteArray := prog_1_method_22_code
def yX8_isNode : MethodName := ⟨RX8, "isNode", "(I)Z"⟩
abbrev cX8_isVertex : ByteArray := prog_1_method_23_code
def yX8_isVertex : MethodName := ⟨RX8, "isVertex", "(I)Z"⟩
abbrev cX8_isAnyDown : ByteArray := prog_1_method_24_code
def yX8_isAnyDown : MethodName := ⟨RX8, "isAnyDown", "()Z"⟩
abbrev cX8_isLevel : ByteArray := prog_1_method_25_code
def yX8_isLevel : MethodName := ⟨RX8, "isLevel", "()Z"⟩
abbrev cX8_isComplete : ByteArray := prog_1_method_26_code
def yX8_isComplete : MethodName := ⟨RX8, "isComplete", "(LSplitNodes$Node;)Z"⟩
abbrev cX8_isMarkRound : ByteArray := prog_1_method_27_code
def yX8_isMarkRound : MethodName := ⟨RX8, "isMarkRound", "(I)Z"⟩
abbrev cX8_outcomeOf : ByteArray := prog_1_method_28_code
def yX8_outcomeOf : MethodName := ⟨RX8, "outcomeOf", "(LSplitNodes$Letter;)I"⟩
abbrev cX8_finishRound : ByteArray := prog_1_method_29_code
def yX8_finishRound : MethodName := ⟨RX8, "finishRound", "(I)V"⟩
abbrev cX8_takeMessages : ByteArray := prog_1_method_30_code
def yX8_takeMessages : MethodName := ⟨RX8, "takeMessages", "(I)V"⟩
abbrev cX8_workAlone : ByteArray := prog_1_method_31_code
def yX8_workAlone : MethodName := ⟨RX8, "workAlone", "()V"⟩
abbrev cX8_comeInto : ByteArray := prog_1_method_32_code
def yX8_comeInto : MethodName := ⟨RX8, "comeInto", "(II)V"⟩
abbrev cX8_keepMark : ByteArray := prog_1_method_33_code
def yX8_keepMark : MethodName := ⟨RX8, "keepMark", "(I)V"⟩
abbrev cX8_copyVertices : ByteArray := prog_1_method_34_code
def yX8_copyVertices : MethodName := ⟨RX8, "copyVertices", "(ILSplitNodes$Values;LSplitNodes$Values;)V"⟩
abbrev cX8_writeLetters : ByteArray := prog_1_method_35_code
def yX8_writeLetters : MethodName := ⟨RX8, "writeLetters", "(I)V"⟩
abbrev cX8_wholeMark : ByteArray := prog_1_method_36_code
def yX8_wholeMark : MethodName := ⟨RX8, "wholeMark", "()I"⟩
abbrev cX8_isMarkedByAll : ByteArray := prog_1_method_37_code
def yX8_isMarkedByAll : MethodName := ⟨RX8, "isMarkedByAll", "(I)Z"⟩
abbrev cX8_fold : ByteArray := prog_1_method_38_code
def yX8_fold : MethodName := ⟨RX8, "fold", "(III)I"⟩
def RX9 : String := "SplitNodesModel"
def TX9 : u_T := fun k => match k with
  | 0 => ("SplitNodesModel", "nodes", "I", false)
  | 1 => ("SplitNodesModel", "vertices", "I", false)
  | 2 => ("SplitNodesModel", "arcs", "I", false)
  | 3 => ("SplitNodesModel", "kind", "I", false)
  | 4 => ("SplitNodesModel", "joins", "Z", false)
  | 5 => ("SplitNodesModel", "every", "I", false)
  | 6 => ("SplitNodesModel", "isStarted", "Z", false)
  | 7 => ("SplitNodesModel", "first", "[I", true)
  | 8 => ("SplitNodesModel", "value", "[I", true)
  | 9 => ("SplitNodesModel", "total", "[I", true)
  | 10 => ("SplitNodesModel", "active", "[Z", true)
  | 11 => ("SplitNodesModel", "at", "[I", true)
  | 12 => ("SplitNodesModel", "from", "[I", true)
  | 13 => ("SplitNodesModel", "to", "[I", true)
  | 14 => ("SplitNodesModel", "weight", "[I", true)
  | 15 => ("SplitNodesModel", "round", "[I", true)
  | 16 => ("SplitNodesModel", "isEnded", "[Z", true)
  | 17 => ("SplitNodesModel", "isDown", "[Z", true)
  | 18 => ("SplitNodesModel", "net", "I", false)
  | 19 => ("SplitNodesModel", "is", "[Z", true)
  | 20 => ("SplitNodesModel", "lEpoch", "[I", true)
  | 21 => ("SplitNodesModel", "lRound", "[I", true)
  | 22 => ("SplitNodesModel", "lFrom", "[I", true)
  | 23 => ("SplitNodesModel", "lTo", "[I", true)
  | 24 => ("SplitNodesModel", "lActive", "[I", true)
  | 25 => ("SplitNodesModel", "lMany", "[I", true)
  | 26 => ("SplitNodesModel", "eVertex", "[I", true)
  | 27 => ("SplitNodesModel", "eMessage", "[I", true)
  | 28 => ("SplitNodesModel", "eArc", "[I", true)
  | 29 => ("SplitNodesModel", "markRound", "[I", true)
  | 30 => ("SplitNodesModel", "markValue", "[I", true)
  | 31 => ("SplitNodesModel", "markTotal", "[I", true)
  | 32 => ("SplitNodesModel", "markActive", "[Z", true)
  | 33 => ("SplitNodesModel", "epoch", "I", false)
  | 34 => ("SplitNodesModel", "written", "I", false)
  | 35 => ("SplitNodesModel", "came", "[I", true)
  | 36 => ("SplitNodesModel", "got", "[Z", true)
  | 37 => ("SplitNodesModel", "gotMessage", "[I", true)
  | 38 => ("SplitNodesModel", "gotArc", "[I", true)
  | 39 => ("SplitNodesModel", "oneValue", "[I", true)
  | 40 => ("SplitNodesModel", "oneTotal", "[I", true)
  | _ => ("SplitNodesModel", "oneActive", "[Z", true)
def tyX9 : Nat → FieldType := fun k => match k with
  | 0 => .int
  | 1 => .int
  | 2 => .int
  | 3 => .int
  | 4 => .boolean
  | 5 => .int
  | 6 => .boolean
  | 7 => .array .int
  | 8 => .array .int
  | 9 => .array .int
  | 10 => .array .boolean
  | 11 => .array .int
  | 12 => .array .int
  | 13 => .array .int
  | 14 => .array .int
  | 15 => .array .int
  | 16 => .array .boolean
  | 17 => .array .boolean
  | 18 => .int
  | 19 => .array .boolean
  | 20 => .array .int
  | 21 => .array .int
  | 22 => .array .int
  | 23 => .array .int
  | 24 => .array .int
  | 25 => .array .int
  | 26 => .array .int
  | 27 => .array .int
  | 28 => .array .int
  | 29 => .array .int
  | 30 => .array .int
  | 31 => .array .int
  | 32 => .array .boolean
  | 33 => .int
  | 34 => .int
  | 35 => .array .int
  | 36 => .array .boolean
  | 37 => .array .int
  | 38 => .array .int
  | 39 => .array .int
  | 40 => .array .int
  | _ => .array .boolean
theorem nmX9 : ∀ a, a < 42 → ∀ b, b < 42 → a ≠ b → (TX9 a).2.1 ≠ (TX9 b).2.1 := by decide +kernel
theorem tyX9_ok : ∀ k, k < 42 → parseFieldDescriptor (TX9 k).2.2.1 = some (tyX9 k) := by decide +kernel
abbrev cX9_init : ByteArray := prog_11_method_1_code
def yX9_init : MethodName := ⟨RX9, "<init>", "()V"⟩
abbrev cX9_in : ByteArray := prog_11_method_2_code
def yX9_in : MethodName := ⟨RX9, "in", "(III)Z"⟩
abbrev cX9_wipe : ByteArray := prog_11_method_3_code
def yX9_wipe : MethodName := ⟨RX9, "wipe", "(I)V"⟩
abbrev cX9_nodes : ByteArray := prog_11_method_4_code
def yX9_nodes : MethodName := ⟨RX9, "nodes", "(I)I"⟩
abbrev cX9_isNode : ByteArray := prog_11_method_5_code
def yX9_isNode : MethodName := ⟨RX9, "isNode", "(I)Z"⟩
abbrev cX9_isVertex : ByteArray := prog_11_method_6_code
def yX9_isVertex : MethodName := ⟨RX9, "isVertex", "(I)Z"⟩
abbrev cX9_vertex : ByteArray := prog_11_method_7_code
def yX9_vertex : MethodName := ⟨RX9, "vertex", "(II)I"⟩
abbrev cX9_arc : ByteArray := prog_11_method_8_code
def yX9_arc : MethodName := ⟨RX9, "arc", "(III)I"⟩
abbrev cX9_kind : ByteArray := prog_11_method_9_code
def yX9_kind : MethodName := ⟨RX9, "kind", "(I)I"⟩
abbrev cX9_joined : ByteArray := prog_11_method_10_code
def yX9_joined : MethodName := ⟨RX9, "joined", "(Z)I"⟩
abbrev cX9_every : ByteArray := prog_11_method_11_code
def yX9_every : MethodName := ⟨RX9, "every", "(I)I"⟩
abbrev cX9_message : ByteArray := prog_11_method_12_code
def yX9_message : MethodName := ⟨RX9, "message", "(II)I"⟩
abbrev cX9_folded : ByteArray := prog_11_method_13_code
def yX9_folded : MethodName := ⟨RX9, "folded", "(II)I"⟩
abbrev cX9_lay : ByteArray := prog_11_method_14_code
def yX9_lay : MethodName := ⟨RX9, "lay", "(II)V"⟩
abbrev cX9_keeps : ByteArray := prog_11_method_15_code
def yX9_keeps : MethodName := ⟨RX9, "keeps", "(III)I"⟩
abbrev cX9_has : ByteArray := prog_11_method_16_code
def yX9_has : MethodName := ⟨RX9, "has", "(III)I"⟩
abbrev cX9_activeAt : ByteArray := prog_11_method_17_code
def yX9_activeAt : MethodName := ⟨RX9, "activeAt", "(I)I"⟩
abbrev cX9_addEntry : ByteArray := prog_11_method_18_code
def yX9_addEntry : MethodName := ⟨RX9, "addEntry", "(IIII)V"⟩
abbrev cX9_write : ByteArray := prog_11_method_19_code
def yX9_write : MethodName := ⟨RX9, "write", "(I)V"⟩
abbrev cX9_takeOut : ByteArray := prog_11_method_20_code
def yX9_takeOut : MethodName := ⟨RX9, "takeOut", "(I)V"⟩
abbrev cX9_mark : ByteArray := prog_11_method_21_code
def yX9_mark : MethodName := ⟨RX9, "mark", "(I)V"⟩
abbrev cX9_layMark : ByteArray := prog_11_method_22_code
def yX9_layMark : MethodName := ⟨RX9, "layMark", "(III)V"⟩
abbrev cX9_come : ByteArray := prog_11_method_23_code
def yX9_come : MethodName := ⟨RX9, "come", "(II)V"⟩
abbrev cX9_begin : ByteArray := prog_11_method_24_code
def yX9_begin : MethodName := ⟨RX9, "begin", "()V"⟩
abbrev cX9_hear : ByteArray := prog_11_method_25_code
def yX9_hear : MethodName := ⟨RX9, "hear", "(III)V"⟩
abbrev cX9_behind : ByteArray := prog_11_method_26_code
def yX9_behind : MethodName := ⟨RX9, "behind", "(II)I"⟩
abbrev cX9_take : ByteArray := prog_11_method_27_code
def yX9_take : MethodName := ⟨RX9, "take", "(I)V"⟩
abbrev cX9_letters : ByteArray := prog_11_method_28_code
def yX9_letters : MethodName := ⟨RX9, "letters", "(I)I"⟩
abbrev cX9_goOn : ByteArray := prog_11_method_29_code
def yX9_goOn : MethodName := ⟨RX9, "goOn", "(I)V"⟩
abbrev cX9_start : ByteArray := prog_11_method_30_code
def yX9_start : MethodName := ⟨RX9, "start", "()I"⟩
abbrev cX9_isLetter : ByteArray := prog_11_method_31_code
def yX9_isLetter : MethodName := ⟨RX9, "isLetter", "(I)Z"⟩
abbrev cX9_letter : ByteArray := prog_11_method_32_code
def yX9_letter : MethodName := ⟨RX9, "letter", "(II)I"⟩
abbrev cX9_entry : ByteArray := prog_11_method_33_code
def yX9_entry : MethodName := ⟨RX9, "entry", "(III)J"⟩
abbrev cX9_coming : ByteArray := prog_11_method_34_code
def yX9_coming : MethodName := ⟨RX9, "coming", "(I)I"⟩
abbrev cX9_deliver : ByteArray := prog_11_method_35_code
def yX9_deliver : MethodName := ⟨RX9, "deliver", "(I)I"⟩
abbrev cX9_lose : ByteArray := prog_11_method_36_code
def yX9_lose : MethodName := ⟨RX9, "lose", "(I)I"⟩
abbrev cX9_copy : ByteArray := prog_11_method_37_code
def yX9_copy : MethodName := ⟨RX9, "copy", "(I)I"⟩
abbrev cX9_resend : ByteArray := prog_11_method_38_code
def yX9_resend : MethodName := ⟨RX9, "resend", "(II)I"⟩
abbrev cX9_forget : ByteArray := prog_11_method_39_code
def yX9_forget : MethodName := ⟨RX9, "forget", "(I)V"⟩
abbrev cX9_crash : ByteArray := prog_11_method_40_code
def yX9_crash : MethodName := ⟨RX9, "crash", "(I)I"⟩
abbrev cX9_hasMark : ByteArray := prog_11_method_41_code
def yX9_hasMark : MethodName := ⟨RX9, "hasMark", "(II)Z"⟩
abbrev cX9_isMarked : ByteArray := prog_11_method_42_code
def yX9_isMarked : MethodName := ⟨RX9, "isMarked", "(I)Z"⟩
abbrev cX9_goBack : ByteArray := prog_11_method_43_code
def yX9_goBack : MethodName := ⟨RX9, "goBack", "(II)V"⟩
abbrev cX9_back : ByteArray := prog_11_method_44_code
def yX9_back : MethodName := ⟨RX9, "back", "()I"⟩
abbrev cX9_move : ByteArray := prog_11_method_45_code
def yX9_move : MethodName := ⟨RX9, "move", "(II)I"⟩
abbrev cX9_of : ByteArray := prog_11_method_46_code
def yX9_of : MethodName := ⟨RX9, "of", "(II)J"⟩
abbrev cX9_oneRound : ByteArray := prog_11_method_47_code
def yX9_oneRound : MethodName := ⟨RX9, "oneRound", "()V"⟩
abbrev cX9_alone : ByteArray := prog_11_method_48_code
def yX9_alone : MethodName := ⟨RX9, "alone", "(III)J"⟩
abbrev cX9_node : ByteArray := prog_11_method_49_code
def yX9_node : MethodName := ⟨RX9, "node", "(II)I"⟩
abbrev cX9_told : ByteArray := prog_11_method_50_code
def yX9_told : MethodName := ⟨RX9, "told", "(I)I"⟩
def RJx8e188 : String := "java/lang/Cloneable"
def TJx8e188 : u_T := fun k => match k with
  | _ => ("", "", "", false)
def tyJx8e188 : Nat → FieldType := fun k => match k with
  | _ => .int
theorem nmJx8e188 : ∀ a, a < 0 → ∀ b, b < 0 → a ≠ b → (TJx8e188 a).2.1 ≠ (TJx8e188 b).2.1 := by decide +kernel
theorem tyJx8e188_ok : ∀ k, k < 0 → parseFieldDescriptor (TJx8e188 k).2.2.1 = some (tyJx8e188 k) := by decide +kernel
def RJ9 : String := "java/lang/Math"
def TJ9 : u_T := fun k => match k with
  | _ => ("", "", "", false)
def tyJ9 : Nat → FieldType := fun k => match k with
  | _ => .int
theorem nmJ9 : ∀ a, a < 0 → ∀ b, b < 0 → a ≠ b → (TJ9 a).2.1 ≠ (TJ9 b).2.1 := by decide +kernel
theorem tyJ9_ok : ∀ k, k < 0 → parseFieldDescriptor (TJ9 k).2.2.1 = some (tyJ9 k) := by decide +kernel
abbrev cJ9_max_7cf53 : ByteArray := prog_13_method_65_code
def yJ9_max_7cf53 : MethodName := ⟨RJ9, "max", "(II)I"⟩
abbrev cJ9_min_7cf53 : ByteArray := prog_13_method_69_code
def yJ9_min_7cf53 : MethodName := ⟨RJ9, "min", "(II)I"⟩
def RJ10 : String := "java/lang/System"
def TJ10 : u_T := fun k => match k with
  | _ => ("", "", "", false)
def tyJ10 : Nat → FieldType := fun k => match k with
  | _ => .int
theorem nmJ10 : ∀ a, a < 0 → ∀ b, b < 0 → a ≠ b → (TJ10 a).2.1 ≠ (TJ10 b).2.1 := by decide +kernel
theorem tyJ10_ok : ∀ k, k < 0 → parseFieldDescriptor (TJ10 k).2.2.1 = some (tyJ10 k) := by decide +kernel
def RJ7 : String := "java/util/Arrays"
def TJ7 : u_T := fun k => match k with
  | _ => ("", "", "", false)
def tyJ7 : Nat → FieldType := fun k => match k with
  | _ => .int
theorem nmJ7 : ∀ a, a < 0 → ∀ b, b < 0 → a ≠ b → (TJ7 a).2.1 ≠ (TJ7 b).2.1 := by decide +kernel
theorem tyJ7_ok : ∀ k, k < 0 → parseFieldDescriptor (TJ7 k).2.2.1 = some (tyJ7 k) := by decide +kernel
abbrev cJ7_fill_53178 : ByteArray := prog_15_method_103_code
def yJ7_fill_53178 : MethodName := ⟨RJ7, "fill", "([II)V"⟩
abbrev cJ7_copyOf_59c91 : ByteArray := prog_15_method_123_code
def yJ7_copyOf_59c91 : MethodName := ⟨RJ7, "copyOf", "([II)[I"⟩
def RL : String := "SplitNodesLaw"
abbrev cL_law : ByteArray := code
def yL_law : MethodName := ⟨RL, "law", "([I)Z"⟩
abbrev vwCl : List vw_C := [(RX0, TX0, 4), (RX1, TX1, 8), (RX2, TX2, 3), (RX3, TX3, 8), (RX4, TX4, 2), (RX5, TX5, 2), (RX6, TX6, 7), (RX7, TX7, 3), (RX8, TX8, 14), (RX9, TX9, 42)]
end
section
theorem dX0_init_0 : decode cX0_init 0 = .ok (.aload_n 0, 1) := by decide +kernel
theorem dX0_init_1 : decode cX0_init 1 = .ok (.invokespecial 3, 3) := by decide +kernel
theorem dX0_init_4 : decode cX0_init 4 = .ok (.aload_n 0, 1) := by decide +kernel
theorem dX0_init_5 : decode cX0_init 5 = .ok (.bipush 40, 2) := by decide +kernel
theorem dX0_init_7 : decode cX0_init 7 = .ok (.newarray .int, 2) := by decide +kernel
theorem dX0_init_9 : decode cX0_init 9 = .ok (.putfield 9, 3) := by decide +kernel
theorem dX0_init_12 : decode cX0_init 12 = .ok (.aload_n 0, 1) := by decide +kernel
theorem dX0_init_13 : decode cX0_init 13 = .ok (.bipush 40, 2) := by decide +kernel
theorem dX0_init_15 : decode cX0_init 15 = .ok (.newarray .int, 2) := by decide +kernel
theorem dX0_init_17 : decode cX0_init 17 = .ok (.putfield 15, 3) := by decide +kernel
theorem dX0_init_20 : decode cX0_init 20 = .ok (.aload_n 0, 1) := by decide +kernel
theorem dX0_init_21 : decode cX0_init 21 = .ok (.bipush 40, 2) := by decide +kernel
theorem dX0_init_23 : decode cX0_init 23 = .ok (.newarray .int, 2) := by decide +kernel
theorem dX0_init_25 : decode cX0_init 25 = .ok (.putfield 18, 3) := by decide +kernel
theorem dX0_init_28 : decode cX0_init 28 = .ok (.return_, 1) := by decide +kernel
theorem dX0_gather_0 : decode cX0_gather 0 = .ok (.aload_n 0, 1) := by decide +kernel
theorem dX0_gather_1 : decode cX0_gather 1 = .ok (.iconst 0, 1) := by decide +kernel
theorem dX0_gather_2 : decode cX0_gather 2 = .ok (.putfield 21, 3) := by decide +kernel
theorem dX0_gather_5 : decode cX0_gather 5 = .ok (.iconst 0, 1) := by decide +kernel
theorem dX0_gather_6 : decode cX0_gather 6 = .ok (.istore 6, 2) := by decide +kernel
theorem dX0_gather_8 : decode cX0_gather 8 = .ok (.iload 6, 2) := by decide +kernel
theorem dX0_gather_10 : decode cX0_gather 10 = .ok (.aload_n 1, 1) := by decide +kernel
theorem dX0_gather_11 : decode cX0_gather 11 = .ok (.getfield 25, 3) := by decide +kernel
theorem dX0_gather_14 : decode cX0_gather 14 = .ok (.if_icmp .ge 42, 3) := by decide +kernel
theorem dX0_gather_17 : decode cX0_gather 17 = .ok (.aload_n 1, 1) := by decide +kernel
theorem dX0_gather_18 : decode cX0_gather 18 = .ok (.getfield 30, 3) := by decide +kernel
theorem dX0_gather_21 : decode cX0_gather 21 = .ok (.iload 6, 2) := by decide +kernel
theorem dX0_gather_23 : decode cX0_gather 23 = .ok (.iaload, 1) := by decide +kernel
theorem dX0_gather_24 : decode cX0_gather 24 = .ok (.iload_n 3, 1) := by decide +kernel
theorem dX0_gather_25 : decode cX0_gather 25 = .ok (.if_icmp .ne 25, 3) := by decide +kernel
theorem dX0_gather_28 : decode cX0_gather 28 = .ok (.aload_n 2, 1) := by decide +kernel
theorem dX0_gather_29 : decode cX0_gather 29 = .ok (.getfield 33, 3) := by decide +kernel
theorem dX0_gather_32 : decode cX0_gather 32 = .ok (.iload 6, 2) := by decide +kernel
theorem dX0_gather_34 : decode cX0_gather 34 = .ok (.baload, 1) := by decide +kernel
theorem dX0_gather_35 : decode cX0_gather 35 = .ok (.ifCond .eq 15, 3) := by decide +kernel
theorem dX0_gather_38 : decode cX0_gather 38 = .ok (.aload_n 0, 1) := by decide +kernel
theorem dX0_gather_39 : decode cX0_gather 39 = .ok (.iload 6, 2) := by decide +kernel
theorem dX0_gather_41 : decode cX0_gather 41 = .ok (.aload_n 1, 1) := by decide +kernel
theorem dX0_gather_42 : decode cX0_gather 42 = .ok (.aload_n 2, 1) := by decide +kernel
theorem dX0_gather_43 : decode cX0_gather 43 = .ok (.iload 4, 2) := by decide +kernel
theorem dX0_gather_45 : decode cX0_gather 45 = .ok (.iload 5, 2) := by decide +kernel
theorem dX0_gather_47 : decode cX0_gather 47 = .ok (.invokevirtual 39, 3) := by decide +kernel
theorem dX0_gather_50 : decode cX0_gather 50 = .ok (.iinc 6 1, 3) := by decide +kernel
theorem dX0_gather_53 : decode cX0_gather 53 = .ok (.goto (-45), 3) := by decide +kernel
theorem dX0_gather_56 : decode cX0_gather 56 = .ok (.return_, 1) := by decide +kernel
theorem dX0_gatherOf_0 : decode cX0_gatherOf 0 = .ok (.iconst 0, 1) := by decide +kernel
theorem dX0_gatherOf_1 : decode cX0_gatherOf 1 = .ok (.istore 6, 2) := by decide +kernel
theorem dX0_gatherOf_3 : decode cX0_gatherOf 3 = .ok (.iload 6, 2) := by decide +kernel
theorem dX0_gatherOf_5 : decode cX0_gatherOf 5 = .ok (.aload_n 2, 1) := by decide +kernel
theorem dX0_gatherOf_6 : decode cX0_gatherOf 6 = .ok (.getfield 43, 3) := by decide +kernel
theorem dX0_gatherOf_9 : decode cX0_gatherOf 9 = .ok (.if_icmp .ge 115, 3) := by decide +kernel
theorem dX0_gatherOf_12 : decode cX0_gatherOf 12 = .ok (.aload_n 2, 1) := by decide +kernel
theorem dX0_gatherOf_13 : decode cX0_gatherOf 13 = .ok (.getfield 45, 3) := by decide +kernel
theorem dX0_gatherOf_16 : decode cX0_gatherOf 16 = .ok (.iload 6, 2) := by decide +kernel
theorem dX0_gatherOf_18 : decode cX0_gatherOf 18 = .ok (.iaload, 1) := by decide +kernel
theorem dX0_gatherOf_19 : decode cX0_gatherOf 19 = .ok (.istore 7, 2) := by decide +kernel
theorem dX0_gatherOf_21 : decode cX0_gatherOf 21 = .ok (.aload_n 2, 1) := by decide +kernel
theorem dX0_gatherOf_22 : decode cX0_gatherOf 22 = .ok (.getfield 48, 3) := by decide +kernel
theorem dX0_gatherOf_25 : decode cX0_gatherOf 25 = .ok (.iload 6, 2) := by decide +kernel
theorem dX0_gatherOf_27 : decode cX0_gatherOf 27 = .ok (.iaload, 1) := by decide +kernel
theorem dX0_gatherOf_28 : decode cX0_gatherOf 28 = .ok (.iload_n 1, 1) := by decide +kernel
theorem dX0_gatherOf_29 : decode cX0_gatherOf 29 = .ok (.if_icmp .ne 89, 3) := by decide +kernel
theorem dX0_gatherOf_32 : decode cX0_gatherOf 32 = .ok (.aload_n 2, 1) := by decide +kernel
theorem dX0_gatherOf_33 : decode cX0_gatherOf 33 = .ok (.getfield 30, 3) := by decide +kernel
theorem dX0_gatherOf_36 : decode cX0_gatherOf 36 = .ok (.iload 7, 2) := by decide +kernel
theorem dX0_gatherOf_38 : decode cX0_gatherOf 38 = .ok (.iaload, 1) := by decide +kernel
theorem dX0_gatherOf_39 : decode cX0_gatherOf 39 = .ok (.iload 4, 2) := by decide +kernel
theorem dX0_gatherOf_41 : decode cX0_gatherOf 41 = .ok (.if_icmp .ne 77, 3) := by decide +kernel
theorem dX0_gatherOf_44 : decode cX0_gatherOf 44 = .ok (.aload_n 2, 1) := by decide +kernel
theorem dX0_gatherOf_45 : decode cX0_gatherOf 45 = .ok (.iload 6, 2) := by decide +kernel
theorem dX0_gatherOf_47 : decode cX0_gatherOf 47 = .ok (.aload_n 3, 1) := by decide +kernel
theorem dX0_gatherOf_48 : decode cX0_gatherOf 48 = .ok (.invokevirtual 51, 3) := by decide +kernel
theorem dX0_gatherOf_51 : decode cX0_gatherOf 51 = .ok (.istore 8, 2) := by decide +kernel
theorem dX0_gatherOf_53 : decode cX0_gatherOf 53 = .ok (.iload 5, 2) := by decide +kernel
theorem dX0_gatherOf_55 : decode cX0_gatherOf 55 = .ok (.ifCond .eq 12, 3) := by decide +kernel
theorem dX0_gatherOf_58 : decode cX0_gatherOf 58 = .ok (.aload_n 0, 1) := by decide +kernel
theorem dX0_gatherOf_59 : decode cX0_gatherOf 59 = .ok (.iload 7, 2) := by decide +kernel
theorem dX0_gatherOf_61 : decode cX0_gatherOf 61 = .ok (.invokevirtual 55, 3) := by decide +kernel
theorem dX0_gatherOf_64 : decode cX0_gatherOf 64 = .ok (.goto 7, 3) := by decide +kernel
theorem dX0_gatherOf_67 : decode cX0_gatherOf 67 = .ok (.aload_n 0, 1) := by decide +kernel
theorem dX0_gatherOf_68 : decode cX0_gatherOf 68 = .ok (.getfield 21, 3) := by decide +kernel
theorem dX0_gatherOf_71 : decode cX0_gatherOf 71 = .ok (.istore 9, 2) := by decide +kernel
theorem dX0_gatherOf_73 : decode cX0_gatherOf 73 = .ok (.iload 9, 2) := by decide +kernel
theorem dX0_gatherOf_75 : decode cX0_gatherOf 75 = .ok (.aload_n 0, 1) := by decide +kernel
theorem dX0_gatherOf_76 : decode cX0_gatherOf 76 = .ok (.getfield 21, 3) := by decide +kernel
theorem dX0_gatherOf_79 : decode cX0_gatherOf 79 = .ok (.if_icmp .ge 29, 3) := by decide +kernel
theorem dX0_gatherOf_82 : decode cX0_gatherOf 82 = .ok (.aload_n 0, 1) := by decide +kernel
theorem dX0_gatherOf_83 : decode cX0_gatherOf 83 = .ok (.getfield 15, 3) := by decide +kernel
theorem dX0_gatherOf_86 : decode cX0_gatherOf 86 = .ok (.iload 9, 2) := by decide +kernel
theorem dX0_gatherOf_88 : decode cX0_gatherOf 88 = .ok (.aload_n 2, 1) := by decide +kernel
theorem dX0_gatherOf_89 : decode cX0_gatherOf 89 = .ok (.getfield 59, 3) := by decide +kernel
theorem dX0_gatherOf_92 : decode cX0_gatherOf 92 = .ok (.aload_n 0, 1) := by decide +kernel
theorem dX0_gatherOf_93 : decode cX0_gatherOf 93 = .ok (.getfield 15, 3) := by decide +kernel
theorem dX0_gatherOf_96 : decode cX0_gatherOf 96 = .ok (.iload 9, 2) := by decide +kernel
theorem dX0_gatherOf_98 : decode cX0_gatherOf 98 = .ok (.iaload, 1) := by decide +kernel
theorem dX0_gatherOf_99 : decode cX0_gatherOf 99 = .ok (.iload 8, 2) := by decide +kernel
theorem dX0_gatherOf_101 : decode cX0_gatherOf 101 = .ok (.invokestatic 62, 3) := by decide +kernel
theorem dX0_gatherOf_104 : decode cX0_gatherOf 104 = .ok (.iastore, 1) := by decide +kernel
theorem dX0_gatherOf_105 : decode cX0_gatherOf 105 = .ok (.goto 13, 3) := by decide +kernel
theorem dX0_gatherOf_108 : decode cX0_gatherOf 108 = .ok (.aload_n 0, 1) := by decide +kernel
theorem dX0_gatherOf_109 : decode cX0_gatherOf 109 = .ok (.iload 7, 2) := by decide +kernel
theorem dX0_gatherOf_111 : decode cX0_gatherOf 111 = .ok (.iload 8, 2) := by decide +kernel
theorem dX0_gatherOf_113 : decode cX0_gatherOf 113 = .ok (.iload 6, 2) := by decide +kernel
theorem dX0_gatherOf_115 : decode cX0_gatherOf 115 = .ok (.invokevirtual 66, 3) := by decide +kernel
theorem dX0_gatherOf_118 : decode cX0_gatherOf 118 = .ok (.iinc 6 1, 3) := by decide +kernel
theorem dX0_gatherOf_121 : decode cX0_gatherOf 121 = .ok (.goto (-118), 3) := by decide +kernel
theorem dX0_gatherOf_124 : decode cX0_gatherOf 124 = .ok (.return_, 1) := by decide +kernel
theorem dX0_placeOf_0 : decode cX0_placeOf 0 = .ok (.iconst 0, 1) := by decide +kernel
theorem dX0_placeOf_1 : decode cX0_placeOf 1 = .ok (.istore_n 2, 1) := by decide +kernel
theorem dX0_placeOf_2 : decode cX0_placeOf 2 = .ok (.iload_n 2, 1) := by decide +kernel
theorem dX0_placeOf_3 : decode cX0_placeOf 3 = .ok (.aload_n 0, 1) := by decide +kernel
theorem dX0_placeOf_4 : decode cX0_placeOf 4 = .ok (.getfield 21, 3) := by decide +kernel
theorem dX0_placeOf_7 : decode cX0_placeOf 7 = .ok (.if_icmp .ge 21, 3) := by decide +kernel
theorem dX0_placeOf_10 : decode cX0_placeOf 10 = .ok (.aload_n 0, 1) := by decide +kernel
theorem dX0_placeOf_11 : decode cX0_placeOf 11 = .ok (.getfield 9, 3) := by decide +kernel
theorem dX0_placeOf_14 : decode cX0_placeOf 14 = .ok (.iload_n 2, 1) := by decide +kernel
theorem dX0_placeOf_15 : decode cX0_placeOf 15 = .ok (.iaload, 1) := by decide +kernel
theorem dX0_placeOf_16 : decode cX0_placeOf 16 = .ok (.iload_n 1, 1) := by decide +kernel
theorem dX0_placeOf_17 : decode cX0_placeOf 17 = .ok (.if_icmp .ne 5, 3) := by decide +kernel
theorem dX0_placeOf_20 : decode cX0_placeOf 20 = .ok (.iload_n 2, 1) := by decide +kernel
theorem dX0_placeOf_21 : decode cX0_placeOf 21 = .ok (.ireturn, 1) := by decide +kernel
theorem dX0_placeOf_22 : decode cX0_placeOf 22 = .ok (.iinc 2 1, 3) := by decide +kernel
theorem dX0_placeOf_25 : decode cX0_placeOf 25 = .ok (.goto (-23), 3) := by decide +kernel
theorem dX0_placeOf_28 : decode cX0_placeOf 28 = .ok (.aload_n 0, 1) := by decide +kernel
theorem dX0_placeOf_29 : decode cX0_placeOf 29 = .ok (.getfield 21, 3) := by decide +kernel
theorem dX0_placeOf_32 : decode cX0_placeOf 32 = .ok (.ireturn, 1) := by decide +kernel
theorem dX0_append_0 : decode cX0_append 0 = .ok (.aload_n 0, 1) := by decide +kernel
theorem dX0_append_1 : decode cX0_append 1 = .ok (.getfield 9, 3) := by decide +kernel
theorem dX0_append_4 : decode cX0_append 4 = .ok (.aload_n 0, 1) := by decide +kernel
theorem dX0_append_5 : decode cX0_append 5 = .ok (.getfield 21, 3) := by decide +kernel
theorem dX0_append_8 : decode cX0_append 8 = .ok (.iload_n 1, 1) := by decide +kernel
theorem dX0_append_9 : decode cX0_append 9 = .ok (.iastore, 1) := by decide +kernel
theorem dX0_append_10 : decode cX0_append 10 = .ok (.aload_n 0, 1) := by decide +kernel
theorem dX0_append_11 : decode cX0_append 11 = .ok (.getfield 15, 3) := by decide +kernel
theorem dX0_append_14 : decode cX0_append 14 = .ok (.aload_n 0, 1) := by decide +kernel
theorem dX0_append_15 : decode cX0_append 15 = .ok (.getfield 21, 3) := by decide +kernel
theorem dX0_append_18 : decode cX0_append 18 = .ok (.iload_n 2, 1) := by decide +kernel
theorem dX0_append_19 : decode cX0_append 19 = .ok (.iastore, 1) := by decide +kernel
theorem dX0_append_20 : decode cX0_append 20 = .ok (.aload_n 0, 1) := by decide +kernel
theorem dX0_append_21 : decode cX0_append 21 = .ok (.getfield 18, 3) := by decide +kernel
theorem dX0_append_24 : decode cX0_append 24 = .ok (.aload_n 0, 1) := by decide +kernel
theorem dX0_append_25 : decode cX0_append 25 = .ok (.getfield 21, 3) := by decide +kernel
theorem dX0_append_28 : decode cX0_append 28 = .ok (.iload_n 3, 1) := by decide +kernel
theorem dX0_append_29 : decode cX0_append 29 = .ok (.iastore, 1) := by decide +kernel
theorem dX0_append_30 : decode cX0_append 30 = .ok (.aload_n 0, 1) := by decide +kernel
theorem dX0_append_31 : decode cX0_append 31 = .ok (.dup, 1) := by decide +kernel
theorem dX0_append_32 : decode cX0_append 32 = .ok (.getfield 21, 3) := by decide +kernel
theorem dX0_append_35 : decode cX0_append 35 = .ok (.iconst 1, 1) := by decide +kernel
theorem dX0_append_36 : decode cX0_append 36 = .ok (.iadd, 1) := by decide +kernel
theorem dX0_append_37 : decode cX0_append 37 = .ok (.putfield 21, 3) := by decide +kernel
theorem dX0_append_40 : decode cX0_append 40 = .ok (.return_, 1) := by decide +kernel
theorem dX1_init_0 : decode cX1_init 0 = .ok (.aload_n 0, 1) := by decide +kernel
theorem dX1_init_1 : decode cX1_init 1 = .ok (.invokespecial 3, 3) := by decide +kernel
theorem dX1_init_4 : decode cX1_init 4 = .ok (.aload_n 0, 1) := by decide +kernel
theorem dX1_init_5 : decode cX1_init 5 = .ok (.bipush 16, 2) := by decide +kernel
theorem dX1_init_7 : decode cX1_init 7 = .ok (.newarray .int, 2) := by decide +kernel
theorem dX1_init_9 : decode cX1_init 9 = .ok (.putfield 9, 3) := by decide +kernel
theorem dX1_init_12 : decode cX1_init 12 = .ok (.aload_n 0, 1) := by decide +kernel
theorem dX1_init_13 : decode cX1_init 13 = .ok (.bipush 16, 2) := by decide +kernel
theorem dX1_init_15 : decode cX1_init 15 = .ok (.newarray .int, 2) := by decide +kernel
theorem dX1_init_17 : decode cX1_init 17 = .ok (.putfield 15, 3) := by decide +kernel
theorem dX1_init_20 : decode cX1_init 20 = .ok (.aload_n 0, 1) := by decide +kernel
theorem dX1_init_21 : decode cX1_init 21 = .ok (.bipush 40, 2) := by decide +kernel
theorem dX1_init_23 : decode cX1_init 23 = .ok (.newarray .int, 2) := by decide +kernel
theorem dX1_init_25 : decode cX1_init 25 = .ok (.putfield 18, 3) := by decide +kernel
theorem dX1_init_28 : decode cX1_init 28 = .ok (.aload_n 0, 1) := by decide +kernel
theorem dX1_init_29 : decode cX1_init 29 = .ok (.bipush 40, 2) := by decide +kernel
theorem dX1_init_31 : decode cX1_init 31 = .ok (.newarray .int, 2) := by decide +kernel
theorem dX1_init_33 : decode cX1_init 33 = .ok (.putfield 21, 3) := by decide +kernel
theorem dX1_init_36 : decode cX1_init 36 = .ok (.aload_n 0, 1) := by decide +kernel
theorem dX1_init_37 : decode cX1_init 37 = .ok (.bipush 40, 2) := by decide +kernel
theorem dX1_init_39 : decode cX1_init 39 = .ok (.newarray .int, 2) := by decide +kernel
theorem dX1_init_41 : decode cX1_init 41 = .ok (.putfield 24, 3) := by decide +kernel
theorem dX1_init_44 : decode cX1_init 44 = .ok (.return_, 1) := by decide +kernel
theorem dX1_clear_0 : decode cX1_clear 0 = .ok (.aload_n 0, 1) := by decide +kernel
theorem dX1_clear_1 : decode cX1_clear 1 = .ok (.iconst 0, 1) := by decide +kernel
theorem dX1_clear_2 : decode cX1_clear 2 = .ok (.putfield 27, 3) := by decide +kernel
theorem dX1_clear_5 : decode cX1_clear 5 = .ok (.aload_n 0, 1) := by decide +kernel
theorem dX1_clear_6 : decode cX1_clear 6 = .ok (.iconst 0, 1) := by decide +kernel
theorem dX1_clear_7 : decode cX1_clear 7 = .ok (.putfield 31, 3) := by decide +kernel
theorem dX1_clear_10 : decode cX1_clear 10 = .ok (.aload_n 0, 1) := by decide +kernel
theorem dX1_clear_11 : decode cX1_clear 11 = .ok (.iconst 0, 1) := by decide +kernel
theorem dX1_clear_12 : decode cX1_clear 12 = .ok (.putfield 34, 3) := by decide +kernel
theorem dX1_clear_15 : decode cX1_clear 15 = .ok (.return_, 1) := by decide +kernel
theorem dX1_addVertex_0 : decode cX1_addVertex 0 = .ok (.aload_n 0, 1) := by decide +kernel
theorem dX1_addVertex_1 : decode cX1_addVertex 1 = .ok (.getfield 9, 3) := by decide +kernel
theorem dX1_addVertex_4 : decode cX1_addVertex 4 = .ok (.aload_n 0, 1) := by decide +kernel
theorem dX1_addVertex_5 : decode cX1_addVertex 5 = .ok (.getfield 27, 3) := by decide +kernel
theorem dX1_addVertex_8 : decode cX1_addVertex 8 = .ok (.iload_n 1, 1) := by decide +kernel
theorem dX1_addVertex_9 : decode cX1_addVertex 9 = .ok (.iastore, 1) := by decide +kernel
theorem dX1_addVertex_10 : decode cX1_addVertex 10 = .ok (.aload_n 0, 1) := by decide +kernel
theorem dX1_addVertex_11 : decode cX1_addVertex 11 = .ok (.getfield 15, 3) := by decide +kernel
theorem dX1_addVertex_14 : decode cX1_addVertex 14 = .ok (.aload_n 0, 1) := by decide +kernel
theorem dX1_addVertex_15 : decode cX1_addVertex 15 = .ok (.getfield 27, 3) := by decide +kernel
theorem dX1_addVertex_18 : decode cX1_addVertex 18 = .ok (.iload_n 2, 1) := by decide +kernel
theorem dX1_addVertex_19 : decode cX1_addVertex 19 = .ok (.iastore, 1) := by decide +kernel
theorem dX1_addVertex_20 : decode cX1_addVertex 20 = .ok (.aload_n 0, 1) := by decide +kernel
theorem dX1_addVertex_21 : decode cX1_addVertex 21 = .ok (.dup, 1) := by decide +kernel
theorem dX1_addVertex_22 : decode cX1_addVertex 22 = .ok (.getfield 27, 3) := by decide +kernel
theorem dX1_addVertex_25 : decode cX1_addVertex 25 = .ok (.dup_x1, 1) := by decide +kernel
theorem dX1_addVertex_26 : decode cX1_addVertex 26 = .ok (.iconst 1, 1) := by decide +kernel
theorem dX1_addVertex_27 : decode cX1_addVertex 27 = .ok (.iadd, 1) := by decide +kernel
theorem dX1_addVertex_28 : decode cX1_addVertex 28 = .ok (.putfield 27, 3) := by decide +kernel
theorem dX1_addVertex_31 : decode cX1_addVertex 31 = .ok (.ireturn, 1) := by decide +kernel
theorem dX1_addArc_0 : decode cX1_addArc 0 = .ok (.aload_n 0, 1) := by decide +kernel
theorem dX1_addArc_1 : decode cX1_addArc 1 = .ok (.getfield 18, 3) := by decide +kernel
theorem dX1_addArc_4 : decode cX1_addArc 4 = .ok (.aload_n 0, 1) := by decide +kernel
theorem dX1_addArc_5 : decode cX1_addArc 5 = .ok (.getfield 31, 3) := by decide +kernel
theorem dX1_addArc_8 : decode cX1_addArc 8 = .ok (.iload_n 1, 1) := by decide +kernel
theorem dX1_addArc_9 : decode cX1_addArc 9 = .ok (.iastore, 1) := by decide +kernel
theorem dX1_addArc_10 : decode cX1_addArc 10 = .ok (.aload_n 0, 1) := by decide +kernel
theorem dX1_addArc_11 : decode cX1_addArc 11 = .ok (.getfield 21, 3) := by decide +kernel
theorem dX1_addArc_14 : decode cX1_addArc 14 = .ok (.aload_n 0, 1) := by decide +kernel
theorem dX1_addArc_15 : decode cX1_addArc 15 = .ok (.getfield 31, 3) := by decide +kernel
theorem dX1_addArc_18 : decode cX1_addArc 18 = .ok (.iload_n 2, 1) := by decide +kernel
theorem dX1_addArc_19 : decode cX1_addArc 19 = .ok (.iastore, 1) := by decide +kernel
theorem dX1_addArc_20 : decode cX1_addArc 20 = .ok (.aload_n 0, 1) := by decide +kernel
theorem dX1_addArc_21 : decode cX1_addArc 21 = .ok (.getfield 24, 3) := by decide +kernel
theorem dX1_addArc_24 : decode cX1_addArc 24 = .ok (.aload_n 0, 1) := by decide +kernel
theorem dX1_addArc_25 : decode cX1_addArc 25 = .ok (.getfield 31, 3) := by decide +kernel
theorem dX1_addArc_28 : decode cX1_addArc 28 = .ok (.iload_n 3, 1) := by decide +kernel
theorem dX1_addArc_29 : decode cX1_addArc 29 = .ok (.iastore, 1) := by decide +kernel
theorem dX1_addArc_30 : decode cX1_addArc 30 = .ok (.aload_n 0, 1) := by decide +kernel
theorem dX1_addArc_31 : decode cX1_addArc 31 = .ok (.dup, 1) := by decide +kernel
theorem dX1_addArc_32 : decode cX1_addArc 32 = .ok (.getfield 31, 3) := by decide +kernel
theorem dX1_addArc_35 : decode cX1_addArc 35 = .ok (.dup_x1, 1) := by decide +kernel
theorem dX1_addArc_36 : decode cX1_addArc 36 = .ok (.iconst 1, 1) := by decide +kernel
theorem dX1_addArc_37 : decode cX1_addArc 37 = .ok (.iadd, 1) := by decide +kernel
theorem dX1_addArc_38 : decode cX1_addArc 38 = .ok (.putfield 31, 3) := by decide +kernel
theorem dX1_addArc_41 : decode cX1_addArc 41 = .ok (.ireturn, 1) := by decide +kernel
theorem dX1_leads_0 : decode cX1_leads 0 = .ok (.aload_n 0, 1) := by decide +kernel
theorem dX1_leads_1 : decode cX1_leads 1 = .ok (.getfield 9, 3) := by decide +kernel
theorem dX1_leads_4 : decode cX1_leads 4 = .ok (.aload_n 0, 1) := by decide +kernel
theorem dX1_leads_5 : decode cX1_leads 5 = .ok (.getfield 18, 3) := by decide +kernel
theorem dX1_leads_8 : decode cX1_leads 8 = .ok (.iload_n 1, 1) := by decide +kernel
theorem dX1_leads_9 : decode cX1_leads 9 = .ok (.iaload, 1) := by decide +kernel
theorem dX1_leads_10 : decode cX1_leads 10 = .ok (.iaload, 1) := by decide +kernel
theorem dX1_leads_11 : decode cX1_leads 11 = .ok (.iload_n 2, 1) := by decide +kernel
theorem dX1_leads_12 : decode cX1_leads 12 = .ok (.if_icmp .ne 22, 3) := by decide +kernel
theorem dX1_leads_15 : decode cX1_leads 15 = .ok (.aload_n 0, 1) := by decide +kernel
theorem dX1_leads_16 : decode cX1_leads 16 = .ok (.getfield 9, 3) := by decide +kernel
theorem dX1_leads_19 : decode cX1_leads 19 = .ok (.aload_n 0, 1) := by decide +kernel
theorem dX1_leads_20 : decode cX1_leads 20 = .ok (.getfield 21, 3) := by decide +kernel
theorem dX1_leads_23 : decode cX1_leads 23 = .ok (.iload_n 1, 1) := by decide +kernel
theorem dX1_leads_24 : decode cX1_leads 24 = .ok (.iaload, 1) := by decide +kernel
theorem dX1_leads_25 : decode cX1_leads 25 = .ok (.iaload, 1) := by decide +kernel
theorem dX1_leads_26 : decode cX1_leads 26 = .ok (.iload_n 3, 1) := by decide +kernel
theorem dX1_leads_27 : decode cX1_leads 27 = .ok (.if_icmp .ne 7, 3) := by decide +kernel
theorem dX1_leads_30 : decode cX1_leads 30 = .ok (.iconst 1, 1) := by decide +kernel
theorem dX1_leads_31 : decode cX1_leads 31 = .ok (.goto 4, 3) := by decide +kernel
theorem dX1_leads_34 : decode cX1_leads 34 = .ok (.iconst 0, 1) := by decide +kernel
theorem dX1_leads_35 : decode cX1_leads 35 = .ok (.ireturn, 1) := by decide +kernel
theorem dX1_message_0 : decode cX1_message 0 = .ok (.aload_n 2, 1) := by decide +kernel
theorem dX1_message_1 : decode cX1_message 1 = .ok (.getfield 37, 3) := by decide +kernel
theorem dX1_message_4 : decode cX1_message 4 = .ok (.aload_n 0, 1) := by decide +kernel
theorem dX1_message_5 : decode cX1_message 5 = .ok (.getfield 18, 3) := by decide +kernel
theorem dX1_message_8 : decode cX1_message 8 = .ok (.iload_n 1, 1) := by decide +kernel
theorem dX1_message_9 : decode cX1_message 9 = .ok (.iaload, 1) := by decide +kernel
theorem dX1_message_10 : decode cX1_message 10 = .ok (.iaload, 1) := by decide +kernel
theorem dX1_message_11 : decode cX1_message 11 = .ok (.istore_n 3, 1) := by decide +kernel
theorem dX1_message_12 : decode cX1_message 12 = .ok (.aload_n 0, 1) := by decide +kernel
theorem dX1_message_13 : decode cX1_message 13 = .ok (.getfield 24, 3) := by decide +kernel
theorem dX1_message_16 : decode cX1_message 16 = .ok (.iload_n 1, 1) := by decide +kernel
theorem dX1_message_17 : decode cX1_message 17 = .ok (.iaload, 1) := by decide +kernel
theorem dX1_message_18 : decode cX1_message 18 = .ok (.istore 4, 2) := by decide +kernel
theorem dX1_message_20 : decode cX1_message 20 = .ok (.aload_n 0, 1) := by decide +kernel
theorem dX1_message_21 : decode cX1_message 21 = .ok (.getfield 34, 3) := by decide +kernel
theorem dX1_message_24 : decode cX1_message 24 = .ok (.lookupswitch 40 #[(1, 28), (2, 35)], 28) := by decide +kernel
theorem dX1_message_52 : decode cX1_message 52 = .ok (.iload_n 3, 1) := by decide +kernel
theorem dX1_message_53 : decode cX1_message 53 = .ok (.iload 4, 2) := by decide +kernel
theorem dX1_message_55 : decode cX1_message 55 = .ok (.invokestatic 42, 3) := by decide +kernel
theorem dX1_message_58 : decode cX1_message 58 = .ok (.ireturn, 1) := by decide +kernel
theorem dX1_message_59 : decode cX1_message 59 = .ok (.iload_n 3, 1) := by decide +kernel
theorem dX1_message_60 : decode cX1_message 60 = .ok (.iload 4, 2) := by decide +kernel
theorem dX1_message_62 : decode cX1_message 62 = .ok (.imul, 1) := by decide +kernel
theorem dX1_message_63 : decode cX1_message 63 = .ok (.ireturn, 1) := by decide +kernel
theorem dX1_message_64 : decode cX1_message 64 = .ok (.iload_n 3, 1) := by decide +kernel
theorem dX1_message_65 : decode cX1_message 65 = .ok (.iload 4, 2) := by decide +kernel
theorem dX1_message_67 : decode cX1_message 67 = .ok (.iadd, 1) := by decide +kernel
theorem dX1_message_68 : decode cX1_message 68 = .ok (.ireturn, 1) := by decide +kernel
theorem dX1_verticesAt_0 : decode cX1_verticesAt 0 = .ok (.iconst 0, 1) := by decide +kernel
theorem dX1_verticesAt_1 : decode cX1_verticesAt 1 = .ok (.istore_n 2, 1) := by decide +kernel
theorem dX1_verticesAt_2 : decode cX1_verticesAt 2 = .ok (.iconst 0, 1) := by decide +kernel
theorem dX1_verticesAt_3 : decode cX1_verticesAt 3 = .ok (.istore_n 3, 1) := by decide +kernel
theorem dX1_verticesAt_4 : decode cX1_verticesAt 4 = .ok (.iload_n 3, 1) := by decide +kernel
theorem dX1_verticesAt_5 : decode cX1_verticesAt 5 = .ok (.aload_n 0, 1) := by decide +kernel
theorem dX1_verticesAt_6 : decode cX1_verticesAt 6 = .ok (.getfield 27, 3) := by decide +kernel
theorem dX1_verticesAt_9 : decode cX1_verticesAt 9 = .ok (.if_icmp .ge 22, 3) := by decide +kernel
theorem dX1_verticesAt_12 : decode cX1_verticesAt 12 = .ok (.aload_n 0, 1) := by decide +kernel
theorem dX1_verticesAt_13 : decode cX1_verticesAt 13 = .ok (.getfield 9, 3) := by decide +kernel
theorem dX1_verticesAt_16 : decode cX1_verticesAt 16 = .ok (.iload_n 3, 1) := by decide +kernel
theorem dX1_verticesAt_17 : decode cX1_verticesAt 17 = .ok (.iaload, 1) := by decide +kernel
theorem dX1_verticesAt_18 : decode cX1_verticesAt 18 = .ok (.iload_n 1, 1) := by decide +kernel
theorem dX1_verticesAt_19 : decode cX1_verticesAt 19 = .ok (.if_icmp .ne 6, 3) := by decide +kernel
theorem dX1_verticesAt_22 : decode cX1_verticesAt 22 = .ok (.iinc 2 1, 3) := by decide +kernel
theorem dX1_verticesAt_25 : decode cX1_verticesAt 25 = .ok (.iinc 3 1, 3) := by decide +kernel
theorem dX1_verticesAt_28 : decode cX1_verticesAt 28 = .ok (.goto (-24), 3) := by decide +kernel
theorem dX1_verticesAt_31 : decode cX1_verticesAt 31 = .ok (.iload_n 2, 1) := by decide +kernel
theorem dX1_verticesAt_32 : decode cX1_verticesAt 32 = .ok (.ireturn, 1) := by decide +kernel
theorem dX1_activeAt_0 : decode cX1_activeAt 0 = .ok (.iconst 0, 1) := by decide +kernel
theorem dX1_activeAt_1 : decode cX1_activeAt 1 = .ok (.istore_n 3, 1) := by decide +kernel
theorem dX1_activeAt_2 : decode cX1_activeAt 2 = .ok (.iconst 0, 1) := by decide +kernel
theorem dX1_activeAt_3 : decode cX1_activeAt 3 = .ok (.istore 4, 2) := by decide +kernel
theorem dX1_activeAt_5 : decode cX1_activeAt 5 = .ok (.iload 4, 2) := by decide +kernel
theorem dX1_activeAt_7 : decode cX1_activeAt 7 = .ok (.aload_n 0, 1) := by decide +kernel
theorem dX1_activeAt_8 : decode cX1_activeAt 8 = .ok (.getfield 27, 3) := by decide +kernel
theorem dX1_activeAt_11 : decode cX1_activeAt 11 = .ok (.if_icmp .ge 33, 3) := by decide +kernel
theorem dX1_activeAt_14 : decode cX1_activeAt 14 = .ok (.aload_n 0, 1) := by decide +kernel
theorem dX1_activeAt_15 : decode cX1_activeAt 15 = .ok (.getfield 9, 3) := by decide +kernel
theorem dX1_activeAt_18 : decode cX1_activeAt 18 = .ok (.iload 4, 2) := by decide +kernel
theorem dX1_activeAt_20 : decode cX1_activeAt 20 = .ok (.iaload, 1) := by decide +kernel
theorem dX1_activeAt_21 : decode cX1_activeAt 21 = .ok (.iload_n 1, 1) := by decide +kernel
theorem dX1_activeAt_22 : decode cX1_activeAt 22 = .ok (.if_icmp .ne 16, 3) := by decide +kernel
theorem dX1_activeAt_25 : decode cX1_activeAt 25 = .ok (.aload_n 2, 1) := by decide +kernel
theorem dX1_activeAt_26 : decode cX1_activeAt 26 = .ok (.getfield 48, 3) := by decide +kernel
theorem dX1_activeAt_29 : decode cX1_activeAt 29 = .ok (.iload 4, 2) := by decide +kernel
theorem dX1_activeAt_31 : decode cX1_activeAt 31 = .ok (.baload, 1) := by decide +kernel
theorem dX1_activeAt_32 : decode cX1_activeAt 32 = .ok (.ifCond .eq 6, 3) := by decide +kernel
theorem dX1_activeAt_35 : decode cX1_activeAt 35 = .ok (.iinc 3 1, 3) := by decide +kernel
theorem dX1_activeAt_38 : decode cX1_activeAt 38 = .ok (.iinc 4 1, 3) := by decide +kernel
theorem dX1_activeAt_41 : decode cX1_activeAt 41 = .ok (.goto (-36), 3) := by decide +kernel
theorem dX1_activeAt_44 : decode cX1_activeAt 44 = .ok (.iload_n 3, 1) := by decide +kernel
theorem dX1_activeAt_45 : decode cX1_activeAt 45 = .ok (.ireturn, 1) := by decide +kernel
theorem dX2_init_0 : decode cX2_init 0 = .ok (.aload_n 0, 1) := by decide +kernel
theorem dX2_init_1 : decode cX2_init 1 = .ok (.invokespecial 3, 3) := by decide +kernel
theorem dX2_init_4 : decode cX2_init 4 = .ok (.aload_n 0, 1) := by decide +kernel
theorem dX2_init_5 : decode cX2_init 5 = .ok (.bipush 16, 2) := by decide +kernel
theorem dX2_init_7 : decode cX2_init 7 = .ok (.newarray .boolean, 2) := by decide +kernel
theorem dX2_init_9 : decode cX2_init 9 = .ok (.putfield 9, 3) := by decide +kernel
theorem dX2_init_12 : decode cX2_init 12 = .ok (.aload_n 0, 1) := by decide +kernel
theorem dX2_init_13 : decode cX2_init 13 = .ok (.bipush 16, 2) := by decide +kernel
theorem dX2_init_15 : decode cX2_init 15 = .ok (.newarray .int, 2) := by decide +kernel
theorem dX2_init_17 : decode cX2_init 17 = .ok (.putfield 15, 3) := by decide +kernel
theorem dX2_init_20 : decode cX2_init 20 = .ok (.aload_n 0, 1) := by decide +kernel
theorem dX2_init_21 : decode cX2_init 21 = .ok (.bipush 16, 2) := by decide +kernel
theorem dX2_init_23 : decode cX2_init 23 = .ok (.newarray .int, 2) := by decide +kernel
theorem dX2_init_25 : decode cX2_init 25 = .ok (.putfield 19, 3) := by decide +kernel
theorem dX2_init_28 : decode cX2_init 28 = .ok (.return_, 1) := by decide +kernel
theorem dX2_clear_0 : decode cX2_clear 0 = .ok (.iconst 0, 1) := by decide +kernel
theorem dX2_clear_1 : decode cX2_clear 1 = .ok (.istore_n 1, 1) := by decide +kernel
theorem dX2_clear_2 : decode cX2_clear 2 = .ok (.iload_n 1, 1) := by decide +kernel
theorem dX2_clear_3 : decode cX2_clear 3 = .ok (.bipush 16, 2) := by decide +kernel
theorem dX2_clear_5 : decode cX2_clear 5 = .ok (.if_icmp .ge 16, 3) := by decide +kernel
theorem dX2_clear_8 : decode cX2_clear 8 = .ok (.aload_n 0, 1) := by decide +kernel
theorem dX2_clear_9 : decode cX2_clear 9 = .ok (.getfield 9, 3) := by decide +kernel
theorem dX2_clear_12 : decode cX2_clear 12 = .ok (.iload_n 1, 1) := by decide +kernel
theorem dX2_clear_13 : decode cX2_clear 13 = .ok (.iconst 0, 1) := by decide +kernel
theorem dX2_clear_14 : decode cX2_clear 14 = .ok (.bastore, 1) := by decide +kernel
theorem dX2_clear_15 : decode cX2_clear 15 = .ok (.iinc 1 1, 3) := by decide +kernel
theorem dX2_clear_18 : decode cX2_clear 18 = .ok (.goto (-16), 3) := by decide +kernel
theorem dX2_clear_21 : decode cX2_clear 21 = .ok (.return_, 1) := by decide +kernel
theorem dX2_put_0 : decode cX2_put 0 = .ok (.aload_n 0, 1) := by decide +kernel
theorem dX2_put_1 : decode cX2_put 1 = .ok (.getfield 9, 3) := by decide +kernel
theorem dX2_put_4 : decode cX2_put 4 = .ok (.iload_n 2, 1) := by decide +kernel
theorem dX2_put_5 : decode cX2_put 5 = .ok (.baload, 1) := by decide +kernel
theorem dX2_put_6 : decode cX2_put 6 = .ok (.ifCond .eq 19, 3) := by decide +kernel
theorem dX2_put_9 : decode cX2_put 9 = .ok (.iload_n 1, 1) := by decide +kernel
theorem dX2_put_10 : decode cX2_put 10 = .ok (.iconst 3, 1) := by decide +kernel
theorem dX2_put_11 : decode cX2_put 11 = .ok (.if_icmp .ne 39, 3) := by decide +kernel
theorem dX2_put_14 : decode cX2_put 14 = .ok (.iload 4, 2) := by decide +kernel
theorem dX2_put_16 : decode cX2_put 16 = .ok (.aload_n 0, 1) := by decide +kernel
theorem dX2_put_17 : decode cX2_put 17 = .ok (.getfield 19, 3) := by decide +kernel
theorem dX2_put_20 : decode cX2_put 20 = .ok (.iload_n 2, 1) := by decide +kernel
theorem dX2_put_21 : decode cX2_put 21 = .ok (.iaload, 1) := by decide +kernel
theorem dX2_put_22 : decode cX2_put 22 = .ok (.if_icmp .le 28, 3) := by decide +kernel
theorem dX2_put_25 : decode cX2_put 25 = .ok (.aload_n 0, 1) := by decide +kernel
theorem dX2_put_26 : decode cX2_put 26 = .ok (.getfield 9, 3) := by decide +kernel
theorem dX2_put_29 : decode cX2_put 29 = .ok (.iload_n 2, 1) := by decide +kernel
theorem dX2_put_30 : decode cX2_put 30 = .ok (.iconst 1, 1) := by decide +kernel
theorem dX2_put_31 : decode cX2_put 31 = .ok (.bastore, 1) := by decide +kernel
theorem dX2_put_32 : decode cX2_put 32 = .ok (.aload_n 0, 1) := by decide +kernel
theorem dX2_put_33 : decode cX2_put 33 = .ok (.getfield 15, 3) := by decide +kernel
theorem dX2_put_36 : decode cX2_put 36 = .ok (.iload_n 2, 1) := by decide +kernel
theorem dX2_put_37 : decode cX2_put 37 = .ok (.iload_n 3, 1) := by decide +kernel
theorem dX2_put_38 : decode cX2_put 38 = .ok (.iastore, 1) := by decide +kernel
theorem dX2_put_39 : decode cX2_put 39 = .ok (.aload_n 0, 1) := by decide +kernel
theorem dX2_put_40 : decode cX2_put 40 = .ok (.getfield 19, 3) := by decide +kernel
theorem dX2_put_43 : decode cX2_put 43 = .ok (.iload_n 2, 1) := by decide +kernel
theorem dX2_put_44 : decode cX2_put 44 = .ok (.iload 4, 2) := by decide +kernel
theorem dX2_put_46 : decode cX2_put 46 = .ok (.iastore, 1) := by decide +kernel
theorem dX2_put_47 : decode cX2_put 47 = .ok (.goto 25, 3) := by decide +kernel
theorem dX2_put_50 : decode cX2_put 50 = .ok (.iload_n 1, 1) := by decide +kernel
theorem dX2_put_51 : decode cX2_put 51 = .ok (.iconst 3, 1) := by decide +kernel
theorem dX2_put_52 : decode cX2_put 52 = .ok (.if_icmp .eq 20, 3) := by decide +kernel
theorem dX2_put_55 : decode cX2_put 55 = .ok (.aload_n 0, 1) := by decide +kernel
theorem dX2_put_56 : decode cX2_put 56 = .ok (.getfield 15, 3) := by decide +kernel
theorem dX2_put_59 : decode cX2_put 59 = .ok (.iload_n 2, 1) := by decide +kernel
theorem dX2_put_60 : decode cX2_put 60 = .ok (.iload_n 1, 1) := by decide +kernel
theorem dX2_put_61 : decode cX2_put 61 = .ok (.aload_n 0, 1) := by decide +kernel
theorem dX2_put_62 : decode cX2_put 62 = .ok (.getfield 15, 3) := by decide +kernel
theorem dX2_put_65 : decode cX2_put 65 = .ok (.iload_n 2, 1) := by decide +kernel
theorem dX2_put_66 : decode cX2_put 66 = .ok (.iaload, 1) := by decide +kernel
theorem dX2_put_67 : decode cX2_put 67 = .ok (.iload_n 3, 1) := by decide +kernel
theorem dX2_put_68 : decode cX2_put 68 = .ok (.invokestatic 22, 3) := by decide +kernel
theorem dX2_put_71 : decode cX2_put 71 = .ok (.iastore, 1) := by decide +kernel
theorem dX2_put_72 : decode cX2_put 72 = .ok (.return_, 1) := by decide +kernel
theorem dX2_putAll_0 : decode cX2_putAll 0 = .ok (.iconst 0, 1) := by decide +kernel
theorem dX2_putAll_1 : decode cX2_putAll 1 = .ok (.istore_n 3, 1) := by decide +kernel
theorem dX2_putAll_2 : decode cX2_putAll 2 = .ok (.iload_n 3, 1) := by decide +kernel
theorem dX2_putAll_3 : decode cX2_putAll 3 = .ok (.aload_n 2, 1) := by decide +kernel
theorem dX2_putAll_4 : decode cX2_putAll 4 = .ok (.getfield 26, 3) := by decide +kernel
theorem dX2_putAll_7 : decode cX2_putAll 7 = .ok (.arraylength, 1) := by decide +kernel
theorem dX2_putAll_8 : decode cX2_putAll 8 = .ok (.if_icmp .ge 32, 3) := by decide +kernel
theorem dX2_putAll_11 : decode cX2_putAll 11 = .ok (.aload_n 0, 1) := by decide +kernel
theorem dX2_putAll_12 : decode cX2_putAll 12 = .ok (.iload_n 1, 1) := by decide +kernel
theorem dX2_putAll_13 : decode cX2_putAll 13 = .ok (.aload_n 2, 1) := by decide +kernel
theorem dX2_putAll_14 : decode cX2_putAll 14 = .ok (.getfield 26, 3) := by decide +kernel
theorem dX2_putAll_17 : decode cX2_putAll 17 = .ok (.iload_n 3, 1) := by decide +kernel
theorem dX2_putAll_18 : decode cX2_putAll 18 = .ok (.iaload, 1) := by decide +kernel
theorem dX2_putAll_19 : decode cX2_putAll 19 = .ok (.aload_n 2, 1) := by decide +kernel
theorem dX2_putAll_20 : decode cX2_putAll 20 = .ok (.getfield 31, 3) := by decide +kernel
theorem dX2_putAll_23 : decode cX2_putAll 23 = .ok (.iload_n 3, 1) := by decide +kernel
theorem dX2_putAll_24 : decode cX2_putAll 24 = .ok (.iaload, 1) := by decide +kernel
theorem dX2_putAll_25 : decode cX2_putAll 25 = .ok (.aload_n 2, 1) := by decide +kernel
theorem dX2_putAll_26 : decode cX2_putAll 26 = .ok (.getfield 34, 3) := by decide +kernel
theorem dX2_putAll_29 : decode cX2_putAll 29 = .ok (.iload_n 3, 1) := by decide +kernel
theorem dX2_putAll_30 : decode cX2_putAll 30 = .ok (.iaload, 1) := by decide +kernel
theorem dX2_putAll_31 : decode cX2_putAll 31 = .ok (.invokevirtual 37, 3) := by decide +kernel
theorem dX2_putAll_34 : decode cX2_putAll 34 = .ok (.iinc 3 1, 3) := by decide +kernel
theorem dX2_putAll_37 : decode cX2_putAll 37 = .ok (.goto (-35), 3) := by decide +kernel
theorem dX2_putAll_40 : decode cX2_putAll 40 = .ok (.return_, 1) := by decide +kernel
theorem dX2_settle_0 : decode cX2_settle 0 = .ok (.aload_n 3, 1) := by decide +kernel
theorem dX2_settle_1 : decode cX2_settle 1 = .ok (.getfield 41, 3) := by decide +kernel
theorem dX2_settle_4 : decode cX2_settle 4 = .ok (.iload_n 2, 1) := by decide +kernel
theorem dX2_settle_5 : decode cX2_settle 5 = .ok (.iaload, 1) := by decide +kernel
theorem dX2_settle_6 : decode cX2_settle 6 = .ok (.istore 4, 2) := by decide +kernel
theorem dX2_settle_8 : decode cX2_settle 8 = .ok (.aload_n 0, 1) := by decide +kernel
theorem dX2_settle_9 : decode cX2_settle 9 = .ok (.iload_n 1, 1) := by decide +kernel
theorem dX2_settle_10 : decode cX2_settle 10 = .ok (.iload_n 2, 1) := by decide +kernel
theorem dX2_settle_11 : decode cX2_settle 11 = .ok (.iload 4, 2) := by decide +kernel
theorem dX2_settle_13 : decode cX2_settle 13 = .ok (.invokevirtual 46, 3) := by decide +kernel
theorem dX2_settle_16 : decode cX2_settle 16 = .ok (.istore 5, 2) := by decide +kernel
theorem dX2_settle_18 : decode cX2_settle 18 = .ok (.aload_n 3, 1) := by decide +kernel
theorem dX2_settle_19 : decode cX2_settle 19 = .ok (.getfield 41, 3) := by decide +kernel
theorem dX2_settle_22 : decode cX2_settle 22 = .ok (.iload_n 2, 1) := by decide +kernel
theorem dX2_settle_23 : decode cX2_settle 23 = .ok (.iload 5, 2) := by decide +kernel
theorem dX2_settle_25 : decode cX2_settle 25 = .ok (.iastore, 1) := by decide +kernel
theorem dX2_settle_26 : decode cX2_settle 26 = .ok (.iload_n 1, 1) := by decide +kernel
theorem dX2_settle_27 : decode cX2_settle 27 = .ok (.iconst 2, 1) := by decide +kernel
theorem dX2_settle_28 : decode cX2_settle 28 = .ok (.if_icmp .ne 33, 3) := by decide +kernel
theorem dX2_settle_31 : decode cX2_settle 31 = .ok (.aload_n 3, 1) := by decide +kernel
theorem dX2_settle_32 : decode cX2_settle 32 = .ok (.getfield 49, 3) := by decide +kernel
theorem dX2_settle_35 : decode cX2_settle 35 = .ok (.iload_n 2, 1) := by decide +kernel
theorem dX2_settle_36 : decode cX2_settle 36 = .ok (.dup2, 1) := by decide +kernel
theorem dX2_settle_37 : decode cX2_settle 37 = .ok (.iaload, 1) := by decide +kernel
theorem dX2_settle_38 : decode cX2_settle 38 = .ok (.iload 5, 2) := by decide +kernel
theorem dX2_settle_40 : decode cX2_settle 40 = .ok (.iadd, 1) := by decide +kernel
theorem dX2_settle_41 : decode cX2_settle 41 = .ok (.iastore, 1) := by decide +kernel
theorem dX2_settle_42 : decode cX2_settle 42 = .ok (.aload_n 3, 1) := by decide +kernel
theorem dX2_settle_43 : decode cX2_settle 43 = .ok (.getfield 52, 3) := by decide +kernel
theorem dX2_settle_46 : decode cX2_settle 46 = .ok (.iload_n 2, 1) := by decide +kernel
theorem dX2_settle_47 : decode cX2_settle 47 = .ok (.iload 5, 2) := by decide +kernel
theorem dX2_settle_49 : decode cX2_settle 49 = .ok (.ifCond .eq 7, 3) := by decide +kernel
theorem dX2_settle_52 : decode cX2_settle 52 = .ok (.iconst 1, 1) := by decide +kernel
theorem dX2_settle_53 : decode cX2_settle 53 = .ok (.goto 4, 3) := by decide +kernel
theorem dX2_settle_56 : decode cX2_settle 56 = .ok (.iconst 0, 1) := by decide +kernel
theorem dX2_settle_57 : decode cX2_settle 57 = .ok (.bastore, 1) := by decide +kernel
theorem dX2_settle_58 : decode cX2_settle 58 = .ok (.goto 21, 3) := by decide +kernel
theorem dX2_settle_61 : decode cX2_settle 61 = .ok (.aload_n 3, 1) := by decide +kernel
theorem dX2_settle_62 : decode cX2_settle 62 = .ok (.getfield 52, 3) := by decide +kernel
theorem dX2_settle_65 : decode cX2_settle 65 = .ok (.iload_n 2, 1) := by decide +kernel
theorem dX2_settle_66 : decode cX2_settle 66 = .ok (.iload 5, 2) := by decide +kernel
theorem dX2_settle_68 : decode cX2_settle 68 = .ok (.iload 4, 2) := by decide +kernel
theorem dX2_settle_70 : decode cX2_settle 70 = .ok (.if_icmp .eq 7, 3) := by decide +kernel
theorem dX2_settle_73 : decode cX2_settle 73 = .ok (.iconst 1, 1) := by decide +kernel
theorem dX2_settle_74 : decode cX2_settle 74 = .ok (.goto 4, 3) := by decide +kernel
theorem dX2_settle_77 : decode cX2_settle 77 = .ok (.iconst 0, 1) := by decide +kernel
theorem dX2_settle_78 : decode cX2_settle 78 = .ok (.bastore, 1) := by decide +kernel
theorem dX2_settle_79 : decode cX2_settle 79 = .ok (.return_, 1) := by decide +kernel
theorem dX2_valueAfter_0 : decode cX2_valueAfter 0 = .ok (.aload_n 0, 1) := by decide +kernel
theorem dX2_valueAfter_1 : decode cX2_valueAfter 1 = .ok (.getfield 9, 3) := by decide +kernel
theorem dX2_valueAfter_4 : decode cX2_valueAfter 4 = .ok (.iload_n 2, 1) := by decide +kernel
theorem dX2_valueAfter_5 : decode cX2_valueAfter 5 = .ok (.baload, 1) := by decide +kernel
theorem dX2_valueAfter_6 : decode cX2_valueAfter 6 = .ok (.ifCond .ne 14, 3) := by decide +kernel
theorem dX2_valueAfter_9 : decode cX2_valueAfter 9 = .ok (.iload_n 1, 1) := by decide +kernel
theorem dX2_valueAfter_10 : decode cX2_valueAfter 10 = .ok (.iconst 2, 1) := by decide +kernel
theorem dX2_valueAfter_11 : decode cX2_valueAfter 11 = .ok (.if_icmp .ne 7, 3) := by decide +kernel
theorem dX2_valueAfter_14 : decode cX2_valueAfter 14 = .ok (.iconst 0, 1) := by decide +kernel
theorem dX2_valueAfter_15 : decode cX2_valueAfter 15 = .ok (.goto 4, 3) := by decide +kernel
theorem dX2_valueAfter_18 : decode cX2_valueAfter 18 = .ok (.iload_n 3, 1) := by decide +kernel
theorem dX2_valueAfter_19 : decode cX2_valueAfter 19 = .ok (.ireturn, 1) := by decide +kernel
theorem dX2_valueAfter_20 : decode cX2_valueAfter 20 = .ok (.iload_n 1, 1) := by decide +kernel
theorem dX2_valueAfter_21 : decode cX2_valueAfter 21 = .ok (.ifCond .eq 8, 3) := by decide +kernel
theorem dX2_valueAfter_24 : decode cX2_valueAfter 24 = .ok (.iload_n 1, 1) := by decide +kernel
theorem dX2_valueAfter_25 : decode cX2_valueAfter 25 = .ok (.iconst 1, 1) := by decide +kernel
theorem dX2_valueAfter_26 : decode cX2_valueAfter 26 = .ok (.if_icmp .ne 7, 3) := by decide +kernel
theorem dX2_valueAfter_29 : decode cX2_valueAfter 29 = .ok (.iconst 1, 1) := by decide +kernel
theorem dX2_valueAfter_30 : decode cX2_valueAfter 30 = .ok (.goto 4, 3) := by decide +kernel
theorem dX2_valueAfter_33 : decode cX2_valueAfter 33 = .ok (.iconst 0, 1) := by decide +kernel
theorem dX2_valueAfter_34 : decode cX2_valueAfter 34 = .ok (.istore 4, 2) := by decide +kernel
theorem dX2_valueAfter_36 : decode cX2_valueAfter 36 = .ok (.iload 4, 2) := by decide +kernel
theorem dX2_valueAfter_38 : decode cX2_valueAfter 38 = .ok (.ifCond .eq 17, 3) := by decide +kernel
theorem dX2_valueAfter_41 : decode cX2_valueAfter 41 = .ok (.iload_n 1, 1) := by decide +kernel
theorem dX2_valueAfter_42 : decode cX2_valueAfter 42 = .ok (.iload_n 3, 1) := by decide +kernel
theorem dX2_valueAfter_43 : decode cX2_valueAfter 43 = .ok (.aload_n 0, 1) := by decide +kernel
theorem dX2_valueAfter_44 : decode cX2_valueAfter 44 = .ok (.getfield 15, 3) := by decide +kernel
theorem dX2_valueAfter_47 : decode cX2_valueAfter 47 = .ok (.iload_n 2, 1) := by decide +kernel
theorem dX2_valueAfter_48 : decode cX2_valueAfter 48 = .ok (.iaload, 1) := by decide +kernel
theorem dX2_valueAfter_49 : decode cX2_valueAfter 49 = .ok (.invokestatic 22, 3) := by decide +kernel
theorem dX2_valueAfter_52 : decode cX2_valueAfter 52 = .ok (.goto 9, 3) := by decide +kernel
theorem dX2_valueAfter_55 : decode cX2_valueAfter 55 = .ok (.aload_n 0, 1) := by decide +kernel
theorem dX2_valueAfter_56 : decode cX2_valueAfter 56 = .ok (.getfield 15, 3) := by decide +kernel
theorem dX2_valueAfter_59 : decode cX2_valueAfter 59 = .ok (.iload_n 2, 1) := by decide +kernel
theorem dX2_valueAfter_60 : decode cX2_valueAfter 60 = .ok (.iaload, 1) := by decide +kernel
theorem dX2_valueAfter_61 : decode cX2_valueAfter 61 = .ok (.ireturn, 1) := by decide +kernel
theorem dX3_init_0 : decode cX3_init 0 = .ok (.aload_n 0, 1) := by decide +kernel
theorem dX3_init_1 : decode cX3_init 1 = .ok (.invokespecial 1, 3) := by decide +kernel
theorem dX3_init_4 : decode cX3_init 4 = .ok (.aload_n 0, 1) := by decide +kernel
theorem dX3_init_5 : decode cX3_init 5 = .ok (.iload_n 1, 1) := by decide +kernel
theorem dX3_init_6 : decode cX3_init 6 = .ok (.putfield 7, 3) := by decide +kernel
theorem dX3_init_9 : decode cX3_init 9 = .ok (.aload_n 0, 1) := by decide +kernel
theorem dX3_init_10 : decode cX3_init 10 = .ok (.iload_n 2, 1) := by decide +kernel
theorem dX3_init_11 : decode cX3_init 11 = .ok (.putfield 13, 3) := by decide +kernel
theorem dX3_init_14 : decode cX3_init 14 = .ok (.aload_n 0, 1) := by decide +kernel
theorem dX3_init_15 : decode cX3_init 15 = .ok (.iload_n 3, 1) := by decide +kernel
theorem dX3_init_16 : decode cX3_init 16 = .ok (.putfield 16, 3) := by decide +kernel
theorem dX3_init_19 : decode cX3_init 19 = .ok (.aload_n 0, 1) := by decide +kernel
theorem dX3_init_20 : decode cX3_init 20 = .ok (.iload 4, 2) := by decide +kernel
theorem dX3_init_22 : decode cX3_init 22 = .ok (.putfield 19, 3) := by decide +kernel
theorem dX3_init_25 : decode cX3_init 25 = .ok (.aload_n 0, 1) := by decide +kernel
theorem dX3_init_26 : decode cX3_init 26 = .ok (.iload 5, 2) := by decide +kernel
theorem dX3_init_28 : decode cX3_init 28 = .ok (.putfield 22, 3) := by decide +kernel
theorem dX3_init_31 : decode cX3_init 31 = .ok (.aload_n 0, 1) := by decide +kernel
theorem dX3_init_32 : decode cX3_init 32 = .ok (.aload 6, 2) := by decide +kernel
theorem dX3_init_34 : decode cX3_init 34 = .ok (.getfield 25, 3) := by decide +kernel
theorem dX3_init_37 : decode cX3_init 37 = .ok (.aload 6, 2) := by decide +kernel
theorem dX3_init_39 : decode cX3_init 39 = .ok (.getfield 31, 3) := by decide +kernel
theorem dX3_init_42 : decode cX3_init 42 = .ok (.invokestatic 34, 3) := by decide +kernel
theorem dX3_init_45 : decode cX3_init 45 = .ok (.putfield 40, 3) := by decide +kernel
theorem dX3_init_48 : decode cX3_init 48 = .ok (.aload_n 0, 1) := by decide +kernel
theorem dX3_init_49 : decode cX3_init 49 = .ok (.aload 6, 2) := by decide +kernel
theorem dX3_init_51 : decode cX3_init 51 = .ok (.getfield 41, 3) := by decide +kernel
theorem dX3_init_54 : decode cX3_init 54 = .ok (.aload 6, 2) := by decide +kernel
theorem dX3_init_56 : decode cX3_init 56 = .ok (.getfield 31, 3) := by decide +kernel
theorem dX3_init_59 : decode cX3_init 59 = .ok (.invokestatic 34, 3) := by decide +kernel
theorem dX3_init_62 : decode cX3_init 62 = .ok (.putfield 44, 3) := by decide +kernel
theorem dX3_init_65 : decode cX3_init 65 = .ok (.aload_n 0, 1) := by decide +kernel
theorem dX3_init_66 : decode cX3_init 66 = .ok (.aload 6, 2) := by decide +kernel
theorem dX3_init_68 : decode cX3_init 68 = .ok (.getfield 45, 3) := by decide +kernel
theorem dX3_init_71 : decode cX3_init 71 = .ok (.aload 6, 2) := by decide +kernel
theorem dX3_init_73 : decode cX3_init 73 = .ok (.getfield 31, 3) := by decide +kernel
theorem dX3_init_76 : decode cX3_init 76 = .ok (.invokestatic 34, 3) := by decide +kernel
theorem dX3_init_79 : decode cX3_init 79 = .ok (.putfield 48, 3) := by decide +kernel
theorem dX3_init_82 : decode cX3_init 82 = .ok (.return_, 1) := by decide +kernel
theorem dX4_init_0 : decode cX4_init 0 = .ok (.aload_n 0, 1) := by decide +kernel
theorem dX4_init_1 : decode cX4_init 1 = .ok (.invokespecial 3, 3) := by decide +kernel
theorem dX4_init_4 : decode cX4_init 4 = .ok (.aload_n 0, 1) := by decide +kernel
theorem dX4_init_5 : decode cX4_init 5 = .ok (.new 9, 3) := by decide +kernel
theorem dX4_init_8 : decode cX4_init 8 = .ok (.dup, 1) := by decide +kernel
theorem dX4_init_9 : decode cX4_init 9 = .ok (.invokespecial 11, 3) := by decide +kernel
theorem dX4_init_12 : decode cX4_init 12 = .ok (.putfield 12, 3) := by decide +kernel
theorem dX4_init_15 : decode cX4_init 15 = .ok (.aload_n 0, 1) := by decide +kernel
theorem dX4_init_16 : decode cX4_init 16 = .ok (.iconst (-1), 1) := by decide +kernel
theorem dX4_init_17 : decode cX4_init 17 = .ok (.putfield 18, 3) := by decide +kernel
theorem dX4_init_20 : decode cX4_init 20 = .ok (.return_, 1) := by decide +kernel
theorem dX5_init_0 : decode cX5_init 0 = .ok (.aload_n 0, 1) := by decide +kernel
theorem dX5_init_1 : decode cX5_init 1 = .ok (.invokespecial 3, 3) := by decide +kernel
theorem dX5_init_4 : decode cX5_init 4 = .ok (.aload_n 0, 1) := by decide +kernel
theorem dX5_init_5 : decode cX5_init 5 = .ok (.bipush 60, 2) := by decide +kernel
theorem dX5_init_7 : decode cX5_init 7 = .ok (.anewarray 9, 3) := by decide +kernel
theorem dX5_init_10 : decode cX5_init 10 = .ok (.putfield 11, 3) := by decide +kernel
theorem dX5_init_13 : decode cX5_init 13 = .ok (.return_, 1) := by decide +kernel
theorem dX5_clear_0 : decode cX5_clear 0 = .ok (.iconst 0, 1) := by decide +kernel
theorem dX5_clear_1 : decode cX5_clear 1 = .ok (.istore_n 1, 1) := by decide +kernel
theorem dX5_clear_2 : decode cX5_clear 2 = .ok (.iload_n 1, 1) := by decide +kernel
theorem dX5_clear_3 : decode cX5_clear 3 = .ok (.bipush 60, 2) := by decide +kernel
theorem dX5_clear_5 : decode cX5_clear 5 = .ok (.if_icmp .ge 16, 3) := by decide +kernel
theorem dX5_clear_8 : decode cX5_clear 8 = .ok (.aload_n 0, 1) := by decide +kernel
theorem dX5_clear_9 : decode cX5_clear 9 = .ok (.getfield 11, 3) := by decide +kernel
theorem dX5_clear_12 : decode cX5_clear 12 = .ok (.iload_n 1, 1) := by decide +kernel
theorem dX5_clear_13 : decode cX5_clear 13 = .ok (.aconst_null, 1) := by decide +kernel
theorem dX5_clear_14 : decode cX5_clear 14 = .ok (.aastore, 1) := by decide +kernel
theorem dX5_clear_15 : decode cX5_clear 15 = .ok (.iinc 1 1, 3) := by decide +kernel
theorem dX5_clear_18 : decode cX5_clear 18 = .ok (.goto (-16), 3) := by decide +kernel
theorem dX5_clear_21 : decode cX5_clear 21 = .ok (.aload_n 0, 1) := by decide +kernel
theorem dX5_clear_22 : decode cX5_clear 22 = .ok (.iconst 0, 1) := by decide +kernel
theorem dX5_clear_23 : decode cX5_clear 23 = .ok (.putfield 17, 3) := by decide +kernel
theorem dX5_clear_26 : decode cX5_clear 26 = .ok (.return_, 1) := by decide +kernel
theorem dX5_at_0 : decode cX5_at 0 = .ok (.iload_n 1, 1) := by decide +kernel
theorem dX5_at_1 : decode cX5_at 1 = .ok (.ifCond .lt 20, 3) := by decide +kernel
theorem dX5_at_4 : decode cX5_at 4 = .ok (.iload_n 1, 1) := by decide +kernel
theorem dX5_at_5 : decode cX5_at 5 = .ok (.aload_n 0, 1) := by decide +kernel
theorem dX5_at_6 : decode cX5_at 6 = .ok (.getfield 17, 3) := by decide +kernel
theorem dX5_at_9 : decode cX5_at 9 = .ok (.if_icmp .ge 12, 3) := by decide +kernel
theorem dX5_at_12 : decode cX5_at 12 = .ok (.aload_n 0, 1) := by decide +kernel
theorem dX5_at_13 : decode cX5_at 13 = .ok (.getfield 11, 3) := by decide +kernel
theorem dX5_at_16 : decode cX5_at 16 = .ok (.iload_n 1, 1) := by decide +kernel
theorem dX5_at_17 : decode cX5_at 17 = .ok (.aaload, 1) := by decide +kernel
theorem dX5_at_18 : decode cX5_at 18 = .ok (.goto 4, 3) := by decide +kernel
theorem dX5_at_21 : decode cX5_at 21 = .ok (.aconst_null, 1) := by decide +kernel
theorem dX5_at_22 : decode cX5_at 22 = .ok (.areturn, 1) := by decide +kernel
theorem dX5_add_0 : decode cX5_add 0 = .ok (.aload_n 0, 1) := by decide +kernel
theorem dX5_add_1 : decode cX5_add 1 = .ok (.getfield 17, 3) := by decide +kernel
theorem dX5_add_4 : decode cX5_add 4 = .ok (.bipush 60, 2) := by decide +kernel
theorem dX5_add_6 : decode cX5_add 6 = .ok (.if_icmp .lt 5, 3) := by decide +kernel
theorem dX5_add_9 : decode cX5_add 9 = .ok (.iconst 0, 1) := by decide +kernel
theorem dX5_add_10 : decode cX5_add 10 = .ok (.ireturn, 1) := by decide +kernel
theorem dX5_add_11 : decode cX5_add 11 = .ok (.aload_n 0, 1) := by decide +kernel
theorem dX5_add_12 : decode cX5_add 12 = .ok (.getfield 11, 3) := by decide +kernel
theorem dX5_add_15 : decode cX5_add 15 = .ok (.aload_n 0, 1) := by decide +kernel
theorem dX5_add_16 : decode cX5_add 16 = .ok (.getfield 17, 3) := by decide +kernel
theorem dX5_add_19 : decode cX5_add 19 = .ok (.aload_n 1, 1) := by decide +kernel
theorem dX5_add_20 : decode cX5_add 20 = .ok (.aastore, 1) := by decide +kernel
theorem dX5_add_21 : decode cX5_add 21 = .ok (.aload_n 0, 1) := by decide +kernel
theorem dX5_add_22 : decode cX5_add 22 = .ok (.dup, 1) := by decide +kernel
theorem dX5_add_23 : decode cX5_add 23 = .ok (.getfield 17, 3) := by decide +kernel
theorem dX5_add_26 : decode cX5_add 26 = .ok (.iconst 1, 1) := by decide +kernel
theorem dX5_add_27 : decode cX5_add 27 = .ok (.iadd, 1) := by decide +kernel
theorem dX5_add_28 : decode cX5_add 28 = .ok (.putfield 17, 3) := by decide +kernel
theorem dX5_add_31 : decode cX5_add 31 = .ok (.iconst 1, 1) := by decide +kernel
theorem dX5_add_32 : decode cX5_add 32 = .ok (.ireturn, 1) := by decide +kernel
theorem dX5_remove_0 : decode cX5_remove 0 = .ok (.iload_n 1, 1) := by decide +kernel
theorem dX5_remove_1 : decode cX5_remove 1 = .ok (.iconst 1, 1) := by decide +kernel
theorem dX5_remove_2 : decode cX5_remove 2 = .ok (.iadd, 1) := by decide +kernel
theorem dX5_remove_3 : decode cX5_remove 3 = .ok (.istore_n 2, 1) := by decide +kernel
theorem dX5_remove_4 : decode cX5_remove 4 = .ok (.iload_n 2, 1) := by decide +kernel
theorem dX5_remove_5 : decode cX5_remove 5 = .ok (.aload_n 0, 1) := by decide +kernel
theorem dX5_remove_6 : decode cX5_remove 6 = .ok (.getfield 17, 3) := by decide +kernel
theorem dX5_remove_9 : decode cX5_remove 9 = .ok (.if_icmp .ge 23, 3) := by decide +kernel
theorem dX5_remove_12 : decode cX5_remove 12 = .ok (.aload_n 0, 1) := by decide +kernel
theorem dX5_remove_13 : decode cX5_remove 13 = .ok (.getfield 11, 3) := by decide +kernel
theorem dX5_remove_16 : decode cX5_remove 16 = .ok (.iload_n 2, 1) := by decide +kernel
theorem dX5_remove_17 : decode cX5_remove 17 = .ok (.iconst 1, 1) := by decide +kernel
theorem dX5_remove_18 : decode cX5_remove 18 = .ok (.isub, 1) := by decide +kernel
theorem dX5_remove_19 : decode cX5_remove 19 = .ok (.aload_n 0, 1) := by decide +kernel
theorem dX5_remove_20 : decode cX5_remove 20 = .ok (.getfield 11, 3) := by decide +kernel
theorem dX5_remove_23 : decode cX5_remove 23 = .ok (.iload_n 2, 1) := by decide +kernel
theorem dX5_remove_24 : decode cX5_remove 24 = .ok (.aaload, 1) := by decide +kernel
theorem dX5_remove_25 : decode cX5_remove 25 = .ok (.aastore, 1) := by decide +kernel
theorem dX5_remove_26 : decode cX5_remove 26 = .ok (.iinc 2 1, 3) := by decide +kernel
theorem dX5_remove_29 : decode cX5_remove 29 = .ok (.goto (-25), 3) := by decide +kernel
theorem dX5_remove_32 : decode cX5_remove 32 = .ok (.aload_n 0, 1) := by decide +kernel
theorem dX5_remove_33 : decode cX5_remove 33 = .ok (.dup, 1) := by decide +kernel
theorem dX5_remove_34 : decode cX5_remove 34 = .ok (.getfield 17, 3) := by decide +kernel
theorem dX5_remove_37 : decode cX5_remove 37 = .ok (.iconst 1, 1) := by decide +kernel
theorem dX5_remove_38 : decode cX5_remove 38 = .ok (.isub, 1) := by decide +kernel
theorem dX5_remove_39 : decode cX5_remove 39 = .ok (.putfield 17, 3) := by decide +kernel
theorem dX5_remove_42 : decode cX5_remove 42 = .ok (.aload_n 0, 1) := by decide +kernel
theorem dX5_remove_43 : decode cX5_remove 43 = .ok (.getfield 11, 3) := by decide +kernel
theorem dX5_remove_46 : decode cX5_remove 46 = .ok (.aload_n 0, 1) := by decide +kernel
theorem dX5_remove_47 : decode cX5_remove 47 = .ok (.getfield 17, 3) := by decide +kernel
theorem dX5_remove_50 : decode cX5_remove 50 = .ok (.aconst_null, 1) := by decide +kernel
theorem dX5_remove_51 : decode cX5_remove 51 = .ok (.aastore, 1) := by decide +kernel
theorem dX5_remove_52 : decode cX5_remove 52 = .ok (.return_, 1) := by decide +kernel
theorem dX6_init_0 : decode cX6_init 0 = .ok (.aload_n 0, 1) := by decide +kernel
theorem dX6_init_1 : decode cX6_init 1 = .ok (.invokespecial 3, 3) := by decide +kernel
theorem dX6_init_4 : decode cX6_init 4 = .ok (.aload_n 0, 1) := by decide +kernel
theorem dX6_init_5 : decode cX6_init 5 = .ok (.bipush 10, 2) := by decide +kernel
theorem dX6_init_7 : decode cX6_init 7 = .ok (.anewarray 9, 3) := by decide +kernel
theorem dX6_init_10 : decode cX6_init 10 = .ok (.putfield 11, 3) := by decide +kernel
theorem dX6_init_13 : decode cX6_init 13 = .ok (.aload_n 0, 1) := by decide +kernel
theorem dX6_init_14 : decode cX6_init 14 = .ok (.bipush 10, 2) := by decide +kernel
theorem dX6_init_16 : decode cX6_init 16 = .ok (.anewarray 9, 3) := by decide +kernel
theorem dX6_init_19 : decode cX6_init 19 = .ok (.putfield 17, 3) := by decide +kernel
theorem dX6_init_22 : decode cX6_init 22 = .ok (.aload_n 0, 1) := by decide +kernel
theorem dX6_init_23 : decode cX6_init 23 = .ok (.new 20, 3) := by decide +kernel
theorem dX6_init_26 : decode cX6_init 26 = .ok (.dup, 1) := by decide +kernel
theorem dX6_init_27 : decode cX6_init 27 = .ok (.invokespecial 22, 3) := by decide +kernel
theorem dX6_init_30 : decode cX6_init 30 = .ok (.putfield 23, 3) := by decide +kernel
theorem dX6_init_33 : decode cX6_init 33 = .ok (.aload_n 0, 1) := by decide +kernel
theorem dX6_init_34 : decode cX6_init 34 = .ok (.new 20, 3) := by decide +kernel
theorem dX6_init_37 : decode cX6_init 37 = .ok (.dup, 1) := by decide +kernel
theorem dX6_init_38 : decode cX6_init 38 = .ok (.invokespecial 22, 3) := by decide +kernel
theorem dX6_init_41 : decode cX6_init 41 = .ok (.putfield 27, 3) := by decide +kernel
theorem dX6_init_44 : decode cX6_init 44 = .ok (.return_, 1) := by decide +kernel
theorem dX6_slot_0 : decode cX6_slot 0 = .ok (.iload_n 0, 1) := by decide +kernel
theorem dX6_slot_1 : decode cX6_slot 1 = .ok (.iconst 1, 1) := by decide +kernel
theorem dX6_slot_2 : decode cX6_slot 2 = .ok (.iand, 1) := by decide +kernel
theorem dX6_slot_3 : decode cX6_slot 3 = .ok (.iconst 5, 1) := by decide +kernel
theorem dX6_slot_4 : decode cX6_slot 4 = .ok (.imul, 1) := by decide +kernel
theorem dX6_slot_5 : decode cX6_slot 5 = .ok (.iload_n 1, 1) := by decide +kernel
theorem dX6_slot_6 : decode cX6_slot 6 = .ok (.iadd, 1) := by decide +kernel
theorem dX6_slot_7 : decode cX6_slot 7 = .ok (.ireturn, 1) := by decide +kernel
theorem dX6_clear_0 : decode cX6_clear 0 = .ok (.aload_n 0, 1) := by decide +kernel
theorem dX6_clear_1 : decode cX6_clear 1 = .ok (.invokevirtual 30, 3) := by decide +kernel
theorem dX6_clear_4 : decode cX6_clear 4 = .ok (.aload_n 0, 1) := by decide +kernel
theorem dX6_clear_5 : decode cX6_clear 5 = .ok (.invokevirtual 33, 3) := by decide +kernel
theorem dX6_clear_8 : decode cX6_clear 8 = .ok (.aload_n 0, 1) := by decide +kernel
theorem dX6_clear_9 : decode cX6_clear 9 = .ok (.iconst 0, 1) := by decide +kernel
theorem dX6_clear_10 : decode cX6_clear 10 = .ok (.putfield 36, 3) := by decide +kernel
theorem dX6_clear_13 : decode cX6_clear 13 = .ok (.aload_n 0, 1) := by decide +kernel
theorem dX6_clear_14 : decode cX6_clear 14 = .ok (.iconst 0, 1) := by decide +kernel
theorem dX6_clear_15 : decode cX6_clear 15 = .ok (.putfield 40, 3) := by decide +kernel
theorem dX6_clear_18 : decode cX6_clear 18 = .ok (.aload_n 0, 1) := by decide +kernel
theorem dX6_clear_19 : decode cX6_clear 19 = .ok (.iconst 0, 1) := by decide +kernel
theorem dX6_clear_20 : decode cX6_clear 20 = .ok (.putfield 44, 3) := by decide +kernel
theorem dX6_clear_23 : decode cX6_clear 23 = .ok (.return_, 1) := by decide +kernel
theorem dX6_forgetLetters_0 : decode cX6_forgetLetters 0 = .ok (.iconst 0, 1) := by decide +kernel
theorem dX6_forgetLetters_1 : decode cX6_forgetLetters 1 = .ok (.istore_n 1, 1) := by decide +kernel
theorem dX6_forgetLetters_2 : decode cX6_forgetLetters 2 = .ok (.iload_n 1, 1) := by decide +kernel
theorem dX6_forgetLetters_3 : decode cX6_forgetLetters 3 = .ok (.bipush 10, 2) := by decide +kernel
theorem dX6_forgetLetters_5 : decode cX6_forgetLetters 5 = .ok (.if_icmp .ge 23, 3) := by decide +kernel
theorem dX6_forgetLetters_8 : decode cX6_forgetLetters 8 = .ok (.aload_n 0, 1) := by decide +kernel
theorem dX6_forgetLetters_9 : decode cX6_forgetLetters 9 = .ok (.getfield 11, 3) := by decide +kernel
theorem dX6_forgetLetters_12 : decode cX6_forgetLetters 12 = .ok (.iload_n 1, 1) := by decide +kernel
theorem dX6_forgetLetters_13 : decode cX6_forgetLetters 13 = .ok (.aconst_null, 1) := by decide +kernel
theorem dX6_forgetLetters_14 : decode cX6_forgetLetters 14 = .ok (.aastore, 1) := by decide +kernel
theorem dX6_forgetLetters_15 : decode cX6_forgetLetters 15 = .ok (.aload_n 0, 1) := by decide +kernel
theorem dX6_forgetLetters_16 : decode cX6_forgetLetters 16 = .ok (.getfield 17, 3) := by decide +kernel
theorem dX6_forgetLetters_19 : decode cX6_forgetLetters 19 = .ok (.iload_n 1, 1) := by decide +kernel
theorem dX6_forgetLetters_20 : decode cX6_forgetLetters 20 = .ok (.aconst_null, 1) := by decide +kernel
theorem dX6_forgetLetters_21 : decode cX6_forgetLetters 21 = .ok (.aastore, 1) := by decide +kernel
theorem dX6_forgetLetters_22 : decode cX6_forgetLetters 22 = .ok (.iinc 1 1, 3) := by decide +kernel
theorem dX6_forgetLetters_25 : decode cX6_forgetLetters 25 = .ok (.goto (-23), 3) := by decide +kernel
theorem dX6_forgetLetters_28 : decode cX6_forgetLetters 28 = .ok (.return_, 1) := by decide +kernel
theorem dX6_forgetMarks_0 : decode cX6_forgetMarks 0 = .ok (.aload_n 0, 1) := by decide +kernel
theorem dX6_forgetMarks_1 : decode cX6_forgetMarks 1 = .ok (.getfield 23, 3) := by decide +kernel
theorem dX6_forgetMarks_4 : decode cX6_forgetMarks 4 = .ok (.iconst (-1), 1) := by decide +kernel
theorem dX6_forgetMarks_5 : decode cX6_forgetMarks 5 = .ok (.putfield 47, 3) := by decide +kernel
theorem dX6_forgetMarks_8 : decode cX6_forgetMarks 8 = .ok (.aload_n 0, 1) := by decide +kernel
theorem dX6_forgetMarks_9 : decode cX6_forgetMarks 9 = .ok (.getfield 27, 3) := by decide +kernel
theorem dX6_forgetMarks_12 : decode cX6_forgetMarks 12 = .ok (.iconst (-1), 1) := by decide +kernel
theorem dX6_forgetMarks_13 : decode cX6_forgetMarks 13 = .ok (.putfield 47, 3) := by decide +kernel
theorem dX6_forgetMarks_16 : decode cX6_forgetMarks 16 = .ok (.return_, 1) := by decide +kernel
theorem dX6_enter_0 : decode cX6_enter 0 = .ok (.iconst 0, 1) := by decide +kernel
theorem dX6_enter_1 : decode cX6_enter 1 = .ok (.istore_n 2, 1) := by decide +kernel
theorem dX6_enter_2 : decode cX6_enter 2 = .ok (.iload_n 2, 1) := by decide +kernel
theorem dX6_enter_3 : decode cX6_enter 3 = .ok (.iconst 5, 1) := by decide +kernel
theorem dX6_enter_4 : decode cX6_enter 4 = .ok (.if_icmp .ge 34, 3) := by decide +kernel
theorem dX6_enter_7 : decode cX6_enter 7 = .ok (.aload_n 0, 1) := by decide +kernel
theorem dX6_enter_8 : decode cX6_enter 8 = .ok (.getfield 11, 3) := by decide +kernel
theorem dX6_enter_11 : decode cX6_enter 11 = .ok (.aload_n 0, 1) := by decide +kernel
theorem dX6_enter_12 : decode cX6_enter 12 = .ok (.getfield 36, 3) := by decide +kernel
theorem dX6_enter_15 : decode cX6_enter 15 = .ok (.iload_n 2, 1) := by decide +kernel
theorem dX6_enter_16 : decode cX6_enter 16 = .ok (.invokestatic 48, 3) := by decide +kernel
theorem dX6_enter_19 : decode cX6_enter 19 = .ok (.aconst_null, 1) := by decide +kernel
theorem dX6_enter_20 : decode cX6_enter 20 = .ok (.aastore, 1) := by decide +kernel
theorem dX6_enter_21 : decode cX6_enter 21 = .ok (.aload_n 0, 1) := by decide +kernel
theorem dX6_enter_22 : decode cX6_enter 22 = .ok (.getfield 17, 3) := by decide +kernel
theorem dX6_enter_25 : decode cX6_enter 25 = .ok (.iload_n 1, 1) := by decide +kernel
theorem dX6_enter_26 : decode cX6_enter 26 = .ok (.iload_n 2, 1) := by decide +kernel
theorem dX6_enter_27 : decode cX6_enter 27 = .ok (.invokestatic 48, 3) := by decide +kernel
theorem dX6_enter_30 : decode cX6_enter 30 = .ok (.aconst_null, 1) := by decide +kernel
theorem dX6_enter_31 : decode cX6_enter 31 = .ok (.aastore, 1) := by decide +kernel
theorem dX6_enter_32 : decode cX6_enter 32 = .ok (.iinc 2 1, 3) := by decide +kernel
theorem dX6_enter_35 : decode cX6_enter 35 = .ok (.goto (-33), 3) := by decide +kernel
theorem dX6_enter_38 : decode cX6_enter 38 = .ok (.aload_n 0, 1) := by decide +kernel
theorem dX6_enter_39 : decode cX6_enter 39 = .ok (.iload_n 1, 1) := by decide +kernel
theorem dX6_enter_40 : decode cX6_enter 40 = .ok (.putfield 36, 3) := by decide +kernel
theorem dX6_enter_43 : decode cX6_enter 43 = .ok (.return_, 1) := by decide +kernel
theorem dX6_hold_0 : decode cX6_hold 0 = .ok (.aload_n 0, 1) := by decide +kernel
theorem dX6_hold_1 : decode cX6_hold 1 = .ok (.getfield 11, 3) := by decide +kernel
theorem dX6_hold_4 : decode cX6_hold 4 = .ok (.aload_n 1, 1) := by decide +kernel
theorem dX6_hold_5 : decode cX6_hold 5 = .ok (.getfield 52, 3) := by decide +kernel
theorem dX6_hold_8 : decode cX6_hold 8 = .ok (.aload_n 1, 1) := by decide +kernel
theorem dX6_hold_9 : decode cX6_hold 9 = .ok (.getfield 53, 3) := by decide +kernel
theorem dX6_hold_12 : decode cX6_hold 12 = .ok (.invokestatic 48, 3) := by decide +kernel
theorem dX6_hold_15 : decode cX6_hold 15 = .ok (.aload_n 1, 1) := by decide +kernel
theorem dX6_hold_16 : decode cX6_hold 16 = .ok (.aastore, 1) := by decide +kernel
theorem dX6_hold_17 : decode cX6_hold 17 = .ok (.return_, 1) := by decide +kernel
theorem dX6_holds_0 : decode cX6_holds 0 = .ok (.aload_n 0, 1) := by decide +kernel
theorem dX6_holds_1 : decode cX6_holds 1 = .ok (.getfield 11, 3) := by decide +kernel
theorem dX6_holds_4 : decode cX6_holds 4 = .ok (.aload_n 1, 1) := by decide +kernel
theorem dX6_holds_5 : decode cX6_holds 5 = .ok (.getfield 52, 3) := by decide +kernel
theorem dX6_holds_8 : decode cX6_holds 8 = .ok (.aload_n 1, 1) := by decide +kernel
theorem dX6_holds_9 : decode cX6_holds 9 = .ok (.getfield 53, 3) := by decide +kernel
theorem dX6_holds_12 : decode cX6_holds 12 = .ok (.invokestatic 48, 3) := by decide +kernel
theorem dX6_holds_15 : decode cX6_holds 15 = .ok (.aaload, 1) := by decide +kernel
theorem dX6_holds_16 : decode cX6_holds 16 = .ok (.ifnull 7, 3) := by decide +kernel
theorem dX6_holds_19 : decode cX6_holds 19 = .ok (.iconst 1, 1) := by decide +kernel
theorem dX6_holds_20 : decode cX6_holds 20 = .ok (.goto 4, 3) := by decide +kernel
theorem dX6_holds_23 : decode cX6_holds 23 = .ok (.iconst 0, 1) := by decide +kernel
theorem dX6_holds_24 : decode cX6_holds 24 = .ok (.ireturn, 1) := by decide +kernel
theorem dX6_heldFrom_0 : decode cX6_heldFrom 0 = .ok (.aload_n 0, 1) := by decide +kernel
theorem dX6_heldFrom_1 : decode cX6_heldFrom 1 = .ok (.getfield 11, 3) := by decide +kernel
theorem dX6_heldFrom_4 : decode cX6_heldFrom 4 = .ok (.aload_n 0, 1) := by decide +kernel
theorem dX6_heldFrom_5 : decode cX6_heldFrom 5 = .ok (.getfield 36, 3) := by decide +kernel
theorem dX6_heldFrom_8 : decode cX6_heldFrom 8 = .ok (.iload_n 1, 1) := by decide +kernel
theorem dX6_heldFrom_9 : decode cX6_heldFrom 9 = .ok (.invokestatic 48, 3) := by decide +kernel
theorem dX6_heldFrom_12 : decode cX6_heldFrom 12 = .ok (.aaload, 1) := by decide +kernel
theorem dX6_heldFrom_13 : decode cX6_heldFrom 13 = .ok (.areturn, 1) := by decide +kernel
theorem dX6_lettersHeld_0 : decode cX6_lettersHeld 0 = .ok (.iconst 0, 1) := by decide +kernel
theorem dX6_lettersHeld_1 : decode cX6_lettersHeld 1 = .ok (.istore_n 1, 1) := by decide +kernel
theorem dX6_lettersHeld_2 : decode cX6_lettersHeld 2 = .ok (.iconst 0, 1) := by decide +kernel
theorem dX6_lettersHeld_3 : decode cX6_lettersHeld 3 = .ok (.istore_n 2, 1) := by decide +kernel
theorem dX6_lettersHeld_4 : decode cX6_lettersHeld 4 = .ok (.iload_n 2, 1) := by decide +kernel
theorem dX6_lettersHeld_5 : decode cX6_lettersHeld 5 = .ok (.iconst 5, 1) := by decide +kernel
theorem dX6_lettersHeld_6 : decode cX6_lettersHeld 6 = .ok (.if_icmp .ge 20, 3) := by decide +kernel
theorem dX6_lettersHeld_9 : decode cX6_lettersHeld 9 = .ok (.aload_n 0, 1) := by decide +kernel
theorem dX6_lettersHeld_10 : decode cX6_lettersHeld 10 = .ok (.iload_n 2, 1) := by decide +kernel
theorem dX6_lettersHeld_11 : decode cX6_lettersHeld 11 = .ok (.invokevirtual 56, 3) := by decide +kernel
theorem dX6_lettersHeld_14 : decode cX6_lettersHeld 14 = .ok (.ifnull 6, 3) := by decide +kernel
theorem dX6_lettersHeld_17 : decode cX6_lettersHeld 17 = .ok (.iinc 1 1, 3) := by decide +kernel
theorem dX6_lettersHeld_20 : decode cX6_lettersHeld 20 = .ok (.iinc 2 1, 3) := by decide +kernel
theorem dX6_lettersHeld_23 : decode cX6_lettersHeld 23 = .ok (.goto (-19), 3) := by decide +kernel
theorem dX6_lettersHeld_26 : decode cX6_lettersHeld 26 = .ok (.iload_n 1, 1) := by decide +kernel
theorem dX6_lettersHeld_27 : decode cX6_lettersHeld 27 = .ok (.ireturn, 1) := by decide +kernel
theorem dX6_isToldActive_0 : decode cX6_isToldActive 0 = .ok (.iconst 0, 1) := by decide +kernel
theorem dX6_isToldActive_1 : decode cX6_isToldActive 1 = .ok (.istore_n 1, 1) := by decide +kernel
theorem dX6_isToldActive_2 : decode cX6_isToldActive 2 = .ok (.iload_n 1, 1) := by decide +kernel
theorem dX6_isToldActive_3 : decode cX6_isToldActive 3 = .ok (.iconst 5, 1) := by decide +kernel
theorem dX6_isToldActive_4 : decode cX6_isToldActive 4 = .ok (.if_icmp .ge 28, 3) := by decide +kernel
theorem dX6_isToldActive_7 : decode cX6_isToldActive 7 = .ok (.aload_n 0, 1) := by decide +kernel
theorem dX6_isToldActive_8 : decode cX6_isToldActive 8 = .ok (.iload_n 1, 1) := by decide +kernel
theorem dX6_isToldActive_9 : decode cX6_isToldActive 9 = .ok (.invokevirtual 56, 3) := by decide +kernel
theorem dX6_isToldActive_12 : decode cX6_isToldActive 12 = .ok (.astore_n 2, 1) := by decide +kernel
theorem dX6_isToldActive_13 : decode cX6_isToldActive 13 = .ok (.aload_n 2, 1) := by decide +kernel
theorem dX6_isToldActive_14 : decode cX6_isToldActive 14 = .ok (.ifnull 12, 3) := by decide +kernel
theorem dX6_isToldActive_17 : decode cX6_isToldActive 17 = .ok (.aload_n 2, 1) := by decide +kernel
theorem dX6_isToldActive_18 : decode cX6_isToldActive 18 = .ok (.getfield 60, 3) := by decide +kernel
theorem dX6_isToldActive_21 : decode cX6_isToldActive 21 = .ok (.ifCond .le 5, 3) := by decide +kernel
theorem dX6_isToldActive_24 : decode cX6_isToldActive 24 = .ok (.iconst 1, 1) := by decide +kernel
theorem dX6_isToldActive_25 : decode cX6_isToldActive 25 = .ok (.ireturn, 1) := by decide +kernel
theorem dX6_isToldActive_26 : decode cX6_isToldActive 26 = .ok (.iinc 1 1, 3) := by decide +kernel
theorem dX6_isToldActive_29 : decode cX6_isToldActive 29 = .ok (.goto (-27), 3) := by decide +kernel
theorem dX6_isToldActive_32 : decode cX6_isToldActive 32 = .ok (.iconst 0, 1) := by decide +kernel
theorem dX6_isToldActive_33 : decode cX6_isToldActive 33 = .ok (.ireturn, 1) := by decide +kernel
theorem dX6_keep_0 : decode cX6_keep 0 = .ok (.aload_n 0, 1) := by decide +kernel
theorem dX6_keep_1 : decode cX6_keep 1 = .ok (.getfield 17, 3) := by decide +kernel
theorem dX6_keep_4 : decode cX6_keep 4 = .ok (.aload_n 1, 1) := by decide +kernel
theorem dX6_keep_5 : decode cX6_keep 5 = .ok (.getfield 52, 3) := by decide +kernel
theorem dX6_keep_8 : decode cX6_keep 8 = .ok (.aload_n 1, 1) := by decide +kernel
theorem dX6_keep_9 : decode cX6_keep 9 = .ok (.getfield 63, 3) := by decide +kernel
theorem dX6_keep_12 : decode cX6_keep 12 = .ok (.invokestatic 48, 3) := by decide +kernel
theorem dX6_keep_15 : decode cX6_keep 15 = .ok (.aload_n 1, 1) := by decide +kernel
theorem dX6_keep_16 : decode cX6_keep 16 = .ok (.aastore, 1) := by decide +kernel
theorem dX6_keep_17 : decode cX6_keep 17 = .ok (.return_, 1) := by decide +kernel
theorem dX6_keptFor_0 : decode cX6_keptFor 0 = .ok (.aload_n 0, 1) := by decide +kernel
theorem dX6_keptFor_1 : decode cX6_keptFor 1 = .ok (.getfield 17, 3) := by decide +kernel
theorem dX6_keptFor_4 : decode cX6_keptFor 4 = .ok (.iload_n 2, 1) := by decide +kernel
theorem dX6_keptFor_5 : decode cX6_keptFor 5 = .ok (.iload_n 1, 1) := by decide +kernel
theorem dX6_keptFor_6 : decode cX6_keptFor 6 = .ok (.invokestatic 48, 3) := by decide +kernel
theorem dX6_keptFor_9 : decode cX6_keptFor 9 = .ok (.aaload, 1) := by decide +kernel
theorem dX6_keptFor_10 : decode cX6_keptFor 10 = .ok (.areturn, 1) := by decide +kernel
theorem dX6_nextMark_0 : decode cX6_nextMark 0 = .ok (.aload_n 0, 1) := by decide +kernel
theorem dX6_nextMark_1 : decode cX6_nextMark 1 = .ok (.invokevirtual 66, 3) := by decide +kernel
theorem dX6_nextMark_4 : decode cX6_nextMark 4 = .ok (.aload_n 0, 1) := by decide +kernel
theorem dX6_nextMark_5 : decode cX6_nextMark 5 = .ok (.getfield 23, 3) := by decide +kernel
theorem dX6_nextMark_8 : decode cX6_nextMark 8 = .ok (.aload_n 0, 1) := by decide +kernel
theorem dX6_nextMark_9 : decode cX6_nextMark 9 = .ok (.getfield 36, 3) := by decide +kernel
theorem dX6_nextMark_12 : decode cX6_nextMark 12 = .ok (.putfield 47, 3) := by decide +kernel
theorem dX6_nextMark_15 : decode cX6_nextMark 15 = .ok (.aload_n 0, 1) := by decide +kernel
theorem dX6_nextMark_16 : decode cX6_nextMark 16 = .ok (.getfield 23, 3) := by decide +kernel
theorem dX6_nextMark_19 : decode cX6_nextMark 19 = .ok (.areturn, 1) := by decide +kernel
theorem dX6_swapMarks_0 : decode cX6_swapMarks 0 = .ok (.aload_n 0, 1) := by decide +kernel
theorem dX6_swapMarks_1 : decode cX6_swapMarks 1 = .ok (.getfield 27, 3) := by decide +kernel
theorem dX6_swapMarks_4 : decode cX6_swapMarks 4 = .ok (.astore_n 1, 1) := by decide +kernel
theorem dX6_swapMarks_5 : decode cX6_swapMarks 5 = .ok (.aload_n 0, 1) := by decide +kernel
theorem dX6_swapMarks_6 : decode cX6_swapMarks 6 = .ok (.aload_n 0, 1) := by decide +kernel
theorem dX6_swapMarks_7 : decode cX6_swapMarks 7 = .ok (.getfield 23, 3) := by decide +kernel
theorem dX6_swapMarks_10 : decode cX6_swapMarks 10 = .ok (.putfield 27, 3) := by decide +kernel
theorem dX6_swapMarks_13 : decode cX6_swapMarks 13 = .ok (.aload_n 0, 1) := by decide +kernel
theorem dX6_swapMarks_14 : decode cX6_swapMarks 14 = .ok (.aload_n 1, 1) := by decide +kernel
theorem dX6_swapMarks_15 : decode cX6_swapMarks 15 = .ok (.putfield 23, 3) := by decide +kernel
theorem dX6_swapMarks_18 : decode cX6_swapMarks 18 = .ok (.return_, 1) := by decide +kernel
theorem dX6_fail_0 : decode cX6_fail 0 = .ok (.aload_n 0, 1) := by decide +kernel
theorem dX6_fail_1 : decode cX6_fail 1 = .ok (.invokevirtual 30, 3) := by decide +kernel
theorem dX6_fail_4 : decode cX6_fail 4 = .ok (.aload_n 0, 1) := by decide +kernel
theorem dX6_fail_5 : decode cX6_fail 5 = .ok (.iconst 0, 1) := by decide +kernel
theorem dX6_fail_6 : decode cX6_fail 6 = .ok (.putfield 40, 3) := by decide +kernel
theorem dX6_fail_9 : decode cX6_fail 9 = .ok (.aload_n 0, 1) := by decide +kernel
theorem dX6_fail_10 : decode cX6_fail 10 = .ok (.iconst 1, 1) := by decide +kernel
theorem dX6_fail_11 : decode cX6_fail 11 = .ok (.putfield 44, 3) := by decide +kernel
theorem dX6_fail_14 : decode cX6_fail 14 = .ok (.return_, 1) := by decide +kernel
theorem dX6_goBack_0 : decode cX6_goBack 0 = .ok (.aload_n 0, 1) := by decide +kernel
theorem dX6_goBack_1 : decode cX6_goBack 1 = .ok (.getfield 23, 3) := by decide +kernel
theorem dX6_goBack_4 : decode cX6_goBack 4 = .ok (.getfield 47, 3) := by decide +kernel
theorem dX6_goBack_7 : decode cX6_goBack 7 = .ok (.iload_n 1, 1) := by decide +kernel
theorem dX6_goBack_8 : decode cX6_goBack 8 = .ok (.if_icmp .eq 15, 3) := by decide +kernel
theorem dX6_goBack_11 : decode cX6_goBack 11 = .ok (.aload_n 0, 1) := by decide +kernel
theorem dX6_goBack_12 : decode cX6_goBack 12 = .ok (.invokevirtual 66, 3) := by decide +kernel
theorem dX6_goBack_15 : decode cX6_goBack 15 = .ok (.aload_n 0, 1) := by decide +kernel
theorem dX6_goBack_16 : decode cX6_goBack 16 = .ok (.getfield 27, 3) := by decide +kernel
theorem dX6_goBack_19 : decode cX6_goBack 19 = .ok (.iconst (-1), 1) := by decide +kernel
theorem dX6_goBack_20 : decode cX6_goBack 20 = .ok (.putfield 47, 3) := by decide +kernel
theorem dX6_goBack_23 : decode cX6_goBack 23 = .ok (.aload_n 0, 1) := by decide +kernel
theorem dX6_goBack_24 : decode cX6_goBack 24 = .ok (.invokevirtual 30, 3) := by decide +kernel
theorem dX6_goBack_27 : decode cX6_goBack 27 = .ok (.aload_n 0, 1) := by decide +kernel
theorem dX6_goBack_28 : decode cX6_goBack 28 = .ok (.iload_n 1, 1) := by decide +kernel
theorem dX6_goBack_29 : decode cX6_goBack 29 = .ok (.putfield 36, 3) := by decide +kernel
theorem dX6_goBack_32 : decode cX6_goBack 32 = .ok (.aload_n 0, 1) := by decide +kernel
theorem dX6_goBack_33 : decode cX6_goBack 33 = .ok (.iconst 0, 1) := by decide +kernel
theorem dX6_goBack_34 : decode cX6_goBack 34 = .ok (.putfield 40, 3) := by decide +kernel
theorem dX6_goBack_37 : decode cX6_goBack 37 = .ok (.aload_n 0, 1) := by decide +kernel
theorem dX6_goBack_38 : decode cX6_goBack 38 = .ok (.iconst 0, 1) := by decide +kernel
theorem dX6_goBack_39 : decode cX6_goBack 39 = .ok (.putfield 44, 3) := by decide +kernel
theorem dX6_goBack_42 : decode cX6_goBack 42 = .ok (.return_, 1) := by decide +kernel
theorem dX7_init_0 : decode cX7_init 0 = .ok (.aload_n 0, 1) := by decide +kernel
theorem dX7_init_1 : decode cX7_init 1 = .ok (.invokespecial 3, 3) := by decide +kernel
theorem dX7_init_4 : decode cX7_init 4 = .ok (.aload_n 0, 1) := by decide +kernel
theorem dX7_init_5 : decode cX7_init 5 = .ok (.bipush 16, 2) := by decide +kernel
theorem dX7_init_7 : decode cX7_init 7 = .ok (.newarray .int, 2) := by decide +kernel
theorem dX7_init_9 : decode cX7_init 9 = .ok (.putfield 9, 3) := by decide +kernel
theorem dX7_init_12 : decode cX7_init 12 = .ok (.aload_n 0, 1) := by decide +kernel
theorem dX7_init_13 : decode cX7_init 13 = .ok (.bipush 16, 2) := by decide +kernel
theorem dX7_init_15 : decode cX7_init 15 = .ok (.newarray .int, 2) := by decide +kernel
theorem dX7_init_17 : decode cX7_init 17 = .ok (.putfield 15, 3) := by decide +kernel
theorem dX7_init_20 : decode cX7_init 20 = .ok (.aload_n 0, 1) := by decide +kernel
theorem dX7_init_21 : decode cX7_init 21 = .ok (.bipush 16, 2) := by decide +kernel
theorem dX7_init_23 : decode cX7_init 23 = .ok (.newarray .boolean, 2) := by decide +kernel
theorem dX7_init_25 : decode cX7_init 25 = .ok (.putfield 18, 3) := by decide +kernel
theorem dX7_init_28 : decode cX7_init 28 = .ok (.return_, 1) := by decide +kernel
theorem dX7_begin_0 : decode cX7_begin 0 = .ok (.aload_n 0, 1) := by decide +kernel
theorem dX7_begin_1 : decode cX7_begin 1 = .ok (.getfield 9, 3) := by decide +kernel
theorem dX7_begin_4 : decode cX7_begin 4 = .ok (.iload_n 1, 1) := by decide +kernel
theorem dX7_begin_5 : decode cX7_begin 5 = .ok (.iload_n 2, 1) := by decide +kernel
theorem dX7_begin_6 : decode cX7_begin 6 = .ok (.iastore, 1) := by decide +kernel
theorem dX7_begin_7 : decode cX7_begin 7 = .ok (.aload_n 0, 1) := by decide +kernel
theorem dX7_begin_8 : decode cX7_begin 8 = .ok (.getfield 15, 3) := by decide +kernel
theorem dX7_begin_11 : decode cX7_begin 11 = .ok (.iload_n 1, 1) := by decide +kernel
theorem dX7_begin_12 : decode cX7_begin 12 = .ok (.iconst 0, 1) := by decide +kernel
theorem dX7_begin_13 : decode cX7_begin 13 = .ok (.iastore, 1) := by decide +kernel
theorem dX7_begin_14 : decode cX7_begin 14 = .ok (.aload_n 0, 1) := by decide +kernel
theorem dX7_begin_15 : decode cX7_begin 15 = .ok (.getfield 18, 3) := by decide +kernel
theorem dX7_begin_18 : decode cX7_begin 18 = .ok (.iload_n 1, 1) := by decide +kernel
theorem dX7_begin_19 : decode cX7_begin 19 = .ok (.iconst 1, 1) := by decide +kernel
theorem dX7_begin_20 : decode cX7_begin 20 = .ok (.bastore, 1) := by decide +kernel
theorem dX7_begin_21 : decode cX7_begin 21 = .ok (.return_, 1) := by decide +kernel
theorem dX7_copyVertex_0 : decode cX7_copyVertex 0 = .ok (.aload_n 0, 1) := by decide +kernel
theorem dX7_copyVertex_1 : decode cX7_copyVertex 1 = .ok (.getfield 9, 3) := by decide +kernel
theorem dX7_copyVertex_4 : decode cX7_copyVertex 4 = .ok (.iload_n 1, 1) := by decide +kernel
theorem dX7_copyVertex_5 : decode cX7_copyVertex 5 = .ok (.aload_n 2, 1) := by decide +kernel
theorem dX7_copyVertex_6 : decode cX7_copyVertex 6 = .ok (.getfield 9, 3) := by decide +kernel
theorem dX7_copyVertex_9 : decode cX7_copyVertex 9 = .ok (.iload_n 1, 1) := by decide +kernel
theorem dX7_copyVertex_10 : decode cX7_copyVertex 10 = .ok (.iaload, 1) := by decide +kernel
theorem dX7_copyVertex_11 : decode cX7_copyVertex 11 = .ok (.iastore, 1) := by decide +kernel
theorem dX7_copyVertex_12 : decode cX7_copyVertex 12 = .ok (.aload_n 0, 1) := by decide +kernel
theorem dX7_copyVertex_13 : decode cX7_copyVertex 13 = .ok (.getfield 15, 3) := by decide +kernel
theorem dX7_copyVertex_16 : decode cX7_copyVertex 16 = .ok (.iload_n 1, 1) := by decide +kernel
theorem dX7_copyVertex_17 : decode cX7_copyVertex 17 = .ok (.aload_n 2, 1) := by decide +kernel
theorem dX7_copyVertex_18 : decode cX7_copyVertex 18 = .ok (.getfield 15, 3) := by decide +kernel
theorem dX7_copyVertex_21 : decode cX7_copyVertex 21 = .ok (.iload_n 1, 1) := by decide +kernel
theorem dX7_copyVertex_22 : decode cX7_copyVertex 22 = .ok (.iaload, 1) := by decide +kernel
theorem dX7_copyVertex_23 : decode cX7_copyVertex 23 = .ok (.iastore, 1) := by decide +kernel
theorem dX7_copyVertex_24 : decode cX7_copyVertex 24 = .ok (.aload_n 0, 1) := by decide +kernel
theorem dX7_copyVertex_25 : decode cX7_copyVertex 25 = .ok (.getfield 18, 3) := by decide +kernel
theorem dX7_copyVertex_28 : decode cX7_copyVertex 28 = .ok (.iload_n 1, 1) := by decide +kernel
theorem dX7_copyVertex_29 : decode cX7_copyVertex 29 = .ok (.aload_n 2, 1) := by decide +kernel
theorem dX7_copyVertex_30 : decode cX7_copyVertex 30 = .ok (.getfield 18, 3) := by decide +kernel
theorem dX7_copyVertex_33 : decode cX7_copyVertex 33 = .ok (.iload_n 1, 1) := by decide +kernel
theorem dX7_copyVertex_34 : decode cX7_copyVertex 34 = .ok (.baload, 1) := by decide +kernel
theorem dX7_copyVertex_35 : decode cX7_copyVertex 35 = .ok (.bastore, 1) := by decide +kernel
theorem dX7_copyVertex_36 : decode cX7_copyVertex 36 = .ok (.return_, 1) := by decide +kernel
theorem dX7_tell_0 : decode cX7_tell 0 = .ok (.iload_n 2, 1) := by decide +kernel
theorem dX7_tell_1 : decode cX7_tell 1 = .ok (.tableswitch 58 0 2 #[27, 35, 43], 27) := by decide +kernel
theorem dX7_tell_28 : decode cX7_tell 28 = .ok (.aload_n 0, 1) := by decide +kernel
theorem dX7_tell_29 : decode cX7_tell 29 = .ok (.getfield 9, 3) := by decide +kernel
theorem dX7_tell_32 : decode cX7_tell 32 = .ok (.iload_n 1, 1) := by decide +kernel
theorem dX7_tell_33 : decode cX7_tell 33 = .ok (.iaload, 1) := by decide +kernel
theorem dX7_tell_34 : decode cX7_tell 34 = .ok (.i2l, 1) := by decide +kernel
theorem dX7_tell_35 : decode cX7_tell 35 = .ok (.lreturn, 1) := by decide +kernel
theorem dX7_tell_36 : decode cX7_tell 36 = .ok (.aload_n 0, 1) := by decide +kernel
theorem dX7_tell_37 : decode cX7_tell 37 = .ok (.getfield 15, 3) := by decide +kernel
theorem dX7_tell_40 : decode cX7_tell 40 = .ok (.iload_n 1, 1) := by decide +kernel
theorem dX7_tell_41 : decode cX7_tell 41 = .ok (.iaload, 1) := by decide +kernel
theorem dX7_tell_42 : decode cX7_tell 42 = .ok (.i2l, 1) := by decide +kernel
theorem dX7_tell_43 : decode cX7_tell 43 = .ok (.lreturn, 1) := by decide +kernel
theorem dX7_tell_44 : decode cX7_tell 44 = .ok (.aload_n 0, 1) := by decide +kernel
theorem dX7_tell_45 : decode cX7_tell 45 = .ok (.getfield 18, 3) := by decide +kernel
theorem dX7_tell_48 : decode cX7_tell 48 = .ok (.iload_n 1, 1) := by decide +kernel
theorem dX7_tell_49 : decode cX7_tell 49 = .ok (.baload, 1) := by decide +kernel
theorem dX7_tell_50 : decode cX7_tell 50 = .ok (.ifCond .eq 7, 3) := by decide +kernel
theorem dX7_tell_53 : decode cX7_tell 53 = .ok (.lconst 1, 1) := by decide +kernel
theorem dX7_tell_54 : decode cX7_tell 54 = .ok (.goto 4, 3) := by decide +kernel
theorem dX7_tell_57 : decode cX7_tell 57 = .ok (.lconst 0, 1) := by decide +kernel
theorem dX7_tell_58 : decode cX7_tell 58 = .ok (.lreturn, 1) := by decide +kernel
theorem dX7_tell_59 : decode cX7_tell 59 = .ok (.ldc2_w 22, 3) := by decide +kernel
theorem dX7_tell_62 : decode cX7_tell 62 = .ok (.lreturn, 1) := by decide +kernel
theorem dX8_init_0 : decode cX8_init 0 = .ok (.aload_n 0, 1) := by decide +kernel
theorem dX8_init_1 : decode cX8_init 1 = .ok (.invokespecial 3, 3) := by decide +kernel
theorem dX8_init_4 : decode cX8_init 4 = .ok (.aload_n 0, 1) := by decide +kernel
theorem dX8_init_5 : decode cX8_init 5 = .ok (.new 9, 3) := by decide +kernel
theorem dX8_init_8 : decode cX8_init 8 = .ok (.dup, 1) := by decide +kernel
theorem dX8_init_9 : decode cX8_init 9 = .ok (.invokespecial 11, 3) := by decide +kernel
theorem dX8_init_12 : decode cX8_init 12 = .ok (.putfield 12, 3) := by decide +kernel
theorem dX8_init_15 : decode cX8_init 15 = .ok (.aload_n 0, 1) := by decide +kernel
theorem dX8_init_16 : decode cX8_init 16 = .ok (.new 18, 3) := by decide +kernel
theorem dX8_init_19 : decode cX8_init 19 = .ok (.dup, 1) := by decide +kernel
theorem dX8_init_20 : decode cX8_init 20 = .ok (.invokespecial 20, 3) := by decide +kernel
theorem dX8_init_23 : decode cX8_init 23 = .ok (.putfield 21, 3) := by decide +kernel
theorem dX8_init_26 : decode cX8_init 26 = .ok (.aload_n 0, 1) := by decide +kernel
theorem dX8_init_27 : decode cX8_init 27 = .ok (.new 18, 3) := by decide +kernel
theorem dX8_init_30 : decode cX8_init 30 = .ok (.dup, 1) := by decide +kernel
theorem dX8_init_31 : decode cX8_init 31 = .ok (.invokespecial 20, 3) := by decide +kernel
theorem dX8_init_34 : decode cX8_init 34 = .ok (.putfield 25, 3) := by decide +kernel
theorem dX8_init_37 : decode cX8_init 37 = .ok (.aload_n 0, 1) := by decide +kernel
theorem dX8_init_38 : decode cX8_init 38 = .ok (.new 28, 3) := by decide +kernel
theorem dX8_init_41 : decode cX8_init 41 = .ok (.dup, 1) := by decide +kernel
theorem dX8_init_42 : decode cX8_init 42 = .ok (.invokespecial 30, 3) := by decide +kernel
theorem dX8_init_45 : decode cX8_init 45 = .ok (.putfield 31, 3) := by decide +kernel
theorem dX8_init_48 : decode cX8_init 48 = .ok (.aload_n 0, 1) := by decide +kernel
theorem dX8_init_49 : decode cX8_init 49 = .ok (.new 35, 3) := by decide +kernel
theorem dX8_init_52 : decode cX8_init 52 = .ok (.dup, 1) := by decide +kernel
theorem dX8_init_53 : decode cX8_init 53 = .ok (.invokespecial 37, 3) := by decide +kernel
theorem dX8_init_56 : decode cX8_init 56 = .ok (.putfield 38, 3) := by decide +kernel
theorem dX8_init_59 : decode cX8_init 59 = .ok (.aload_n 0, 1) := by decide +kernel
theorem dX8_init_60 : decode cX8_init 60 = .ok (.new 42, 3) := by decide +kernel
theorem dX8_init_63 : decode cX8_init 63 = .ok (.dup, 1) := by decide +kernel
theorem dX8_init_64 : decode cX8_init 64 = .ok (.invokespecial 44, 3) := by decide +kernel
theorem dX8_init_67 : decode cX8_init 67 = .ok (.putfield 45, 3) := by decide +kernel
theorem dX8_init_70 : decode cX8_init 70 = .ok (.aload_n 0, 1) := by decide +kernel
theorem dX8_init_71 : decode cX8_init 71 = .ok (.iconst 5, 1) := by decide +kernel
theorem dX8_init_72 : decode cX8_init 72 = .ok (.anewarray 49, 3) := by decide +kernel
theorem dX8_init_75 : decode cX8_init 75 = .ok (.putfield 51, 3) := by decide +kernel
theorem dX8_init_78 : decode cX8_init 78 = .ok (.aload_n 0, 1) := by decide +kernel
theorem dX8_init_79 : decode cX8_init 79 = .ok (.iconst 4, 1) := by decide +kernel
theorem dX8_init_80 : decode cX8_init 80 = .ok (.newarray .int, 2) := by decide +kernel
theorem dX8_init_82 : decode cX8_init 82 = .ok (.putfield 55, 3) := by decide +kernel
theorem dX8_init_85 : decode cX8_init 85 = .ok (.iconst 0, 1) := by decide +kernel
theorem dX8_init_86 : decode cX8_init 86 = .ok (.istore_n 1, 1) := by decide +kernel
theorem dX8_init_87 : decode cX8_init 87 = .ok (.iload_n 1, 1) := by decide +kernel
theorem dX8_init_88 : decode cX8_init 88 = .ok (.iconst 5, 1) := by decide +kernel
theorem dX8_init_89 : decode cX8_init 89 = .ok (.if_icmp .ge 22, 3) := by decide +kernel
theorem dX8_init_92 : decode cX8_init 92 = .ok (.aload_n 0, 1) := by decide +kernel
theorem dX8_init_93 : decode cX8_init 93 = .ok (.getfield 51, 3) := by decide +kernel
theorem dX8_init_96 : decode cX8_init 96 = .ok (.iload_n 1, 1) := by decide +kernel
theorem dX8_init_97 : decode cX8_init 97 = .ok (.new 49, 3) := by decide +kernel
theorem dX8_init_100 : decode cX8_init 100 = .ok (.dup, 1) := by decide +kernel
theorem dX8_init_101 : decode cX8_init 101 = .ok (.invokespecial 59, 3) := by decide +kernel
theorem dX8_init_104 : decode cX8_init 104 = .ok (.aastore, 1) := by decide +kernel
theorem dX8_init_105 : decode cX8_init 105 = .ok (.iinc 1 1, 3) := by decide +kernel
theorem dX8_init_108 : decode cX8_init 108 = .ok (.goto (-21), 3) := by decide +kernel
theorem dX8_init_111 : decode cX8_init 111 = .ok (.aload_n 0, 1) := by decide +kernel
theorem dX8_init_112 : decode cX8_init 112 = .ok (.iconst 2, 1) := by decide +kernel
theorem dX8_init_113 : decode cX8_init 113 = .ok (.putfield 60, 3) := by decide +kernel
theorem dX8_init_116 : decode cX8_init 116 = .ok (.return_, 1) := by decide +kernel
theorem dX8_nodes_0 : decode cX8_nodes 0 = .ok (.iload_n 1, 1) := by decide +kernel
theorem dX8_nodes_1 : decode cX8_nodes 1 = .ok (.iconst 2, 1) := by decide +kernel
theorem dX8_nodes_2 : decode cX8_nodes 2 = .ok (.if_icmp .lt 8, 3) := by decide +kernel
theorem dX8_nodes_5 : decode cX8_nodes 5 = .ok (.iload_n 1, 1) := by decide +kernel
theorem dX8_nodes_6 : decode cX8_nodes 6 = .ok (.iconst 5, 1) := by decide +kernel
theorem dX8_nodes_7 : decode cX8_nodes 7 = .ok (.if_icmp .le 5, 3) := by decide +kernel
theorem dX8_nodes_10 : decode cX8_nodes 10 = .ok (.iconst (-1), 1) := by decide +kernel
theorem dX8_nodes_11 : decode cX8_nodes 11 = .ok (.ireturn, 1) := by decide +kernel
theorem dX8_nodes_12 : decode cX8_nodes 12 = .ok (.aload_n 0, 1) := by decide +kernel
theorem dX8_nodes_13 : decode cX8_nodes 13 = .ok (.getfield 12, 3) := by decide +kernel
theorem dX8_nodes_16 : decode cX8_nodes 16 = .ok (.getfield 64, 3) := by decide +kernel
theorem dX8_nodes_19 : decode cX8_nodes 19 = .ok (.istore_n 2, 1) := by decide +kernel
theorem dX8_nodes_20 : decode cX8_nodes 20 = .ok (.aload_n 0, 1) := by decide +kernel
theorem dX8_nodes_21 : decode cX8_nodes 21 = .ok (.getfield 12, 3) := by decide +kernel
theorem dX8_nodes_24 : decode cX8_nodes 24 = .ok (.invokevirtual 67, 3) := by decide +kernel
theorem dX8_nodes_27 : decode cX8_nodes 27 = .ok (.aload_n 0, 1) := by decide +kernel
theorem dX8_nodes_28 : decode cX8_nodes 28 = .ok (.getfield 45, 3) := by decide +kernel
theorem dX8_nodes_31 : decode cX8_nodes 31 = .ok (.invokevirtual 70, 3) := by decide +kernel
theorem dX8_nodes_34 : decode cX8_nodes 34 = .ok (.iconst 0, 1) := by decide +kernel
theorem dX8_nodes_35 : decode cX8_nodes 35 = .ok (.istore_n 3, 1) := by decide +kernel
theorem dX8_nodes_36 : decode cX8_nodes 36 = .ok (.iload_n 3, 1) := by decide +kernel
theorem dX8_nodes_37 : decode cX8_nodes 37 = .ok (.iconst 5, 1) := by decide +kernel
theorem dX8_nodes_38 : decode cX8_nodes 38 = .ok (.if_icmp .ge 18, 3) := by decide +kernel
theorem dX8_nodes_41 : decode cX8_nodes 41 = .ok (.aload_n 0, 1) := by decide +kernel
theorem dX8_nodes_42 : decode cX8_nodes 42 = .ok (.getfield 51, 3) := by decide +kernel
theorem dX8_nodes_45 : decode cX8_nodes 45 = .ok (.iload_n 3, 1) := by decide +kernel
theorem dX8_nodes_46 : decode cX8_nodes 46 = .ok (.aaload, 1) := by decide +kernel
theorem dX8_nodes_47 : decode cX8_nodes 47 = .ok (.invokevirtual 71, 3) := by decide +kernel
theorem dX8_nodes_50 : decode cX8_nodes 50 = .ok (.iinc 3 1, 3) := by decide +kernel
theorem dX8_nodes_53 : decode cX8_nodes 53 = .ok (.goto (-17), 3) := by decide +kernel
theorem dX8_nodes_56 : decode cX8_nodes 56 = .ok (.aload_n 0, 1) := by decide +kernel
theorem dX8_nodes_57 : decode cX8_nodes 57 = .ok (.getfield 55, 3) := by decide +kernel
theorem dX8_nodes_60 : decode cX8_nodes 60 = .ok (.iconst 0, 1) := by decide +kernel
theorem dX8_nodes_61 : decode cX8_nodes 61 = .ok (.invokestatic 72, 3) := by decide +kernel
theorem dX8_nodes_64 : decode cX8_nodes 64 = .ok (.aload_n 0, 1) := by decide +kernel
theorem dX8_nodes_65 : decode cX8_nodes 65 = .ok (.iload_n 1, 1) := by decide +kernel
theorem dX8_nodes_66 : decode cX8_nodes 66 = .ok (.putfield 60, 3) := by decide +kernel
theorem dX8_nodes_69 : decode cX8_nodes 69 = .ok (.aload_n 0, 1) := by decide +kernel
theorem dX8_nodes_70 : decode cX8_nodes 70 = .ok (.iconst 0, 1) := by decide +kernel
theorem dX8_nodes_71 : decode cX8_nodes 71 = .ok (.putfield 78, 3) := by decide +kernel
theorem dX8_nodes_74 : decode cX8_nodes 74 = .ok (.aload_n 0, 1) := by decide +kernel
theorem dX8_nodes_75 : decode cX8_nodes 75 = .ok (.iconst 0, 1) := by decide +kernel
theorem dX8_nodes_76 : decode cX8_nodes 76 = .ok (.putfield 81, 3) := by decide +kernel
theorem dX8_nodes_79 : decode cX8_nodes 79 = .ok (.aload_n 0, 1) := by decide +kernel
theorem dX8_nodes_80 : decode cX8_nodes 80 = .ok (.iconst 0, 1) := by decide +kernel
theorem dX8_nodes_81 : decode cX8_nodes 81 = .ok (.putfield 85, 3) := by decide +kernel
theorem dX8_nodes_84 : decode cX8_nodes 84 = .ok (.aload_n 0, 1) := by decide +kernel
theorem dX8_nodes_85 : decode cX8_nodes 85 = .ok (.iconst 0, 1) := by decide +kernel
theorem dX8_nodes_86 : decode cX8_nodes 86 = .ok (.putfield 88, 3) := by decide +kernel
theorem dX8_nodes_89 : decode cX8_nodes 89 = .ok (.aload_n 0, 1) := by decide +kernel
theorem dX8_nodes_90 : decode cX8_nodes 90 = .ok (.iconst 0, 1) := by decide +kernel
theorem dX8_nodes_91 : decode cX8_nodes 91 = .ok (.putfield 91, 3) := by decide +kernel
theorem dX8_nodes_94 : decode cX8_nodes 94 = .ok (.iload_n 2, 1) := by decide +kernel
theorem dX8_nodes_95 : decode cX8_nodes 95 = .ok (.ireturn, 1) := by decide +kernel
theorem dX8_vertex_0 : decode cX8_vertex 0 = .ok (.aload_n 0, 1) := by decide +kernel
theorem dX8_vertex_1 : decode cX8_vertex 1 = .ok (.iload_n 1, 1) := by decide +kernel
theorem dX8_vertex_2 : decode cX8_vertex 2 = .ok (.invokevirtual 94, 3) := by decide +kernel
theorem dX8_vertex_5 : decode cX8_vertex 5 = .ok (.ifCond .ne 5, 3) := by decide +kernel
theorem dX8_vertex_8 : decode cX8_vertex 8 = .ok (.iconst (-1), 1) := by decide +kernel
theorem dX8_vertex_9 : decode cX8_vertex 9 = .ok (.ireturn, 1) := by decide +kernel
theorem dX8_vertex_10 : decode cX8_vertex 10 = .ok (.aload_n 0, 1) := by decide +kernel
theorem dX8_vertex_11 : decode cX8_vertex 11 = .ok (.getfield 85, 3) := by decide +kernel
theorem dX8_vertex_14 : decode cX8_vertex 14 = .ok (.ifCond .eq 6, 3) := by decide +kernel
theorem dX8_vertex_17 : decode cX8_vertex 17 = .ok (.bipush (-2), 2) := by decide +kernel
theorem dX8_vertex_19 : decode cX8_vertex 19 = .ok (.ireturn, 1) := by decide +kernel
theorem dX8_vertex_20 : decode cX8_vertex 20 = .ok (.aload_n 0, 1) := by decide +kernel
theorem dX8_vertex_21 : decode cX8_vertex 21 = .ok (.getfield 12, 3) := by decide +kernel
theorem dX8_vertex_24 : decode cX8_vertex 24 = .ok (.getfield 64, 3) := by decide +kernel
theorem dX8_vertex_27 : decode cX8_vertex 27 = .ok (.bipush 16, 2) := by decide +kernel
theorem dX8_vertex_29 : decode cX8_vertex 29 = .ok (.if_icmp .lt 6, 3) := by decide +kernel
theorem dX8_vertex_32 : decode cX8_vertex 32 = .ok (.bipush (-3), 2) := by decide +kernel
theorem dX8_vertex_34 : decode cX8_vertex 34 = .ok (.ireturn, 1) := by decide +kernel
theorem dX8_vertex_35 : decode cX8_vertex 35 = .ok (.aload_n 0, 1) := by decide +kernel
theorem dX8_vertex_36 : decode cX8_vertex 36 = .ok (.getfield 12, 3) := by decide +kernel
theorem dX8_vertex_39 : decode cX8_vertex 39 = .ok (.iload_n 1, 1) := by decide +kernel
theorem dX8_vertex_40 : decode cX8_vertex 40 = .ok (.iload_n 2, 1) := by decide +kernel
theorem dX8_vertex_41 : decode cX8_vertex 41 = .ok (.invokevirtual 98, 3) := by decide +kernel
theorem dX8_vertex_44 : decode cX8_vertex 44 = .ok (.istore_n 3, 1) := by decide +kernel
theorem dX8_vertex_45 : decode cX8_vertex 45 = .ok (.aload_n 0, 1) := by decide +kernel
theorem dX8_vertex_46 : decode cX8_vertex 46 = .ok (.getfield 21, 3) := by decide +kernel
theorem dX8_vertex_49 : decode cX8_vertex 49 = .ok (.iload_n 3, 1) := by decide +kernel
theorem dX8_vertex_50 : decode cX8_vertex 50 = .ok (.iload_n 2, 1) := by decide +kernel
theorem dX8_vertex_51 : decode cX8_vertex 51 = .ok (.invokevirtual 102, 3) := by decide +kernel
theorem dX8_vertex_54 : decode cX8_vertex 54 = .ok (.iload_n 3, 1) := by decide +kernel
theorem dX8_vertex_55 : decode cX8_vertex 55 = .ok (.ireturn, 1) := by decide +kernel
theorem dX8_arc_0 : decode cX8_arc 0 = .ok (.aload_n 0, 1) := by decide +kernel
theorem dX8_arc_1 : decode cX8_arc 1 = .ok (.iload_n 1, 1) := by decide +kernel
theorem dX8_arc_2 : decode cX8_arc 2 = .ok (.invokevirtual 106, 3) := by decide +kernel
theorem dX8_arc_5 : decode cX8_arc 5 = .ok (.ifCond .eq 25, 3) := by decide +kernel
theorem dX8_arc_8 : decode cX8_arc 8 = .ok (.aload_n 0, 1) := by decide +kernel
theorem dX8_arc_9 : decode cX8_arc 9 = .ok (.iload_n 2, 1) := by decide +kernel
theorem dX8_arc_10 : decode cX8_arc 10 = .ok (.invokevirtual 106, 3) := by decide +kernel
theorem dX8_arc_13 : decode cX8_arc 13 = .ok (.ifCond .eq 17, 3) := by decide +kernel
theorem dX8_arc_16 : decode cX8_arc 16 = .ok (.iload_n 3, 1) := by decide +kernel
theorem dX8_arc_17 : decode cX8_arc 17 = .ok (.sipush (-1000), 3) := by decide +kernel
theorem dX8_arc_20 : decode cX8_arc 20 = .ok (.if_icmp .lt 10, 3) := by decide +kernel
theorem dX8_arc_23 : decode cX8_arc 23 = .ok (.iload_n 3, 1) := by decide +kernel
theorem dX8_arc_24 : decode cX8_arc 24 = .ok (.sipush 1000, 3) := by decide +kernel
theorem dX8_arc_27 : decode cX8_arc 27 = .ok (.if_icmp .le 5, 3) := by decide +kernel
theorem dX8_arc_30 : decode cX8_arc 30 = .ok (.iconst (-1), 1) := by decide +kernel
theorem dX8_arc_31 : decode cX8_arc 31 = .ok (.ireturn, 1) := by decide +kernel
theorem dX8_arc_32 : decode cX8_arc 32 = .ok (.aload_n 0, 1) := by decide +kernel
theorem dX8_arc_33 : decode cX8_arc 33 = .ok (.getfield 85, 3) := by decide +kernel
theorem dX8_arc_36 : decode cX8_arc 36 = .ok (.ifCond .eq 6, 3) := by decide +kernel
theorem dX8_arc_39 : decode cX8_arc 39 = .ok (.bipush (-2), 2) := by decide +kernel
theorem dX8_arc_41 : decode cX8_arc 41 = .ok (.ireturn, 1) := by decide +kernel
theorem dX8_arc_42 : decode cX8_arc 42 = .ok (.aload_n 0, 1) := by decide +kernel
theorem dX8_arc_43 : decode cX8_arc 43 = .ok (.getfield 12, 3) := by decide +kernel
theorem dX8_arc_46 : decode cX8_arc 46 = .ok (.getfield 109, 3) := by decide +kernel
theorem dX8_arc_49 : decode cX8_arc 49 = .ok (.bipush 40, 2) := by decide +kernel
theorem dX8_arc_51 : decode cX8_arc 51 = .ok (.if_icmp .lt 6, 3) := by decide +kernel
theorem dX8_arc_54 : decode cX8_arc 54 = .ok (.bipush (-3), 2) := by decide +kernel
theorem dX8_arc_56 : decode cX8_arc 56 = .ok (.ireturn, 1) := by decide +kernel
theorem dX8_arc_57 : decode cX8_arc 57 = .ok (.aload_n 0, 1) := by decide +kernel
theorem dX8_arc_58 : decode cX8_arc 58 = .ok (.getfield 12, 3) := by decide +kernel
theorem dX8_arc_61 : decode cX8_arc 61 = .ok (.iload_n 1, 1) := by decide +kernel
theorem dX8_arc_62 : decode cX8_arc 62 = .ok (.iload_n 2, 1) := by decide +kernel
theorem dX8_arc_63 : decode cX8_arc 63 = .ok (.iload_n 3, 1) := by decide +kernel
theorem dX8_arc_64 : decode cX8_arc 64 = .ok (.invokevirtual 112, 3) := by decide +kernel
theorem dX8_arc_67 : decode cX8_arc 67 = .ok (.ireturn, 1) := by decide +kernel
theorem dX8_kind_0 : decode cX8_kind 0 = .ok (.iload_n 1, 1) := by decide +kernel
theorem dX8_kind_1 : decode cX8_kind 1 = .ok (.ifCond .lt 8, 3) := by decide +kernel
theorem dX8_kind_4 : decode cX8_kind 4 = .ok (.iload_n 1, 1) := by decide +kernel
theorem dX8_kind_5 : decode cX8_kind 5 = .ok (.iconst 3, 1) := by decide +kernel
theorem dX8_kind_6 : decode cX8_kind 6 = .ok (.if_icmp .le 5, 3) := by decide +kernel
theorem dX8_kind_9 : decode cX8_kind 9 = .ok (.iconst (-1), 1) := by decide +kernel
theorem dX8_kind_10 : decode cX8_kind 10 = .ok (.ireturn, 1) := by decide +kernel
theorem dX8_kind_11 : decode cX8_kind 11 = .ok (.aload_n 0, 1) := by decide +kernel
theorem dX8_kind_12 : decode cX8_kind 12 = .ok (.getfield 85, 3) := by decide +kernel
theorem dX8_kind_15 : decode cX8_kind 15 = .ok (.ifCond .eq 6, 3) := by decide +kernel
theorem dX8_kind_18 : decode cX8_kind 18 = .ok (.bipush (-2), 2) := by decide +kernel
theorem dX8_kind_20 : decode cX8_kind 20 = .ok (.ireturn, 1) := by decide +kernel
theorem dX8_kind_21 : decode cX8_kind 21 = .ok (.aload_n 0, 1) := by decide +kernel
theorem dX8_kind_22 : decode cX8_kind 22 = .ok (.getfield 12, 3) := by decide +kernel
theorem dX8_kind_25 : decode cX8_kind 25 = .ok (.getfield 116, 3) := by decide +kernel
theorem dX8_kind_28 : decode cX8_kind 28 = .ok (.istore_n 2, 1) := by decide +kernel
theorem dX8_kind_29 : decode cX8_kind 29 = .ok (.aload_n 0, 1) := by decide +kernel
theorem dX8_kind_30 : decode cX8_kind 30 = .ok (.getfield 12, 3) := by decide +kernel
theorem dX8_kind_33 : decode cX8_kind 33 = .ok (.iload_n 1, 1) := by decide +kernel
theorem dX8_kind_34 : decode cX8_kind 34 = .ok (.putfield 116, 3) := by decide +kernel
theorem dX8_kind_37 : decode cX8_kind 37 = .ok (.aload_n 0, 1) := by decide +kernel
theorem dX8_kind_38 : decode cX8_kind 38 = .ok (.iconst 0, 1) := by decide +kernel
theorem dX8_kind_39 : decode cX8_kind 39 = .ok (.putfield 81, 3) := by decide +kernel
theorem dX8_kind_42 : decode cX8_kind 42 = .ok (.iload_n 2, 1) := by decide +kernel
theorem dX8_kind_43 : decode cX8_kind 43 = .ok (.ireturn, 1) := by decide +kernel
theorem dX8_joined_0 : decode cX8_joined 0 = .ok (.iload_n 1, 1) := by decide +kernel
theorem dX8_joined_1 : decode cX8_joined 1 = .ok (.ifCond .eq 17, 3) := by decide +kernel
theorem dX8_joined_4 : decode cX8_joined 4 = .ok (.aload_n 0, 1) := by decide +kernel
theorem dX8_joined_5 : decode cX8_joined 5 = .ok (.getfield 12, 3) := by decide +kernel
theorem dX8_joined_8 : decode cX8_joined 8 = .ok (.getfield 116, 3) := by decide +kernel
theorem dX8_joined_11 : decode cX8_joined 11 = .ok (.iconst 3, 1) := by decide +kernel
theorem dX8_joined_12 : decode cX8_joined 12 = .ok (.if_icmp .ne 6, 3) := by decide +kernel
theorem dX8_joined_15 : decode cX8_joined 15 = .ok (.bipush (-2), 2) := by decide +kernel
theorem dX8_joined_17 : decode cX8_joined 17 = .ok (.ireturn, 1) := by decide +kernel
theorem dX8_joined_18 : decode cX8_joined 18 = .ok (.aload_n 0, 1) := by decide +kernel
theorem dX8_joined_19 : decode cX8_joined 19 = .ok (.getfield 81, 3) := by decide +kernel
theorem dX8_joined_22 : decode cX8_joined 22 = .ok (.ifCond .eq 7, 3) := by decide +kernel
theorem dX8_joined_25 : decode cX8_joined 25 = .ok (.iconst 1, 1) := by decide +kernel
theorem dX8_joined_26 : decode cX8_joined 26 = .ok (.goto 4, 3) := by decide +kernel
theorem dX8_joined_29 : decode cX8_joined 29 = .ok (.iconst 0, 1) := by decide +kernel
theorem dX8_joined_30 : decode cX8_joined 30 = .ok (.istore_n 2, 1) := by decide +kernel
theorem dX8_joined_31 : decode cX8_joined 31 = .ok (.aload_n 0, 1) := by decide +kernel
theorem dX8_joined_32 : decode cX8_joined 32 = .ok (.iload_n 1, 1) := by decide +kernel
theorem dX8_joined_33 : decode cX8_joined 33 = .ok (.putfield 81, 3) := by decide +kernel
theorem dX8_joined_36 : decode cX8_joined 36 = .ok (.iload_n 2, 1) := by decide +kernel
theorem dX8_joined_37 : decode cX8_joined 37 = .ok (.ireturn, 1) := by decide +kernel
theorem dX8_every_0 : decode cX8_every 0 = .ok (.iload_n 1, 1) := by decide +kernel
theorem dX8_every_1 : decode cX8_every 1 = .ok (.ifCond .lt 9, 3) := by decide +kernel
theorem dX8_every_4 : decode cX8_every 4 = .ok (.iload_n 1, 1) := by decide +kernel
theorem dX8_every_5 : decode cX8_every 5 = .ok (.bipush 50, 2) := by decide +kernel
theorem dX8_every_7 : decode cX8_every 7 = .ok (.if_icmp .le 5, 3) := by decide +kernel
theorem dX8_every_10 : decode cX8_every 10 = .ok (.iconst (-1), 1) := by decide +kernel
theorem dX8_every_11 : decode cX8_every 11 = .ok (.ireturn, 1) := by decide +kernel
theorem dX8_every_12 : decode cX8_every 12 = .ok (.aload_n 0, 1) := by decide +kernel
theorem dX8_every_13 : decode cX8_every 13 = .ok (.getfield 85, 3) := by decide +kernel
theorem dX8_every_16 : decode cX8_every 16 = .ok (.ifCond .eq 6, 3) := by decide +kernel
theorem dX8_every_19 : decode cX8_every 19 = .ok (.bipush (-2), 2) := by decide +kernel
theorem dX8_every_21 : decode cX8_every 21 = .ok (.ireturn, 1) := by decide +kernel
theorem dX8_every_22 : decode cX8_every 22 = .ok (.aload_n 0, 1) := by decide +kernel
theorem dX8_every_23 : decode cX8_every 23 = .ok (.getfield 78, 3) := by decide +kernel
theorem dX8_every_26 : decode cX8_every 26 = .ok (.istore_n 2, 1) := by decide +kernel
theorem dX8_every_27 : decode cX8_every 27 = .ok (.aload_n 0, 1) := by decide +kernel
theorem dX8_every_28 : decode cX8_every 28 = .ok (.iload_n 1, 1) := by decide +kernel
theorem dX8_every_29 : decode cX8_every 29 = .ok (.putfield 78, 3) := by decide +kernel
theorem dX8_every_32 : decode cX8_every 32 = .ok (.iload_n 2, 1) := by decide +kernel
theorem dX8_every_33 : decode cX8_every 33 = .ok (.ireturn, 1) := by decide +kernel
theorem dX8_start_0 : decode cX8_start 0 = .ok (.aload_n 0, 1) := by decide +kernel
theorem dX8_start_1 : decode cX8_start 1 = .ok (.getfield 85, 3) := by decide +kernel
theorem dX8_start_4 : decode cX8_start 4 = .ok (.ifCond .eq 6, 3) := by decide +kernel
theorem dX8_start_7 : decode cX8_start 7 = .ok (.bipush (-2), 2) := by decide +kernel
theorem dX8_start_9 : decode cX8_start 9 = .ok (.ireturn, 1) := by decide +kernel
theorem dX8_start_10 : decode cX8_start 10 = .ok (.aload_n 0, 1) := by decide +kernel
theorem dX8_start_11 : decode cX8_start 11 = .ok (.iconst 1, 1) := by decide +kernel
theorem dX8_start_12 : decode cX8_start 12 = .ok (.putfield 85, 3) := by decide +kernel
theorem dX8_start_15 : decode cX8_start 15 = .ok (.iconst 0, 1) := by decide +kernel
theorem dX8_start_16 : decode cX8_start 16 = .ok (.istore_n 1, 1) := by decide +kernel
theorem dX8_start_17 : decode cX8_start 17 = .ok (.iload_n 1, 1) := by decide +kernel
theorem dX8_start_18 : decode cX8_start 18 = .ok (.aload_n 0, 1) := by decide +kernel
theorem dX8_start_19 : decode cX8_start 19 = .ok (.getfield 60, 3) := by decide +kernel
theorem dX8_start_22 : decode cX8_start 22 = .ok (.if_icmp .ge 15, 3) := by decide +kernel
theorem dX8_start_25 : decode cX8_start 25 = .ok (.aload_n 0, 1) := by decide +kernel
theorem dX8_start_26 : decode cX8_start 26 = .ok (.iload_n 1, 1) := by decide +kernel
theorem dX8_start_27 : decode cX8_start 27 = .ok (.iconst 0, 1) := by decide +kernel
theorem dX8_start_28 : decode cX8_start 28 = .ok (.invokevirtual 119, 3) := by decide +kernel
theorem dX8_start_31 : decode cX8_start 31 = .ok (.iinc 1 1, 3) := by decide +kernel
theorem dX8_start_34 : decode cX8_start 34 = .ok (.goto (-17), 3) := by decide +kernel
theorem dX8_start_37 : decode cX8_start 37 = .ok (.aload_n 0, 1) := by decide +kernel
theorem dX8_start_38 : decode cX8_start 38 = .ok (.getfield 45, 3) := by decide +kernel
theorem dX8_start_41 : decode cX8_start 41 = .ok (.getfield 122, 3) := by decide +kernel
theorem dX8_start_44 : decode cX8_start 44 = .ok (.ireturn, 1) := by decide +kernel
theorem dX8_letter_0 : decode cX8_letter 0 = .ok (.aload_n 0, 1) := by decide +kernel
theorem dX8_letter_1 : decode cX8_letter 1 = .ok (.getfield 45, 3) := by decide +kernel
theorem dX8_letter_4 : decode cX8_letter 4 = .ok (.iload_n 1, 1) := by decide +kernel
theorem dX8_letter_5 : decode cX8_letter 5 = .ok (.invokevirtual 125, 3) := by decide +kernel
theorem dX8_letter_8 : decode cX8_letter 8 = .ok (.astore_n 3, 1) := by decide +kernel
theorem dX8_letter_9 : decode cX8_letter 9 = .ok (.aload_n 3, 1) := by decide +kernel
theorem dX8_letter_10 : decode cX8_letter 10 = .ok (.ifnonnull 5, 3) := by decide +kernel
theorem dX8_letter_13 : decode cX8_letter 13 = .ok (.iconst (-1), 1) := by decide +kernel
theorem dX8_letter_14 : decode cX8_letter 14 = .ok (.ireturn, 1) := by decide +kernel
theorem dX8_letter_15 : decode cX8_letter 15 = .ok (.iload_n 2, 1) := by decide +kernel
theorem dX8_letter_16 : decode cX8_letter 16 = .ok (.tableswitch 71 0 5 #[40, 45, 50, 55, 60, 66], 40) := by decide +kernel
theorem dX8_letter_56 : decode cX8_letter 56 = .ok (.aload_n 3, 1) := by decide +kernel
theorem dX8_letter_57 : decode cX8_letter 57 = .ok (.getfield 129, 3) := by decide +kernel
theorem dX8_letter_60 : decode cX8_letter 60 = .ok (.ireturn, 1) := by decide +kernel
theorem dX8_letter_61 : decode cX8_letter 61 = .ok (.aload_n 3, 1) := by decide +kernel
theorem dX8_letter_62 : decode cX8_letter 62 = .ok (.getfield 134, 3) := by decide +kernel
theorem dX8_letter_65 : decode cX8_letter 65 = .ok (.ireturn, 1) := by decide +kernel
theorem dX8_letter_66 : decode cX8_letter 66 = .ok (.aload_n 3, 1) := by decide +kernel
theorem dX8_letter_67 : decode cX8_letter 67 = .ok (.getfield 137, 3) := by decide +kernel
theorem dX8_letter_70 : decode cX8_letter 70 = .ok (.ireturn, 1) := by decide +kernel
theorem dX8_letter_71 : decode cX8_letter 71 = .ok (.aload_n 3, 1) := by decide +kernel
theorem dX8_letter_72 : decode cX8_letter 72 = .ok (.getfield 140, 3) := by decide +kernel
theorem dX8_letter_75 : decode cX8_letter 75 = .ok (.ireturn, 1) := by decide +kernel
theorem dX8_letter_76 : decode cX8_letter 76 = .ok (.aload_n 3, 1) := by decide +kernel
theorem dX8_letter_77 : decode cX8_letter 77 = .ok (.getfield 141, 3) := by decide +kernel
theorem dX8_letter_80 : decode cX8_letter 80 = .ok (.arraylength, 1) := by decide +kernel
theorem dX8_letter_81 : decode cX8_letter 81 = .ok (.ireturn, 1) := by decide +kernel
theorem dX8_letter_82 : decode cX8_letter 82 = .ok (.aload_n 3, 1) := by decide +kernel
theorem dX8_letter_83 : decode cX8_letter 83 = .ok (.getfield 144, 3) := by decide +kernel
theorem dX8_letter_86 : decode cX8_letter 86 = .ok (.ireturn, 1) := by decide +kernel
theorem dX8_letter_87 : decode cX8_letter 87 = .ok (.iconst (-1), 1) := by decide +kernel
theorem dX8_letter_88 : decode cX8_letter 88 = .ok (.ireturn, 1) := by decide +kernel
theorem dX8_entry_0 : decode cX8_entry 0 = .ok (.aload_n 0, 1) := by decide +kernel
theorem dX8_entry_1 : decode cX8_entry 1 = .ok (.getfield 45, 3) := by decide +kernel
theorem dX8_entry_4 : decode cX8_entry 4 = .ok (.iload_n 1, 1) := by decide +kernel
theorem dX8_entry_5 : decode cX8_entry 5 = .ok (.invokevirtual 125, 3) := by decide +kernel
theorem dX8_entry_8 : decode cX8_entry 8 = .ok (.astore 4, 2) := by decide +kernel
theorem dX8_entry_10 : decode cX8_entry 10 = .ok (.aload 4, 2) := by decide +kernel
theorem dX8_entry_12 : decode cX8_entry 12 = .ok (.ifnull 17, 3) := by decide +kernel
theorem dX8_entry_15 : decode cX8_entry 15 = .ok (.iload_n 2, 1) := by decide +kernel
theorem dX8_entry_16 : decode cX8_entry 16 = .ok (.ifCond .lt 13, 3) := by decide +kernel
theorem dX8_entry_19 : decode cX8_entry 19 = .ok (.iload_n 2, 1) := by decide +kernel
theorem dX8_entry_20 : decode cX8_entry 20 = .ok (.aload 4, 2) := by decide +kernel
theorem dX8_entry_22 : decode cX8_entry 22 = .ok (.getfield 141, 3) := by decide +kernel
theorem dX8_entry_25 : decode cX8_entry 25 = .ok (.arraylength, 1) := by decide +kernel
theorem dX8_entry_26 : decode cX8_entry 26 = .ok (.if_icmp .lt 7, 3) := by decide +kernel
theorem dX8_entry_29 : decode cX8_entry 29 = .ok (.ldc2_w 147, 3) := by decide +kernel
theorem dX8_entry_32 : decode cX8_entry 32 = .ok (.lreturn, 1) := by decide +kernel
theorem dX8_entry_33 : decode cX8_entry 33 = .ok (.iload_n 3, 1) := by decide +kernel
theorem dX8_entry_34 : decode cX8_entry 34 = .ok (.lookupswitch 44 #[(0, 26), (1, 35)], 26) := by decide +kernel
theorem dX8_entry_60 : decode cX8_entry 60 = .ok (.aload 4, 2) := by decide +kernel
theorem dX8_entry_62 : decode cX8_entry 62 = .ok (.getfield 141, 3) := by decide +kernel
theorem dX8_entry_65 : decode cX8_entry 65 = .ok (.iload_n 2, 1) := by decide +kernel
theorem dX8_entry_66 : decode cX8_entry 66 = .ok (.iaload, 1) := by decide +kernel
theorem dX8_entry_67 : decode cX8_entry 67 = .ok (.i2l, 1) := by decide +kernel
theorem dX8_entry_68 : decode cX8_entry 68 = .ok (.lreturn, 1) := by decide +kernel
theorem dX8_entry_69 : decode cX8_entry 69 = .ok (.aload 4, 2) := by decide +kernel
theorem dX8_entry_71 : decode cX8_entry 71 = .ok (.getfield 149, 3) := by decide +kernel
theorem dX8_entry_74 : decode cX8_entry 74 = .ok (.iload_n 2, 1) := by decide +kernel
theorem dX8_entry_75 : decode cX8_entry 75 = .ok (.iaload, 1) := by decide +kernel
theorem dX8_entry_76 : decode cX8_entry 76 = .ok (.i2l, 1) := by decide +kernel
theorem dX8_entry_77 : decode cX8_entry 77 = .ok (.lreturn, 1) := by decide +kernel
theorem dX8_entry_78 : decode cX8_entry 78 = .ok (.ldc2_w 147, 3) := by decide +kernel
theorem dX8_entry_81 : decode cX8_entry 81 = .ok (.lreturn, 1) := by decide +kernel
theorem dX8_deliver_0 : decode cX8_deliver 0 = .ok (.aload_n 0, 1) := by decide +kernel
theorem dX8_deliver_1 : decode cX8_deliver 1 = .ok (.getfield 45, 3) := by decide +kernel
theorem dX8_deliver_4 : decode cX8_deliver 4 = .ok (.iload_n 1, 1) := by decide +kernel
theorem dX8_deliver_5 : decode cX8_deliver 5 = .ok (.invokevirtual 125, 3) := by decide +kernel
theorem dX8_deliver_8 : decode cX8_deliver 8 = .ok (.astore_n 2, 1) := by decide +kernel
theorem dX8_deliver_9 : decode cX8_deliver 9 = .ok (.aload_n 2, 1) := by decide +kernel
theorem dX8_deliver_10 : decode cX8_deliver 10 = .ok (.ifnonnull 5, 3) := by decide +kernel
theorem dX8_deliver_13 : decode cX8_deliver 13 = .ok (.iconst (-1), 1) := by decide +kernel
theorem dX8_deliver_14 : decode cX8_deliver 14 = .ok (.ireturn, 1) := by decide +kernel
theorem dX8_deliver_15 : decode cX8_deliver 15 = .ok (.aload_n 0, 1) := by decide +kernel
theorem dX8_deliver_16 : decode cX8_deliver 16 = .ok (.getfield 45, 3) := by decide +kernel
theorem dX8_deliver_19 : decode cX8_deliver 19 = .ok (.iload_n 1, 1) := by decide +kernel
theorem dX8_deliver_20 : decode cX8_deliver 20 = .ok (.invokevirtual 152, 3) := by decide +kernel
theorem dX8_deliver_23 : decode cX8_deliver 23 = .ok (.aload_n 0, 1) := by decide +kernel
theorem dX8_deliver_24 : decode cX8_deliver 24 = .ok (.aload_n 2, 1) := by decide +kernel
theorem dX8_deliver_25 : decode cX8_deliver 25 = .ok (.invokevirtual 156, 3) := by decide +kernel
theorem dX8_deliver_28 : decode cX8_deliver 28 = .ok (.istore_n 3, 1) := by decide +kernel
theorem dX8_deliver_29 : decode cX8_deliver 29 = .ok (.aload_n 0, 1) := by decide +kernel
theorem dX8_deliver_30 : decode cX8_deliver 30 = .ok (.getfield 55, 3) := by decide +kernel
theorem dX8_deliver_33 : decode cX8_deliver 33 = .ok (.iload_n 3, 1) := by decide +kernel
theorem dX8_deliver_34 : decode cX8_deliver 34 = .ok (.dup2, 1) := by decide +kernel
theorem dX8_deliver_35 : decode cX8_deliver 35 = .ok (.iaload, 1) := by decide +kernel
theorem dX8_deliver_36 : decode cX8_deliver 36 = .ok (.iconst 1, 1) := by decide +kernel
theorem dX8_deliver_37 : decode cX8_deliver 37 = .ok (.iadd, 1) := by decide +kernel
theorem dX8_deliver_38 : decode cX8_deliver 38 = .ok (.iastore, 1) := by decide +kernel
theorem dX8_deliver_39 : decode cX8_deliver 39 = .ok (.iload_n 3, 1) := by decide +kernel
theorem dX8_deliver_40 : decode cX8_deliver 40 = .ok (.ifCond .ne 54, 3) := by decide +kernel
theorem dX8_deliver_43 : decode cX8_deliver 43 = .ok (.aload_n 0, 1) := by decide +kernel
theorem dX8_deliver_44 : decode cX8_deliver 44 = .ok (.getfield 51, 3) := by decide +kernel
theorem dX8_deliver_47 : decode cX8_deliver 47 = .ok (.aload_n 2, 1) := by decide +kernel
theorem dX8_deliver_48 : decode cX8_deliver 48 = .ok (.getfield 134, 3) := by decide +kernel
theorem dX8_deliver_51 : decode cX8_deliver 51 = .ok (.aaload, 1) := by decide +kernel
theorem dX8_deliver_52 : decode cX8_deliver 52 = .ok (.astore 4, 2) := by decide +kernel
theorem dX8_deliver_54 : decode cX8_deliver 54 = .ok (.aload 4, 2) := by decide +kernel
theorem dX8_deliver_56 : decode cX8_deliver 56 = .ok (.aload_n 2, 1) := by decide +kernel
theorem dX8_deliver_57 : decode cX8_deliver 57 = .ok (.invokevirtual 160, 3) := by decide +kernel
theorem dX8_deliver_60 : decode cX8_deliver 60 = .ok (.iconst 0, 1) := by decide +kernel
theorem dX8_deliver_61 : decode cX8_deliver 61 = .ok (.istore 5, 2) := by decide +kernel
theorem dX8_deliver_63 : decode cX8_deliver 63 = .ok (.iload 5, 2) := by decide +kernel
theorem dX8_deliver_65 : decode cX8_deliver 65 = .ok (.sipush 200, 3) := by decide +kernel
theorem dX8_deliver_68 : decode cX8_deliver 68 = .ok (.if_icmp .gt 26, 3) := by decide +kernel
theorem dX8_deliver_71 : decode cX8_deliver 71 = .ok (.aload_n 0, 1) := by decide +kernel
theorem dX8_deliver_72 : decode cX8_deliver 72 = .ok (.aload 4, 2) := by decide +kernel
theorem dX8_deliver_74 : decode cX8_deliver 74 = .ok (.invokevirtual 164, 3) := by decide +kernel
theorem dX8_deliver_77 : decode cX8_deliver 77 = .ok (.ifCond .eq 17, 3) := by decide +kernel
theorem dX8_deliver_80 : decode cX8_deliver 80 = .ok (.aload_n 0, 1) := by decide +kernel
theorem dX8_deliver_81 : decode cX8_deliver 81 = .ok (.aload_n 2, 1) := by decide +kernel
theorem dX8_deliver_82 : decode cX8_deliver 82 = .ok (.getfield 134, 3) := by decide +kernel
theorem dX8_deliver_85 : decode cX8_deliver 85 = .ok (.invokevirtual 168, 3) := by decide +kernel
theorem dX8_deliver_88 : decode cX8_deliver 88 = .ok (.iinc 5 1, 3) := by decide +kernel
theorem dX8_deliver_91 : decode cX8_deliver 91 = .ok (.goto (-28), 3) := by decide +kernel
theorem dX8_deliver_94 : decode cX8_deliver 94 = .ok (.iload_n 3, 1) := by decide +kernel
theorem dX8_deliver_95 : decode cX8_deliver 95 = .ok (.ireturn, 1) := by decide +kernel
theorem dX8_lose_0 : decode cX8_lose 0 = .ok (.aload_n 0, 1) := by decide +kernel
theorem dX8_lose_1 : decode cX8_lose 1 = .ok (.getfield 45, 3) := by decide +kernel
theorem dX8_lose_4 : decode cX8_lose 4 = .ok (.iload_n 1, 1) := by decide +kernel
theorem dX8_lose_5 : decode cX8_lose 5 = .ok (.invokevirtual 125, 3) := by decide +kernel
theorem dX8_lose_8 : decode cX8_lose 8 = .ok (.ifnonnull 5, 3) := by decide +kernel
theorem dX8_lose_11 : decode cX8_lose 11 = .ok (.iconst (-1), 1) := by decide +kernel
theorem dX8_lose_12 : decode cX8_lose 12 = .ok (.ireturn, 1) := by decide +kernel
theorem dX8_lose_13 : decode cX8_lose 13 = .ok (.aload_n 0, 1) := by decide +kernel
theorem dX8_lose_14 : decode cX8_lose 14 = .ok (.getfield 45, 3) := by decide +kernel
theorem dX8_lose_17 : decode cX8_lose 17 = .ok (.iload_n 1, 1) := by decide +kernel
theorem dX8_lose_18 : decode cX8_lose 18 = .ok (.invokevirtual 152, 3) := by decide +kernel
theorem dX8_lose_21 : decode cX8_lose 21 = .ok (.aload_n 0, 1) := by decide +kernel
theorem dX8_lose_22 : decode cX8_lose 22 = .ok (.getfield 45, 3) := by decide +kernel
theorem dX8_lose_25 : decode cX8_lose 25 = .ok (.getfield 122, 3) := by decide +kernel
theorem dX8_lose_28 : decode cX8_lose 28 = .ok (.ireturn, 1) := by decide +kernel
theorem dX8_copy_0 : decode cX8_copy 0 = .ok (.aload_n 0, 1) := by decide +kernel
theorem dX8_copy_1 : decode cX8_copy 1 = .ok (.getfield 45, 3) := by decide +kernel
theorem dX8_copy_4 : decode cX8_copy 4 = .ok (.iload_n 1, 1) := by decide +kernel
theorem dX8_copy_5 : decode cX8_copy 5 = .ok (.invokevirtual 125, 3) := by decide +kernel
theorem dX8_copy_8 : decode cX8_copy 8 = .ok (.astore_n 2, 1) := by decide +kernel
theorem dX8_copy_9 : decode cX8_copy 9 = .ok (.aload_n 2, 1) := by decide +kernel
theorem dX8_copy_10 : decode cX8_copy 10 = .ok (.ifnonnull 5, 3) := by decide +kernel
theorem dX8_copy_13 : decode cX8_copy 13 = .ok (.iconst (-1), 1) := by decide +kernel
theorem dX8_copy_14 : decode cX8_copy 14 = .ok (.ireturn, 1) := by decide +kernel
theorem dX8_copy_15 : decode cX8_copy 15 = .ok (.aload_n 0, 1) := by decide +kernel
theorem dX8_copy_16 : decode cX8_copy 16 = .ok (.getfield 45, 3) := by decide +kernel
theorem dX8_copy_19 : decode cX8_copy 19 = .ok (.aload_n 2, 1) := by decide +kernel
theorem dX8_copy_20 : decode cX8_copy 20 = .ok (.invokevirtual 171, 3) := by decide +kernel
theorem dX8_copy_23 : decode cX8_copy 23 = .ok (.ifCond .eq 13, 3) := by decide +kernel
theorem dX8_copy_26 : decode cX8_copy 26 = .ok (.aload_n 0, 1) := by decide +kernel
theorem dX8_copy_27 : decode cX8_copy 27 = .ok (.getfield 45, 3) := by decide +kernel
theorem dX8_copy_30 : decode cX8_copy 30 = .ok (.getfield 122, 3) := by decide +kernel
theorem dX8_copy_33 : decode cX8_copy 33 = .ok (.goto 5, 3) := by decide +kernel
theorem dX8_copy_36 : decode cX8_copy 36 = .ok (.bipush (-3), 2) := by decide +kernel
theorem dX8_copy_38 : decode cX8_copy 38 = .ok (.ireturn, 1) := by decide +kernel
theorem dX8_resend_0 : decode cX8_resend 0 = .ok (.aload_n 0, 1) := by decide +kernel
theorem dX8_resend_1 : decode cX8_resend 1 = .ok (.iload_n 1, 1) := by decide +kernel
theorem dX8_resend_2 : decode cX8_resend 2 = .ok (.invokevirtual 94, 3) := by decide +kernel
theorem dX8_resend_5 : decode cX8_resend 5 = .ok (.ifCond .eq 16, 3) := by decide +kernel
theorem dX8_resend_8 : decode cX8_resend 8 = .ok (.aload_n 0, 1) := by decide +kernel
theorem dX8_resend_9 : decode cX8_resend 9 = .ok (.iload_n 2, 1) := by decide +kernel
theorem dX8_resend_10 : decode cX8_resend 10 = .ok (.invokevirtual 94, 3) := by decide +kernel
theorem dX8_resend_13 : decode cX8_resend 13 = .ok (.ifCond .eq 8, 3) := by decide +kernel
theorem dX8_resend_16 : decode cX8_resend 16 = .ok (.iload_n 1, 1) := by decide +kernel
theorem dX8_resend_17 : decode cX8_resend 17 = .ok (.iload_n 2, 1) := by decide +kernel
theorem dX8_resend_18 : decode cX8_resend 18 = .ok (.if_icmp .ne 5, 3) := by decide +kernel
theorem dX8_resend_21 : decode cX8_resend 21 = .ok (.iconst (-1), 1) := by decide +kernel
theorem dX8_resend_22 : decode cX8_resend 22 = .ok (.ireturn, 1) := by decide +kernel
theorem dX8_resend_23 : decode cX8_resend 23 = .ok (.aload_n 0, 1) := by decide +kernel
theorem dX8_resend_24 : decode cX8_resend 24 = .ok (.getfield 51, 3) := by decide +kernel
theorem dX8_resend_27 : decode cX8_resend 27 = .ok (.iload_n 1, 1) := by decide +kernel
theorem dX8_resend_28 : decode cX8_resend 28 = .ok (.aaload, 1) := by decide +kernel
theorem dX8_resend_29 : decode cX8_resend 29 = .ok (.astore_n 3, 1) := by decide +kernel
theorem dX8_resend_30 : decode cX8_resend 30 = .ok (.aload_n 0, 1) := by decide +kernel
theorem dX8_resend_31 : decode cX8_resend 31 = .ok (.getfield 85, 3) := by decide +kernel
theorem dX8_resend_34 : decode cX8_resend 34 = .ok (.ifCond .eq 10, 3) := by decide +kernel
theorem dX8_resend_37 : decode cX8_resend 37 = .ok (.aload_n 3, 1) := by decide +kernel
end
section
theorem dX8_resend_38 : decode cX8_resend 38 = .ok (.getfield 175, 3) := by decide +kernel
theorem dX8_resend_41 : decode cX8_resend 41 = .ok (.ifCond .eq 6, 3) := by decide +kernel
theorem dX8_resend_44 : decode cX8_resend 44 = .ok (.bipush (-2), 2) := by decide +kernel
theorem dX8_resend_46 : decode cX8_resend 46 = .ok (.ireturn, 1) := by decide +kernel
theorem dX8_resend_47 : decode cX8_resend 47 = .ok (.iconst 0, 1) := by decide +kernel
theorem dX8_resend_48 : decode cX8_resend 48 = .ok (.istore 4, 2) := by decide +kernel
theorem dX8_resend_50 : decode cX8_resend 50 = .ok (.aload_n 3, 1) := by decide +kernel
theorem dX8_resend_51 : decode cX8_resend 51 = .ok (.getfield 178, 3) := by decide +kernel
theorem dX8_resend_54 : decode cX8_resend 54 = .ok (.iconst 1, 1) := by decide +kernel
theorem dX8_resend_55 : decode cX8_resend 55 = .ok (.isub, 1) := by decide +kernel
theorem dX8_resend_56 : decode cX8_resend 56 = .ok (.istore 5, 2) := by decide +kernel
theorem dX8_resend_58 : decode cX8_resend 58 = .ok (.iload 5, 2) := by decide +kernel
theorem dX8_resend_60 : decode cX8_resend 60 = .ok (.aload_n 3, 1) := by decide +kernel
theorem dX8_resend_61 : decode cX8_resend 61 = .ok (.getfield 178, 3) := by decide +kernel
theorem dX8_resend_64 : decode cX8_resend 64 = .ok (.if_icmp .gt 38, 3) := by decide +kernel
theorem dX8_resend_67 : decode cX8_resend 67 = .ok (.aload_n 3, 1) := by decide +kernel
theorem dX8_resend_68 : decode cX8_resend 68 = .ok (.iload_n 2, 1) := by decide +kernel
theorem dX8_resend_69 : decode cX8_resend 69 = .ok (.iload 5, 2) := by decide +kernel
theorem dX8_resend_71 : decode cX8_resend 71 = .ok (.invokevirtual 179, 3) := by decide +kernel
theorem dX8_resend_74 : decode cX8_resend 74 = .ok (.astore 6, 2) := by decide +kernel
theorem dX8_resend_76 : decode cX8_resend 76 = .ok (.aload 6, 2) := by decide +kernel
theorem dX8_resend_78 : decode cX8_resend 78 = .ok (.ifnull 18, 3) := by decide +kernel
theorem dX8_resend_81 : decode cX8_resend 81 = .ok (.aload_n 0, 1) := by decide +kernel
theorem dX8_resend_82 : decode cX8_resend 82 = .ok (.getfield 45, 3) := by decide +kernel
theorem dX8_resend_85 : decode cX8_resend 85 = .ok (.aload 6, 2) := by decide +kernel
theorem dX8_resend_87 : decode cX8_resend 87 = .ok (.invokevirtual 171, 3) := by decide +kernel
theorem dX8_resend_90 : decode cX8_resend 90 = .ok (.ifCond .eq 6, 3) := by decide +kernel
theorem dX8_resend_93 : decode cX8_resend 93 = .ok (.iinc 4 1, 3) := by decide +kernel
theorem dX8_resend_96 : decode cX8_resend 96 = .ok (.iinc 5 1, 3) := by decide +kernel
theorem dX8_resend_99 : decode cX8_resend 99 = .ok (.goto (-41), 3) := by decide +kernel
theorem dX8_resend_102 : decode cX8_resend 102 = .ok (.iload 4, 2) := by decide +kernel
theorem dX8_resend_104 : decode cX8_resend 104 = .ok (.ireturn, 1) := by decide +kernel
theorem dX8_crash_0 : decode cX8_crash 0 = .ok (.aload_n 0, 1) := by decide +kernel
theorem dX8_crash_1 : decode cX8_crash 1 = .ok (.iload_n 1, 1) := by decide +kernel
theorem dX8_crash_2 : decode cX8_crash 2 = .ok (.invokevirtual 94, 3) := by decide +kernel
theorem dX8_crash_5 : decode cX8_crash 5 = .ok (.ifCond .ne 5, 3) := by decide +kernel
theorem dX8_crash_8 : decode cX8_crash 8 = .ok (.iconst (-1), 1) := by decide +kernel
theorem dX8_crash_9 : decode cX8_crash 9 = .ok (.ireturn, 1) := by decide +kernel
theorem dX8_crash_10 : decode cX8_crash 10 = .ok (.aload_n 0, 1) := by decide +kernel
theorem dX8_crash_11 : decode cX8_crash 11 = .ok (.getfield 85, 3) := by decide +kernel
theorem dX8_crash_14 : decode cX8_crash 14 = .ok (.ifCond .eq 15, 3) := by decide +kernel
theorem dX8_crash_17 : decode cX8_crash 17 = .ok (.aload_n 0, 1) := by decide +kernel
theorem dX8_crash_18 : decode cX8_crash 18 = .ok (.getfield 51, 3) := by decide +kernel
theorem dX8_crash_21 : decode cX8_crash 21 = .ok (.iload_n 1, 1) := by decide +kernel
theorem dX8_crash_22 : decode cX8_crash 22 = .ok (.aaload, 1) := by decide +kernel
theorem dX8_crash_23 : decode cX8_crash 23 = .ok (.getfield 175, 3) := by decide +kernel
theorem dX8_crash_26 : decode cX8_crash 26 = .ok (.ifCond .eq 6, 3) := by decide +kernel
theorem dX8_crash_29 : decode cX8_crash 29 = .ok (.bipush (-2), 2) := by decide +kernel
theorem dX8_crash_31 : decode cX8_crash 31 = .ok (.ireturn, 1) := by decide +kernel
theorem dX8_crash_32 : decode cX8_crash 32 = .ok (.aload_n 0, 1) := by decide +kernel
theorem dX8_crash_33 : decode cX8_crash 33 = .ok (.getfield 51, 3) := by decide +kernel
theorem dX8_crash_36 : decode cX8_crash 36 = .ok (.iload_n 1, 1) := by decide +kernel
theorem dX8_crash_37 : decode cX8_crash 37 = .ok (.aaload, 1) := by decide +kernel
theorem dX8_crash_38 : decode cX8_crash 38 = .ok (.invokevirtual 183, 3) := by decide +kernel
theorem dX8_crash_41 : decode cX8_crash 41 = .ok (.iconst 1, 1) := by decide +kernel
theorem dX8_crash_42 : decode cX8_crash 42 = .ok (.ireturn, 1) := by decide +kernel
theorem dX8_back_0 : decode cX8_back 0 = .ok (.aload_n 0, 1) := by decide +kernel
theorem dX8_back_1 : decode cX8_back 1 = .ok (.getfield 85, 3) := by decide +kernel
theorem dX8_back_4 : decode cX8_back 4 = .ok (.ifCond .eq 10, 3) := by decide +kernel
theorem dX8_back_7 : decode cX8_back 7 = .ok (.aload_n 0, 1) := by decide +kernel
theorem dX8_back_8 : decode cX8_back 8 = .ok (.invokevirtual 186, 3) := by decide +kernel
theorem dX8_back_11 : decode cX8_back 11 = .ok (.ifCond .ne 6, 3) := by decide +kernel
theorem dX8_back_14 : decode cX8_back 14 = .ok (.bipush (-2), 2) := by decide +kernel
theorem dX8_back_16 : decode cX8_back 16 = .ok (.ireturn, 1) := by decide +kernel
theorem dX8_back_17 : decode cX8_back 17 = .ok (.aload_n 0, 1) := by decide +kernel
theorem dX8_back_18 : decode cX8_back 18 = .ok (.invokevirtual 190, 3) := by decide +kernel
theorem dX8_back_21 : decode cX8_back 21 = .ok (.istore_n 1, 1) := by decide +kernel
theorem dX8_back_22 : decode cX8_back 22 = .ok (.aload_n 0, 1) := by decide +kernel
theorem dX8_back_23 : decode cX8_back 23 = .ok (.dup, 1) := by decide +kernel
theorem dX8_back_24 : decode cX8_back 24 = .ok (.getfield 88, 3) := by decide +kernel
theorem dX8_back_27 : decode cX8_back 27 = .ok (.iconst 1, 1) := by decide +kernel
theorem dX8_back_28 : decode cX8_back 28 = .ok (.iadd, 1) := by decide +kernel
theorem dX8_back_29 : decode cX8_back 29 = .ok (.putfield 88, 3) := by decide +kernel
theorem dX8_back_32 : decode cX8_back 32 = .ok (.iconst 0, 1) := by decide +kernel
theorem dX8_back_33 : decode cX8_back 33 = .ok (.istore_n 2, 1) := by decide +kernel
theorem dX8_back_34 : decode cX8_back 34 = .ok (.iload_n 2, 1) := by decide +kernel
theorem dX8_back_35 : decode cX8_back 35 = .ok (.aload_n 0, 1) := by decide +kernel
theorem dX8_back_36 : decode cX8_back 36 = .ok (.getfield 60, 3) := by decide +kernel
theorem dX8_back_39 : decode cX8_back 39 = .ok (.if_icmp .ge 42, 3) := by decide +kernel
theorem dX8_back_42 : decode cX8_back 42 = .ok (.aload_n 0, 1) := by decide +kernel
theorem dX8_back_43 : decode cX8_back 43 = .ok (.getfield 51, 3) := by decide +kernel
theorem dX8_back_46 : decode cX8_back 46 = .ok (.iload_n 2, 1) := by decide +kernel
theorem dX8_back_47 : decode cX8_back 47 = .ok (.aaload, 1) := by decide +kernel
theorem dX8_back_48 : decode cX8_back 48 = .ok (.astore_n 3, 1) := by decide +kernel
theorem dX8_back_49 : decode cX8_back 49 = .ok (.aload_n 3, 1) := by decide +kernel
theorem dX8_back_50 : decode cX8_back 50 = .ok (.iload_n 1, 1) := by decide +kernel
theorem dX8_back_51 : decode cX8_back 51 = .ok (.invokevirtual 194, 3) := by decide +kernel
theorem dX8_back_54 : decode cX8_back 54 = .ok (.aload_n 0, 1) := by decide +kernel
theorem dX8_back_55 : decode cX8_back 55 = .ok (.iload_n 2, 1) := by decide +kernel
theorem dX8_back_56 : decode cX8_back 56 = .ok (.aload_n 3, 1) := by decide +kernel
theorem dX8_back_57 : decode cX8_back 57 = .ok (.getfield 197, 3) := by decide +kernel
theorem dX8_back_60 : decode cX8_back 60 = .ok (.getfield 201, 3) := by decide +kernel
theorem dX8_back_63 : decode cX8_back 63 = .ok (.aload_n 0, 1) := by decide +kernel
theorem dX8_back_64 : decode cX8_back 64 = .ok (.getfield 21, 3) := by decide +kernel
theorem dX8_back_67 : decode cX8_back 67 = .ok (.invokevirtual 204, 3) := by decide +kernel
theorem dX8_back_70 : decode cX8_back 70 = .ok (.aload_n 0, 1) := by decide +kernel
theorem dX8_back_71 : decode cX8_back 71 = .ok (.iload_n 2, 1) := by decide +kernel
theorem dX8_back_72 : decode cX8_back 72 = .ok (.invokevirtual 208, 3) := by decide +kernel
theorem dX8_back_75 : decode cX8_back 75 = .ok (.iinc 2 1, 3) := by decide +kernel
theorem dX8_back_78 : decode cX8_back 78 = .ok (.goto (-44), 3) := by decide +kernel
theorem dX8_back_81 : decode cX8_back 81 = .ok (.iload_n 1, 1) := by decide +kernel
theorem dX8_back_82 : decode cX8_back 82 = .ok (.ireturn, 1) := by decide +kernel
theorem dX8_move_0 : decode cX8_move 0 = .ok (.aload_n 0, 1) := by decide +kernel
theorem dX8_move_1 : decode cX8_move 1 = .ok (.iload_n 1, 1) := by decide +kernel
theorem dX8_move_2 : decode cX8_move 2 = .ok (.invokevirtual 106, 3) := by decide +kernel
theorem dX8_move_5 : decode cX8_move 5 = .ok (.ifCond .eq 11, 3) := by decide +kernel
theorem dX8_move_8 : decode cX8_move 8 = .ok (.aload_n 0, 1) := by decide +kernel
theorem dX8_move_9 : decode cX8_move 9 = .ok (.iload_n 2, 1) := by decide +kernel
theorem dX8_move_10 : decode cX8_move 10 = .ok (.invokevirtual 94, 3) := by decide +kernel
theorem dX8_move_13 : decode cX8_move 13 = .ok (.ifCond .ne 5, 3) := by decide +kernel
theorem dX8_move_16 : decode cX8_move 16 = .ok (.iconst (-1), 1) := by decide +kernel
theorem dX8_move_17 : decode cX8_move 17 = .ok (.ireturn, 1) := by decide +kernel
theorem dX8_move_18 : decode cX8_move 18 = .ok (.aload_n 0, 1) := by decide +kernel
theorem dX8_move_19 : decode cX8_move 19 = .ok (.getfield 85, 3) := by decide +kernel
theorem dX8_move_22 : decode cX8_move 22 = .ok (.ifCond .eq 10, 3) := by decide +kernel
theorem dX8_move_25 : decode cX8_move 25 = .ok (.aload_n 0, 1) := by decide +kernel
theorem dX8_move_26 : decode cX8_move 26 = .ok (.invokevirtual 211, 3) := by decide +kernel
theorem dX8_move_29 : decode cX8_move 29 = .ok (.ifCond .ne 6, 3) := by decide +kernel
theorem dX8_move_32 : decode cX8_move 32 = .ok (.bipush (-2), 2) := by decide +kernel
theorem dX8_move_34 : decode cX8_move 34 = .ok (.ireturn, 1) := by decide +kernel
theorem dX8_move_35 : decode cX8_move 35 = .ok (.aload_n 0, 1) := by decide +kernel
theorem dX8_move_36 : decode cX8_move 36 = .ok (.getfield 12, 3) := by decide +kernel
theorem dX8_move_39 : decode cX8_move 39 = .ok (.getfield 214, 3) := by decide +kernel
theorem dX8_move_42 : decode cX8_move 42 = .ok (.iload_n 1, 1) := by decide +kernel
theorem dX8_move_43 : decode cX8_move 43 = .ok (.iaload, 1) := by decide +kernel
theorem dX8_move_44 : decode cX8_move 44 = .ok (.istore_n 3, 1) := by decide +kernel
theorem dX8_move_45 : decode cX8_move 45 = .ok (.aload_n 0, 1) := by decide +kernel
theorem dX8_move_46 : decode cX8_move 46 = .ok (.getfield 12, 3) := by decide +kernel
theorem dX8_move_49 : decode cX8_move 49 = .ok (.getfield 214, 3) := by decide +kernel
theorem dX8_move_52 : decode cX8_move 52 = .ok (.iload_n 1, 1) := by decide +kernel
theorem dX8_move_53 : decode cX8_move 53 = .ok (.iload_n 2, 1) := by decide +kernel
theorem dX8_move_54 : decode cX8_move 54 = .ok (.iastore, 1) := by decide +kernel
theorem dX8_move_55 : decode cX8_move 55 = .ok (.aload_n 0, 1) := by decide +kernel
theorem dX8_move_56 : decode cX8_move 56 = .ok (.dup, 1) := by decide +kernel
theorem dX8_move_57 : decode cX8_move 57 = .ok (.getfield 88, 3) := by decide +kernel
theorem dX8_move_60 : decode cX8_move 60 = .ok (.iconst 1, 1) := by decide +kernel
theorem dX8_move_61 : decode cX8_move 61 = .ok (.iadd, 1) := by decide +kernel
theorem dX8_move_62 : decode cX8_move 62 = .ok (.putfield 88, 3) := by decide +kernel
theorem dX8_move_65 : decode cX8_move 65 = .ok (.iconst 0, 1) := by decide +kernel
theorem dX8_move_66 : decode cX8_move 66 = .ok (.istore 4, 2) := by decide +kernel
theorem dX8_move_68 : decode cX8_move 68 = .ok (.iload 4, 2) := by decide +kernel
theorem dX8_move_70 : decode cX8_move 70 = .ok (.aload_n 0, 1) := by decide +kernel
theorem dX8_move_71 : decode cX8_move 71 = .ok (.getfield 60, 3) := by decide +kernel
theorem dX8_move_74 : decode cX8_move 74 = .ok (.if_icmp .ge 41, 3) := by decide +kernel
theorem dX8_move_77 : decode cX8_move 77 = .ok (.aload_n 0, 1) := by decide +kernel
theorem dX8_move_78 : decode cX8_move 78 = .ok (.getfield 51, 3) := by decide +kernel
theorem dX8_move_81 : decode cX8_move 81 = .ok (.iload 4, 2) := by decide +kernel
theorem dX8_move_83 : decode cX8_move 83 = .ok (.aaload, 1) := by decide +kernel
theorem dX8_move_84 : decode cX8_move 84 = .ok (.invokevirtual 217, 3) := by decide +kernel
theorem dX8_move_87 : decode cX8_move 87 = .ok (.aload_n 0, 1) := by decide +kernel
theorem dX8_move_88 : decode cX8_move 88 = .ok (.getfield 51, 3) := by decide +kernel
theorem dX8_move_91 : decode cX8_move 91 = .ok (.iload 4, 2) := by decide +kernel
theorem dX8_move_93 : decode cX8_move 93 = .ok (.aaload, 1) := by decide +kernel
theorem dX8_move_94 : decode cX8_move 94 = .ok (.invokevirtual 220, 3) := by decide +kernel
theorem dX8_move_97 : decode cX8_move 97 = .ok (.aload_n 0, 1) := by decide +kernel
theorem dX8_move_98 : decode cX8_move 98 = .ok (.iload 4, 2) := by decide +kernel
theorem dX8_move_100 : decode cX8_move 100 = .ok (.invokevirtual 223, 3) := by decide +kernel
theorem dX8_move_103 : decode cX8_move 103 = .ok (.aload_n 0, 1) := by decide +kernel
theorem dX8_move_104 : decode cX8_move 104 = .ok (.iload 4, 2) := by decide +kernel
theorem dX8_move_106 : decode cX8_move 106 = .ok (.invokevirtual 208, 3) := by decide +kernel
theorem dX8_move_109 : decode cX8_move 109 = .ok (.iinc 4 1, 3) := by decide +kernel
theorem dX8_move_112 : decode cX8_move 112 = .ok (.goto (-44), 3) := by decide +kernel
theorem dX8_move_115 : decode cX8_move 115 = .ok (.iload_n 3, 1) := by decide +kernel
theorem dX8_move_116 : decode cX8_move 116 = .ok (.ireturn, 1) := by decide +kernel
theorem dX8_of_0 : decode cX8_of 0 = .ok (.aload_n 0, 1) := by decide +kernel
theorem dX8_of_1 : decode cX8_of 1 = .ok (.iload_n 1, 1) := by decide +kernel
theorem dX8_of_2 : decode cX8_of 2 = .ok (.invokevirtual 106, 3) := by decide +kernel
theorem dX8_of_5 : decode cX8_of 5 = .ok (.ifCond .ne 7, 3) := by decide +kernel
theorem dX8_of_8 : decode cX8_of 8 = .ok (.ldc2_w 147, 3) := by decide +kernel
theorem dX8_of_11 : decode cX8_of 11 = .ok (.lreturn, 1) := by decide +kernel
theorem dX8_of_12 : decode cX8_of 12 = .ok (.aload_n 0, 1) := by decide +kernel
theorem dX8_of_13 : decode cX8_of 13 = .ok (.getfield 12, 3) := by decide +kernel
theorem dX8_of_16 : decode cX8_of 16 = .ok (.getfield 214, 3) := by decide +kernel
theorem dX8_of_19 : decode cX8_of 19 = .ok (.iload_n 1, 1) := by decide +kernel
theorem dX8_of_20 : decode cX8_of 20 = .ok (.iaload, 1) := by decide +kernel
theorem dX8_of_21 : decode cX8_of 21 = .ok (.istore_n 3, 1) := by decide +kernel
theorem dX8_of_22 : decode cX8_of 22 = .ok (.iload_n 2, 1) := by decide +kernel
theorem dX8_of_23 : decode cX8_of 23 = .ok (.iconst 3, 1) := by decide +kernel
theorem dX8_of_24 : decode cX8_of 24 = .ok (.if_icmp .ne 6, 3) := by decide +kernel
theorem dX8_of_27 : decode cX8_of 27 = .ok (.iload_n 3, 1) := by decide +kernel
theorem dX8_of_28 : decode cX8_of 28 = .ok (.i2l, 1) := by decide +kernel
theorem dX8_of_29 : decode cX8_of 29 = .ok (.lreturn, 1) := by decide +kernel
theorem dX8_of_30 : decode cX8_of 30 = .ok (.aload_n 0, 1) := by decide +kernel
theorem dX8_of_31 : decode cX8_of 31 = .ok (.getfield 51, 3) := by decide +kernel
theorem dX8_of_34 : decode cX8_of 34 = .ok (.iload_n 3, 1) := by decide +kernel
theorem dX8_of_35 : decode cX8_of 35 = .ok (.aaload, 1) := by decide +kernel
theorem dX8_of_36 : decode cX8_of 36 = .ok (.getfield 175, 3) := by decide +kernel
theorem dX8_of_39 : decode cX8_of 39 = .ok (.ifCond .eq 9, 3) := by decide +kernel
theorem dX8_of_42 : decode cX8_of 42 = .ok (.ldc2_w 147, 3) := by decide +kernel
theorem dX8_of_45 : decode cX8_of 45 = .ok (.goto 12, 3) := by decide +kernel
theorem dX8_of_48 : decode cX8_of 48 = .ok (.aload_n 0, 1) := by decide +kernel
theorem dX8_of_49 : decode cX8_of 49 = .ok (.getfield 21, 3) := by decide +kernel
theorem dX8_of_52 : decode cX8_of 52 = .ok (.iload_n 1, 1) := by decide +kernel
theorem dX8_of_53 : decode cX8_of 53 = .ok (.iload_n 2, 1) := by decide +kernel
theorem dX8_of_54 : decode cX8_of 54 = .ok (.invokevirtual 226, 3) := by decide +kernel
theorem dX8_of_57 : decode cX8_of 57 = .ok (.lreturn, 1) := by decide +kernel
theorem dX8_alone_0 : decode cX8_alone 0 = .ok (.aload_n 0, 1) := by decide +kernel
theorem dX8_alone_1 : decode cX8_alone 1 = .ok (.iload_n 1, 1) := by decide +kernel
theorem dX8_alone_2 : decode cX8_alone 2 = .ok (.invokevirtual 106, 3) := by decide +kernel
theorem dX8_alone_5 : decode cX8_alone 5 = .ok (.ifCond .eq 14, 3) := by decide +kernel
theorem dX8_alone_8 : decode cX8_alone 8 = .ok (.iload_n 2, 1) := by decide +kernel
theorem dX8_alone_9 : decode cX8_alone 9 = .ok (.ifCond .lt 10, 3) := by decide +kernel
theorem dX8_alone_12 : decode cX8_alone 12 = .ok (.iload_n 2, 1) := by decide +kernel
theorem dX8_alone_13 : decode cX8_alone 13 = .ok (.sipush 200, 3) := by decide +kernel
theorem dX8_alone_16 : decode cX8_alone 16 = .ok (.if_icmp .le 7, 3) := by decide +kernel
theorem dX8_alone_19 : decode cX8_alone 19 = .ok (.ldc2_w 147, 3) := by decide +kernel
theorem dX8_alone_22 : decode cX8_alone 22 = .ok (.lreturn, 1) := by decide +kernel
theorem dX8_alone_23 : decode cX8_alone 23 = .ok (.iconst 0, 1) := by decide +kernel
theorem dX8_alone_24 : decode cX8_alone 24 = .ok (.istore 4, 2) := by decide +kernel
theorem dX8_alone_26 : decode cX8_alone 26 = .ok (.iload 4, 2) := by decide +kernel
theorem dX8_alone_28 : decode cX8_alone 28 = .ok (.aload_n 0, 1) := by decide +kernel
theorem dX8_alone_29 : decode cX8_alone 29 = .ok (.getfield 12, 3) := by decide +kernel
theorem dX8_alone_32 : decode cX8_alone 32 = .ok (.getfield 64, 3) := by decide +kernel
theorem dX8_alone_35 : decode cX8_alone 35 = .ok (.if_icmp .ge 28, 3) := by decide +kernel
theorem dX8_alone_38 : decode cX8_alone 38 = .ok (.aload_n 0, 1) := by decide +kernel
theorem dX8_alone_39 : decode cX8_alone 39 = .ok (.getfield 25, 3) := by decide +kernel
theorem dX8_alone_42 : decode cX8_alone 42 = .ok (.iload 4, 2) := by decide +kernel
theorem dX8_alone_44 : decode cX8_alone 44 = .ok (.aload_n 0, 1) := by decide +kernel
theorem dX8_alone_45 : decode cX8_alone 45 = .ok (.getfield 12, 3) := by decide +kernel
theorem dX8_alone_48 : decode cX8_alone 48 = .ok (.getfield 230, 3) := by decide +kernel
theorem dX8_alone_51 : decode cX8_alone 51 = .ok (.iload 4, 2) := by decide +kernel
theorem dX8_alone_53 : decode cX8_alone 53 = .ok (.iaload, 1) := by decide +kernel
theorem dX8_alone_54 : decode cX8_alone 54 = .ok (.invokevirtual 102, 3) := by decide +kernel
theorem dX8_alone_57 : decode cX8_alone 57 = .ok (.iinc 4 1, 3) := by decide +kernel
theorem dX8_alone_60 : decode cX8_alone 60 = .ok (.goto (-34), 3) := by decide +kernel
theorem dX8_alone_63 : decode cX8_alone 63 = .ok (.iconst 0, 1) := by decide +kernel
theorem dX8_alone_64 : decode cX8_alone 64 = .ok (.istore 4, 2) := by decide +kernel
theorem dX8_alone_66 : decode cX8_alone 66 = .ok (.iload 4, 2) := by decide +kernel
theorem dX8_alone_68 : decode cX8_alone 68 = .ok (.iload_n 2, 1) := by decide +kernel
theorem dX8_alone_69 : decode cX8_alone 69 = .ok (.if_icmp .ge 13, 3) := by decide +kernel
theorem dX8_alone_72 : decode cX8_alone 72 = .ok (.aload_n 0, 1) := by decide +kernel
theorem dX8_alone_73 : decode cX8_alone 73 = .ok (.invokevirtual 233, 3) := by decide +kernel
theorem dX8_alone_76 : decode cX8_alone 76 = .ok (.iinc 4 1, 3) := by decide +kernel
theorem dX8_alone_79 : decode cX8_alone 79 = .ok (.goto (-13), 3) := by decide +kernel
theorem dX8_alone_82 : decode cX8_alone 82 = .ok (.aload_n 0, 1) := by decide +kernel
theorem dX8_alone_83 : decode cX8_alone 83 = .ok (.getfield 25, 3) := by decide +kernel
theorem dX8_alone_86 : decode cX8_alone 86 = .ok (.iload_n 1, 1) := by decide +kernel
theorem dX8_alone_87 : decode cX8_alone 87 = .ok (.iload_n 3, 1) := by decide +kernel
theorem dX8_alone_88 : decode cX8_alone 88 = .ok (.invokevirtual 226, 3) := by decide +kernel
theorem dX8_alone_91 : decode cX8_alone 91 = .ok (.lreturn, 1) := by decide +kernel
theorem dX8_node_0 : decode cX8_node 0 = .ok (.aload_n 0, 1) := by decide +kernel
theorem dX8_node_1 : decode cX8_node 1 = .ok (.iload_n 1, 1) := by decide +kernel
theorem dX8_node_2 : decode cX8_node 2 = .ok (.invokevirtual 94, 3) := by decide +kernel
theorem dX8_node_5 : decode cX8_node 5 = .ok (.ifCond .ne 5, 3) := by decide +kernel
theorem dX8_node_8 : decode cX8_node 8 = .ok (.iconst (-1), 1) := by decide +kernel
theorem dX8_node_9 : decode cX8_node 9 = .ok (.ireturn, 1) := by decide +kernel
theorem dX8_node_10 : decode cX8_node 10 = .ok (.aload_n 0, 1) := by decide +kernel
theorem dX8_node_11 : decode cX8_node 11 = .ok (.getfield 51, 3) := by decide +kernel
theorem dX8_node_14 : decode cX8_node 14 = .ok (.iload_n 1, 1) := by decide +kernel
theorem dX8_node_15 : decode cX8_node 15 = .ok (.aaload, 1) := by decide +kernel
theorem dX8_node_16 : decode cX8_node 16 = .ok (.astore_n 3, 1) := by decide +kernel
theorem dX8_node_17 : decode cX8_node 17 = .ok (.iload_n 2, 1) := by decide +kernel
theorem dX8_node_18 : decode cX8_node 18 = .ok (.tableswitch 91 0 5 #[38, 43, 56, 69, 74, 83], 38) := by decide +kernel
theorem dX8_node_56 : decode cX8_node 56 = .ok (.aload_n 3, 1) := by decide +kernel
theorem dX8_node_57 : decode cX8_node 57 = .ok (.getfield 178, 3) := by decide +kernel
theorem dX8_node_60 : decode cX8_node 60 = .ok (.ireturn, 1) := by decide +kernel
theorem dX8_node_61 : decode cX8_node 61 = .ok (.aload_n 3, 1) := by decide +kernel
theorem dX8_node_62 : decode cX8_node 62 = .ok (.getfield 236, 3) := by decide +kernel
theorem dX8_node_65 : decode cX8_node 65 = .ok (.ifCond .eq 7, 3) := by decide +kernel
theorem dX8_node_68 : decode cX8_node 68 = .ok (.iconst 1, 1) := by decide +kernel
theorem dX8_node_69 : decode cX8_node 69 = .ok (.goto 4, 3) := by decide +kernel
theorem dX8_node_72 : decode cX8_node 72 = .ok (.iconst 0, 1) := by decide +kernel
theorem dX8_node_73 : decode cX8_node 73 = .ok (.ireturn, 1) := by decide +kernel
theorem dX8_node_74 : decode cX8_node 74 = .ok (.aload_n 3, 1) := by decide +kernel
theorem dX8_node_75 : decode cX8_node 75 = .ok (.getfield 175, 3) := by decide +kernel
theorem dX8_node_78 : decode cX8_node 78 = .ok (.ifCond .eq 7, 3) := by decide +kernel
theorem dX8_node_81 : decode cX8_node 81 = .ok (.iconst 1, 1) := by decide +kernel
theorem dX8_node_82 : decode cX8_node 82 = .ok (.goto 4, 3) := by decide +kernel
theorem dX8_node_85 : decode cX8_node 85 = .ok (.iconst 0, 1) := by decide +kernel
theorem dX8_node_86 : decode cX8_node 86 = .ok (.ireturn, 1) := by decide +kernel
theorem dX8_node_87 : decode cX8_node 87 = .ok (.aload_n 3, 1) := by decide +kernel
theorem dX8_node_88 : decode cX8_node 88 = .ok (.invokevirtual 239, 3) := by decide +kernel
theorem dX8_node_91 : decode cX8_node 91 = .ok (.ireturn, 1) := by decide +kernel
theorem dX8_node_92 : decode cX8_node 92 = .ok (.aload_n 0, 1) := by decide +kernel
theorem dX8_node_93 : decode cX8_node 93 = .ok (.getfield 12, 3) := by decide +kernel
theorem dX8_node_96 : decode cX8_node 96 = .ok (.iload_n 1, 1) := by decide +kernel
theorem dX8_node_97 : decode cX8_node 97 = .ok (.invokevirtual 242, 3) := by decide +kernel
theorem dX8_node_100 : decode cX8_node 100 = .ok (.ireturn, 1) := by decide +kernel
theorem dX8_node_101 : decode cX8_node 101 = .ok (.aload_n 3, 1) := by decide +kernel
theorem dX8_node_102 : decode cX8_node 102 = .ok (.getfield 197, 3) := by decide +kernel
theorem dX8_node_105 : decode cX8_node 105 = .ok (.getfield 246, 3) := by decide +kernel
theorem dX8_node_108 : decode cX8_node 108 = .ok (.ireturn, 1) := by decide +kernel
theorem dX8_node_109 : decode cX8_node 109 = .ok (.iconst (-1), 1) := by decide +kernel
theorem dX8_node_110 : decode cX8_node 110 = .ok (.ireturn, 1) := by decide +kernel
theorem dX8_told_0 : decode cX8_told 0 = .ok (.iload_n 1, 1) := by decide +kernel
theorem dX8_told_1 : decode cX8_told 1 = .ok (.tableswitch 143 0 11 #[63, 71, 79, 84, 92, 100, 105, 112, 119, 126, 133, 138], 63) := by decide +kernel
theorem dX8_told_64 : decode cX8_told 64 = .ok (.aload_n 0, 1) := by decide +kernel
theorem dX8_told_65 : decode cX8_told 65 = .ok (.getfield 12, 3) := by decide +kernel
theorem dX8_told_68 : decode cX8_told 68 = .ok (.getfield 64, 3) := by decide +kernel
theorem dX8_told_71 : decode cX8_told 71 = .ok (.ireturn, 1) := by decide +kernel
theorem dX8_told_72 : decode cX8_told 72 = .ok (.aload_n 0, 1) := by decide +kernel
theorem dX8_told_73 : decode cX8_told 73 = .ok (.getfield 12, 3) := by decide +kernel
theorem dX8_told_76 : decode cX8_told 76 = .ok (.getfield 109, 3) := by decide +kernel
theorem dX8_told_79 : decode cX8_told 79 = .ok (.ireturn, 1) := by decide +kernel
theorem dX8_told_80 : decode cX8_told 80 = .ok (.aload_n 0, 1) := by decide +kernel
theorem dX8_told_81 : decode cX8_told 81 = .ok (.getfield 60, 3) := by decide +kernel
theorem dX8_told_84 : decode cX8_told 84 = .ok (.ireturn, 1) := by decide +kernel
theorem dX8_told_85 : decode cX8_told 85 = .ok (.aload_n 0, 1) := by decide +kernel
theorem dX8_told_86 : decode cX8_told 86 = .ok (.getfield 12, 3) := by decide +kernel
theorem dX8_told_89 : decode cX8_told 89 = .ok (.getfield 116, 3) := by decide +kernel
theorem dX8_told_92 : decode cX8_told 92 = .ok (.ireturn, 1) := by decide +kernel
theorem dX8_told_93 : decode cX8_told 93 = .ok (.aload_n 0, 1) := by decide +kernel
theorem dX8_told_94 : decode cX8_told 94 = .ok (.getfield 45, 3) := by decide +kernel
theorem dX8_told_97 : decode cX8_told 97 = .ok (.getfield 122, 3) := by decide +kernel
theorem dX8_told_100 : decode cX8_told 100 = .ok (.ireturn, 1) := by decide +kernel
theorem dX8_told_101 : decode cX8_told 101 = .ok (.aload_n 0, 1) := by decide +kernel
theorem dX8_told_102 : decode cX8_told 102 = .ok (.getfield 91, 3) := by decide +kernel
theorem dX8_told_105 : decode cX8_told 105 = .ok (.ireturn, 1) := by decide +kernel
theorem dX8_told_106 : decode cX8_told 106 = .ok (.aload_n 0, 1) := by decide +kernel
theorem dX8_told_107 : decode cX8_told 107 = .ok (.getfield 55, 3) := by decide +kernel
theorem dX8_told_110 : decode cX8_told 110 = .ok (.iconst 0, 1) := by decide +kernel
theorem dX8_told_111 : decode cX8_told 111 = .ok (.iaload, 1) := by decide +kernel
theorem dX8_told_112 : decode cX8_told 112 = .ok (.ireturn, 1) := by decide +kernel
theorem dX8_told_113 : decode cX8_told 113 = .ok (.aload_n 0, 1) := by decide +kernel
theorem dX8_told_114 : decode cX8_told 114 = .ok (.getfield 55, 3) := by decide +kernel
theorem dX8_told_117 : decode cX8_told 117 = .ok (.iconst 1, 1) := by decide +kernel
theorem dX8_told_118 : decode cX8_told 118 = .ok (.iaload, 1) := by decide +kernel
theorem dX8_told_119 : decode cX8_told 119 = .ok (.ireturn, 1) := by decide +kernel
theorem dX8_told_120 : decode cX8_told 120 = .ok (.aload_n 0, 1) := by decide +kernel
theorem dX8_told_121 : decode cX8_told 121 = .ok (.getfield 55, 3) := by decide +kernel
theorem dX8_told_124 : decode cX8_told 124 = .ok (.iconst 2, 1) := by decide +kernel
theorem dX8_told_125 : decode cX8_told 125 = .ok (.iaload, 1) := by decide +kernel
theorem dX8_told_126 : decode cX8_told 126 = .ok (.ireturn, 1) := by decide +kernel
theorem dX8_told_127 : decode cX8_told 127 = .ok (.aload_n 0, 1) := by decide +kernel
theorem dX8_told_128 : decode cX8_told 128 = .ok (.getfield 55, 3) := by decide +kernel
theorem dX8_told_131 : decode cX8_told 131 = .ok (.iconst 3, 1) := by decide +kernel
theorem dX8_told_132 : decode cX8_told 132 = .ok (.iaload, 1) := by decide +kernel
theorem dX8_told_133 : decode cX8_told 133 = .ok (.ireturn, 1) := by decide +kernel
theorem dX8_told_134 : decode cX8_told 134 = .ok (.aload_n 0, 1) := by decide +kernel
theorem dX8_told_135 : decode cX8_told 135 = .ok (.getfield 88, 3) := by decide +kernel
theorem dX8_told_138 : decode cX8_told 138 = .ok (.ireturn, 1) := by decide +kernel
theorem dX8_told_139 : decode cX8_told 139 = .ok (.aload_n 0, 1) := by decide +kernel
theorem dX8_told_140 : decode cX8_told 140 = .ok (.getfield 78, 3) := by decide +kernel
theorem dX8_told_143 : decode cX8_told 143 = .ok (.ireturn, 1) := by decide +kernel
theorem dX8_told_144 : decode cX8_told 144 = .ok (.iconst (-1), 1) := by decide +kernel
theorem dX8_told_145 : decode cX8_told 145 = .ok (.ireturn, 1) := by decide +kernel
theorem dX8_isNode_0 : decode cX8_isNode 0 = .ok (.iload_n 1, 1) := by decide +kernel
theorem dX8_isNode_1 : decode cX8_isNode 1 = .ok (.ifCond .lt 15, 3) := by decide +kernel
theorem dX8_isNode_4 : decode cX8_isNode 4 = .ok (.iload_n 1, 1) := by decide +kernel
theorem dX8_isNode_5 : decode cX8_isNode 5 = .ok (.aload_n 0, 1) := by decide +kernel
theorem dX8_isNode_6 : decode cX8_isNode 6 = .ok (.getfield 60, 3) := by decide +kernel
theorem dX8_isNode_9 : decode cX8_isNode 9 = .ok (.if_icmp .ge 7, 3) := by decide +kernel
theorem dX8_isNode_12 : decode cX8_isNode 12 = .ok (.iconst 1, 1) := by decide +kernel
theorem dX8_isNode_13 : decode cX8_isNode 13 = .ok (.goto 4, 3) := by decide +kernel
theorem dX8_isNode_16 : decode cX8_isNode 16 = .ok (.iconst 0, 1) := by decide +kernel
theorem dX8_isNode_17 : decode cX8_isNode 17 = .ok (.ireturn, 1) := by decide +kernel
theorem dX8_isVertex_0 : decode cX8_isVertex 0 = .ok (.iload_n 1, 1) := by decide +kernel
theorem dX8_isVertex_1 : decode cX8_isVertex 1 = .ok (.ifCond .lt 18, 3) := by decide +kernel
theorem dX8_isVertex_4 : decode cX8_isVertex 4 = .ok (.iload_n 1, 1) := by decide +kernel
theorem dX8_isVertex_5 : decode cX8_isVertex 5 = .ok (.aload_n 0, 1) := by decide +kernel
theorem dX8_isVertex_6 : decode cX8_isVertex 6 = .ok (.getfield 12, 3) := by decide +kernel
theorem dX8_isVertex_9 : decode cX8_isVertex 9 = .ok (.getfield 64, 3) := by decide +kernel
theorem dX8_isVertex_12 : decode cX8_isVertex 12 = .ok (.if_icmp .ge 7, 3) := by decide +kernel
theorem dX8_isVertex_15 : decode cX8_isVertex 15 = .ok (.iconst 1, 1) := by decide +kernel
theorem dX8_isVertex_16 : decode cX8_isVertex 16 = .ok (.goto 4, 3) := by decide +kernel
theorem dX8_isVertex_19 : decode cX8_isVertex 19 = .ok (.iconst 0, 1) := by decide +kernel
theorem dX8_isVertex_20 : decode cX8_isVertex 20 = .ok (.ireturn, 1) := by decide +kernel
theorem dX8_isAnyDown_0 : decode cX8_isAnyDown 0 = .ok (.iconst 0, 1) := by decide +kernel
theorem dX8_isAnyDown_1 : decode cX8_isAnyDown 1 = .ok (.istore_n 1, 1) := by decide +kernel
theorem dX8_isAnyDown_2 : decode cX8_isAnyDown 2 = .ok (.iload_n 1, 1) := by decide +kernel
theorem dX8_isAnyDown_3 : decode cX8_isAnyDown 3 = .ok (.aload_n 0, 1) := by decide +kernel
theorem dX8_isAnyDown_4 : decode cX8_isAnyDown 4 = .ok (.getfield 60, 3) := by decide +kernel
theorem dX8_isAnyDown_7 : decode cX8_isAnyDown 7 = .ok (.if_icmp .ge 23, 3) := by decide +kernel
theorem dX8_isAnyDown_10 : decode cX8_isAnyDown 10 = .ok (.aload_n 0, 1) := by decide +kernel
theorem dX8_isAnyDown_11 : decode cX8_isAnyDown 11 = .ok (.getfield 51, 3) := by decide +kernel
theorem dX8_isAnyDown_14 : decode cX8_isAnyDown 14 = .ok (.iload_n 1, 1) := by decide +kernel
theorem dX8_isAnyDown_15 : decode cX8_isAnyDown 15 = .ok (.aaload, 1) := by decide +kernel
theorem dX8_isAnyDown_16 : decode cX8_isAnyDown 16 = .ok (.getfield 175, 3) := by decide +kernel
theorem dX8_isAnyDown_19 : decode cX8_isAnyDown 19 = .ok (.ifCond .eq 5, 3) := by decide +kernel
theorem dX8_isAnyDown_22 : decode cX8_isAnyDown 22 = .ok (.iconst 1, 1) := by decide +kernel
theorem dX8_isAnyDown_23 : decode cX8_isAnyDown 23 = .ok (.ireturn, 1) := by decide +kernel
theorem dX8_isAnyDown_24 : decode cX8_isAnyDown 24 = .ok (.iinc 1 1, 3) := by decide +kernel
theorem dX8_isAnyDown_27 : decode cX8_isAnyDown 27 = .ok (.goto (-25), 3) := by decide +kernel
theorem dX8_isAnyDown_30 : decode cX8_isAnyDown 30 = .ok (.iconst 0, 1) := by decide +kernel
theorem dX8_isAnyDown_31 : decode cX8_isAnyDown 31 = .ok (.ireturn, 1) := by decide +kernel
theorem dX8_isLevel_0 : decode cX8_isLevel 0 = .ok (.iconst 0, 1) := by decide +kernel
theorem dX8_isLevel_1 : decode cX8_isLevel 1 = .ok (.istore_n 1, 1) := by decide +kernel
theorem dX8_isLevel_2 : decode cX8_isLevel 2 = .ok (.iload_n 1, 1) := by decide +kernel
theorem dX8_isLevel_3 : decode cX8_isLevel 3 = .ok (.aload_n 0, 1) := by decide +kernel
theorem dX8_isLevel_4 : decode cX8_isLevel 4 = .ok (.getfield 60, 3) := by decide +kernel
theorem dX8_isLevel_7 : decode cX8_isLevel 7 = .ok (.if_icmp .ge 48, 3) := by decide +kernel
theorem dX8_isLevel_10 : decode cX8_isLevel 10 = .ok (.aload_n 0, 1) := by decide +kernel
theorem dX8_isLevel_11 : decode cX8_isLevel 11 = .ok (.getfield 51, 3) := by decide +kernel
theorem dX8_isLevel_14 : decode cX8_isLevel 14 = .ok (.iload_n 1, 1) := by decide +kernel
theorem dX8_isLevel_15 : decode cX8_isLevel 15 = .ok (.aaload, 1) := by decide +kernel
theorem dX8_isLevel_16 : decode cX8_isLevel 16 = .ok (.astore_n 2, 1) := by decide +kernel
theorem dX8_isLevel_17 : decode cX8_isLevel 17 = .ok (.aload_n 2, 1) := by decide +kernel
theorem dX8_isLevel_18 : decode cX8_isLevel 18 = .ok (.getfield 175, 3) := by decide +kernel
theorem dX8_isLevel_21 : decode cX8_isLevel 21 = .ok (.ifCond .ne 26, 3) := by decide +kernel
theorem dX8_isLevel_24 : decode cX8_isLevel 24 = .ok (.aload_n 2, 1) := by decide +kernel
theorem dX8_isLevel_25 : decode cX8_isLevel 25 = .ok (.getfield 236, 3) := by decide +kernel
theorem dX8_isLevel_28 : decode cX8_isLevel 28 = .ok (.ifCond .ne 19, 3) := by decide +kernel
theorem dX8_isLevel_31 : decode cX8_isLevel 31 = .ok (.aload_n 2, 1) := by decide +kernel
theorem dX8_isLevel_32 : decode cX8_isLevel 32 = .ok (.getfield 178, 3) := by decide +kernel
theorem dX8_isLevel_35 : decode cX8_isLevel 35 = .ok (.aload_n 0, 1) := by decide +kernel
theorem dX8_isLevel_36 : decode cX8_isLevel 36 = .ok (.getfield 51, 3) := by decide +kernel
theorem dX8_isLevel_39 : decode cX8_isLevel 39 = .ok (.iconst 0, 1) := by decide +kernel
theorem dX8_isLevel_40 : decode cX8_isLevel 40 = .ok (.aaload, 1) := by decide +kernel
theorem dX8_isLevel_41 : decode cX8_isLevel 41 = .ok (.getfield 178, 3) := by decide +kernel
theorem dX8_isLevel_44 : decode cX8_isLevel 44 = .ok (.if_icmp .eq 5, 3) := by decide +kernel
theorem dX8_isLevel_47 : decode cX8_isLevel 47 = .ok (.iconst 0, 1) := by decide +kernel
theorem dX8_isLevel_48 : decode cX8_isLevel 48 = .ok (.ireturn, 1) := by decide +kernel
theorem dX8_isLevel_49 : decode cX8_isLevel 49 = .ok (.iinc 1 1, 3) := by decide +kernel
theorem dX8_isLevel_52 : decode cX8_isLevel 52 = .ok (.goto (-50), 3) := by decide +kernel
theorem dX8_isLevel_55 : decode cX8_isLevel 55 = .ok (.iconst 1, 1) := by decide +kernel
theorem dX8_isLevel_56 : decode cX8_isLevel 56 = .ok (.ireturn, 1) := by decide +kernel
theorem dX8_isComplete_0 : decode cX8_isComplete 0 = .ok (.aload_n 1, 1) := by decide +kernel
theorem dX8_isComplete_1 : decode cX8_isComplete 1 = .ok (.getfield 236, 3) := by decide +kernel
theorem dX8_isComplete_4 : decode cX8_isComplete 4 = .ok (.ifCond .ne 20, 3) := by decide +kernel
theorem dX8_isComplete_7 : decode cX8_isComplete 7 = .ok (.aload_n 1, 1) := by decide +kernel
theorem dX8_isComplete_8 : decode cX8_isComplete 8 = .ok (.invokevirtual 239, 3) := by decide +kernel
theorem dX8_isComplete_11 : decode cX8_isComplete 11 = .ok (.aload_n 0, 1) := by decide +kernel
theorem dX8_isComplete_12 : decode cX8_isComplete 12 = .ok (.getfield 60, 3) := by decide +kernel
theorem dX8_isComplete_15 : decode cX8_isComplete 15 = .ok (.iconst 1, 1) := by decide +kernel
theorem dX8_isComplete_16 : decode cX8_isComplete 16 = .ok (.isub, 1) := by decide +kernel
theorem dX8_isComplete_17 : decode cX8_isComplete 17 = .ok (.if_icmp .ne 7, 3) := by decide +kernel
theorem dX8_isComplete_20 : decode cX8_isComplete 20 = .ok (.iconst 1, 1) := by decide +kernel
theorem dX8_isComplete_21 : decode cX8_isComplete 21 = .ok (.goto 4, 3) := by decide +kernel
theorem dX8_isComplete_24 : decode cX8_isComplete 24 = .ok (.iconst 0, 1) := by decide +kernel
theorem dX8_isComplete_25 : decode cX8_isComplete 25 = .ok (.ireturn, 1) := by decide +kernel
theorem dX8_isMarkRound_0 : decode cX8_isMarkRound 0 = .ok (.iload_n 1, 1) := by decide +kernel
theorem dX8_isMarkRound_1 : decode cX8_isMarkRound 1 = .ok (.ifCond .eq 19, 3) := by decide +kernel
theorem dX8_isMarkRound_4 : decode cX8_isMarkRound 4 = .ok (.aload_n 0, 1) := by decide +kernel
theorem dX8_isMarkRound_5 : decode cX8_isMarkRound 5 = .ok (.getfield 78, 3) := by decide +kernel
theorem dX8_isMarkRound_8 : decode cX8_isMarkRound 8 = .ok (.ifCond .le 16, 3) := by decide +kernel
theorem dX8_isMarkRound_11 : decode cX8_isMarkRound 11 = .ok (.iload_n 1, 1) := by decide +kernel
theorem dX8_isMarkRound_12 : decode cX8_isMarkRound 12 = .ok (.aload_n 0, 1) := by decide +kernel
theorem dX8_isMarkRound_13 : decode cX8_isMarkRound 13 = .ok (.getfield 78, 3) := by decide +kernel
theorem dX8_isMarkRound_16 : decode cX8_isMarkRound 16 = .ok (.irem, 1) := by decide +kernel
theorem dX8_isMarkRound_17 : decode cX8_isMarkRound 17 = .ok (.ifCond .ne 7, 3) := by decide +kernel
theorem dX8_isMarkRound_20 : decode cX8_isMarkRound 20 = .ok (.iconst 1, 1) := by decide +kernel
theorem dX8_isMarkRound_21 : decode cX8_isMarkRound 21 = .ok (.goto 4, 3) := by decide +kernel
theorem dX8_isMarkRound_24 : decode cX8_isMarkRound 24 = .ok (.iconst 0, 1) := by decide +kernel
theorem dX8_isMarkRound_25 : decode cX8_isMarkRound 25 = .ok (.ireturn, 1) := by decide +kernel
theorem dX8_outcomeOf_0 : decode cX8_outcomeOf 0 = .ok (.aload_n 0, 1) := by decide +kernel
theorem dX8_outcomeOf_1 : decode cX8_outcomeOf 1 = .ok (.getfield 51, 3) := by decide +kernel
theorem dX8_outcomeOf_4 : decode cX8_outcomeOf 4 = .ok (.aload_n 1, 1) := by decide +kernel
theorem dX8_outcomeOf_5 : decode cX8_outcomeOf 5 = .ok (.getfield 134, 3) := by decide +kernel
theorem dX8_outcomeOf_8 : decode cX8_outcomeOf 8 = .ok (.aaload, 1) := by decide +kernel
theorem dX8_outcomeOf_9 : decode cX8_outcomeOf 9 = .ok (.astore_n 2, 1) := by decide +kernel
theorem dX8_outcomeOf_10 : decode cX8_outcomeOf 10 = .ok (.aload_n 2, 1) := by decide +kernel
theorem dX8_outcomeOf_11 : decode cX8_outcomeOf 11 = .ok (.getfield 175, 3) := by decide +kernel
theorem dX8_outcomeOf_14 : decode cX8_outcomeOf 14 = .ok (.ifCond .eq 5, 3) := by decide +kernel
theorem dX8_outcomeOf_17 : decode cX8_outcomeOf 17 = .ok (.iconst 3, 1) := by decide +kernel
theorem dX8_outcomeOf_18 : decode cX8_outcomeOf 18 = .ok (.ireturn, 1) := by decide +kernel
theorem dX8_outcomeOf_19 : decode cX8_outcomeOf 19 = .ok (.aload_n 1, 1) := by decide +kernel
theorem dX8_outcomeOf_20 : decode cX8_outcomeOf 20 = .ok (.getfield 140, 3) := by decide +kernel
theorem dX8_outcomeOf_23 : decode cX8_outcomeOf 23 = .ok (.aload_n 0, 1) := by decide +kernel
theorem dX8_outcomeOf_24 : decode cX8_outcomeOf 24 = .ok (.getfield 88, 3) := by decide +kernel
theorem dX8_outcomeOf_27 : decode cX8_outcomeOf 27 = .ok (.if_icmp .ne 21, 3) := by decide +kernel
theorem dX8_outcomeOf_30 : decode cX8_outcomeOf 30 = .ok (.aload_n 1, 1) := by decide +kernel
theorem dX8_outcomeOf_31 : decode cX8_outcomeOf 31 = .ok (.getfield 137, 3) := by decide +kernel
theorem dX8_outcomeOf_34 : decode cX8_outcomeOf 34 = .ok (.aload_n 2, 1) := by decide +kernel
theorem dX8_outcomeOf_35 : decode cX8_outcomeOf 35 = .ok (.getfield 178, 3) := by decide +kernel
theorem dX8_outcomeOf_38 : decode cX8_outcomeOf 38 = .ok (.if_icmp .lt 10, 3) := by decide +kernel
theorem dX8_outcomeOf_41 : decode cX8_outcomeOf 41 = .ok (.aload_n 2, 1) := by decide +kernel
theorem dX8_outcomeOf_42 : decode cX8_outcomeOf 42 = .ok (.getfield 236, 3) := by decide +kernel
theorem dX8_outcomeOf_45 : decode cX8_outcomeOf 45 = .ok (.ifCond .eq 5, 3) := by decide +kernel
theorem dX8_outcomeOf_48 : decode cX8_outcomeOf 48 = .ok (.iconst 1, 1) := by decide +kernel
theorem dX8_outcomeOf_49 : decode cX8_outcomeOf 49 = .ok (.ireturn, 1) := by decide +kernel
theorem dX8_outcomeOf_50 : decode cX8_outcomeOf 50 = .ok (.aload_n 2, 1) := by decide +kernel
theorem dX8_outcomeOf_51 : decode cX8_outcomeOf 51 = .ok (.aload_n 1, 1) := by decide +kernel
theorem dX8_outcomeOf_52 : decode cX8_outcomeOf 52 = .ok (.invokevirtual 247, 3) := by decide +kernel
theorem dX8_outcomeOf_55 : decode cX8_outcomeOf 55 = .ok (.ifCond .eq 7, 3) := by decide +kernel
theorem dX8_outcomeOf_58 : decode cX8_outcomeOf 58 = .ok (.iconst 2, 1) := by decide +kernel
theorem dX8_outcomeOf_59 : decode cX8_outcomeOf 59 = .ok (.goto 4, 3) := by decide +kernel
theorem dX8_outcomeOf_62 : decode cX8_outcomeOf 62 = .ok (.iconst 0, 1) := by decide +kernel
theorem dX8_outcomeOf_63 : decode cX8_outcomeOf 63 = .ok (.ireturn, 1) := by decide +kernel
theorem dX8_finishRound_0 : decode cX8_finishRound 0 = .ok (.aload_n 0, 1) := by decide +kernel
theorem dX8_finishRound_1 : decode cX8_finishRound 1 = .ok (.getfield 51, 3) := by decide +kernel
theorem dX8_finishRound_4 : decode cX8_finishRound 4 = .ok (.iload_n 1, 1) := by decide +kernel
theorem dX8_finishRound_5 : decode cX8_finishRound 5 = .ok (.aaload, 1) := by decide +kernel
theorem dX8_finishRound_6 : decode cX8_finishRound 6 = .ok (.astore_n 2, 1) := by decide +kernel
theorem dX8_finishRound_7 : decode cX8_finishRound 7 = .ok (.aload_n 0, 1) := by decide +kernel
theorem dX8_finishRound_8 : decode cX8_finishRound 8 = .ok (.getfield 12, 3) := by decide +kernel
theorem dX8_finishRound_11 : decode cX8_finishRound 11 = .ok (.iload_n 1, 1) := by decide +kernel
theorem dX8_finishRound_12 : decode cX8_finishRound 12 = .ok (.aload_n 0, 1) := by decide +kernel
theorem dX8_finishRound_13 : decode cX8_finishRound 13 = .ok (.getfield 21, 3) := by decide +kernel
theorem dX8_finishRound_16 : decode cX8_finishRound 16 = .ok (.invokevirtual 250, 3) := by decide +kernel
theorem dX8_finishRound_19 : decode cX8_finishRound 19 = .ok (.ifCond .ne 16, 3) := by decide +kernel
theorem dX8_finishRound_22 : decode cX8_finishRound 22 = .ok (.aload_n 2, 1) := by decide +kernel
theorem dX8_finishRound_23 : decode cX8_finishRound 23 = .ok (.invokevirtual 254, 3) := by decide +kernel
theorem dX8_finishRound_26 : decode cX8_finishRound 26 = .ok (.ifCond .ne 9, 3) := by decide +kernel
theorem dX8_finishRound_29 : decode cX8_finishRound 29 = .ok (.aload_n 2, 1) := by decide +kernel
theorem dX8_finishRound_30 : decode cX8_finishRound 30 = .ok (.iconst 1, 1) := by decide +kernel
theorem dX8_finishRound_31 : decode cX8_finishRound 31 = .ok (.putfield 236, 3) := by decide +kernel
theorem dX8_finishRound_34 : decode cX8_finishRound 34 = .ok (.return_, 1) := by decide +kernel
theorem dX8_finishRound_35 : decode cX8_finishRound 35 = .ok (.aload_n 0, 1) := by decide +kernel
theorem dX8_finishRound_36 : decode cX8_finishRound 36 = .ok (.iload_n 1, 1) := by decide +kernel
theorem dX8_finishRound_37 : decode cX8_finishRound 37 = .ok (.invokevirtual 257, 3) := by decide +kernel
theorem dX8_finishRound_40 : decode cX8_finishRound 40 = .ok (.aload_n 0, 1) := by decide +kernel
theorem dX8_finishRound_41 : decode cX8_finishRound 41 = .ok (.iload_n 1, 1) := by decide +kernel
theorem dX8_finishRound_42 : decode cX8_finishRound 42 = .ok (.aload_n 2, 1) := by decide +kernel
theorem dX8_finishRound_43 : decode cX8_finishRound 43 = .ok (.getfield 178, 3) := by decide +kernel
theorem dX8_finishRound_46 : decode cX8_finishRound 46 = .ok (.iconst 1, 1) := by decide +kernel
theorem dX8_finishRound_47 : decode cX8_finishRound 47 = .ok (.iadd, 1) := by decide +kernel
theorem dX8_finishRound_48 : decode cX8_finishRound 48 = .ok (.invokevirtual 119, 3) := by decide +kernel
theorem dX8_finishRound_51 : decode cX8_finishRound 51 = .ok (.return_, 1) := by decide +kernel
theorem dX8_takeMessages_0 : decode cX8_takeMessages 0 = .ok (.aload_n 0, 1) := by decide +kernel
theorem dX8_takeMessages_1 : decode cX8_takeMessages 1 = .ok (.getfield 31, 3) := by decide +kernel
theorem dX8_takeMessages_4 : decode cX8_takeMessages 4 = .ok (.invokevirtual 260, 3) := by decide +kernel
theorem dX8_takeMessages_7 : decode cX8_takeMessages 7 = .ok (.iconst 0, 1) := by decide +kernel
theorem dX8_takeMessages_8 : decode cX8_takeMessages 8 = .ok (.istore_n 2, 1) := by decide +kernel
theorem dX8_takeMessages_9 : decode cX8_takeMessages 9 = .ok (.iload_n 2, 1) := by decide +kernel
theorem dX8_takeMessages_10 : decode cX8_takeMessages 10 = .ok (.aload_n 0, 1) := by decide +kernel
theorem dX8_takeMessages_11 : decode cX8_takeMessages 11 = .ok (.getfield 12, 3) := by decide +kernel
theorem dX8_takeMessages_14 : decode cX8_takeMessages 14 = .ok (.getfield 109, 3) := by decide +kernel
theorem dX8_takeMessages_17 : decode cX8_takeMessages 17 = .ok (.if_icmp .ge 78, 3) := by decide +kernel
theorem dX8_takeMessages_20 : decode cX8_takeMessages 20 = .ok (.aload_n 0, 1) := by decide +kernel
theorem dX8_takeMessages_21 : decode cX8_takeMessages 21 = .ok (.getfield 12, 3) := by decide +kernel
theorem dX8_takeMessages_24 : decode cX8_takeMessages 24 = .ok (.iload_n 2, 1) := by decide +kernel
theorem dX8_takeMessages_25 : decode cX8_takeMessages 25 = .ok (.iload_n 1, 1) := by decide +kernel
theorem dX8_takeMessages_26 : decode cX8_takeMessages 26 = .ok (.iload_n 1, 1) := by decide +kernel
theorem dX8_takeMessages_27 : decode cX8_takeMessages 27 = .ok (.invokevirtual 261, 3) := by decide +kernel
theorem dX8_takeMessages_30 : decode cX8_takeMessages 30 = .ok (.ifCond .eq 59, 3) := by decide +kernel
theorem dX8_takeMessages_33 : decode cX8_takeMessages 33 = .ok (.aload_n 0, 1) := by decide +kernel
theorem dX8_takeMessages_34 : decode cX8_takeMessages 34 = .ok (.getfield 21, 3) := by decide +kernel
theorem dX8_takeMessages_37 : decode cX8_takeMessages 37 = .ok (.getfield 265, 3) := by decide +kernel
theorem dX8_takeMessages_40 : decode cX8_takeMessages 40 = .ok (.aload_n 0, 1) := by decide +kernel
theorem dX8_takeMessages_41 : decode cX8_takeMessages 41 = .ok (.getfield 12, 3) := by decide +kernel
theorem dX8_takeMessages_44 : decode cX8_takeMessages 44 = .ok (.getfield 268, 3) := by decide +kernel
theorem dX8_takeMessages_47 : decode cX8_takeMessages 47 = .ok (.iload_n 2, 1) := by decide +kernel
theorem dX8_takeMessages_48 : decode cX8_takeMessages 48 = .ok (.iaload, 1) := by decide +kernel
theorem dX8_takeMessages_49 : decode cX8_takeMessages 49 = .ok (.baload, 1) := by decide +kernel
theorem dX8_takeMessages_50 : decode cX8_takeMessages 50 = .ok (.ifCond .eq 39, 3) := by decide +kernel
theorem dX8_takeMessages_53 : decode cX8_takeMessages 53 = .ok (.aload_n 0, 1) := by decide +kernel
theorem dX8_takeMessages_54 : decode cX8_takeMessages 54 = .ok (.getfield 31, 3) := by decide +kernel
theorem dX8_takeMessages_57 : decode cX8_takeMessages 57 = .ok (.aload_n 0, 1) := by decide +kernel
theorem dX8_takeMessages_58 : decode cX8_takeMessages 58 = .ok (.getfield 12, 3) := by decide +kernel
theorem dX8_takeMessages_61 : decode cX8_takeMessages 61 = .ok (.getfield 116, 3) := by decide +kernel
theorem dX8_takeMessages_64 : decode cX8_takeMessages 64 = .ok (.aload_n 0, 1) := by decide +kernel
theorem dX8_takeMessages_65 : decode cX8_takeMessages 65 = .ok (.getfield 12, 3) := by decide +kernel
theorem dX8_takeMessages_68 : decode cX8_takeMessages 68 = .ok (.getfield 271, 3) := by decide +kernel
theorem dX8_takeMessages_71 : decode cX8_takeMessages 71 = .ok (.iload_n 2, 1) := by decide +kernel
theorem dX8_takeMessages_72 : decode cX8_takeMessages 72 = .ok (.iaload, 1) := by decide +kernel
theorem dX8_takeMessages_73 : decode cX8_takeMessages 73 = .ok (.aload_n 0, 1) := by decide +kernel
theorem dX8_takeMessages_74 : decode cX8_takeMessages 74 = .ok (.getfield 12, 3) := by decide +kernel
theorem dX8_takeMessages_77 : decode cX8_takeMessages 77 = .ok (.iload_n 2, 1) := by decide +kernel
theorem dX8_takeMessages_78 : decode cX8_takeMessages 78 = .ok (.aload_n 0, 1) := by decide +kernel
theorem dX8_takeMessages_79 : decode cX8_takeMessages 79 = .ok (.getfield 21, 3) := by decide +kernel
theorem dX8_takeMessages_82 : decode cX8_takeMessages 82 = .ok (.invokevirtual 274, 3) := by decide +kernel
theorem dX8_takeMessages_85 : decode cX8_takeMessages 85 = .ok (.iload_n 2, 1) := by decide +kernel
theorem dX8_takeMessages_86 : decode cX8_takeMessages 86 = .ok (.invokevirtual 277, 3) := by decide +kernel
theorem dX8_takeMessages_89 : decode cX8_takeMessages 89 = .ok (.iinc 2 1, 3) := by decide +kernel
theorem dX8_takeMessages_92 : decode cX8_takeMessages 92 = .ok (.goto (-83), 3) := by decide +kernel
theorem dX8_takeMessages_95 : decode cX8_takeMessages 95 = .ok (.iconst 0, 1) := by decide +kernel
theorem dX8_takeMessages_96 : decode cX8_takeMessages 96 = .ok (.istore_n 2, 1) := by decide +kernel
theorem dX8_takeMessages_97 : decode cX8_takeMessages 97 = .ok (.iload_n 2, 1) := by decide +kernel
theorem dX8_takeMessages_98 : decode cX8_takeMessages 98 = .ok (.aload_n 0, 1) := by decide +kernel
theorem dX8_takeMessages_99 : decode cX8_takeMessages 99 = .ok (.getfield 60, 3) := by decide +kernel
theorem dX8_takeMessages_102 : decode cX8_takeMessages 102 = .ok (.if_icmp .ge 39, 3) := by decide +kernel
theorem dX8_takeMessages_105 : decode cX8_takeMessages 105 = .ok (.aload_n 0, 1) := by decide +kernel
theorem dX8_takeMessages_106 : decode cX8_takeMessages 106 = .ok (.getfield 51, 3) := by decide +kernel
theorem dX8_takeMessages_109 : decode cX8_takeMessages 109 = .ok (.iload_n 1, 1) := by decide +kernel
theorem dX8_takeMessages_110 : decode cX8_takeMessages 110 = .ok (.aaload, 1) := by decide +kernel
theorem dX8_takeMessages_111 : decode cX8_takeMessages 111 = .ok (.iload_n 2, 1) := by decide +kernel
theorem dX8_takeMessages_112 : decode cX8_takeMessages 112 = .ok (.invokevirtual 281, 3) := by decide +kernel
theorem dX8_takeMessages_115 : decode cX8_takeMessages 115 = .ok (.astore_n 3, 1) := by decide +kernel
theorem dX8_takeMessages_116 : decode cX8_takeMessages 116 = .ok (.aload_n 3, 1) := by decide +kernel
theorem dX8_takeMessages_117 : decode cX8_takeMessages 117 = .ok (.ifnull 18, 3) := by decide +kernel
theorem dX8_takeMessages_120 : decode cX8_takeMessages 120 = .ok (.aload_n 0, 1) := by decide +kernel
theorem dX8_takeMessages_121 : decode cX8_takeMessages 121 = .ok (.getfield 31, 3) := by decide +kernel
theorem dX8_takeMessages_124 : decode cX8_takeMessages 124 = .ok (.aload_n 0, 1) := by decide +kernel
theorem dX8_takeMessages_125 : decode cX8_takeMessages 125 = .ok (.getfield 12, 3) := by decide +kernel
theorem dX8_takeMessages_128 : decode cX8_takeMessages 128 = .ok (.getfield 116, 3) := by decide +kernel
theorem dX8_takeMessages_131 : decode cX8_takeMessages 131 = .ok (.aload_n 3, 1) := by decide +kernel
theorem dX8_takeMessages_132 : decode cX8_takeMessages 132 = .ok (.invokevirtual 284, 3) := by decide +kernel
theorem dX8_takeMessages_135 : decode cX8_takeMessages 135 = .ok (.iinc 2 1, 3) := by decide +kernel
theorem dX8_takeMessages_138 : decode cX8_takeMessages 138 = .ok (.goto (-41), 3) := by decide +kernel
theorem dX8_takeMessages_141 : decode cX8_takeMessages 141 = .ok (.iconst 0, 1) := by decide +kernel
theorem dX8_takeMessages_142 : decode cX8_takeMessages 142 = .ok (.istore_n 2, 1) := by decide +kernel
theorem dX8_takeMessages_143 : decode cX8_takeMessages 143 = .ok (.iload_n 2, 1) := by decide +kernel
theorem dX8_takeMessages_144 : decode cX8_takeMessages 144 = .ok (.aload_n 0, 1) := by decide +kernel
theorem dX8_takeMessages_145 : decode cX8_takeMessages 145 = .ok (.getfield 12, 3) := by decide +kernel
theorem dX8_takeMessages_148 : decode cX8_takeMessages 148 = .ok (.getfield 64, 3) := by decide +kernel
theorem dX8_takeMessages_151 : decode cX8_takeMessages 151 = .ok (.if_icmp .ge 41, 3) := by decide +kernel
theorem dX8_takeMessages_154 : decode cX8_takeMessages 154 = .ok (.aload_n 0, 1) := by decide +kernel
theorem dX8_takeMessages_155 : decode cX8_takeMessages 155 = .ok (.getfield 12, 3) := by decide +kernel
theorem dX8_takeMessages_158 : decode cX8_takeMessages 158 = .ok (.getfield 214, 3) := by decide +kernel
theorem dX8_takeMessages_161 : decode cX8_takeMessages 161 = .ok (.iload_n 2, 1) := by decide +kernel
theorem dX8_takeMessages_162 : decode cX8_takeMessages 162 = .ok (.iaload, 1) := by decide +kernel
theorem dX8_takeMessages_163 : decode cX8_takeMessages 163 = .ok (.iload_n 1, 1) := by decide +kernel
theorem dX8_takeMessages_164 : decode cX8_takeMessages 164 = .ok (.if_icmp .ne 22, 3) := by decide +kernel
theorem dX8_takeMessages_167 : decode cX8_takeMessages 167 = .ok (.aload_n 0, 1) := by decide +kernel
theorem dX8_takeMessages_168 : decode cX8_takeMessages 168 = .ok (.getfield 31, 3) := by decide +kernel
theorem dX8_takeMessages_171 : decode cX8_takeMessages 171 = .ok (.aload_n 0, 1) := by decide +kernel
theorem dX8_takeMessages_172 : decode cX8_takeMessages 172 = .ok (.getfield 12, 3) := by decide +kernel
theorem dX8_takeMessages_175 : decode cX8_takeMessages 175 = .ok (.getfield 116, 3) := by decide +kernel
theorem dX8_takeMessages_178 : decode cX8_takeMessages 178 = .ok (.iload_n 2, 1) := by decide +kernel
theorem dX8_takeMessages_179 : decode cX8_takeMessages 179 = .ok (.aload_n 0, 1) := by decide +kernel
theorem dX8_takeMessages_180 : decode cX8_takeMessages 180 = .ok (.getfield 21, 3) := by decide +kernel
theorem dX8_takeMessages_183 : decode cX8_takeMessages 183 = .ok (.invokevirtual 288, 3) := by decide +kernel
theorem dX8_takeMessages_186 : decode cX8_takeMessages 186 = .ok (.iinc 2 1, 3) := by decide +kernel
theorem dX8_takeMessages_189 : decode cX8_takeMessages 189 = .ok (.goto (-46), 3) := by decide +kernel
theorem dX8_takeMessages_192 : decode cX8_takeMessages 192 = .ok (.return_, 1) := by decide +kernel
theorem dX8_workAlone_0 : decode cX8_workAlone 0 = .ok (.aload_n 0, 1) := by decide +kernel
theorem dX8_workAlone_1 : decode cX8_workAlone 1 = .ok (.getfield 31, 3) := by decide +kernel
theorem dX8_workAlone_4 : decode cX8_workAlone 4 = .ok (.invokevirtual 260, 3) := by decide +kernel
theorem dX8_workAlone_7 : decode cX8_workAlone 7 = .ok (.iconst 0, 1) := by decide +kernel
theorem dX8_workAlone_8 : decode cX8_workAlone 8 = .ok (.istore_n 1, 1) := by decide +kernel
theorem dX8_workAlone_9 : decode cX8_workAlone 9 = .ok (.iload_n 1, 1) := by decide +kernel
theorem dX8_workAlone_10 : decode cX8_workAlone 10 = .ok (.aload_n 0, 1) := by decide +kernel
theorem dX8_workAlone_11 : decode cX8_workAlone 11 = .ok (.getfield 12, 3) := by decide +kernel
theorem dX8_workAlone_14 : decode cX8_workAlone 14 = .ok (.getfield 109, 3) := by decide +kernel
theorem dX8_workAlone_17 : decode cX8_workAlone 17 = .ok (.if_icmp .ge 65, 3) := by decide +kernel
theorem dX8_workAlone_20 : decode cX8_workAlone 20 = .ok (.aload_n 0, 1) := by decide +kernel
theorem dX8_workAlone_21 : decode cX8_workAlone 21 = .ok (.getfield 25, 3) := by decide +kernel
theorem dX8_workAlone_24 : decode cX8_workAlone 24 = .ok (.getfield 265, 3) := by decide +kernel
theorem dX8_workAlone_27 : decode cX8_workAlone 27 = .ok (.aload_n 0, 1) := by decide +kernel
theorem dX8_workAlone_28 : decode cX8_workAlone 28 = .ok (.getfield 12, 3) := by decide +kernel
theorem dX8_workAlone_31 : decode cX8_workAlone 31 = .ok (.getfield 268, 3) := by decide +kernel
theorem dX8_workAlone_34 : decode cX8_workAlone 34 = .ok (.iload_n 1, 1) := by decide +kernel
theorem dX8_workAlone_35 : decode cX8_workAlone 35 = .ok (.iaload, 1) := by decide +kernel
theorem dX8_workAlone_36 : decode cX8_workAlone 36 = .ok (.baload, 1) := by decide +kernel
theorem dX8_workAlone_37 : decode cX8_workAlone 37 = .ok (.ifCond .eq 39, 3) := by decide +kernel
theorem dX8_workAlone_40 : decode cX8_workAlone 40 = .ok (.aload_n 0, 1) := by decide +kernel
theorem dX8_workAlone_41 : decode cX8_workAlone 41 = .ok (.getfield 31, 3) := by decide +kernel
theorem dX8_workAlone_44 : decode cX8_workAlone 44 = .ok (.aload_n 0, 1) := by decide +kernel
theorem dX8_workAlone_45 : decode cX8_workAlone 45 = .ok (.getfield 12, 3) := by decide +kernel
theorem dX8_workAlone_48 : decode cX8_workAlone 48 = .ok (.getfield 116, 3) := by decide +kernel
theorem dX8_workAlone_51 : decode cX8_workAlone 51 = .ok (.aload_n 0, 1) := by decide +kernel
theorem dX8_workAlone_52 : decode cX8_workAlone 52 = .ok (.getfield 12, 3) := by decide +kernel
theorem dX8_workAlone_55 : decode cX8_workAlone 55 = .ok (.getfield 271, 3) := by decide +kernel
theorem dX8_workAlone_58 : decode cX8_workAlone 58 = .ok (.iload_n 1, 1) := by decide +kernel
theorem dX8_workAlone_59 : decode cX8_workAlone 59 = .ok (.iaload, 1) := by decide +kernel
theorem dX8_workAlone_60 : decode cX8_workAlone 60 = .ok (.aload_n 0, 1) := by decide +kernel
theorem dX8_workAlone_61 : decode cX8_workAlone 61 = .ok (.getfield 12, 3) := by decide +kernel
theorem dX8_workAlone_64 : decode cX8_workAlone 64 = .ok (.iload_n 1, 1) := by decide +kernel
theorem dX8_workAlone_65 : decode cX8_workAlone 65 = .ok (.aload_n 0, 1) := by decide +kernel
theorem dX8_workAlone_66 : decode cX8_workAlone 66 = .ok (.getfield 25, 3) := by decide +kernel
theorem dX8_workAlone_69 : decode cX8_workAlone 69 = .ok (.invokevirtual 274, 3) := by decide +kernel
theorem dX8_workAlone_72 : decode cX8_workAlone 72 = .ok (.iload_n 1, 1) := by decide +kernel
theorem dX8_workAlone_73 : decode cX8_workAlone 73 = .ok (.invokevirtual 277, 3) := by decide +kernel
theorem dX8_workAlone_76 : decode cX8_workAlone 76 = .ok (.iinc 1 1, 3) := by decide +kernel
theorem dX8_workAlone_79 : decode cX8_workAlone 79 = .ok (.goto (-70), 3) := by decide +kernel
theorem dX8_workAlone_82 : decode cX8_workAlone 82 = .ok (.iconst 0, 1) := by decide +kernel
theorem dX8_workAlone_83 : decode cX8_workAlone 83 = .ok (.istore_n 1, 1) := by decide +kernel
theorem dX8_workAlone_84 : decode cX8_workAlone 84 = .ok (.iload_n 1, 1) := by decide +kernel
theorem dX8_workAlone_85 : decode cX8_workAlone 85 = .ok (.aload_n 0, 1) := by decide +kernel
theorem dX8_workAlone_86 : decode cX8_workAlone 86 = .ok (.getfield 12, 3) := by decide +kernel
theorem dX8_workAlone_89 : decode cX8_workAlone 89 = .ok (.getfield 64, 3) := by decide +kernel
theorem dX8_workAlone_92 : decode cX8_workAlone 92 = .ok (.if_icmp .ge 28, 3) := by decide +kernel
theorem dX8_workAlone_95 : decode cX8_workAlone 95 = .ok (.aload_n 0, 1) := by decide +kernel
theorem dX8_workAlone_96 : decode cX8_workAlone 96 = .ok (.getfield 31, 3) := by decide +kernel
theorem dX8_workAlone_99 : decode cX8_workAlone 99 = .ok (.aload_n 0, 1) := by decide +kernel
theorem dX8_workAlone_100 : decode cX8_workAlone 100 = .ok (.getfield 12, 3) := by decide +kernel
theorem dX8_workAlone_103 : decode cX8_workAlone 103 = .ok (.getfield 116, 3) := by decide +kernel
theorem dX8_workAlone_106 : decode cX8_workAlone 106 = .ok (.iload_n 1, 1) := by decide +kernel
theorem dX8_workAlone_107 : decode cX8_workAlone 107 = .ok (.aload_n 0, 1) := by decide +kernel
theorem dX8_workAlone_108 : decode cX8_workAlone 108 = .ok (.getfield 25, 3) := by decide +kernel
theorem dX8_workAlone_111 : decode cX8_workAlone 111 = .ok (.invokevirtual 288, 3) := by decide +kernel
theorem dX8_workAlone_114 : decode cX8_workAlone 114 = .ok (.iinc 1 1, 3) := by decide +kernel
theorem dX8_workAlone_117 : decode cX8_workAlone 117 = .ok (.goto (-33), 3) := by decide +kernel
theorem dX8_workAlone_120 : decode cX8_workAlone 120 = .ok (.return_, 1) := by decide +kernel
theorem dX8_comeInto_0 : decode cX8_comeInto 0 = .ok (.aload_n 0, 1) := by decide +kernel
theorem dX8_comeInto_1 : decode cX8_comeInto 1 = .ok (.getfield 51, 3) := by decide +kernel
theorem dX8_comeInto_4 : decode cX8_comeInto 4 = .ok (.iload_n 1, 1) := by decide +kernel
theorem dX8_comeInto_5 : decode cX8_comeInto 5 = .ok (.aaload, 1) := by decide +kernel
theorem dX8_comeInto_6 : decode cX8_comeInto 6 = .ok (.astore_n 3, 1) := by decide +kernel
theorem dX8_comeInto_7 : decode cX8_comeInto 7 = .ok (.aload_n 3, 1) := by decide +kernel
theorem dX8_comeInto_8 : decode cX8_comeInto 8 = .ok (.iload_n 2, 1) := by decide +kernel
theorem dX8_comeInto_9 : decode cX8_comeInto 9 = .ok (.invokevirtual 292, 3) := by decide +kernel
theorem dX8_comeInto_12 : decode cX8_comeInto 12 = .ok (.iload_n 2, 1) := by decide +kernel
theorem dX8_comeInto_13 : decode cX8_comeInto 13 = .ok (.sipush 200, 3) := by decide +kernel
theorem dX8_comeInto_16 : decode cX8_comeInto 16 = .ok (.if_icmp .lt 9, 3) := by decide +kernel
theorem dX8_comeInto_19 : decode cX8_comeInto 19 = .ok (.aload_n 3, 1) := by decide +kernel
theorem dX8_comeInto_20 : decode cX8_comeInto 20 = .ok (.iconst 1, 1) := by decide +kernel
theorem dX8_comeInto_21 : decode cX8_comeInto 21 = .ok (.putfield 236, 3) := by decide +kernel
theorem dX8_comeInto_24 : decode cX8_comeInto 24 = .ok (.return_, 1) := by decide +kernel
theorem dX8_comeInto_25 : decode cX8_comeInto 25 = .ok (.aload_n 0, 1) := by decide +kernel
theorem dX8_comeInto_26 : decode cX8_comeInto 26 = .ok (.iload_n 2, 1) := by decide +kernel
theorem dX8_comeInto_27 : decode cX8_comeInto 27 = .ok (.invokevirtual 295, 3) := by decide +kernel
theorem dX8_comeInto_30 : decode cX8_comeInto 30 = .ok (.ifCond .eq 8, 3) := by decide +kernel
theorem dX8_comeInto_33 : decode cX8_comeInto 33 = .ok (.aload_n 0, 1) := by decide +kernel
theorem dX8_comeInto_34 : decode cX8_comeInto 34 = .ok (.iload_n 1, 1) := by decide +kernel
theorem dX8_comeInto_35 : decode cX8_comeInto 35 = .ok (.invokevirtual 223, 3) := by decide +kernel
theorem dX8_comeInto_38 : decode cX8_comeInto 38 = .ok (.aload_n 0, 1) := by decide +kernel
theorem dX8_comeInto_39 : decode cX8_comeInto 39 = .ok (.iload_n 1, 1) := by decide +kernel
theorem dX8_comeInto_40 : decode cX8_comeInto 40 = .ok (.invokevirtual 208, 3) := by decide +kernel
theorem dX8_comeInto_43 : decode cX8_comeInto 43 = .ok (.return_, 1) := by decide +kernel
theorem dX8_keepMark_0 : decode cX8_keepMark 0 = .ok (.aload_n 0, 1) := by decide +kernel
theorem dX8_keepMark_1 : decode cX8_keepMark 1 = .ok (.getfield 51, 3) := by decide +kernel
theorem dX8_keepMark_4 : decode cX8_keepMark 4 = .ok (.iload_n 1, 1) := by decide +kernel
theorem dX8_keepMark_5 : decode cX8_keepMark 5 = .ok (.aaload, 1) := by decide +kernel
theorem dX8_keepMark_6 : decode cX8_keepMark 6 = .ok (.invokevirtual 298, 3) := by decide +kernel
theorem dX8_keepMark_9 : decode cX8_keepMark 9 = .ok (.astore_n 2, 1) := by decide +kernel
theorem dX8_keepMark_10 : decode cX8_keepMark 10 = .ok (.aload_n 0, 1) := by decide +kernel
theorem dX8_keepMark_11 : decode cX8_keepMark 11 = .ok (.iload_n 1, 1) := by decide +kernel
theorem dX8_keepMark_12 : decode cX8_keepMark 12 = .ok (.aload_n 0, 1) := by decide +kernel
theorem dX8_keepMark_13 : decode cX8_keepMark 13 = .ok (.getfield 21, 3) := by decide +kernel
theorem dX8_keepMark_16 : decode cX8_keepMark 16 = .ok (.aload_n 2, 1) := by decide +kernel
theorem dX8_keepMark_17 : decode cX8_keepMark 17 = .ok (.getfield 201, 3) := by decide +kernel
theorem dX8_keepMark_20 : decode cX8_keepMark 20 = .ok (.invokevirtual 204, 3) := by decide +kernel
theorem dX8_keepMark_23 : decode cX8_keepMark 23 = .ok (.return_, 1) := by decide +kernel
theorem dX8_copyVertices_0 : decode cX8_copyVertices 0 = .ok (.iconst 0, 1) := by decide +kernel
theorem dX8_copyVertices_1 : decode cX8_copyVertices 1 = .ok (.istore 4, 2) := by decide +kernel
theorem dX8_copyVertices_3 : decode cX8_copyVertices 3 = .ok (.iload 4, 2) := by decide +kernel
theorem dX8_copyVertices_5 : decode cX8_copyVertices 5 = .ok (.aload_n 0, 1) := by decide +kernel
theorem dX8_copyVertices_6 : decode cX8_copyVertices 6 = .ok (.getfield 12, 3) := by decide +kernel
theorem dX8_copyVertices_9 : decode cX8_copyVertices 9 = .ok (.getfield 64, 3) := by decide +kernel
theorem dX8_copyVertices_12 : decode cX8_copyVertices 12 = .ok (.if_icmp .ge 30, 3) := by decide +kernel
theorem dX8_copyVertices_15 : decode cX8_copyVertices 15 = .ok (.aload_n 0, 1) := by decide +kernel
theorem dX8_copyVertices_16 : decode cX8_copyVertices 16 = .ok (.getfield 12, 3) := by decide +kernel
theorem dX8_copyVertices_19 : decode cX8_copyVertices 19 = .ok (.getfield 214, 3) := by decide +kernel
theorem dX8_copyVertices_22 : decode cX8_copyVertices 22 = .ok (.iload 4, 2) := by decide +kernel
theorem dX8_copyVertices_24 : decode cX8_copyVertices 24 = .ok (.iaload, 1) := by decide +kernel
theorem dX8_copyVertices_25 : decode cX8_copyVertices 25 = .ok (.iload_n 1, 1) := by decide +kernel
theorem dX8_copyVertices_26 : decode cX8_copyVertices 26 = .ok (.if_icmp .ne 10, 3) := by decide +kernel
theorem dX8_copyVertices_29 : decode cX8_copyVertices 29 = .ok (.aload_n 3, 1) := by decide +kernel
theorem dX8_copyVertices_30 : decode cX8_copyVertices 30 = .ok (.iload 4, 2) := by decide +kernel
theorem dX8_copyVertices_32 : decode cX8_copyVertices 32 = .ok (.aload_n 2, 1) := by decide +kernel
theorem dX8_copyVertices_33 : decode cX8_copyVertices 33 = .ok (.invokevirtual 302, 3) := by decide +kernel
theorem dX8_copyVertices_36 : decode cX8_copyVertices 36 = .ok (.iinc 4 1, 3) := by decide +kernel
theorem dX8_copyVertices_39 : decode cX8_copyVertices 39 = .ok (.goto (-36), 3) := by decide +kernel
theorem dX8_copyVertices_42 : decode cX8_copyVertices 42 = .ok (.return_, 1) := by decide +kernel
theorem dX8_writeLetters_0 : decode cX8_writeLetters 0 = .ok (.aload_n 0, 1) := by decide +kernel
theorem dX8_writeLetters_1 : decode cX8_writeLetters 1 = .ok (.getfield 51, 3) := by decide +kernel
theorem dX8_writeLetters_4 : decode cX8_writeLetters 4 = .ok (.iload_n 1, 1) := by decide +kernel
theorem dX8_writeLetters_5 : decode cX8_writeLetters 5 = .ok (.aaload, 1) := by decide +kernel
theorem dX8_writeLetters_6 : decode cX8_writeLetters 6 = .ok (.astore_n 2, 1) := by decide +kernel
theorem dX8_writeLetters_7 : decode cX8_writeLetters 7 = .ok (.aload_n 0, 1) := by decide +kernel
theorem dX8_writeLetters_8 : decode cX8_writeLetters 8 = .ok (.getfield 12, 3) := by decide +kernel
theorem dX8_writeLetters_11 : decode cX8_writeLetters 11 = .ok (.iload_n 1, 1) := by decide +kernel
theorem dX8_writeLetters_12 : decode cX8_writeLetters 12 = .ok (.aload_n 0, 1) := by decide +kernel
theorem dX8_writeLetters_13 : decode cX8_writeLetters 13 = .ok (.getfield 21, 3) := by decide +kernel
theorem dX8_writeLetters_16 : decode cX8_writeLetters 16 = .ok (.invokevirtual 250, 3) := by decide +kernel
theorem dX8_writeLetters_19 : decode cX8_writeLetters 19 = .ok (.istore_n 3, 1) := by decide +kernel
theorem dX8_writeLetters_20 : decode cX8_writeLetters 20 = .ok (.iconst 0, 1) := by decide +kernel
theorem dX8_writeLetters_21 : decode cX8_writeLetters 21 = .ok (.istore 4, 2) := by decide +kernel
theorem dX8_writeLetters_23 : decode cX8_writeLetters 23 = .ok (.iload 4, 2) := by decide +kernel
theorem dX8_writeLetters_25 : decode cX8_writeLetters 25 = .ok (.aload_n 0, 1) := by decide +kernel
theorem dX8_writeLetters_26 : decode cX8_writeLetters 26 = .ok (.getfield 60, 3) := by decide +kernel
theorem dX8_writeLetters_29 : decode cX8_writeLetters 29 = .ok (.if_icmp .ge 88, 3) := by decide +kernel
theorem dX8_writeLetters_32 : decode cX8_writeLetters 32 = .ok (.iload 4, 2) := by decide +kernel
theorem dX8_writeLetters_34 : decode cX8_writeLetters 34 = .ok (.iload_n 1, 1) := by decide +kernel
theorem dX8_writeLetters_35 : decode cX8_writeLetters 35 = .ok (.if_icmp .eq 76, 3) := by decide +kernel
theorem dX8_writeLetters_38 : decode cX8_writeLetters 38 = .ok (.aload_n 0, 1) := by decide +kernel
theorem dX8_writeLetters_39 : decode cX8_writeLetters 39 = .ok (.getfield 38, 3) := by decide +kernel
theorem dX8_writeLetters_42 : decode cX8_writeLetters 42 = .ok (.aload_n 0, 1) := by decide +kernel
theorem dX8_writeLetters_43 : decode cX8_writeLetters 43 = .ok (.getfield 12, 3) := by decide +kernel
theorem dX8_writeLetters_46 : decode cX8_writeLetters 46 = .ok (.aload_n 0, 1) := by decide +kernel
theorem dX8_writeLetters_47 : decode cX8_writeLetters 47 = .ok (.getfield 21, 3) := by decide +kernel
theorem dX8_writeLetters_50 : decode cX8_writeLetters 50 = .ok (.iload_n 1, 1) := by decide +kernel
theorem dX8_writeLetters_51 : decode cX8_writeLetters 51 = .ok (.iload 4, 2) := by decide +kernel
theorem dX8_writeLetters_53 : decode cX8_writeLetters 53 = .ok (.aload_n 0, 1) := by decide +kernel
theorem dX8_writeLetters_54 : decode cX8_writeLetters 54 = .ok (.getfield 81, 3) := by decide +kernel
theorem dX8_writeLetters_57 : decode cX8_writeLetters 57 = .ok (.invokevirtual 306, 3) := by decide +kernel
theorem dX8_writeLetters_60 : decode cX8_writeLetters 60 = .ok (.new 130, 3) := by decide +kernel
theorem dX8_writeLetters_63 : decode cX8_writeLetters 63 = .ok (.dup, 1) := by decide +kernel
theorem dX8_writeLetters_64 : decode cX8_writeLetters 64 = .ok (.aload_n 0, 1) := by decide +kernel
theorem dX8_writeLetters_65 : decode cX8_writeLetters 65 = .ok (.getfield 88, 3) := by decide +kernel
theorem dX8_writeLetters_68 : decode cX8_writeLetters 68 = .ok (.aload_n 2, 1) := by decide +kernel
theorem dX8_writeLetters_69 : decode cX8_writeLetters 69 = .ok (.getfield 178, 3) := by decide +kernel
theorem dX8_writeLetters_72 : decode cX8_writeLetters 72 = .ok (.iload_n 1, 1) := by decide +kernel
theorem dX8_writeLetters_73 : decode cX8_writeLetters 73 = .ok (.iload 4, 2) := by decide +kernel
theorem dX8_writeLetters_75 : decode cX8_writeLetters 75 = .ok (.iload_n 3, 1) := by decide +kernel
theorem dX8_writeLetters_76 : decode cX8_writeLetters 76 = .ok (.aload_n 0, 1) := by decide +kernel
theorem dX8_writeLetters_77 : decode cX8_writeLetters 77 = .ok (.getfield 38, 3) := by decide +kernel
theorem dX8_writeLetters_80 : decode cX8_writeLetters 80 = .ok (.invokespecial 310, 3) := by decide +kernel
theorem dX8_writeLetters_83 : decode cX8_writeLetters 83 = .ok (.astore 5, 2) := by decide +kernel
theorem dX8_writeLetters_85 : decode cX8_writeLetters 85 = .ok (.aload_n 0, 1) := by decide +kernel
theorem dX8_writeLetters_86 : decode cX8_writeLetters 86 = .ok (.dup, 1) := by decide +kernel
theorem dX8_writeLetters_87 : decode cX8_writeLetters 87 = .ok (.getfield 91, 3) := by decide +kernel
theorem dX8_writeLetters_90 : decode cX8_writeLetters 90 = .ok (.iconst 1, 1) := by decide +kernel
theorem dX8_writeLetters_91 : decode cX8_writeLetters 91 = .ok (.iadd, 1) := by decide +kernel
theorem dX8_writeLetters_92 : decode cX8_writeLetters 92 = .ok (.putfield 91, 3) := by decide +kernel
theorem dX8_writeLetters_95 : decode cX8_writeLetters 95 = .ok (.aload_n 2, 1) := by decide +kernel
theorem dX8_writeLetters_96 : decode cX8_writeLetters 96 = .ok (.aload 5, 2) := by decide +kernel
theorem dX8_writeLetters_98 : decode cX8_writeLetters 98 = .ok (.invokevirtual 313, 3) := by decide +kernel
theorem dX8_writeLetters_101 : decode cX8_writeLetters 101 = .ok (.aload_n 0, 1) := by decide +kernel
theorem dX8_writeLetters_102 : decode cX8_writeLetters 102 = .ok (.getfield 45, 3) := by decide +kernel
theorem dX8_writeLetters_105 : decode cX8_writeLetters 105 = .ok (.aload 5, 2) := by decide +kernel
theorem dX8_writeLetters_107 : decode cX8_writeLetters 107 = .ok (.invokevirtual 171, 3) := by decide +kernel
theorem dX8_writeLetters_110 : decode cX8_writeLetters 110 = .ok (.pop, 1) := by decide +kernel
theorem dX8_writeLetters_111 : decode cX8_writeLetters 111 = .ok (.iinc 4 1, 3) := by decide +kernel
theorem dX8_writeLetters_114 : decode cX8_writeLetters 114 = .ok (.goto (-91), 3) := by decide +kernel
theorem dX8_writeLetters_117 : decode cX8_writeLetters 117 = .ok (.return_, 1) := by decide +kernel
theorem dX8_wholeMark_0 : decode cX8_wholeMark 0 = .ok (.aload_n 0, 1) := by decide +kernel
theorem dX8_wholeMark_1 : decode cX8_wholeMark 1 = .ok (.getfield 51, 3) := by decide +kernel
theorem dX8_wholeMark_4 : decode cX8_wholeMark 4 = .ok (.iconst 0, 1) := by decide +kernel
theorem dX8_wholeMark_5 : decode cX8_wholeMark 5 = .ok (.aaload, 1) := by decide +kernel
theorem dX8_wholeMark_6 : decode cX8_wholeMark 6 = .ok (.getfield 197, 3) := by decide +kernel
theorem dX8_wholeMark_9 : decode cX8_wholeMark 9 = .ok (.getfield 246, 3) := by decide +kernel
theorem dX8_wholeMark_12 : decode cX8_wholeMark 12 = .ok (.istore_n 1, 1) := by decide +kernel
theorem dX8_wholeMark_13 : decode cX8_wholeMark 13 = .ok (.aload_n 0, 1) := by decide +kernel
theorem dX8_wholeMark_14 : decode cX8_wholeMark 14 = .ok (.iload_n 1, 1) := by decide +kernel
theorem dX8_wholeMark_15 : decode cX8_wholeMark 15 = .ok (.invokevirtual 316, 3) := by decide +kernel
theorem dX8_wholeMark_18 : decode cX8_wholeMark 18 = .ok (.ifCond .eq 7, 3) := by decide +kernel
theorem dX8_wholeMark_21 : decode cX8_wholeMark 21 = .ok (.iload_n 1, 1) := by decide +kernel
theorem dX8_wholeMark_22 : decode cX8_wholeMark 22 = .ok (.goto 15, 3) := by decide +kernel
theorem dX8_wholeMark_25 : decode cX8_wholeMark 25 = .ok (.aload_n 0, 1) := by decide +kernel
theorem dX8_wholeMark_26 : decode cX8_wholeMark 26 = .ok (.getfield 51, 3) := by decide +kernel
theorem dX8_wholeMark_29 : decode cX8_wholeMark 29 = .ok (.iconst 0, 1) := by decide +kernel
theorem dX8_wholeMark_30 : decode cX8_wholeMark 30 = .ok (.aaload, 1) := by decide +kernel
theorem dX8_wholeMark_31 : decode cX8_wholeMark 31 = .ok (.getfield 319, 3) := by decide +kernel
theorem dX8_wholeMark_34 : decode cX8_wholeMark 34 = .ok (.getfield 246, 3) := by decide +kernel
theorem dX8_wholeMark_37 : decode cX8_wholeMark 37 = .ok (.ireturn, 1) := by decide +kernel
theorem dX8_isMarkedByAll_0 : decode cX8_isMarkedByAll 0 = .ok (.iconst 0, 1) := by decide +kernel
theorem dX8_isMarkedByAll_1 : decode cX8_isMarkedByAll 1 = .ok (.istore_n 2, 1) := by decide +kernel
theorem dX8_isMarkedByAll_2 : decode cX8_isMarkedByAll 2 = .ok (.iload_n 2, 1) := by decide +kernel
theorem dX8_isMarkedByAll_3 : decode cX8_isMarkedByAll 3 = .ok (.aload_n 0, 1) := by decide +kernel
theorem dX8_isMarkedByAll_4 : decode cX8_isMarkedByAll 4 = .ok (.getfield 60, 3) := by decide +kernel
theorem dX8_isMarkedByAll_7 : decode cX8_isMarkedByAll 7 = .ok (.if_icmp .ge 43, 3) := by decide +kernel
theorem dX8_isMarkedByAll_10 : decode cX8_isMarkedByAll 10 = .ok (.aload_n 0, 1) := by decide +kernel
theorem dX8_isMarkedByAll_11 : decode cX8_isMarkedByAll 11 = .ok (.getfield 51, 3) := by decide +kernel
theorem dX8_isMarkedByAll_14 : decode cX8_isMarkedByAll 14 = .ok (.iload_n 2, 1) := by decide +kernel
theorem dX8_isMarkedByAll_15 : decode cX8_isMarkedByAll 15 = .ok (.aaload, 1) := by decide +kernel
theorem dX8_isMarkedByAll_16 : decode cX8_isMarkedByAll 16 = .ok (.getfield 197, 3) := by decide +kernel
theorem dX8_isMarkedByAll_19 : decode cX8_isMarkedByAll 19 = .ok (.getfield 246, 3) := by decide +kernel
theorem dX8_isMarkedByAll_22 : decode cX8_isMarkedByAll 22 = .ok (.iload_n 1, 1) := by decide +kernel
theorem dX8_isMarkedByAll_23 : decode cX8_isMarkedByAll 23 = .ok (.if_icmp .eq 21, 3) := by decide +kernel
theorem dX8_isMarkedByAll_26 : decode cX8_isMarkedByAll 26 = .ok (.aload_n 0, 1) := by decide +kernel
theorem dX8_isMarkedByAll_27 : decode cX8_isMarkedByAll 27 = .ok (.getfield 51, 3) := by decide +kernel
theorem dX8_isMarkedByAll_30 : decode cX8_isMarkedByAll 30 = .ok (.iload_n 2, 1) := by decide +kernel
theorem dX8_isMarkedByAll_31 : decode cX8_isMarkedByAll 31 = .ok (.aaload, 1) := by decide +kernel
theorem dX8_isMarkedByAll_32 : decode cX8_isMarkedByAll 32 = .ok (.getfield 319, 3) := by decide +kernel
theorem dX8_isMarkedByAll_35 : decode cX8_isMarkedByAll 35 = .ok (.getfield 246, 3) := by decide +kernel
theorem dX8_isMarkedByAll_38 : decode cX8_isMarkedByAll 38 = .ok (.iload_n 1, 1) := by decide +kernel
theorem dX8_isMarkedByAll_39 : decode cX8_isMarkedByAll 39 = .ok (.if_icmp .eq 5, 3) := by decide +kernel
theorem dX8_isMarkedByAll_42 : decode cX8_isMarkedByAll 42 = .ok (.iconst 0, 1) := by decide +kernel
theorem dX8_isMarkedByAll_43 : decode cX8_isMarkedByAll 43 = .ok (.ireturn, 1) := by decide +kernel
theorem dX8_isMarkedByAll_44 : decode cX8_isMarkedByAll 44 = .ok (.iinc 2 1, 3) := by decide +kernel
theorem dX8_isMarkedByAll_47 : decode cX8_isMarkedByAll 47 = .ok (.goto (-45), 3) := by decide +kernel
theorem dX8_isMarkedByAll_50 : decode cX8_isMarkedByAll 50 = .ok (.iconst 1, 1) := by decide +kernel
theorem dX8_isMarkedByAll_51 : decode cX8_isMarkedByAll 51 = .ok (.ireturn, 1) := by decide +kernel
theorem dX8_fold_0 : decode cX8_fold 0 = .ok (.iload_n 0, 1) := by decide +kernel
theorem dX8_fold_1 : decode cX8_fold 1 = .ok (.lookupswitch 39 #[(0, 27), (1, 33)], 27) := by decide +kernel
theorem dX8_fold_28 : decode cX8_fold 28 = .ok (.iload_n 1, 1) := by decide +kernel
theorem dX8_fold_29 : decode cX8_fold 29 = .ok (.iload_n 2, 1) := by decide +kernel
theorem dX8_fold_30 : decode cX8_fold 30 = .ok (.invokestatic 322, 3) := by decide +kernel
theorem dX8_fold_33 : decode cX8_fold 33 = .ok (.ireturn, 1) := by decide +kernel
theorem dX8_fold_34 : decode cX8_fold 34 = .ok (.iload_n 1, 1) := by decide +kernel
theorem dX8_fold_35 : decode cX8_fold 35 = .ok (.iload_n 2, 1) := by decide +kernel
theorem dX8_fold_36 : decode cX8_fold 36 = .ok (.invokestatic 327, 3) := by decide +kernel
theorem dX8_fold_39 : decode cX8_fold 39 = .ok (.ireturn, 1) := by decide +kernel
theorem dX8_fold_40 : decode cX8_fold 40 = .ok (.iload_n 1, 1) := by decide +kernel
theorem dX8_fold_41 : decode cX8_fold 41 = .ok (.iload_n 2, 1) := by decide +kernel
theorem dX8_fold_42 : decode cX8_fold 42 = .ok (.iadd, 1) := by decide +kernel
theorem dX8_fold_43 : decode cX8_fold 43 = .ok (.ireturn, 1) := by decide +kernel
theorem dX9_init_0 : decode cX9_init 0 = .ok (.aload_n 0, 1) := by decide +kernel
theorem dX9_init_1 : decode cX9_init 1 = .ok (.invokespecial 1, 3) := by decide +kernel
theorem dX9_init_4 : decode cX9_init 4 = .ok (.aload_n 0, 1) := by decide +kernel
theorem dX9_init_5 : decode cX9_init 5 = .ok (.iconst 2, 1) := by decide +kernel
theorem dX9_init_6 : decode cX9_init 6 = .ok (.putfield 7, 3) := by decide +kernel
theorem dX9_init_9 : decode cX9_init 9 = .ok (.aload_n 0, 1) := by decide +kernel
theorem dX9_init_10 : decode cX9_init 10 = .ok (.bipush 16, 2) := by decide +kernel
theorem dX9_init_12 : decode cX9_init 12 = .ok (.newarray .int, 2) := by decide +kernel
theorem dX9_init_14 : decode cX9_init 14 = .ok (.putfield 13, 3) := by decide +kernel
theorem dX9_init_17 : decode cX9_init 17 = .ok (.aload_n 0, 1) := by decide +kernel
theorem dX9_init_18 : decode cX9_init 18 = .ok (.bipush 16, 2) := by decide +kernel
theorem dX9_init_20 : decode cX9_init 20 = .ok (.newarray .int, 2) := by decide +kernel
theorem dX9_init_22 : decode cX9_init 22 = .ok (.putfield 17, 3) := by decide +kernel
theorem dX9_init_25 : decode cX9_init 25 = .ok (.aload_n 0, 1) := by decide +kernel
theorem dX9_init_26 : decode cX9_init 26 = .ok (.bipush 16, 2) := by decide +kernel
theorem dX9_init_28 : decode cX9_init 28 = .ok (.newarray .int, 2) := by decide +kernel
theorem dX9_init_30 : decode cX9_init 30 = .ok (.putfield 20, 3) := by decide +kernel
theorem dX9_init_33 : decode cX9_init 33 = .ok (.aload_n 0, 1) := by decide +kernel
theorem dX9_init_34 : decode cX9_init 34 = .ok (.bipush 16, 2) := by decide +kernel
theorem dX9_init_36 : decode cX9_init 36 = .ok (.newarray .boolean, 2) := by decide +kernel
theorem dX9_init_38 : decode cX9_init 38 = .ok (.putfield 23, 3) := by decide +kernel
theorem dX9_init_41 : decode cX9_init 41 = .ok (.aload_n 0, 1) := by decide +kernel
theorem dX9_init_42 : decode cX9_init 42 = .ok (.bipush 16, 2) := by decide +kernel
theorem dX9_init_44 : decode cX9_init 44 = .ok (.newarray .int, 2) := by decide +kernel
theorem dX9_init_46 : decode cX9_init 46 = .ok (.putfield 27, 3) := by decide +kernel
theorem dX9_init_49 : decode cX9_init 49 = .ok (.aload_n 0, 1) := by decide +kernel
theorem dX9_init_50 : decode cX9_init 50 = .ok (.bipush 40, 2) := by decide +kernel
theorem dX9_init_52 : decode cX9_init 52 = .ok (.newarray .int, 2) := by decide +kernel
theorem dX9_init_54 : decode cX9_init 54 = .ok (.putfield 30, 3) := by decide +kernel
theorem dX9_init_57 : decode cX9_init 57 = .ok (.aload_n 0, 1) := by decide +kernel
theorem dX9_init_58 : decode cX9_init 58 = .ok (.bipush 40, 2) := by decide +kernel
theorem dX9_init_60 : decode cX9_init 60 = .ok (.newarray .int, 2) := by decide +kernel
theorem dX9_init_62 : decode cX9_init 62 = .ok (.putfield 33, 3) := by decide +kernel
theorem dX9_init_65 : decode cX9_init 65 = .ok (.aload_n 0, 1) := by decide +kernel
theorem dX9_init_66 : decode cX9_init 66 = .ok (.bipush 40, 2) := by decide +kernel
theorem dX9_init_68 : decode cX9_init 68 = .ok (.newarray .int, 2) := by decide +kernel
theorem dX9_init_70 : decode cX9_init 70 = .ok (.putfield 36, 3) := by decide +kernel
theorem dX9_init_73 : decode cX9_init 73 = .ok (.aload_n 0, 1) := by decide +kernel
theorem dX9_init_74 : decode cX9_init 74 = .ok (.iconst 5, 1) := by decide +kernel
theorem dX9_init_75 : decode cX9_init 75 = .ok (.newarray .int, 2) := by decide +kernel
theorem dX9_init_77 : decode cX9_init 77 = .ok (.putfield 39, 3) := by decide +kernel
theorem dX9_init_80 : decode cX9_init 80 = .ok (.aload_n 0, 1) := by decide +kernel
theorem dX9_init_81 : decode cX9_init 81 = .ok (.iconst 5, 1) := by decide +kernel
theorem dX9_init_82 : decode cX9_init 82 = .ok (.newarray .boolean, 2) := by decide +kernel
theorem dX9_init_84 : decode cX9_init 84 = .ok (.putfield 42, 3) := by decide +kernel
theorem dX9_init_87 : decode cX9_init 87 = .ok (.aload_n 0, 1) := by decide +kernel
theorem dX9_init_88 : decode cX9_init 88 = .ok (.iconst 5, 1) := by decide +kernel
theorem dX9_init_89 : decode cX9_init 89 = .ok (.newarray .boolean, 2) := by decide +kernel
theorem dX9_init_91 : decode cX9_init 91 = .ok (.putfield 45, 3) := by decide +kernel
theorem dX9_init_94 : decode cX9_init 94 = .ok (.aload_n 0, 1) := by decide +kernel
theorem dX9_init_95 : decode cX9_init 95 = .ok (.sipush 160, 3) := by decide +kernel
theorem dX9_init_98 : decode cX9_init 98 = .ok (.newarray .boolean, 2) := by decide +kernel
theorem dX9_init_100 : decode cX9_init 100 = .ok (.putfield 48, 3) := by decide +kernel
theorem dX9_init_103 : decode cX9_init 103 = .ok (.aload_n 0, 1) := by decide +kernel
theorem dX9_init_104 : decode cX9_init 104 = .ok (.sipush 160, 3) := by decide +kernel
theorem dX9_init_107 : decode cX9_init 107 = .ok (.newarray .int, 2) := by decide +kernel
theorem dX9_init_109 : decode cX9_init 109 = .ok (.putfield 51, 3) := by decide +kernel
theorem dX9_init_112 : decode cX9_init 112 = .ok (.aload_n 0, 1) := by decide +kernel
theorem dX9_init_113 : decode cX9_init 113 = .ok (.sipush 160, 3) := by decide +kernel
theorem dX9_init_116 : decode cX9_init 116 = .ok (.newarray .int, 2) := by decide +kernel
theorem dX9_init_118 : decode cX9_init 118 = .ok (.putfield 54, 3) := by decide +kernel
theorem dX9_init_121 : decode cX9_init 121 = .ok (.aload_n 0, 1) := by decide +kernel
theorem dX9_init_122 : decode cX9_init 122 = .ok (.sipush 160, 3) := by decide +kernel
theorem dX9_init_125 : decode cX9_init 125 = .ok (.newarray .int, 2) := by decide +kernel
theorem dX9_init_127 : decode cX9_init 127 = .ok (.putfield 57, 3) := by decide +kernel
theorem dX9_init_130 : decode cX9_init 130 = .ok (.aload_n 0, 1) := by decide +kernel
theorem dX9_init_131 : decode cX9_init 131 = .ok (.sipush 160, 3) := by decide +kernel
theorem dX9_init_134 : decode cX9_init 134 = .ok (.newarray .int, 2) := by decide +kernel
theorem dX9_init_136 : decode cX9_init 136 = .ok (.putfield 60, 3) := by decide +kernel
theorem dX9_init_139 : decode cX9_init 139 = .ok (.aload_n 0, 1) := by decide +kernel
theorem dX9_init_140 : decode cX9_init 140 = .ok (.sipush 160, 3) := by decide +kernel
theorem dX9_init_143 : decode cX9_init 143 = .ok (.newarray .int, 2) := by decide +kernel
theorem dX9_init_145 : decode cX9_init 145 = .ok (.putfield 63, 3) := by decide +kernel
theorem dX9_init_148 : decode cX9_init 148 = .ok (.aload_n 0, 1) := by decide +kernel
theorem dX9_init_149 : decode cX9_init 149 = .ok (.sipush 160, 3) := by decide +kernel
theorem dX9_init_152 : decode cX9_init 152 = .ok (.newarray .int, 2) := by decide +kernel
theorem dX9_init_154 : decode cX9_init 154 = .ok (.putfield 66, 3) := by decide +kernel
theorem dX9_init_157 : decode cX9_init 157 = .ok (.aload_n 0, 1) := by decide +kernel
theorem dX9_init_158 : decode cX9_init 158 = .ok (.sipush 6400, 3) := by decide +kernel
theorem dX9_init_161 : decode cX9_init 161 = .ok (.newarray .int, 2) := by decide +kernel
theorem dX9_init_163 : decode cX9_init 163 = .ok (.putfield 69, 3) := by decide +kernel
theorem dX9_init_166 : decode cX9_init 166 = .ok (.aload_n 0, 1) := by decide +kernel
theorem dX9_init_167 : decode cX9_init 167 = .ok (.sipush 6400, 3) := by decide +kernel
theorem dX9_init_170 : decode cX9_init 170 = .ok (.newarray .int, 2) := by decide +kernel
theorem dX9_init_172 : decode cX9_init 172 = .ok (.putfield 72, 3) := by decide +kernel
theorem dX9_init_175 : decode cX9_init 175 = .ok (.aload_n 0, 1) := by decide +kernel
theorem dX9_init_176 : decode cX9_init 176 = .ok (.sipush 6400, 3) := by decide +kernel
theorem dX9_init_179 : decode cX9_init 179 = .ok (.newarray .int, 2) := by decide +kernel
theorem dX9_init_181 : decode cX9_init 181 = .ok (.putfield 75, 3) := by decide +kernel
theorem dX9_init_184 : decode cX9_init 184 = .ok (.aload_n 0, 1) := by decide +kernel
theorem dX9_init_185 : decode cX9_init 185 = .ok (.bipush 10, 2) := by decide +kernel
theorem dX9_init_187 : decode cX9_init 187 = .ok (.newarray .int, 2) := by decide +kernel
theorem dX9_init_189 : decode cX9_init 189 = .ok (.putfield 78, 3) := by decide +kernel
theorem dX9_init_192 : decode cX9_init 192 = .ok (.aload_n 0, 1) := by decide +kernel
theorem dX9_init_193 : decode cX9_init 193 = .ok (.sipush 160, 3) := by decide +kernel
theorem dX9_init_196 : decode cX9_init 196 = .ok (.newarray .int, 2) := by decide +kernel
theorem dX9_init_198 : decode cX9_init 198 = .ok (.putfield 81, 3) := by decide +kernel
theorem dX9_init_201 : decode cX9_init 201 = .ok (.aload_n 0, 1) := by decide +kernel
theorem dX9_init_202 : decode cX9_init 202 = .ok (.sipush 160, 3) := by decide +kernel
theorem dX9_init_205 : decode cX9_init 205 = .ok (.newarray .int, 2) := by decide +kernel
theorem dX9_init_207 : decode cX9_init 207 = .ok (.putfield 84, 3) := by decide +kernel
theorem dX9_init_210 : decode cX9_init 210 = .ok (.aload_n 0, 1) := by decide +kernel
theorem dX9_init_211 : decode cX9_init 211 = .ok (.sipush 160, 3) := by decide +kernel
theorem dX9_init_214 : decode cX9_init 214 = .ok (.newarray .boolean, 2) := by decide +kernel
theorem dX9_init_216 : decode cX9_init 216 = .ok (.putfield 87, 3) := by decide +kernel
theorem dX9_init_219 : decode cX9_init 219 = .ok (.aload_n 0, 1) := by decide +kernel
theorem dX9_init_220 : decode cX9_init 220 = .ok (.iconst 4, 1) := by decide +kernel
theorem dX9_init_221 : decode cX9_init 221 = .ok (.newarray .int, 2) := by decide +kernel
theorem dX9_init_223 : decode cX9_init 223 = .ok (.putfield 90, 3) := by decide +kernel
theorem dX9_init_226 : decode cX9_init 226 = .ok (.aload_n 0, 1) := by decide +kernel
theorem dX9_init_227 : decode cX9_init 227 = .ok (.bipush 16, 2) := by decide +kernel
theorem dX9_init_229 : decode cX9_init 229 = .ok (.newarray .boolean, 2) := by decide +kernel
theorem dX9_init_231 : decode cX9_init 231 = .ok (.putfield 93, 3) := by decide +kernel
theorem dX9_init_234 : decode cX9_init 234 = .ok (.aload_n 0, 1) := by decide +kernel
theorem dX9_init_235 : decode cX9_init 235 = .ok (.bipush 16, 2) := by decide +kernel
theorem dX9_init_237 : decode cX9_init 237 = .ok (.newarray .int, 2) := by decide +kernel
theorem dX9_init_239 : decode cX9_init 239 = .ok (.putfield 96, 3) := by decide +kernel
theorem dX9_init_242 : decode cX9_init 242 = .ok (.aload_n 0, 1) := by decide +kernel
theorem dX9_init_243 : decode cX9_init 243 = .ok (.bipush 16, 2) := by decide +kernel
theorem dX9_init_245 : decode cX9_init 245 = .ok (.newarray .int, 2) := by decide +kernel
theorem dX9_init_247 : decode cX9_init 247 = .ok (.putfield 99, 3) := by decide +kernel
theorem dX9_init_250 : decode cX9_init 250 = .ok (.aload_n 0, 1) := by decide +kernel
theorem dX9_init_251 : decode cX9_init 251 = .ok (.bipush 16, 2) := by decide +kernel
theorem dX9_init_253 : decode cX9_init 253 = .ok (.newarray .int, 2) := by decide +kernel
theorem dX9_init_255 : decode cX9_init 255 = .ok (.putfield 102, 3) := by decide +kernel
theorem dX9_init_258 : decode cX9_init 258 = .ok (.aload_n 0, 1) := by decide +kernel
theorem dX9_init_259 : decode cX9_init 259 = .ok (.bipush 16, 2) := by decide +kernel
theorem dX9_init_261 : decode cX9_init 261 = .ok (.newarray .int, 2) := by decide +kernel
theorem dX9_init_263 : decode cX9_init 263 = .ok (.putfield 105, 3) := by decide +kernel
theorem dX9_init_266 : decode cX9_init 266 = .ok (.aload_n 0, 1) := by decide +kernel
theorem dX9_init_267 : decode cX9_init 267 = .ok (.bipush 16, 2) := by decide +kernel
theorem dX9_init_269 : decode cX9_init 269 = .ok (.newarray .boolean, 2) := by decide +kernel
theorem dX9_init_271 : decode cX9_init 271 = .ok (.putfield 108, 3) := by decide +kernel
theorem dX9_init_274 : decode cX9_init 274 = .ok (.aload_n 0, 1) := by decide +kernel
theorem dX9_init_275 : decode cX9_init 275 = .ok (.iconst 2, 1) := by decide +kernel
theorem dX9_init_276 : decode cX9_init 276 = .ok (.invokevirtual 111, 3) := by decide +kernel
theorem dX9_init_279 : decode cX9_init 279 = .ok (.return_, 1) := by decide +kernel
theorem dX9_in_0 : decode cX9_in 0 = .ok (.iload_n 0, 1) := by decide +kernel
theorem dX9_in_1 : decode cX9_in 1 = .ok (.iload_n 1, 1) := by decide +kernel
theorem dX9_in_2 : decode cX9_in 2 = .ok (.if_icmp .lt 12, 3) := by decide +kernel
theorem dX9_in_5 : decode cX9_in 5 = .ok (.iload_n 0, 1) := by decide +kernel
theorem dX9_in_6 : decode cX9_in 6 = .ok (.iload_n 2, 1) := by decide +kernel
theorem dX9_in_7 : decode cX9_in 7 = .ok (.if_icmp .gt 7, 3) := by decide +kernel
theorem dX9_in_10 : decode cX9_in 10 = .ok (.iconst 1, 1) := by decide +kernel
theorem dX9_in_11 : decode cX9_in 11 = .ok (.goto 4, 3) := by decide +kernel
theorem dX9_in_14 : decode cX9_in 14 = .ok (.iconst 0, 1) := by decide +kernel
theorem dX9_in_15 : decode cX9_in 15 = .ok (.ireturn, 1) := by decide +kernel
theorem dX9_wipe_0 : decode cX9_wipe 0 = .ok (.aload_n 0, 1) := by decide +kernel
theorem dX9_wipe_1 : decode cX9_wipe 1 = .ok (.iload_n 1, 1) := by decide +kernel
theorem dX9_wipe_2 : decode cX9_wipe 2 = .ok (.putfield 7, 3) := by decide +kernel
theorem dX9_wipe_5 : decode cX9_wipe 5 = .ok (.aload_n 0, 1) := by decide +kernel
theorem dX9_wipe_6 : decode cX9_wipe 6 = .ok (.iconst 0, 1) := by decide +kernel
theorem dX9_wipe_7 : decode cX9_wipe 7 = .ok (.putfield 115, 3) := by decide +kernel
theorem dX9_wipe_10 : decode cX9_wipe 10 = .ok (.aload_n 0, 1) := by decide +kernel
theorem dX9_wipe_11 : decode cX9_wipe 11 = .ok (.iconst 0, 1) := by decide +kernel
theorem dX9_wipe_12 : decode cX9_wipe 12 = .ok (.putfield 118, 3) := by decide +kernel
theorem dX9_wipe_15 : decode cX9_wipe 15 = .ok (.aload_n 0, 1) := by decide +kernel
theorem dX9_wipe_16 : decode cX9_wipe 16 = .ok (.iconst 0, 1) := by decide +kernel
theorem dX9_wipe_17 : decode cX9_wipe 17 = .ok (.putfield 121, 3) := by decide +kernel
theorem dX9_wipe_20 : decode cX9_wipe 20 = .ok (.aload_n 0, 1) := by decide +kernel
theorem dX9_wipe_21 : decode cX9_wipe 21 = .ok (.iconst 0, 1) := by decide +kernel
theorem dX9_wipe_22 : decode cX9_wipe 22 = .ok (.putfield 124, 3) := by decide +kernel
theorem dX9_wipe_25 : decode cX9_wipe 25 = .ok (.aload_n 0, 1) := by decide +kernel
theorem dX9_wipe_26 : decode cX9_wipe 26 = .ok (.iconst 0, 1) := by decide +kernel
theorem dX9_wipe_27 : decode cX9_wipe 27 = .ok (.putfield 128, 3) := by decide +kernel
theorem dX9_wipe_30 : decode cX9_wipe 30 = .ok (.aload_n 0, 1) := by decide +kernel
theorem dX9_wipe_31 : decode cX9_wipe 31 = .ok (.iconst 0, 1) := by decide +kernel
theorem dX9_wipe_32 : decode cX9_wipe 32 = .ok (.putfield 131, 3) := by decide +kernel
theorem dX9_wipe_35 : decode cX9_wipe 35 = .ok (.aload_n 0, 1) := by decide +kernel
theorem dX9_wipe_36 : decode cX9_wipe 36 = .ok (.iconst 0, 1) := by decide +kernel
theorem dX9_wipe_37 : decode cX9_wipe 37 = .ok (.putfield 134, 3) := by decide +kernel
theorem dX9_wipe_40 : decode cX9_wipe 40 = .ok (.aload_n 0, 1) := by decide +kernel
theorem dX9_wipe_41 : decode cX9_wipe 41 = .ok (.iconst 0, 1) := by decide +kernel
theorem dX9_wipe_42 : decode cX9_wipe 42 = .ok (.putfield 137, 3) := by decide +kernel
theorem dX9_wipe_45 : decode cX9_wipe 45 = .ok (.aload_n 0, 1) := by decide +kernel
theorem dX9_wipe_46 : decode cX9_wipe 46 = .ok (.iconst 0, 1) := by decide +kernel
theorem dX9_wipe_47 : decode cX9_wipe 47 = .ok (.putfield 140, 3) := by decide +kernel
theorem dX9_wipe_50 : decode cX9_wipe 50 = .ok (.iconst 0, 1) := by decide +kernel
theorem dX9_wipe_51 : decode cX9_wipe 51 = .ok (.istore_n 2, 1) := by decide +kernel
theorem dX9_wipe_52 : decode cX9_wipe 52 = .ok (.iload_n 2, 1) := by decide +kernel
theorem dX9_wipe_53 : decode cX9_wipe 53 = .ok (.iconst 4, 1) := by decide +kernel
theorem dX9_wipe_54 : decode cX9_wipe 54 = .ok (.if_icmp .ge 16, 3) := by decide +kernel
theorem dX9_wipe_57 : decode cX9_wipe 57 = .ok (.aload_n 0, 1) := by decide +kernel
theorem dX9_wipe_58 : decode cX9_wipe 58 = .ok (.getfield 90, 3) := by decide +kernel
theorem dX9_wipe_61 : decode cX9_wipe 61 = .ok (.iload_n 2, 1) := by decide +kernel
theorem dX9_wipe_62 : decode cX9_wipe 62 = .ok (.iconst 0, 1) := by decide +kernel
theorem dX9_wipe_63 : decode cX9_wipe 63 = .ok (.iastore, 1) := by decide +kernel
theorem dX9_wipe_64 : decode cX9_wipe 64 = .ok (.iinc 2 1, 3) := by decide +kernel
theorem dX9_wipe_67 : decode cX9_wipe 67 = .ok (.goto (-15), 3) := by decide +kernel
theorem dX9_wipe_70 : decode cX9_wipe 70 = .ok (.iconst 0, 1) := by decide +kernel
theorem dX9_wipe_71 : decode cX9_wipe 71 = .ok (.istore_n 2, 1) := by decide +kernel
theorem dX9_wipe_72 : decode cX9_wipe 72 = .ok (.iload_n 2, 1) := by decide +kernel
theorem dX9_wipe_73 : decode cX9_wipe 73 = .ok (.iconst 5, 1) := by decide +kernel
theorem dX9_wipe_74 : decode cX9_wipe 74 = .ok (.if_icmp .ge 50, 3) := by decide +kernel
theorem dX9_wipe_77 : decode cX9_wipe 77 = .ok (.aload_n 0, 1) := by decide +kernel
theorem dX9_wipe_78 : decode cX9_wipe 78 = .ok (.getfield 39, 3) := by decide +kernel
theorem dX9_wipe_81 : decode cX9_wipe 81 = .ok (.iload_n 2, 1) := by decide +kernel
theorem dX9_wipe_82 : decode cX9_wipe 82 = .ok (.iconst 0, 1) := by decide +kernel
theorem dX9_wipe_83 : decode cX9_wipe 83 = .ok (.iastore, 1) := by decide +kernel
theorem dX9_wipe_84 : decode cX9_wipe 84 = .ok (.aload_n 0, 1) := by decide +kernel
theorem dX9_wipe_85 : decode cX9_wipe 85 = .ok (.getfield 42, 3) := by decide +kernel
theorem dX9_wipe_88 : decode cX9_wipe 88 = .ok (.iload_n 2, 1) := by decide +kernel
theorem dX9_wipe_89 : decode cX9_wipe 89 = .ok (.iconst 0, 1) := by decide +kernel
theorem dX9_wipe_90 : decode cX9_wipe 90 = .ok (.bastore, 1) := by decide +kernel
theorem dX9_wipe_91 : decode cX9_wipe 91 = .ok (.aload_n 0, 1) := by decide +kernel
theorem dX9_wipe_92 : decode cX9_wipe 92 = .ok (.getfield 45, 3) := by decide +kernel
theorem dX9_wipe_95 : decode cX9_wipe 95 = .ok (.iload_n 2, 1) := by decide +kernel
theorem dX9_wipe_96 : decode cX9_wipe 96 = .ok (.iconst 0, 1) := by decide +kernel
theorem dX9_wipe_97 : decode cX9_wipe 97 = .ok (.bastore, 1) := by decide +kernel
theorem dX9_wipe_98 : decode cX9_wipe 98 = .ok (.aload_n 0, 1) := by decide +kernel
theorem dX9_wipe_99 : decode cX9_wipe 99 = .ok (.getfield 78, 3) := by decide +kernel
theorem dX9_wipe_102 : decode cX9_wipe 102 = .ok (.iconst 2, 1) := by decide +kernel
theorem dX9_wipe_103 : decode cX9_wipe 103 = .ok (.iload_n 2, 1) := by decide +kernel
theorem dX9_wipe_104 : decode cX9_wipe 104 = .ok (.imul, 1) := by decide +kernel
theorem dX9_wipe_105 : decode cX9_wipe 105 = .ok (.iconst (-1), 1) := by decide +kernel
theorem dX9_wipe_106 : decode cX9_wipe 106 = .ok (.iastore, 1) := by decide +kernel
theorem dX9_wipe_107 : decode cX9_wipe 107 = .ok (.aload_n 0, 1) := by decide +kernel
theorem dX9_wipe_108 : decode cX9_wipe 108 = .ok (.getfield 78, 3) := by decide +kernel
theorem dX9_wipe_111 : decode cX9_wipe 111 = .ok (.iconst 2, 1) := by decide +kernel
theorem dX9_wipe_112 : decode cX9_wipe 112 = .ok (.iload_n 2, 1) := by decide +kernel
theorem dX9_wipe_113 : decode cX9_wipe 113 = .ok (.imul, 1) := by decide +kernel
theorem dX9_wipe_114 : decode cX9_wipe 114 = .ok (.iconst 1, 1) := by decide +kernel
theorem dX9_wipe_115 : decode cX9_wipe 115 = .ok (.iadd, 1) := by decide +kernel
theorem dX9_wipe_116 : decode cX9_wipe 116 = .ok (.iconst (-1), 1) := by decide +kernel
theorem dX9_wipe_117 : decode cX9_wipe 117 = .ok (.iastore, 1) := by decide +kernel
theorem dX9_wipe_118 : decode cX9_wipe 118 = .ok (.iinc 2 1, 3) := by decide +kernel
theorem dX9_wipe_121 : decode cX9_wipe 121 = .ok (.goto (-49), 3) := by decide +kernel
theorem dX9_wipe_124 : decode cX9_wipe 124 = .ok (.iconst 0, 1) := by decide +kernel
theorem dX9_wipe_125 : decode cX9_wipe 125 = .ok (.istore_n 2, 1) := by decide +kernel
theorem dX9_wipe_126 : decode cX9_wipe 126 = .ok (.iload_n 2, 1) := by decide +kernel
theorem dX9_wipe_127 : decode cX9_wipe 127 = .ok (.sipush 160, 3) := by decide +kernel
theorem dX9_wipe_130 : decode cX9_wipe 130 = .ok (.if_icmp .ge 16, 3) := by decide +kernel
theorem dX9_wipe_133 : decode cX9_wipe 133 = .ok (.aload_n 0, 1) := by decide +kernel
theorem dX9_wipe_134 : decode cX9_wipe 134 = .ok (.getfield 48, 3) := by decide +kernel
theorem dX9_wipe_137 : decode cX9_wipe 137 = .ok (.iload_n 2, 1) := by decide +kernel
theorem dX9_wipe_138 : decode cX9_wipe 138 = .ok (.iconst 0, 1) := by decide +kernel
theorem dX9_wipe_139 : decode cX9_wipe 139 = .ok (.bastore, 1) := by decide +kernel
theorem dX9_wipe_140 : decode cX9_wipe 140 = .ok (.iinc 2 1, 3) := by decide +kernel
theorem dX9_wipe_143 : decode cX9_wipe 143 = .ok (.goto (-17), 3) := by decide +kernel
theorem dX9_wipe_146 : decode cX9_wipe 146 = .ok (.return_, 1) := by decide +kernel
theorem dX9_nodes_0 : decode cX9_nodes 0 = .ok (.iload_n 1, 1) := by decide +kernel
theorem dX9_nodes_1 : decode cX9_nodes 1 = .ok (.iconst 2, 1) := by decide +kernel
theorem dX9_nodes_2 : decode cX9_nodes 2 = .ok (.iconst 5, 1) := by decide +kernel
theorem dX9_nodes_3 : decode cX9_nodes 3 = .ok (.invokestatic 143, 3) := by decide +kernel
theorem dX9_nodes_6 : decode cX9_nodes 6 = .ok (.ifCond .ne 5, 3) := by decide +kernel
theorem dX9_nodes_9 : decode cX9_nodes 9 = .ok (.iconst (-1), 1) := by decide +kernel
theorem dX9_nodes_10 : decode cX9_nodes 10 = .ok (.ireturn, 1) := by decide +kernel
theorem dX9_nodes_11 : decode cX9_nodes 11 = .ok (.aload_n 0, 1) := by decide +kernel
theorem dX9_nodes_12 : decode cX9_nodes 12 = .ok (.getfield 115, 3) := by decide +kernel
theorem dX9_nodes_15 : decode cX9_nodes 15 = .ok (.istore_n 2, 1) := by decide +kernel
theorem dX9_nodes_16 : decode cX9_nodes 16 = .ok (.aload_n 0, 1) := by decide +kernel
theorem dX9_nodes_17 : decode cX9_nodes 17 = .ok (.iload_n 1, 1) := by decide +kernel
theorem dX9_nodes_18 : decode cX9_nodes 18 = .ok (.invokevirtual 111, 3) := by decide +kernel
theorem dX9_nodes_21 : decode cX9_nodes 21 = .ok (.iload_n 2, 1) := by decide +kernel
theorem dX9_nodes_22 : decode cX9_nodes 22 = .ok (.ireturn, 1) := by decide +kernel
theorem dX9_isNode_0 : decode cX9_isNode 0 = .ok (.iload_n 1, 1) := by decide +kernel
theorem dX9_isNode_1 : decode cX9_isNode 1 = .ok (.iconst 0, 1) := by decide +kernel
theorem dX9_isNode_2 : decode cX9_isNode 2 = .ok (.aload_n 0, 1) := by decide +kernel
theorem dX9_isNode_3 : decode cX9_isNode 3 = .ok (.getfield 7, 3) := by decide +kernel
theorem dX9_isNode_6 : decode cX9_isNode 6 = .ok (.iconst 1, 1) := by decide +kernel
theorem dX9_isNode_7 : decode cX9_isNode 7 = .ok (.isub, 1) := by decide +kernel
theorem dX9_isNode_8 : decode cX9_isNode 8 = .ok (.invokestatic 143, 3) := by decide +kernel
theorem dX9_isNode_11 : decode cX9_isNode 11 = .ok (.ireturn, 1) := by decide +kernel
theorem dX9_isVertex_0 : decode cX9_isVertex 0 = .ok (.iload_n 1, 1) := by decide +kernel
theorem dX9_isVertex_1 : decode cX9_isVertex 1 = .ok (.iconst 0, 1) := by decide +kernel
theorem dX9_isVertex_2 : decode cX9_isVertex 2 = .ok (.aload_n 0, 1) := by decide +kernel
theorem dX9_isVertex_3 : decode cX9_isVertex 3 = .ok (.getfield 115, 3) := by decide +kernel
theorem dX9_isVertex_6 : decode cX9_isVertex 6 = .ok (.iconst 1, 1) := by decide +kernel
theorem dX9_isVertex_7 : decode cX9_isVertex 7 = .ok (.isub, 1) := by decide +kernel
theorem dX9_isVertex_8 : decode cX9_isVertex 8 = .ok (.invokestatic 143, 3) := by decide +kernel
theorem dX9_isVertex_11 : decode cX9_isVertex 11 = .ok (.ireturn, 1) := by decide +kernel
theorem dX9_vertex_0 : decode cX9_vertex 0 = .ok (.aload_n 0, 1) := by decide +kernel
theorem dX9_vertex_1 : decode cX9_vertex 1 = .ok (.iload_n 1, 1) := by decide +kernel
theorem dX9_vertex_2 : decode cX9_vertex 2 = .ok (.invokevirtual 147, 3) := by decide +kernel
theorem dX9_vertex_5 : decode cX9_vertex 5 = .ok (.ifCond .ne 5, 3) := by decide +kernel
theorem dX9_vertex_8 : decode cX9_vertex 8 = .ok (.iconst (-1), 1) := by decide +kernel
theorem dX9_vertex_9 : decode cX9_vertex 9 = .ok (.ireturn, 1) := by decide +kernel
theorem dX9_vertex_10 : decode cX9_vertex 10 = .ok (.aload_n 0, 1) := by decide +kernel
theorem dX9_vertex_11 : decode cX9_vertex 11 = .ok (.getfield 131, 3) := by decide +kernel
theorem dX9_vertex_14 : decode cX9_vertex 14 = .ok (.ifCond .eq 6, 3) := by decide +kernel
theorem dX9_vertex_17 : decode cX9_vertex 17 = .ok (.bipush (-2), 2) := by decide +kernel
theorem dX9_vertex_19 : decode cX9_vertex 19 = .ok (.ireturn, 1) := by decide +kernel
theorem dX9_vertex_20 : decode cX9_vertex 20 = .ok (.aload_n 0, 1) := by decide +kernel
theorem dX9_vertex_21 : decode cX9_vertex 21 = .ok (.getfield 115, 3) := by decide +kernel
theorem dX9_vertex_24 : decode cX9_vertex 24 = .ok (.bipush 16, 2) := by decide +kernel
theorem dX9_vertex_26 : decode cX9_vertex 26 = .ok (.if_icmp .ne 6, 3) := by decide +kernel
theorem dX9_vertex_29 : decode cX9_vertex 29 = .ok (.bipush (-3), 2) := by decide +kernel
theorem dX9_vertex_31 : decode cX9_vertex 31 = .ok (.ireturn, 1) := by decide +kernel
theorem dX9_vertex_32 : decode cX9_vertex 32 = .ok (.aload_n 0, 1) := by decide +kernel
theorem dX9_vertex_33 : decode cX9_vertex 33 = .ok (.getfield 13, 3) := by decide +kernel
theorem dX9_vertex_36 : decode cX9_vertex 36 = .ok (.aload_n 0, 1) := by decide +kernel
theorem dX9_vertex_37 : decode cX9_vertex 37 = .ok (.getfield 115, 3) := by decide +kernel
theorem dX9_vertex_40 : decode cX9_vertex 40 = .ok (.iload_n 2, 1) := by decide +kernel
theorem dX9_vertex_41 : decode cX9_vertex 41 = .ok (.iastore, 1) := by decide +kernel
theorem dX9_vertex_42 : decode cX9_vertex 42 = .ok (.aload_n 0, 1) := by decide +kernel
theorem dX9_vertex_43 : decode cX9_vertex 43 = .ok (.getfield 17, 3) := by decide +kernel
theorem dX9_vertex_46 : decode cX9_vertex 46 = .ok (.aload_n 0, 1) := by decide +kernel
theorem dX9_vertex_47 : decode cX9_vertex 47 = .ok (.getfield 115, 3) := by decide +kernel
theorem dX9_vertex_50 : decode cX9_vertex 50 = .ok (.iload_n 2, 1) := by decide +kernel
theorem dX9_vertex_51 : decode cX9_vertex 51 = .ok (.iastore, 1) := by decide +kernel
theorem dX9_vertex_52 : decode cX9_vertex 52 = .ok (.aload_n 0, 1) := by decide +kernel
theorem dX9_vertex_53 : decode cX9_vertex 53 = .ok (.getfield 20, 3) := by decide +kernel
theorem dX9_vertex_56 : decode cX9_vertex 56 = .ok (.aload_n 0, 1) := by decide +kernel
theorem dX9_vertex_57 : decode cX9_vertex 57 = .ok (.getfield 115, 3) := by decide +kernel
theorem dX9_vertex_60 : decode cX9_vertex 60 = .ok (.iconst 0, 1) := by decide +kernel
theorem dX9_vertex_61 : decode cX9_vertex 61 = .ok (.iastore, 1) := by decide +kernel
theorem dX9_vertex_62 : decode cX9_vertex 62 = .ok (.aload_n 0, 1) := by decide +kernel
theorem dX9_vertex_63 : decode cX9_vertex 63 = .ok (.getfield 23, 3) := by decide +kernel
theorem dX9_vertex_66 : decode cX9_vertex 66 = .ok (.aload_n 0, 1) := by decide +kernel
theorem dX9_vertex_67 : decode cX9_vertex 67 = .ok (.getfield 115, 3) := by decide +kernel
theorem dX9_vertex_70 : decode cX9_vertex 70 = .ok (.iconst 1, 1) := by decide +kernel
theorem dX9_vertex_71 : decode cX9_vertex 71 = .ok (.bastore, 1) := by decide +kernel
theorem dX9_vertex_72 : decode cX9_vertex 72 = .ok (.aload_n 0, 1) := by decide +kernel
theorem dX9_vertex_73 : decode cX9_vertex 73 = .ok (.getfield 27, 3) := by decide +kernel
theorem dX9_vertex_76 : decode cX9_vertex 76 = .ok (.aload_n 0, 1) := by decide +kernel
theorem dX9_vertex_77 : decode cX9_vertex 77 = .ok (.getfield 115, 3) := by decide +kernel
theorem dX9_vertex_80 : decode cX9_vertex 80 = .ok (.iload_n 1, 1) := by decide +kernel
theorem dX9_vertex_81 : decode cX9_vertex 81 = .ok (.iastore, 1) := by decide +kernel
theorem dX9_vertex_82 : decode cX9_vertex 82 = .ok (.aload_n 0, 1) := by decide +kernel
theorem dX9_vertex_83 : decode cX9_vertex 83 = .ok (.dup, 1) := by decide +kernel
theorem dX9_vertex_84 : decode cX9_vertex 84 = .ok (.getfield 115, 3) := by decide +kernel
theorem dX9_vertex_87 : decode cX9_vertex 87 = .ok (.iconst 1, 1) := by decide +kernel
theorem dX9_vertex_88 : decode cX9_vertex 88 = .ok (.iadd, 1) := by decide +kernel
theorem dX9_vertex_89 : decode cX9_vertex 89 = .ok (.putfield 115, 3) := by decide +kernel
theorem dX9_vertex_92 : decode cX9_vertex 92 = .ok (.aload_n 0, 1) := by decide +kernel
theorem dX9_vertex_93 : decode cX9_vertex 93 = .ok (.getfield 115, 3) := by decide +kernel
theorem dX9_vertex_96 : decode cX9_vertex 96 = .ok (.iconst 1, 1) := by decide +kernel
theorem dX9_vertex_97 : decode cX9_vertex 97 = .ok (.isub, 1) := by decide +kernel
theorem dX9_vertex_98 : decode cX9_vertex 98 = .ok (.ireturn, 1) := by decide +kernel
theorem dX9_arc_0 : decode cX9_arc 0 = .ok (.aload_n 0, 1) := by decide +kernel
theorem dX9_arc_1 : decode cX9_arc 1 = .ok (.iload_n 1, 1) := by decide +kernel
theorem dX9_arc_2 : decode cX9_arc 2 = .ok (.invokevirtual 151, 3) := by decide +kernel
theorem dX9_arc_5 : decode cX9_arc 5 = .ok (.ifCond .eq 24, 3) := by decide +kernel
theorem dX9_arc_8 : decode cX9_arc 8 = .ok (.aload_n 0, 1) := by decide +kernel
theorem dX9_arc_9 : decode cX9_arc 9 = .ok (.iload_n 2, 1) := by decide +kernel
theorem dX9_arc_10 : decode cX9_arc 10 = .ok (.invokevirtual 151, 3) := by decide +kernel
theorem dX9_arc_13 : decode cX9_arc 13 = .ok (.ifCond .eq 16, 3) := by decide +kernel
theorem dX9_arc_16 : decode cX9_arc 16 = .ok (.iload_n 3, 1) := by decide +kernel
theorem dX9_arc_17 : decode cX9_arc 17 = .ok (.sipush (-1000), 3) := by decide +kernel
theorem dX9_arc_20 : decode cX9_arc 20 = .ok (.sipush 1000, 3) := by decide +kernel
theorem dX9_arc_23 : decode cX9_arc 23 = .ok (.invokestatic 143, 3) := by decide +kernel
theorem dX9_arc_26 : decode cX9_arc 26 = .ok (.ifCond .ne 5, 3) := by decide +kernel
theorem dX9_arc_29 : decode cX9_arc 29 = .ok (.iconst (-1), 1) := by decide +kernel
theorem dX9_arc_30 : decode cX9_arc 30 = .ok (.ireturn, 1) := by decide +kernel
theorem dX9_arc_31 : decode cX9_arc 31 = .ok (.aload_n 0, 1) := by decide +kernel
theorem dX9_arc_32 : decode cX9_arc 32 = .ok (.getfield 131, 3) := by decide +kernel
theorem dX9_arc_35 : decode cX9_arc 35 = .ok (.ifCond .eq 6, 3) := by decide +kernel
theorem dX9_arc_38 : decode cX9_arc 38 = .ok (.bipush (-2), 2) := by decide +kernel
theorem dX9_arc_40 : decode cX9_arc 40 = .ok (.ireturn, 1) := by decide +kernel
theorem dX9_arc_41 : decode cX9_arc 41 = .ok (.aload_n 0, 1) := by decide +kernel
theorem dX9_arc_42 : decode cX9_arc 42 = .ok (.getfield 118, 3) := by decide +kernel
theorem dX9_arc_45 : decode cX9_arc 45 = .ok (.bipush 40, 2) := by decide +kernel
theorem dX9_arc_47 : decode cX9_arc 47 = .ok (.if_icmp .ne 6, 3) := by decide +kernel
theorem dX9_arc_50 : decode cX9_arc 50 = .ok (.bipush (-3), 2) := by decide +kernel
theorem dX9_arc_52 : decode cX9_arc 52 = .ok (.ireturn, 1) := by decide +kernel
theorem dX9_arc_53 : decode cX9_arc 53 = .ok (.aload_n 0, 1) := by decide +kernel
theorem dX9_arc_54 : decode cX9_arc 54 = .ok (.getfield 30, 3) := by decide +kernel
theorem dX9_arc_57 : decode cX9_arc 57 = .ok (.aload_n 0, 1) := by decide +kernel
theorem dX9_arc_58 : decode cX9_arc 58 = .ok (.getfield 118, 3) := by decide +kernel
theorem dX9_arc_61 : decode cX9_arc 61 = .ok (.iload_n 1, 1) := by decide +kernel
theorem dX9_arc_62 : decode cX9_arc 62 = .ok (.iastore, 1) := by decide +kernel
theorem dX9_arc_63 : decode cX9_arc 63 = .ok (.aload_n 0, 1) := by decide +kernel
theorem dX9_arc_64 : decode cX9_arc 64 = .ok (.getfield 33, 3) := by decide +kernel
theorem dX9_arc_67 : decode cX9_arc 67 = .ok (.aload_n 0, 1) := by decide +kernel
theorem dX9_arc_68 : decode cX9_arc 68 = .ok (.getfield 118, 3) := by decide +kernel
theorem dX9_arc_71 : decode cX9_arc 71 = .ok (.iload_n 2, 1) := by decide +kernel
theorem dX9_arc_72 : decode cX9_arc 72 = .ok (.iastore, 1) := by decide +kernel
theorem dX9_arc_73 : decode cX9_arc 73 = .ok (.aload_n 0, 1) := by decide +kernel
theorem dX9_arc_74 : decode cX9_arc 74 = .ok (.getfield 36, 3) := by decide +kernel
theorem dX9_arc_77 : decode cX9_arc 77 = .ok (.aload_n 0, 1) := by decide +kernel
theorem dX9_arc_78 : decode cX9_arc 78 = .ok (.getfield 118, 3) := by decide +kernel
theorem dX9_arc_81 : decode cX9_arc 81 = .ok (.iload_n 3, 1) := by decide +kernel
theorem dX9_arc_82 : decode cX9_arc 82 = .ok (.iastore, 1) := by decide +kernel
theorem dX9_arc_83 : decode cX9_arc 83 = .ok (.aload_n 0, 1) := by decide +kernel
theorem dX9_arc_84 : decode cX9_arc 84 = .ok (.dup, 1) := by decide +kernel
theorem dX9_arc_85 : decode cX9_arc 85 = .ok (.getfield 118, 3) := by decide +kernel
theorem dX9_arc_88 : decode cX9_arc 88 = .ok (.iconst 1, 1) := by decide +kernel
theorem dX9_arc_89 : decode cX9_arc 89 = .ok (.iadd, 1) := by decide +kernel
theorem dX9_arc_90 : decode cX9_arc 90 = .ok (.putfield 118, 3) := by decide +kernel
theorem dX9_arc_93 : decode cX9_arc 93 = .ok (.aload_n 0, 1) := by decide +kernel
theorem dX9_arc_94 : decode cX9_arc 94 = .ok (.getfield 118, 3) := by decide +kernel
theorem dX9_arc_97 : decode cX9_arc 97 = .ok (.iconst 1, 1) := by decide +kernel
theorem dX9_arc_98 : decode cX9_arc 98 = .ok (.isub, 1) := by decide +kernel
theorem dX9_arc_99 : decode cX9_arc 99 = .ok (.ireturn, 1) := by decide +kernel
theorem dX9_kind_0 : decode cX9_kind 0 = .ok (.iload_n 1, 1) := by decide +kernel
theorem dX9_kind_1 : decode cX9_kind 1 = .ok (.iconst 0, 1) := by decide +kernel
theorem dX9_kind_2 : decode cX9_kind 2 = .ok (.iconst 3, 1) := by decide +kernel
theorem dX9_kind_3 : decode cX9_kind 3 = .ok (.invokestatic 143, 3) := by decide +kernel
theorem dX9_kind_6 : decode cX9_kind 6 = .ok (.ifCond .ne 5, 3) := by decide +kernel
theorem dX9_kind_9 : decode cX9_kind 9 = .ok (.iconst (-1), 1) := by decide +kernel
theorem dX9_kind_10 : decode cX9_kind 10 = .ok (.ireturn, 1) := by decide +kernel
theorem dX9_kind_11 : decode cX9_kind 11 = .ok (.aload_n 0, 1) := by decide +kernel
theorem dX9_kind_12 : decode cX9_kind 12 = .ok (.getfield 131, 3) := by decide +kernel
theorem dX9_kind_15 : decode cX9_kind 15 = .ok (.ifCond .eq 6, 3) := by decide +kernel
theorem dX9_kind_18 : decode cX9_kind 18 = .ok (.bipush (-2), 2) := by decide +kernel
theorem dX9_kind_20 : decode cX9_kind 20 = .ok (.ireturn, 1) := by decide +kernel
theorem dX9_kind_21 : decode cX9_kind 21 = .ok (.aload_n 0, 1) := by decide +kernel
theorem dX9_kind_22 : decode cX9_kind 22 = .ok (.getfield 121, 3) := by decide +kernel
theorem dX9_kind_25 : decode cX9_kind 25 = .ok (.istore_n 2, 1) := by decide +kernel
theorem dX9_kind_26 : decode cX9_kind 26 = .ok (.aload_n 0, 1) := by decide +kernel
theorem dX9_kind_27 : decode cX9_kind 27 = .ok (.iload_n 1, 1) := by decide +kernel
theorem dX9_kind_28 : decode cX9_kind 28 = .ok (.putfield 121, 3) := by decide +kernel
theorem dX9_kind_31 : decode cX9_kind 31 = .ok (.aload_n 0, 1) := by decide +kernel
theorem dX9_kind_32 : decode cX9_kind 32 = .ok (.iconst 0, 1) := by decide +kernel
theorem dX9_kind_33 : decode cX9_kind 33 = .ok (.putfield 124, 3) := by decide +kernel
theorem dX9_kind_36 : decode cX9_kind 36 = .ok (.iload_n 2, 1) := by decide +kernel
theorem dX9_kind_37 : decode cX9_kind 37 = .ok (.ireturn, 1) := by decide +kernel
theorem dX9_joined_0 : decode cX9_joined 0 = .ok (.iload_n 1, 1) := by decide +kernel
theorem dX9_joined_1 : decode cX9_joined 1 = .ok (.ifCond .eq 14, 3) := by decide +kernel
theorem dX9_joined_4 : decode cX9_joined 4 = .ok (.aload_n 0, 1) := by decide +kernel
theorem dX9_joined_5 : decode cX9_joined 5 = .ok (.getfield 121, 3) := by decide +kernel
theorem dX9_joined_8 : decode cX9_joined 8 = .ok (.iconst 3, 1) := by decide +kernel
theorem dX9_joined_9 : decode cX9_joined 9 = .ok (.if_icmp .ne 6, 3) := by decide +kernel
theorem dX9_joined_12 : decode cX9_joined 12 = .ok (.bipush (-2), 2) := by decide +kernel
theorem dX9_joined_14 : decode cX9_joined 14 = .ok (.ireturn, 1) := by decide +kernel
theorem dX9_joined_15 : decode cX9_joined 15 = .ok (.aload_n 0, 1) := by decide +kernel
theorem dX9_joined_16 : decode cX9_joined 16 = .ok (.getfield 124, 3) := by decide +kernel
theorem dX9_joined_19 : decode cX9_joined 19 = .ok (.ifCond .eq 7, 3) := by decide +kernel
theorem dX9_joined_22 : decode cX9_joined 22 = .ok (.iconst 1, 1) := by decide +kernel
theorem dX9_joined_23 : decode cX9_joined 23 = .ok (.goto 4, 3) := by decide +kernel
theorem dX9_joined_26 : decode cX9_joined 26 = .ok (.iconst 0, 1) := by decide +kernel
theorem dX9_joined_27 : decode cX9_joined 27 = .ok (.istore_n 2, 1) := by decide +kernel
theorem dX9_joined_28 : decode cX9_joined 28 = .ok (.aload_n 0, 1) := by decide +kernel
theorem dX9_joined_29 : decode cX9_joined 29 = .ok (.iload_n 1, 1) := by decide +kernel
theorem dX9_joined_30 : decode cX9_joined 30 = .ok (.putfield 124, 3) := by decide +kernel
theorem dX9_joined_33 : decode cX9_joined 33 = .ok (.iload_n 2, 1) := by decide +kernel
theorem dX9_joined_34 : decode cX9_joined 34 = .ok (.ireturn, 1) := by decide +kernel
theorem dX9_every_0 : decode cX9_every 0 = .ok (.iload_n 1, 1) := by decide +kernel
theorem dX9_every_1 : decode cX9_every 1 = .ok (.iconst 0, 1) := by decide +kernel
theorem dX9_every_2 : decode cX9_every 2 = .ok (.bipush 50, 2) := by decide +kernel
theorem dX9_every_4 : decode cX9_every 4 = .ok (.invokestatic 143, 3) := by decide +kernel
theorem dX9_every_7 : decode cX9_every 7 = .ok (.ifCond .ne 5, 3) := by decide +kernel
theorem dX9_every_10 : decode cX9_every 10 = .ok (.iconst (-1), 1) := by decide +kernel
theorem dX9_every_11 : decode cX9_every 11 = .ok (.ireturn, 1) := by decide +kernel
theorem dX9_every_12 : decode cX9_every 12 = .ok (.aload_n 0, 1) := by decide +kernel
theorem dX9_every_13 : decode cX9_every 13 = .ok (.getfield 131, 3) := by decide +kernel
theorem dX9_every_16 : decode cX9_every 16 = .ok (.ifCond .eq 6, 3) := by decide +kernel
theorem dX9_every_19 : decode cX9_every 19 = .ok (.bipush (-2), 2) := by decide +kernel
theorem dX9_every_21 : decode cX9_every 21 = .ok (.ireturn, 1) := by decide +kernel
theorem dX9_every_22 : decode cX9_every 22 = .ok (.aload_n 0, 1) := by decide +kernel
theorem dX9_every_23 : decode cX9_every 23 = .ok (.getfield 128, 3) := by decide +kernel
theorem dX9_every_26 : decode cX9_every 26 = .ok (.istore_n 2, 1) := by decide +kernel
theorem dX9_every_27 : decode cX9_every 27 = .ok (.aload_n 0, 1) := by decide +kernel
theorem dX9_every_28 : decode cX9_every 28 = .ok (.iload_n 1, 1) := by decide +kernel
theorem dX9_every_29 : decode cX9_every 29 = .ok (.putfield 128, 3) := by decide +kernel
theorem dX9_every_32 : decode cX9_every 32 = .ok (.iload_n 2, 1) := by decide +kernel
theorem dX9_every_33 : decode cX9_every 33 = .ok (.ireturn, 1) := by decide +kernel
theorem dX9_message_0 : decode cX9_message 0 = .ok (.aload_n 0, 1) := by decide +kernel
theorem dX9_message_1 : decode cX9_message 1 = .ok (.getfield 121, 3) := by decide +kernel
theorem dX9_message_4 : decode cX9_message 4 = .ok (.iconst 1, 1) := by decide +kernel
theorem dX9_message_5 : decode cX9_message 5 = .ok (.if_icmp .ne 16, 3) := by decide +kernel
theorem dX9_message_8 : decode cX9_message 8 = .ok (.iload_n 1, 1) := by decide +kernel
theorem dX9_message_9 : decode cX9_message 9 = .ok (.iload_n 2, 1) := by decide +kernel
theorem dX9_message_10 : decode cX9_message 10 = .ok (.if_icmp .ge 7, 3) := by decide +kernel
theorem dX9_message_13 : decode cX9_message 13 = .ok (.iload_n 1, 1) := by decide +kernel
theorem dX9_message_14 : decode cX9_message 14 = .ok (.goto 24, 3) := by decide +kernel
theorem dX9_message_17 : decode cX9_message 17 = .ok (.iload_n 2, 1) := by decide +kernel
theorem dX9_message_18 : decode cX9_message 18 = .ok (.goto 20, 3) := by decide +kernel
theorem dX9_message_21 : decode cX9_message 21 = .ok (.aload_n 0, 1) := by decide +kernel
theorem dX9_message_22 : decode cX9_message 22 = .ok (.getfield 121, 3) := by decide +kernel
theorem dX9_message_25 : decode cX9_message 25 = .ok (.iconst 2, 1) := by decide +kernel
theorem dX9_message_26 : decode cX9_message 26 = .ok (.if_icmp .ne 9, 3) := by decide +kernel
theorem dX9_message_29 : decode cX9_message 29 = .ok (.iload_n 1, 1) := by decide +kernel
theorem dX9_message_30 : decode cX9_message 30 = .ok (.iload_n 2, 1) := by decide +kernel
theorem dX9_message_31 : decode cX9_message 31 = .ok (.imul, 1) := by decide +kernel
theorem dX9_message_32 : decode cX9_message 32 = .ok (.goto 6, 3) := by decide +kernel
theorem dX9_message_35 : decode cX9_message 35 = .ok (.iload_n 1, 1) := by decide +kernel
theorem dX9_message_36 : decode cX9_message 36 = .ok (.iload_n 2, 1) := by decide +kernel
theorem dX9_message_37 : decode cX9_message 37 = .ok (.iadd, 1) := by decide +kernel
theorem dX9_message_38 : decode cX9_message 38 = .ok (.ireturn, 1) := by decide +kernel
theorem dX9_folded_0 : decode cX9_folded 0 = .ok (.aload_n 0, 1) := by decide +kernel
theorem dX9_folded_1 : decode cX9_folded 1 = .ok (.getfield 121, 3) := by decide +kernel
theorem dX9_folded_4 : decode cX9_folded 4 = .ok (.iconst 2, 1) := by decide +kernel
theorem dX9_folded_5 : decode cX9_folded 5 = .ok (.if_icmp .ne 9, 3) := by decide +kernel
theorem dX9_folded_8 : decode cX9_folded 8 = .ok (.iload_n 1, 1) := by decide +kernel
theorem dX9_folded_9 : decode cX9_folded 9 = .ok (.iload_n 2, 1) := by decide +kernel
theorem dX9_folded_10 : decode cX9_folded 10 = .ok (.iadd, 1) := by decide +kernel
theorem dX9_folded_11 : decode cX9_folded 11 = .ok (.goto 34, 3) := by decide +kernel
theorem dX9_folded_14 : decode cX9_folded 14 = .ok (.aload_n 0, 1) := by decide +kernel
theorem dX9_folded_15 : decode cX9_folded 15 = .ok (.getfield 121, 3) := by decide +kernel
theorem dX9_folded_18 : decode cX9_folded 18 = .ok (.iconst 1, 1) := by decide +kernel
theorem dX9_folded_19 : decode cX9_folded 19 = .ok (.if_icmp .ne 7, 3) := by decide +kernel
theorem dX9_folded_22 : decode cX9_folded 22 = .ok (.iconst 1, 1) := by decide +kernel
theorem dX9_folded_23 : decode cX9_folded 23 = .ok (.goto 4, 3) := by decide +kernel
theorem dX9_folded_26 : decode cX9_folded 26 = .ok (.iconst 0, 1) := by decide +kernel
theorem dX9_folded_27 : decode cX9_folded 27 = .ok (.iload_n 1, 1) := by decide +kernel
theorem dX9_folded_28 : decode cX9_folded 28 = .ok (.iload_n 2, 1) := by decide +kernel
theorem dX9_folded_29 : decode cX9_folded 29 = .ok (.if_icmp .le 7, 3) := by decide +kernel
theorem dX9_folded_32 : decode cX9_folded 32 = .ok (.iconst 1, 1) := by decide +kernel
theorem dX9_folded_33 : decode cX9_folded 33 = .ok (.goto 4, 3) := by decide +kernel
theorem dX9_folded_36 : decode cX9_folded 36 = .ok (.iconst 0, 1) := by decide +kernel
theorem dX9_folded_37 : decode cX9_folded 37 = .ok (.if_icmp .ne 7, 3) := by decide +kernel
theorem dX9_folded_40 : decode cX9_folded 40 = .ok (.iload_n 1, 1) := by decide +kernel
theorem dX9_folded_41 : decode cX9_folded 41 = .ok (.goto 4, 3) := by decide +kernel
theorem dX9_folded_44 : decode cX9_folded 44 = .ok (.iload_n 2, 1) := by decide +kernel
theorem dX9_folded_45 : decode cX9_folded 45 = .ok (.ireturn, 1) := by decide +kernel
theorem dX9_lay_0 : decode cX9_lay 0 = .ok (.aload_n 0, 1) := by decide +kernel
theorem dX9_lay_1 : decode cX9_lay 1 = .ok (.getfield 48, 3) := by decide +kernel
theorem dX9_lay_4 : decode cX9_lay 4 = .ok (.iload_n 2, 1) := by decide +kernel
theorem dX9_lay_5 : decode cX9_lay 5 = .ok (.aload_n 0, 1) := by decide +kernel
theorem dX9_lay_6 : decode cX9_lay 6 = .ok (.getfield 48, 3) := by decide +kernel
theorem dX9_lay_9 : decode cX9_lay 9 = .ok (.iload_n 1, 1) := by decide +kernel
theorem dX9_lay_10 : decode cX9_lay 10 = .ok (.baload, 1) := by decide +kernel
theorem dX9_lay_11 : decode cX9_lay 11 = .ok (.bastore, 1) := by decide +kernel
theorem dX9_lay_12 : decode cX9_lay 12 = .ok (.aload_n 0, 1) := by decide +kernel
theorem dX9_lay_13 : decode cX9_lay 13 = .ok (.getfield 51, 3) := by decide +kernel
theorem dX9_lay_16 : decode cX9_lay 16 = .ok (.iload_n 2, 1) := by decide +kernel
theorem dX9_lay_17 : decode cX9_lay 17 = .ok (.aload_n 0, 1) := by decide +kernel
theorem dX9_lay_18 : decode cX9_lay 18 = .ok (.getfield 51, 3) := by decide +kernel
theorem dX9_lay_21 : decode cX9_lay 21 = .ok (.iload_n 1, 1) := by decide +kernel
theorem dX9_lay_22 : decode cX9_lay 22 = .ok (.iaload, 1) := by decide +kernel
theorem dX9_lay_23 : decode cX9_lay 23 = .ok (.iastore, 1) := by decide +kernel
theorem dX9_lay_24 : decode cX9_lay 24 = .ok (.aload_n 0, 1) := by decide +kernel
theorem dX9_lay_25 : decode cX9_lay 25 = .ok (.getfield 54, 3) := by decide +kernel
theorem dX9_lay_28 : decode cX9_lay 28 = .ok (.iload_n 2, 1) := by decide +kernel
theorem dX9_lay_29 : decode cX9_lay 29 = .ok (.aload_n 0, 1) := by decide +kernel
theorem dX9_lay_30 : decode cX9_lay 30 = .ok (.getfield 54, 3) := by decide +kernel
theorem dX9_lay_33 : decode cX9_lay 33 = .ok (.iload_n 1, 1) := by decide +kernel
theorem dX9_lay_34 : decode cX9_lay 34 = .ok (.iaload, 1) := by decide +kernel
theorem dX9_lay_35 : decode cX9_lay 35 = .ok (.iastore, 1) := by decide +kernel
theorem dX9_lay_36 : decode cX9_lay 36 = .ok (.aload_n 0, 1) := by decide +kernel
theorem dX9_lay_37 : decode cX9_lay 37 = .ok (.getfield 57, 3) := by decide +kernel
theorem dX9_lay_40 : decode cX9_lay 40 = .ok (.iload_n 2, 1) := by decide +kernel
theorem dX9_lay_41 : decode cX9_lay 41 = .ok (.aload_n 0, 1) := by decide +kernel
theorem dX9_lay_42 : decode cX9_lay 42 = .ok (.getfield 57, 3) := by decide +kernel
theorem dX9_lay_45 : decode cX9_lay 45 = .ok (.iload_n 1, 1) := by decide +kernel
theorem dX9_lay_46 : decode cX9_lay 46 = .ok (.iaload, 1) := by decide +kernel
theorem dX9_lay_47 : decode cX9_lay 47 = .ok (.iastore, 1) := by decide +kernel
theorem dX9_lay_48 : decode cX9_lay 48 = .ok (.aload_n 0, 1) := by decide +kernel
theorem dX9_lay_49 : decode cX9_lay 49 = .ok (.getfield 60, 3) := by decide +kernel
theorem dX9_lay_52 : decode cX9_lay 52 = .ok (.iload_n 2, 1) := by decide +kernel
theorem dX9_lay_53 : decode cX9_lay 53 = .ok (.aload_n 0, 1) := by decide +kernel
theorem dX9_lay_54 : decode cX9_lay 54 = .ok (.getfield 60, 3) := by decide +kernel
theorem dX9_lay_57 : decode cX9_lay 57 = .ok (.iload_n 1, 1) := by decide +kernel
theorem dX9_lay_58 : decode cX9_lay 58 = .ok (.iaload, 1) := by decide +kernel
theorem dX9_lay_59 : decode cX9_lay 59 = .ok (.iastore, 1) := by decide +kernel
theorem dX9_lay_60 : decode cX9_lay 60 = .ok (.aload_n 0, 1) := by decide +kernel
theorem dX9_lay_61 : decode cX9_lay 61 = .ok (.getfield 63, 3) := by decide +kernel
theorem dX9_lay_64 : decode cX9_lay 64 = .ok (.iload_n 2, 1) := by decide +kernel
theorem dX9_lay_65 : decode cX9_lay 65 = .ok (.aload_n 0, 1) := by decide +kernel
theorem dX9_lay_66 : decode cX9_lay 66 = .ok (.getfield 63, 3) := by decide +kernel
theorem dX9_lay_69 : decode cX9_lay 69 = .ok (.iload_n 1, 1) := by decide +kernel
theorem dX9_lay_70 : decode cX9_lay 70 = .ok (.iaload, 1) := by decide +kernel
theorem dX9_lay_71 : decode cX9_lay 71 = .ok (.iastore, 1) := by decide +kernel
theorem dX9_lay_72 : decode cX9_lay 72 = .ok (.aload_n 0, 1) := by decide +kernel
theorem dX9_lay_73 : decode cX9_lay 73 = .ok (.getfield 66, 3) := by decide +kernel
theorem dX9_lay_76 : decode cX9_lay 76 = .ok (.iload_n 2, 1) := by decide +kernel
theorem dX9_lay_77 : decode cX9_lay 77 = .ok (.aload_n 0, 1) := by decide +kernel
theorem dX9_lay_78 : decode cX9_lay 78 = .ok (.getfield 66, 3) := by decide +kernel
theorem dX9_lay_81 : decode cX9_lay 81 = .ok (.iload_n 1, 1) := by decide +kernel
theorem dX9_lay_82 : decode cX9_lay 82 = .ok (.iaload, 1) := by decide +kernel
theorem dX9_lay_83 : decode cX9_lay 83 = .ok (.iastore, 1) := by decide +kernel
theorem dX9_lay_84 : decode cX9_lay 84 = .ok (.iconst 0, 1) := by decide +kernel
theorem dX9_lay_85 : decode cX9_lay 85 = .ok (.istore_n 3, 1) := by decide +kernel
theorem dX9_lay_86 : decode cX9_lay 86 = .ok (.iload_n 3, 1) := by decide +kernel
theorem dX9_lay_87 : decode cX9_lay 87 = .ok (.aload_n 0, 1) := by decide +kernel
theorem dX9_lay_88 : decode cX9_lay 88 = .ok (.getfield 66, 3) := by decide +kernel
theorem dX9_lay_91 : decode cX9_lay 91 = .ok (.iload_n 1, 1) := by decide +kernel
theorem dX9_lay_92 : decode cX9_lay 92 = .ok (.iaload, 1) := by decide +kernel
theorem dX9_lay_93 : decode cX9_lay 93 = .ok (.if_icmp .ge 75, 3) := by decide +kernel
theorem dX9_lay_96 : decode cX9_lay 96 = .ok (.aload_n 0, 1) := by decide +kernel
end
section
theorem dX9_lay_97 : decode cX9_lay 97 = .ok (.getfield 69, 3) := by decide +kernel
theorem dX9_lay_100 : decode cX9_lay 100 = .ok (.bipush 40, 2) := by decide +kernel
theorem dX9_lay_102 : decode cX9_lay 102 = .ok (.iload_n 2, 1) := by decide +kernel
theorem dX9_lay_103 : decode cX9_lay 103 = .ok (.imul, 1) := by decide +kernel
theorem dX9_lay_104 : decode cX9_lay 104 = .ok (.iload_n 3, 1) := by decide +kernel
theorem dX9_lay_105 : decode cX9_lay 105 = .ok (.iadd, 1) := by decide +kernel
theorem dX9_lay_106 : decode cX9_lay 106 = .ok (.aload_n 0, 1) := by decide +kernel
theorem dX9_lay_107 : decode cX9_lay 107 = .ok (.getfield 69, 3) := by decide +kernel
theorem dX9_lay_110 : decode cX9_lay 110 = .ok (.bipush 40, 2) := by decide +kernel
theorem dX9_lay_112 : decode cX9_lay 112 = .ok (.iload_n 1, 1) := by decide +kernel
theorem dX9_lay_113 : decode cX9_lay 113 = .ok (.imul, 1) := by decide +kernel
theorem dX9_lay_114 : decode cX9_lay 114 = .ok (.iload_n 3, 1) := by decide +kernel
theorem dX9_lay_115 : decode cX9_lay 115 = .ok (.iadd, 1) := by decide +kernel
theorem dX9_lay_116 : decode cX9_lay 116 = .ok (.iaload, 1) := by decide +kernel
theorem dX9_lay_117 : decode cX9_lay 117 = .ok (.iastore, 1) := by decide +kernel
theorem dX9_lay_118 : decode cX9_lay 118 = .ok (.aload_n 0, 1) := by decide +kernel
theorem dX9_lay_119 : decode cX9_lay 119 = .ok (.getfield 72, 3) := by decide +kernel
theorem dX9_lay_122 : decode cX9_lay 122 = .ok (.bipush 40, 2) := by decide +kernel
theorem dX9_lay_124 : decode cX9_lay 124 = .ok (.iload_n 2, 1) := by decide +kernel
theorem dX9_lay_125 : decode cX9_lay 125 = .ok (.imul, 1) := by decide +kernel
theorem dX9_lay_126 : decode cX9_lay 126 = .ok (.iload_n 3, 1) := by decide +kernel
theorem dX9_lay_127 : decode cX9_lay 127 = .ok (.iadd, 1) := by decide +kernel
theorem dX9_lay_128 : decode cX9_lay 128 = .ok (.aload_n 0, 1) := by decide +kernel
theorem dX9_lay_129 : decode cX9_lay 129 = .ok (.getfield 72, 3) := by decide +kernel
theorem dX9_lay_132 : decode cX9_lay 132 = .ok (.bipush 40, 2) := by decide +kernel
theorem dX9_lay_134 : decode cX9_lay 134 = .ok (.iload_n 1, 1) := by decide +kernel
theorem dX9_lay_135 : decode cX9_lay 135 = .ok (.imul, 1) := by decide +kernel
theorem dX9_lay_136 : decode cX9_lay 136 = .ok (.iload_n 3, 1) := by decide +kernel
theorem dX9_lay_137 : decode cX9_lay 137 = .ok (.iadd, 1) := by decide +kernel
theorem dX9_lay_138 : decode cX9_lay 138 = .ok (.iaload, 1) := by decide +kernel
theorem dX9_lay_139 : decode cX9_lay 139 = .ok (.iastore, 1) := by decide +kernel
theorem dX9_lay_140 : decode cX9_lay 140 = .ok (.aload_n 0, 1) := by decide +kernel
theorem dX9_lay_141 : decode cX9_lay 141 = .ok (.getfield 75, 3) := by decide +kernel
theorem dX9_lay_144 : decode cX9_lay 144 = .ok (.bipush 40, 2) := by decide +kernel
theorem dX9_lay_146 : decode cX9_lay 146 = .ok (.iload_n 2, 1) := by decide +kernel
theorem dX9_lay_147 : decode cX9_lay 147 = .ok (.imul, 1) := by decide +kernel
theorem dX9_lay_148 : decode cX9_lay 148 = .ok (.iload_n 3, 1) := by decide +kernel
theorem dX9_lay_149 : decode cX9_lay 149 = .ok (.iadd, 1) := by decide +kernel
theorem dX9_lay_150 : decode cX9_lay 150 = .ok (.aload_n 0, 1) := by decide +kernel
theorem dX9_lay_151 : decode cX9_lay 151 = .ok (.getfield 75, 3) := by decide +kernel
theorem dX9_lay_154 : decode cX9_lay 154 = .ok (.bipush 40, 2) := by decide +kernel
theorem dX9_lay_156 : decode cX9_lay 156 = .ok (.iload_n 1, 1) := by decide +kernel
theorem dX9_lay_157 : decode cX9_lay 157 = .ok (.imul, 1) := by decide +kernel
theorem dX9_lay_158 : decode cX9_lay 158 = .ok (.iload_n 3, 1) := by decide +kernel
theorem dX9_lay_159 : decode cX9_lay 159 = .ok (.iadd, 1) := by decide +kernel
theorem dX9_lay_160 : decode cX9_lay 160 = .ok (.iaload, 1) := by decide +kernel
theorem dX9_lay_161 : decode cX9_lay 161 = .ok (.iastore, 1) := by decide +kernel
theorem dX9_lay_162 : decode cX9_lay 162 = .ok (.iinc 3 1, 3) := by decide +kernel
theorem dX9_lay_165 : decode cX9_lay 165 = .ok (.goto (-79), 3) := by decide +kernel
theorem dX9_lay_168 : decode cX9_lay 168 = .ok (.return_, 1) := by decide +kernel
theorem dX9_keeps_0 : decode cX9_keeps 0 = .ok (.bipush 60, 2) := by decide +kernel
theorem dX9_keeps_2 : decode cX9_keeps 2 = .ok (.bipush 10, 2) := by decide +kernel
theorem dX9_keeps_4 : decode cX9_keeps 4 = .ok (.iload_n 1, 1) := by decide +kernel
theorem dX9_keeps_5 : decode cX9_keeps 5 = .ok (.imul, 1) := by decide +kernel
theorem dX9_keeps_6 : decode cX9_keeps 6 = .ok (.iadd, 1) := by decide +kernel
theorem dX9_keeps_7 : decode cX9_keeps 7 = .ok (.iconst 5, 1) := by decide +kernel
theorem dX9_keeps_8 : decode cX9_keeps 8 = .ok (.iload_n 2, 1) := by decide +kernel
theorem dX9_keeps_9 : decode cX9_keeps 9 = .ok (.imul, 1) := by decide +kernel
theorem dX9_keeps_10 : decode cX9_keeps 10 = .ok (.iadd, 1) := by decide +kernel
theorem dX9_keeps_11 : decode cX9_keeps 11 = .ok (.iload_n 3, 1) := by decide +kernel
theorem dX9_keeps_12 : decode cX9_keeps 12 = .ok (.iadd, 1) := by decide +kernel
theorem dX9_keeps_13 : decode cX9_keeps 13 = .ok (.ireturn, 1) := by decide +kernel
theorem dX9_has_0 : decode cX9_has 0 = .ok (.bipush 110, 2) := by decide +kernel
theorem dX9_has_2 : decode cX9_has 2 = .ok (.bipush 10, 2) := by decide +kernel
theorem dX9_has_4 : decode cX9_has 4 = .ok (.iload_n 1, 1) := by decide +kernel
theorem dX9_has_5 : decode cX9_has 5 = .ok (.imul, 1) := by decide +kernel
theorem dX9_has_6 : decode cX9_has 6 = .ok (.iadd, 1) := by decide +kernel
theorem dX9_has_7 : decode cX9_has 7 = .ok (.iconst 5, 1) := by decide +kernel
theorem dX9_has_8 : decode cX9_has 8 = .ok (.iload_n 2, 1) := by decide +kernel
theorem dX9_has_9 : decode cX9_has 9 = .ok (.imul, 1) := by decide +kernel
theorem dX9_has_10 : decode cX9_has 10 = .ok (.iadd, 1) := by decide +kernel
theorem dX9_has_11 : decode cX9_has 11 = .ok (.iload_n 3, 1) := by decide +kernel
theorem dX9_has_12 : decode cX9_has 12 = .ok (.iadd, 1) := by decide +kernel
theorem dX9_has_13 : decode cX9_has 13 = .ok (.ireturn, 1) := by decide +kernel
theorem dX9_activeAt_0 : decode cX9_activeAt 0 = .ok (.iconst 0, 1) := by decide +kernel
theorem dX9_activeAt_1 : decode cX9_activeAt 1 = .ok (.istore_n 2, 1) := by decide +kernel
theorem dX9_activeAt_2 : decode cX9_activeAt 2 = .ok (.iconst 0, 1) := by decide +kernel
theorem dX9_activeAt_3 : decode cX9_activeAt 3 = .ok (.istore_n 3, 1) := by decide +kernel
theorem dX9_activeAt_4 : decode cX9_activeAt 4 = .ok (.iload_n 3, 1) := by decide +kernel
theorem dX9_activeAt_5 : decode cX9_activeAt 5 = .ok (.aload_n 0, 1) := by decide +kernel
theorem dX9_activeAt_6 : decode cX9_activeAt 6 = .ok (.getfield 115, 3) := by decide +kernel
theorem dX9_activeAt_9 : decode cX9_activeAt 9 = .ok (.if_icmp .ge 36, 3) := by decide +kernel
theorem dX9_activeAt_12 : decode cX9_activeAt 12 = .ok (.iload_n 2, 1) := by decide +kernel
theorem dX9_activeAt_13 : decode cX9_activeAt 13 = .ok (.aload_n 0, 1) := by decide +kernel
theorem dX9_activeAt_14 : decode cX9_activeAt 14 = .ok (.getfield 27, 3) := by decide +kernel
theorem dX9_activeAt_17 : decode cX9_activeAt 17 = .ok (.iload_n 3, 1) := by decide +kernel
theorem dX9_activeAt_18 : decode cX9_activeAt 18 = .ok (.iaload, 1) := by decide +kernel
theorem dX9_activeAt_19 : decode cX9_activeAt 19 = .ok (.iload_n 1, 1) := by decide +kernel
theorem dX9_activeAt_20 : decode cX9_activeAt 20 = .ok (.if_icmp .ne 16, 3) := by decide +kernel
theorem dX9_activeAt_23 : decode cX9_activeAt 23 = .ok (.aload_n 0, 1) := by decide +kernel
theorem dX9_activeAt_24 : decode cX9_activeAt 24 = .ok (.getfield 23, 3) := by decide +kernel
theorem dX9_activeAt_27 : decode cX9_activeAt 27 = .ok (.iload_n 3, 1) := by decide +kernel
theorem dX9_activeAt_28 : decode cX9_activeAt 28 = .ok (.baload, 1) := by decide +kernel
theorem dX9_activeAt_29 : decode cX9_activeAt 29 = .ok (.ifCond .eq 7, 3) := by decide +kernel
theorem dX9_activeAt_32 : decode cX9_activeAt 32 = .ok (.iconst 1, 1) := by decide +kernel
theorem dX9_activeAt_33 : decode cX9_activeAt 33 = .ok (.goto 4, 3) := by decide +kernel
theorem dX9_activeAt_36 : decode cX9_activeAt 36 = .ok (.iconst 0, 1) := by decide +kernel
theorem dX9_activeAt_37 : decode cX9_activeAt 37 = .ok (.iadd, 1) := by decide +kernel
theorem dX9_activeAt_38 : decode cX9_activeAt 38 = .ok (.istore_n 2, 1) := by decide +kernel
theorem dX9_activeAt_39 : decode cX9_activeAt 39 = .ok (.iinc 3 1, 3) := by decide +kernel
theorem dX9_activeAt_42 : decode cX9_activeAt 42 = .ok (.goto (-38), 3) := by decide +kernel
theorem dX9_activeAt_45 : decode cX9_activeAt 45 = .ok (.iload_n 2, 1) := by decide +kernel
theorem dX9_activeAt_46 : decode cX9_activeAt 46 = .ok (.ireturn, 1) := by decide +kernel
theorem dX9_addEntry_0 : decode cX9_addEntry 0 = .ok (.iconst 0, 1) := by decide +kernel
theorem dX9_addEntry_1 : decode cX9_addEntry 1 = .ok (.istore 5, 2) := by decide +kernel
theorem dX9_addEntry_3 : decode cX9_addEntry 3 = .ok (.aload_n 0, 1) := by decide +kernel
theorem dX9_addEntry_4 : decode cX9_addEntry 4 = .ok (.getfield 124, 3) := by decide +kernel
theorem dX9_addEntry_7 : decode cX9_addEntry 7 = .ok (.ifCond .eq 66, 3) := by decide +kernel
theorem dX9_addEntry_10 : decode cX9_addEntry 10 = .ok (.iload 5, 2) := by decide +kernel
theorem dX9_addEntry_12 : decode cX9_addEntry 12 = .ok (.aload_n 0, 1) := by decide +kernel
theorem dX9_addEntry_13 : decode cX9_addEntry 13 = .ok (.getfield 66, 3) := by decide +kernel
theorem dX9_addEntry_16 : decode cX9_addEntry 16 = .ok (.iload_n 1, 1) := by decide +kernel
theorem dX9_addEntry_17 : decode cX9_addEntry 17 = .ok (.iaload, 1) := by decide +kernel
theorem dX9_addEntry_18 : decode cX9_addEntry 18 = .ok (.if_icmp .ge 55, 3) := by decide +kernel
theorem dX9_addEntry_21 : decode cX9_addEntry 21 = .ok (.aload_n 0, 1) := by decide +kernel
theorem dX9_addEntry_22 : decode cX9_addEntry 22 = .ok (.getfield 69, 3) := by decide +kernel
theorem dX9_addEntry_25 : decode cX9_addEntry 25 = .ok (.bipush 40, 2) := by decide +kernel
theorem dX9_addEntry_27 : decode cX9_addEntry 27 = .ok (.iload_n 1, 1) := by decide +kernel
theorem dX9_addEntry_28 : decode cX9_addEntry 28 = .ok (.imul, 1) := by decide +kernel
theorem dX9_addEntry_29 : decode cX9_addEntry 29 = .ok (.iload 5, 2) := by decide +kernel
theorem dX9_addEntry_31 : decode cX9_addEntry 31 = .ok (.iadd, 1) := by decide +kernel
theorem dX9_addEntry_32 : decode cX9_addEntry 32 = .ok (.iaload, 1) := by decide +kernel
theorem dX9_addEntry_33 : decode cX9_addEntry 33 = .ok (.iload_n 2, 1) := by decide +kernel
theorem dX9_addEntry_34 : decode cX9_addEntry 34 = .ok (.if_icmp .ne 33, 3) := by decide +kernel
theorem dX9_addEntry_37 : decode cX9_addEntry 37 = .ok (.aload_n 0, 1) := by decide +kernel
theorem dX9_addEntry_38 : decode cX9_addEntry 38 = .ok (.getfield 72, 3) := by decide +kernel
theorem dX9_addEntry_41 : decode cX9_addEntry 41 = .ok (.bipush 40, 2) := by decide +kernel
theorem dX9_addEntry_43 : decode cX9_addEntry 43 = .ok (.iload_n 1, 1) := by decide +kernel
theorem dX9_addEntry_44 : decode cX9_addEntry 44 = .ok (.imul, 1) := by decide +kernel
theorem dX9_addEntry_45 : decode cX9_addEntry 45 = .ok (.iload 5, 2) := by decide +kernel
theorem dX9_addEntry_47 : decode cX9_addEntry 47 = .ok (.iadd, 1) := by decide +kernel
theorem dX9_addEntry_48 : decode cX9_addEntry 48 = .ok (.aload_n 0, 1) := by decide +kernel
theorem dX9_addEntry_49 : decode cX9_addEntry 49 = .ok (.aload_n 0, 1) := by decide +kernel
theorem dX9_addEntry_50 : decode cX9_addEntry 50 = .ok (.getfield 72, 3) := by decide +kernel
theorem dX9_addEntry_53 : decode cX9_addEntry 53 = .ok (.bipush 40, 2) := by decide +kernel
theorem dX9_addEntry_55 : decode cX9_addEntry 55 = .ok (.iload_n 1, 1) := by decide +kernel
theorem dX9_addEntry_56 : decode cX9_addEntry 56 = .ok (.imul, 1) := by decide +kernel
theorem dX9_addEntry_57 : decode cX9_addEntry 57 = .ok (.iload 5, 2) := by decide +kernel
theorem dX9_addEntry_59 : decode cX9_addEntry 59 = .ok (.iadd, 1) := by decide +kernel
theorem dX9_addEntry_60 : decode cX9_addEntry 60 = .ok (.iaload, 1) := by decide +kernel
theorem dX9_addEntry_61 : decode cX9_addEntry 61 = .ok (.iload_n 3, 1) := by decide +kernel
theorem dX9_addEntry_62 : decode cX9_addEntry 62 = .ok (.invokevirtual 154, 3) := by decide +kernel
theorem dX9_addEntry_65 : decode cX9_addEntry 65 = .ok (.iastore, 1) := by decide +kernel
theorem dX9_addEntry_66 : decode cX9_addEntry 66 = .ok (.return_, 1) := by decide +kernel
theorem dX9_addEntry_67 : decode cX9_addEntry 67 = .ok (.iinc 5 1, 3) := by decide +kernel
theorem dX9_addEntry_70 : decode cX9_addEntry 70 = .ok (.goto (-67), 3) := by decide +kernel
theorem dX9_addEntry_73 : decode cX9_addEntry 73 = .ok (.bipush 40, 2) := by decide +kernel
theorem dX9_addEntry_75 : decode cX9_addEntry 75 = .ok (.iload_n 1, 1) := by decide +kernel
theorem dX9_addEntry_76 : decode cX9_addEntry 76 = .ok (.imul, 1) := by decide +kernel
theorem dX9_addEntry_77 : decode cX9_addEntry 77 = .ok (.aload_n 0, 1) := by decide +kernel
theorem dX9_addEntry_78 : decode cX9_addEntry 78 = .ok (.getfield 66, 3) := by decide +kernel
theorem dX9_addEntry_81 : decode cX9_addEntry 81 = .ok (.iload_n 1, 1) := by decide +kernel
theorem dX9_addEntry_82 : decode cX9_addEntry 82 = .ok (.iaload, 1) := by decide +kernel
theorem dX9_addEntry_83 : decode cX9_addEntry 83 = .ok (.iadd, 1) := by decide +kernel
theorem dX9_addEntry_84 : decode cX9_addEntry 84 = .ok (.istore 5, 2) := by decide +kernel
theorem dX9_addEntry_86 : decode cX9_addEntry 86 = .ok (.aload_n 0, 1) := by decide +kernel
theorem dX9_addEntry_87 : decode cX9_addEntry 87 = .ok (.getfield 69, 3) := by decide +kernel
theorem dX9_addEntry_90 : decode cX9_addEntry 90 = .ok (.iload 5, 2) := by decide +kernel
theorem dX9_addEntry_92 : decode cX9_addEntry 92 = .ok (.iload_n 2, 1) := by decide +kernel
theorem dX9_addEntry_93 : decode cX9_addEntry 93 = .ok (.iastore, 1) := by decide +kernel
theorem dX9_addEntry_94 : decode cX9_addEntry 94 = .ok (.aload_n 0, 1) := by decide +kernel
theorem dX9_addEntry_95 : decode cX9_addEntry 95 = .ok (.getfield 72, 3) := by decide +kernel
theorem dX9_addEntry_98 : decode cX9_addEntry 98 = .ok (.iload 5, 2) := by decide +kernel
theorem dX9_addEntry_100 : decode cX9_addEntry 100 = .ok (.iload_n 3, 1) := by decide +kernel
theorem dX9_addEntry_101 : decode cX9_addEntry 101 = .ok (.iastore, 1) := by decide +kernel
theorem dX9_addEntry_102 : decode cX9_addEntry 102 = .ok (.aload_n 0, 1) := by decide +kernel
theorem dX9_addEntry_103 : decode cX9_addEntry 103 = .ok (.getfield 75, 3) := by decide +kernel
theorem dX9_addEntry_106 : decode cX9_addEntry 106 = .ok (.iload 5, 2) := by decide +kernel
theorem dX9_addEntry_108 : decode cX9_addEntry 108 = .ok (.iload 4, 2) := by decide +kernel
theorem dX9_addEntry_110 : decode cX9_addEntry 110 = .ok (.iastore, 1) := by decide +kernel
theorem dX9_addEntry_111 : decode cX9_addEntry 111 = .ok (.aload_n 0, 1) := by decide +kernel
theorem dX9_addEntry_112 : decode cX9_addEntry 112 = .ok (.getfield 66, 3) := by decide +kernel
theorem dX9_addEntry_115 : decode cX9_addEntry 115 = .ok (.iload_n 1, 1) := by decide +kernel
theorem dX9_addEntry_116 : decode cX9_addEntry 116 = .ok (.dup2, 1) := by decide +kernel
theorem dX9_addEntry_117 : decode cX9_addEntry 117 = .ok (.iaload, 1) := by decide +kernel
theorem dX9_addEntry_118 : decode cX9_addEntry 118 = .ok (.iconst 1, 1) := by decide +kernel
theorem dX9_addEntry_119 : decode cX9_addEntry 119 = .ok (.iadd, 1) := by decide +kernel
theorem dX9_addEntry_120 : decode cX9_addEntry 120 = .ok (.iastore, 1) := by decide +kernel
theorem dX9_addEntry_121 : decode cX9_addEntry 121 = .ok (.return_, 1) := by decide +kernel
theorem dX9_write_0 : decode cX9_write 0 = .ok (.iconst 0, 1) := by decide +kernel
theorem dX9_write_1 : decode cX9_write 1 = .ok (.istore_n 2, 1) := by decide +kernel
theorem dX9_write_2 : decode cX9_write 2 = .ok (.iload_n 2, 1) := by decide +kernel
theorem dX9_write_3 : decode cX9_write 3 = .ok (.aload_n 0, 1) := by decide +kernel
theorem dX9_write_4 : decode cX9_write 4 = .ok (.getfield 7, 3) := by decide +kernel
theorem dX9_write_7 : decode cX9_write 7 = .ok (.if_icmp .ge 241, 3) := by decide +kernel
theorem dX9_write_10 : decode cX9_write 10 = .ok (.iload_n 2, 1) := by decide +kernel
theorem dX9_write_11 : decode cX9_write 11 = .ok (.iload_n 1, 1) := by decide +kernel
theorem dX9_write_12 : decode cX9_write 12 = .ok (.if_icmp .ne 6, 3) := by decide +kernel
theorem dX9_write_15 : decode cX9_write 15 = .ok (.goto 227, 3) := by decide +kernel
theorem dX9_write_18 : decode cX9_write 18 = .ok (.aload_n 0, 1) := by decide +kernel
theorem dX9_write_19 : decode cX9_write 19 = .ok (.iload_n 1, 1) := by decide +kernel
theorem dX9_write_20 : decode cX9_write 20 = .ok (.iconst 1, 1) := by decide +kernel
theorem dX9_write_21 : decode cX9_write 21 = .ok (.iload_n 2, 1) := by decide +kernel
theorem dX9_write_22 : decode cX9_write 22 = .ok (.invokevirtual 158, 3) := by decide +kernel
theorem dX9_write_25 : decode cX9_write 25 = .ok (.istore_n 3, 1) := by decide +kernel
theorem dX9_write_26 : decode cX9_write 26 = .ok (.aload_n 0, 1) := by decide +kernel
theorem dX9_write_27 : decode cX9_write 27 = .ok (.getfield 48, 3) := by decide +kernel
theorem dX9_write_30 : decode cX9_write 30 = .ok (.iload_n 3, 1) := by decide +kernel
theorem dX9_write_31 : decode cX9_write 31 = .ok (.iconst 1, 1) := by decide +kernel
theorem dX9_write_32 : decode cX9_write 32 = .ok (.bastore, 1) := by decide +kernel
theorem dX9_write_33 : decode cX9_write 33 = .ok (.aload_n 0, 1) := by decide +kernel
theorem dX9_write_34 : decode cX9_write 34 = .ok (.getfield 51, 3) := by decide +kernel
theorem dX9_write_37 : decode cX9_write 37 = .ok (.iload_n 3, 1) := by decide +kernel
theorem dX9_write_38 : decode cX9_write 38 = .ok (.aload_n 0, 1) := by decide +kernel
theorem dX9_write_39 : decode cX9_write 39 = .ok (.getfield 137, 3) := by decide +kernel
theorem dX9_write_42 : decode cX9_write 42 = .ok (.iastore, 1) := by decide +kernel
theorem dX9_write_43 : decode cX9_write 43 = .ok (.aload_n 0, 1) := by decide +kernel
theorem dX9_write_44 : decode cX9_write 44 = .ok (.getfield 54, 3) := by decide +kernel
theorem dX9_write_47 : decode cX9_write 47 = .ok (.iload_n 3, 1) := by decide +kernel
theorem dX9_write_48 : decode cX9_write 48 = .ok (.aload_n 0, 1) := by decide +kernel
theorem dX9_write_49 : decode cX9_write 49 = .ok (.getfield 39, 3) := by decide +kernel
theorem dX9_write_52 : decode cX9_write 52 = .ok (.iload_n 1, 1) := by decide +kernel
theorem dX9_write_53 : decode cX9_write 53 = .ok (.iaload, 1) := by decide +kernel
theorem dX9_write_54 : decode cX9_write 54 = .ok (.iastore, 1) := by decide +kernel
theorem dX9_write_55 : decode cX9_write 55 = .ok (.aload_n 0, 1) := by decide +kernel
theorem dX9_write_56 : decode cX9_write 56 = .ok (.getfield 57, 3) := by decide +kernel
theorem dX9_write_59 : decode cX9_write 59 = .ok (.iload_n 3, 1) := by decide +kernel
theorem dX9_write_60 : decode cX9_write 60 = .ok (.iload_n 1, 1) := by decide +kernel
theorem dX9_write_61 : decode cX9_write 61 = .ok (.iastore, 1) := by decide +kernel
theorem dX9_write_62 : decode cX9_write 62 = .ok (.aload_n 0, 1) := by decide +kernel
theorem dX9_write_63 : decode cX9_write 63 = .ok (.getfield 60, 3) := by decide +kernel
theorem dX9_write_66 : decode cX9_write 66 = .ok (.iload_n 3, 1) := by decide +kernel
theorem dX9_write_67 : decode cX9_write 67 = .ok (.iload_n 2, 1) := by decide +kernel
theorem dX9_write_68 : decode cX9_write 68 = .ok (.iastore, 1) := by decide +kernel
theorem dX9_write_69 : decode cX9_write 69 = .ok (.aload_n 0, 1) := by decide +kernel
theorem dX9_write_70 : decode cX9_write 70 = .ok (.getfield 63, 3) := by decide +kernel
theorem dX9_write_73 : decode cX9_write 73 = .ok (.iload_n 3, 1) := by decide +kernel
theorem dX9_write_74 : decode cX9_write 74 = .ok (.aload_n 0, 1) := by decide +kernel
theorem dX9_write_75 : decode cX9_write 75 = .ok (.iload_n 1, 1) := by decide +kernel
theorem dX9_write_76 : decode cX9_write 76 = .ok (.invokevirtual 162, 3) := by decide +kernel
theorem dX9_write_79 : decode cX9_write 79 = .ok (.iastore, 1) := by decide +kernel
theorem dX9_write_80 : decode cX9_write 80 = .ok (.aload_n 0, 1) := by decide +kernel
theorem dX9_write_81 : decode cX9_write 81 = .ok (.getfield 66, 3) := by decide +kernel
theorem dX9_write_84 : decode cX9_write 84 = .ok (.iload_n 3, 1) := by decide +kernel
theorem dX9_write_85 : decode cX9_write 85 = .ok (.iconst 0, 1) := by decide +kernel
theorem dX9_write_86 : decode cX9_write 86 = .ok (.iastore, 1) := by decide +kernel
theorem dX9_write_87 : decode cX9_write 87 = .ok (.iconst 0, 1) := by decide +kernel
theorem dX9_write_88 : decode cX9_write 88 = .ok (.istore 4, 2) := by decide +kernel
theorem dX9_write_90 : decode cX9_write 90 = .ok (.iload 4, 2) := by decide +kernel
theorem dX9_write_92 : decode cX9_write 92 = .ok (.aload_n 0, 1) := by decide +kernel
theorem dX9_write_93 : decode cX9_write 93 = .ok (.getfield 115, 3) := by decide +kernel
theorem dX9_write_96 : decode cX9_write 96 = .ok (.if_icmp .ge 108, 3) := by decide +kernel
theorem dX9_write_99 : decode cX9_write 99 = .ok (.iconst 0, 1) := by decide +kernel
theorem dX9_write_100 : decode cX9_write 100 = .ok (.istore 5, 2) := by decide +kernel
theorem dX9_write_102 : decode cX9_write 102 = .ok (.iload 5, 2) := by decide +kernel
theorem dX9_write_104 : decode cX9_write 104 = .ok (.aload_n 0, 1) := by decide +kernel
theorem dX9_write_105 : decode cX9_write 105 = .ok (.getfield 118, 3) := by decide +kernel
theorem dX9_write_108 : decode cX9_write 108 = .ok (.if_icmp .ge 90, 3) := by decide +kernel
theorem dX9_write_111 : decode cX9_write 111 = .ok (.aload_n 0, 1) := by decide +kernel
theorem dX9_write_112 : decode cX9_write 112 = .ok (.getfield 27, 3) := by decide +kernel
theorem dX9_write_115 : decode cX9_write 115 = .ok (.iload 4, 2) := by decide +kernel
theorem dX9_write_117 : decode cX9_write 117 = .ok (.iaload, 1) := by decide +kernel
theorem dX9_write_118 : decode cX9_write 118 = .ok (.iload_n 1, 1) := by decide +kernel
theorem dX9_write_119 : decode cX9_write 119 = .ok (.if_icmp .ne 73, 3) := by decide +kernel
theorem dX9_write_122 : decode cX9_write 122 = .ok (.aload_n 0, 1) := by decide +kernel
theorem dX9_write_123 : decode cX9_write 123 = .ok (.getfield 23, 3) := by decide +kernel
theorem dX9_write_126 : decode cX9_write 126 = .ok (.iload 4, 2) := by decide +kernel
theorem dX9_write_128 : decode cX9_write 128 = .ok (.baload, 1) := by decide +kernel
theorem dX9_write_129 : decode cX9_write 129 = .ok (.ifCond .eq 63, 3) := by decide +kernel
theorem dX9_write_132 : decode cX9_write 132 = .ok (.aload_n 0, 1) := by decide +kernel
theorem dX9_write_133 : decode cX9_write 133 = .ok (.getfield 30, 3) := by decide +kernel
theorem dX9_write_136 : decode cX9_write 136 = .ok (.iload 5, 2) := by decide +kernel
theorem dX9_write_138 : decode cX9_write 138 = .ok (.iaload, 1) := by decide +kernel
theorem dX9_write_139 : decode cX9_write 139 = .ok (.iload 4, 2) := by decide +kernel
theorem dX9_write_141 : decode cX9_write 141 = .ok (.if_icmp .ne 51, 3) := by decide +kernel
theorem dX9_write_144 : decode cX9_write 144 = .ok (.aload_n 0, 1) := by decide +kernel
theorem dX9_write_145 : decode cX9_write 145 = .ok (.getfield 27, 3) := by decide +kernel
theorem dX9_write_148 : decode cX9_write 148 = .ok (.aload_n 0, 1) := by decide +kernel
theorem dX9_write_149 : decode cX9_write 149 = .ok (.getfield 33, 3) := by decide +kernel
theorem dX9_write_152 : decode cX9_write 152 = .ok (.iload 5, 2) := by decide +kernel
theorem dX9_write_154 : decode cX9_write 154 = .ok (.iaload, 1) := by decide +kernel
theorem dX9_write_155 : decode cX9_write 155 = .ok (.iaload, 1) := by decide +kernel
theorem dX9_write_156 : decode cX9_write 156 = .ok (.iload_n 2, 1) := by decide +kernel
theorem dX9_write_157 : decode cX9_write 157 = .ok (.if_icmp .ne 35, 3) := by decide +kernel
theorem dX9_write_160 : decode cX9_write 160 = .ok (.aload_n 0, 1) := by decide +kernel
theorem dX9_write_161 : decode cX9_write 161 = .ok (.iload_n 3, 1) := by decide +kernel
theorem dX9_write_162 : decode cX9_write 162 = .ok (.aload_n 0, 1) := by decide +kernel
theorem dX9_write_163 : decode cX9_write 163 = .ok (.getfield 33, 3) := by decide +kernel
theorem dX9_write_166 : decode cX9_write 166 = .ok (.iload 5, 2) := by decide +kernel
theorem dX9_write_168 : decode cX9_write 168 = .ok (.iaload, 1) := by decide +kernel
theorem dX9_write_169 : decode cX9_write 169 = .ok (.aload_n 0, 1) := by decide +kernel
theorem dX9_write_170 : decode cX9_write 170 = .ok (.aload_n 0, 1) := by decide +kernel
theorem dX9_write_171 : decode cX9_write 171 = .ok (.getfield 17, 3) := by decide +kernel
theorem dX9_write_174 : decode cX9_write 174 = .ok (.iload 4, 2) := by decide +kernel
theorem dX9_write_176 : decode cX9_write 176 = .ok (.iaload, 1) := by decide +kernel
theorem dX9_write_177 : decode cX9_write 177 = .ok (.aload_n 0, 1) := by decide +kernel
theorem dX9_write_178 : decode cX9_write 178 = .ok (.getfield 36, 3) := by decide +kernel
theorem dX9_write_181 : decode cX9_write 181 = .ok (.iload 5, 2) := by decide +kernel
theorem dX9_write_183 : decode cX9_write 183 = .ok (.iaload, 1) := by decide +kernel
theorem dX9_write_184 : decode cX9_write 184 = .ok (.invokevirtual 166, 3) := by decide +kernel
theorem dX9_write_187 : decode cX9_write 187 = .ok (.iload 5, 2) := by decide +kernel
theorem dX9_write_189 : decode cX9_write 189 = .ok (.invokevirtual 169, 3) := by decide +kernel
theorem dX9_write_192 : decode cX9_write 192 = .ok (.iinc 5 1, 3) := by decide +kernel
theorem dX9_write_195 : decode cX9_write 195 = .ok (.goto (-93), 3) := by decide +kernel
theorem dX9_write_198 : decode cX9_write 198 = .ok (.iinc 4 1, 3) := by decide +kernel
theorem dX9_write_201 : decode cX9_write 201 = .ok (.goto (-111), 3) := by decide +kernel
theorem dX9_write_204 : decode cX9_write 204 = .ok (.aload_n 0, 1) := by decide +kernel
theorem dX9_write_205 : decode cX9_write 205 = .ok (.dup, 1) := by decide +kernel
theorem dX9_write_206 : decode cX9_write 206 = .ok (.getfield 140, 3) := by decide +kernel
theorem dX9_write_209 : decode cX9_write 209 = .ok (.iconst 1, 1) := by decide +kernel
theorem dX9_write_210 : decode cX9_write 210 = .ok (.iadd, 1) := by decide +kernel
theorem dX9_write_211 : decode cX9_write 211 = .ok (.putfield 140, 3) := by decide +kernel
theorem dX9_write_214 : decode cX9_write 214 = .ok (.aload_n 0, 1) := by decide +kernel
theorem dX9_write_215 : decode cX9_write 215 = .ok (.getfield 134, 3) := by decide +kernel
theorem dX9_write_218 : decode cX9_write 218 = .ok (.bipush 60, 2) := by decide +kernel
theorem dX9_write_220 : decode cX9_write 220 = .ok (.if_icmp .ge 22, 3) := by decide +kernel
theorem dX9_write_223 : decode cX9_write 223 = .ok (.aload_n 0, 1) := by decide +kernel
theorem dX9_write_224 : decode cX9_write 224 = .ok (.iload_n 3, 1) := by decide +kernel
theorem dX9_write_225 : decode cX9_write 225 = .ok (.aload_n 0, 1) := by decide +kernel
theorem dX9_write_226 : decode cX9_write 226 = .ok (.getfield 134, 3) := by decide +kernel
theorem dX9_write_229 : decode cX9_write 229 = .ok (.invokevirtual 173, 3) := by decide +kernel
theorem dX9_write_232 : decode cX9_write 232 = .ok (.aload_n 0, 1) := by decide +kernel
theorem dX9_write_233 : decode cX9_write 233 = .ok (.dup, 1) := by decide +kernel
theorem dX9_write_234 : decode cX9_write 234 = .ok (.getfield 134, 3) := by decide +kernel
theorem dX9_write_237 : decode cX9_write 237 = .ok (.iconst 1, 1) := by decide +kernel
theorem dX9_write_238 : decode cX9_write 238 = .ok (.iadd, 1) := by decide +kernel
theorem dX9_write_239 : decode cX9_write 239 = .ok (.putfield 134, 3) := by decide +kernel
theorem dX9_write_242 : decode cX9_write 242 = .ok (.iinc 2 1, 3) := by decide +kernel
theorem dX9_write_245 : decode cX9_write 245 = .ok (.goto (-243), 3) := by decide +kernel
theorem dX9_write_248 : decode cX9_write 248 = .ok (.return_, 1) := by decide +kernel
theorem dX9_takeOut_0 : decode cX9_takeOut 0 = .ok (.aload_n 0, 1) := by decide +kernel
theorem dX9_takeOut_1 : decode cX9_takeOut 1 = .ok (.dup, 1) := by decide +kernel
theorem dX9_takeOut_2 : decode cX9_takeOut 2 = .ok (.getfield 134, 3) := by decide +kernel
theorem dX9_takeOut_5 : decode cX9_takeOut 5 = .ok (.iconst 1, 1) := by decide +kernel
theorem dX9_takeOut_6 : decode cX9_takeOut 6 = .ok (.isub, 1) := by decide +kernel
theorem dX9_takeOut_7 : decode cX9_takeOut 7 = .ok (.putfield 134, 3) := by decide +kernel
theorem dX9_takeOut_10 : decode cX9_takeOut 10 = .ok (.iload_n 1, 1) := by decide +kernel
theorem dX9_takeOut_11 : decode cX9_takeOut 11 = .ok (.istore_n 2, 1) := by decide +kernel
theorem dX9_takeOut_12 : decode cX9_takeOut 12 = .ok (.iload_n 2, 1) := by decide +kernel
theorem dX9_takeOut_13 : decode cX9_takeOut 13 = .ok (.aload_n 0, 1) := by decide +kernel
theorem dX9_takeOut_14 : decode cX9_takeOut 14 = .ok (.getfield 134, 3) := by decide +kernel
theorem dX9_takeOut_17 : decode cX9_takeOut 17 = .ok (.if_icmp .ge 17, 3) := by decide +kernel
theorem dX9_takeOut_20 : decode cX9_takeOut 20 = .ok (.aload_n 0, 1) := by decide +kernel
theorem dX9_takeOut_21 : decode cX9_takeOut 21 = .ok (.iload_n 2, 1) := by decide +kernel
theorem dX9_takeOut_22 : decode cX9_takeOut 22 = .ok (.iconst 1, 1) := by decide +kernel
theorem dX9_takeOut_23 : decode cX9_takeOut 23 = .ok (.iadd, 1) := by decide +kernel
theorem dX9_takeOut_24 : decode cX9_takeOut 24 = .ok (.iload_n 2, 1) := by decide +kernel
theorem dX9_takeOut_25 : decode cX9_takeOut 25 = .ok (.invokevirtual 173, 3) := by decide +kernel
theorem dX9_takeOut_28 : decode cX9_takeOut 28 = .ok (.iinc 2 1, 3) := by decide +kernel
theorem dX9_takeOut_31 : decode cX9_takeOut 31 = .ok (.goto (-19), 3) := by decide +kernel
theorem dX9_takeOut_34 : decode cX9_takeOut 34 = .ok (.return_, 1) := by decide +kernel
theorem dX9_mark_0 : decode cX9_mark 0 = .ok (.aload_n 0, 1) := by decide +kernel
theorem dX9_mark_1 : decode cX9_mark 1 = .ok (.getfield 78, 3) := by decide +kernel
theorem dX9_mark_4 : decode cX9_mark 4 = .ok (.iconst 2, 1) := by decide +kernel
theorem dX9_mark_5 : decode cX9_mark 5 = .ok (.iload_n 1, 1) := by decide +kernel
theorem dX9_mark_6 : decode cX9_mark 6 = .ok (.imul, 1) := by decide +kernel
theorem dX9_mark_7 : decode cX9_mark 7 = .ok (.aload_n 0, 1) := by decide +kernel
theorem dX9_mark_8 : decode cX9_mark 8 = .ok (.getfield 78, 3) := by decide +kernel
theorem dX9_mark_11 : decode cX9_mark 11 = .ok (.iconst 2, 1) := by decide +kernel
theorem dX9_mark_12 : decode cX9_mark 12 = .ok (.iload_n 1, 1) := by decide +kernel
theorem dX9_mark_13 : decode cX9_mark 13 = .ok (.imul, 1) := by decide +kernel
theorem dX9_mark_14 : decode cX9_mark 14 = .ok (.iconst 1, 1) := by decide +kernel
theorem dX9_mark_15 : decode cX9_mark 15 = .ok (.iadd, 1) := by decide +kernel
theorem dX9_mark_16 : decode cX9_mark 16 = .ok (.iaload, 1) := by decide +kernel
theorem dX9_mark_17 : decode cX9_mark 17 = .ok (.iastore, 1) := by decide +kernel
theorem dX9_mark_18 : decode cX9_mark 18 = .ok (.iconst 0, 1) := by decide +kernel
theorem dX9_mark_19 : decode cX9_mark 19 = .ok (.istore_n 2, 1) := by decide +kernel
theorem dX9_mark_20 : decode cX9_mark 20 = .ok (.iload_n 2, 1) := by decide +kernel
theorem dX9_mark_21 : decode cX9_mark 21 = .ok (.bipush 16, 2) := by decide +kernel
theorem dX9_mark_23 : decode cX9_mark 23 = .ok (.if_icmp .ge 22, 3) := by decide +kernel
theorem dX9_mark_26 : decode cX9_mark 26 = .ok (.aload_n 0, 1) := by decide +kernel
theorem dX9_mark_27 : decode cX9_mark 27 = .ok (.iconst 2, 1) := by decide +kernel
theorem dX9_mark_28 : decode cX9_mark 28 = .ok (.iload_n 1, 1) := by decide +kernel
theorem dX9_mark_29 : decode cX9_mark 29 = .ok (.imul, 1) := by decide +kernel
theorem dX9_mark_30 : decode cX9_mark 30 = .ok (.iconst 1, 1) := by decide +kernel
theorem dX9_mark_31 : decode cX9_mark 31 = .ok (.iadd, 1) := by decide +kernel
theorem dX9_mark_32 : decode cX9_mark 32 = .ok (.iconst 2, 1) := by decide +kernel
theorem dX9_mark_33 : decode cX9_mark 33 = .ok (.iload_n 1, 1) := by decide +kernel
theorem dX9_mark_34 : decode cX9_mark 34 = .ok (.imul, 1) := by decide +kernel
theorem dX9_mark_35 : decode cX9_mark 35 = .ok (.iload_n 2, 1) := by decide +kernel
theorem dX9_mark_36 : decode cX9_mark 36 = .ok (.invokevirtual 177, 3) := by decide +kernel
theorem dX9_mark_39 : decode cX9_mark 39 = .ok (.iinc 2 1, 3) := by decide +kernel
theorem dX9_mark_42 : decode cX9_mark 42 = .ok (.goto (-22), 3) := by decide +kernel
theorem dX9_mark_45 : decode cX9_mark 45 = .ok (.aload_n 0, 1) := by decide +kernel
theorem dX9_mark_46 : decode cX9_mark 46 = .ok (.getfield 78, 3) := by decide +kernel
theorem dX9_mark_49 : decode cX9_mark 49 = .ok (.iconst 2, 1) := by decide +kernel
theorem dX9_mark_50 : decode cX9_mark 50 = .ok (.iload_n 1, 1) := by decide +kernel
theorem dX9_mark_51 : decode cX9_mark 51 = .ok (.imul, 1) := by decide +kernel
theorem dX9_mark_52 : decode cX9_mark 52 = .ok (.iconst 1, 1) := by decide +kernel
theorem dX9_mark_53 : decode cX9_mark 53 = .ok (.iadd, 1) := by decide +kernel
theorem dX9_mark_54 : decode cX9_mark 54 = .ok (.aload_n 0, 1) := by decide +kernel
theorem dX9_mark_55 : decode cX9_mark 55 = .ok (.getfield 39, 3) := by decide +kernel
theorem dX9_mark_58 : decode cX9_mark 58 = .ok (.iload_n 1, 1) := by decide +kernel
theorem dX9_mark_59 : decode cX9_mark 59 = .ok (.iaload, 1) := by decide +kernel
theorem dX9_mark_60 : decode cX9_mark 60 = .ok (.iastore, 1) := by decide +kernel
theorem dX9_mark_61 : decode cX9_mark 61 = .ok (.iconst 0, 1) := by decide +kernel
theorem dX9_mark_62 : decode cX9_mark 62 = .ok (.istore_n 2, 1) := by decide +kernel
theorem dX9_mark_63 : decode cX9_mark 63 = .ok (.iload_n 2, 1) := by decide +kernel
theorem dX9_mark_64 : decode cX9_mark 64 = .ok (.aload_n 0, 1) := by decide +kernel
theorem dX9_mark_65 : decode cX9_mark 65 = .ok (.getfield 115, 3) := by decide +kernel
theorem dX9_mark_68 : decode cX9_mark 68 = .ok (.if_icmp .ge 56, 3) := by decide +kernel
theorem dX9_mark_71 : decode cX9_mark 71 = .ok (.bipush 16, 2) := by decide +kernel
theorem dX9_mark_73 : decode cX9_mark 73 = .ok (.iconst 2, 1) := by decide +kernel
theorem dX9_mark_74 : decode cX9_mark 74 = .ok (.iload_n 1, 1) := by decide +kernel
theorem dX9_mark_75 : decode cX9_mark 75 = .ok (.imul, 1) := by decide +kernel
theorem dX9_mark_76 : decode cX9_mark 76 = .ok (.iconst 1, 1) := by decide +kernel
theorem dX9_mark_77 : decode cX9_mark 77 = .ok (.iadd, 1) := by decide +kernel
theorem dX9_mark_78 : decode cX9_mark 78 = .ok (.imul, 1) := by decide +kernel
theorem dX9_mark_79 : decode cX9_mark 79 = .ok (.iload_n 2, 1) := by decide +kernel
theorem dX9_mark_80 : decode cX9_mark 80 = .ok (.iadd, 1) := by decide +kernel
theorem dX9_mark_81 : decode cX9_mark 81 = .ok (.istore_n 3, 1) := by decide +kernel
theorem dX9_mark_82 : decode cX9_mark 82 = .ok (.aload_n 0, 1) := by decide +kernel
theorem dX9_mark_83 : decode cX9_mark 83 = .ok (.getfield 81, 3) := by decide +kernel
theorem dX9_mark_86 : decode cX9_mark 86 = .ok (.iload_n 3, 1) := by decide +kernel
theorem dX9_mark_87 : decode cX9_mark 87 = .ok (.aload_n 0, 1) := by decide +kernel
theorem dX9_mark_88 : decode cX9_mark 88 = .ok (.getfield 17, 3) := by decide +kernel
theorem dX9_mark_91 : decode cX9_mark 91 = .ok (.iload_n 2, 1) := by decide +kernel
theorem dX9_mark_92 : decode cX9_mark 92 = .ok (.iaload, 1) := by decide +kernel
theorem dX9_mark_93 : decode cX9_mark 93 = .ok (.iastore, 1) := by decide +kernel
theorem dX9_mark_94 : decode cX9_mark 94 = .ok (.aload_n 0, 1) := by decide +kernel
theorem dX9_mark_95 : decode cX9_mark 95 = .ok (.getfield 84, 3) := by decide +kernel
theorem dX9_mark_98 : decode cX9_mark 98 = .ok (.iload_n 3, 1) := by decide +kernel
theorem dX9_mark_99 : decode cX9_mark 99 = .ok (.aload_n 0, 1) := by decide +kernel
theorem dX9_mark_100 : decode cX9_mark 100 = .ok (.getfield 20, 3) := by decide +kernel
theorem dX9_mark_103 : decode cX9_mark 103 = .ok (.iload_n 2, 1) := by decide +kernel
theorem dX9_mark_104 : decode cX9_mark 104 = .ok (.iaload, 1) := by decide +kernel
theorem dX9_mark_105 : decode cX9_mark 105 = .ok (.iastore, 1) := by decide +kernel
theorem dX9_mark_106 : decode cX9_mark 106 = .ok (.aload_n 0, 1) := by decide +kernel
theorem dX9_mark_107 : decode cX9_mark 107 = .ok (.getfield 87, 3) := by decide +kernel
theorem dX9_mark_110 : decode cX9_mark 110 = .ok (.iload_n 3, 1) := by decide +kernel
theorem dX9_mark_111 : decode cX9_mark 111 = .ok (.aload_n 0, 1) := by decide +kernel
theorem dX9_mark_112 : decode cX9_mark 112 = .ok (.getfield 23, 3) := by decide +kernel
theorem dX9_mark_115 : decode cX9_mark 115 = .ok (.iload_n 2, 1) := by decide +kernel
theorem dX9_mark_116 : decode cX9_mark 116 = .ok (.baload, 1) := by decide +kernel
theorem dX9_mark_117 : decode cX9_mark 117 = .ok (.bastore, 1) := by decide +kernel
theorem dX9_mark_118 : decode cX9_mark 118 = .ok (.iinc 2 1, 3) := by decide +kernel
theorem dX9_mark_121 : decode cX9_mark 121 = .ok (.goto (-58), 3) := by decide +kernel
theorem dX9_mark_124 : decode cX9_mark 124 = .ok (.return_, 1) := by decide +kernel
theorem dX9_layMark_0 : decode cX9_layMark 0 = .ok (.aload_n 0, 1) := by decide +kernel
theorem dX9_layMark_1 : decode cX9_layMark 1 = .ok (.getfield 81, 3) := by decide +kernel
theorem dX9_layMark_4 : decode cX9_layMark 4 = .ok (.bipush 16, 2) := by decide +kernel
theorem dX9_layMark_6 : decode cX9_layMark 6 = .ok (.iload_n 2, 1) := by decide +kernel
theorem dX9_layMark_7 : decode cX9_layMark 7 = .ok (.imul, 1) := by decide +kernel
theorem dX9_layMark_8 : decode cX9_layMark 8 = .ok (.iload_n 3, 1) := by decide +kernel
theorem dX9_layMark_9 : decode cX9_layMark 9 = .ok (.iadd, 1) := by decide +kernel
theorem dX9_layMark_10 : decode cX9_layMark 10 = .ok (.aload_n 0, 1) := by decide +kernel
theorem dX9_layMark_11 : decode cX9_layMark 11 = .ok (.getfield 81, 3) := by decide +kernel
theorem dX9_layMark_14 : decode cX9_layMark 14 = .ok (.bipush 16, 2) := by decide +kernel
theorem dX9_layMark_16 : decode cX9_layMark 16 = .ok (.iload_n 1, 1) := by decide +kernel
theorem dX9_layMark_17 : decode cX9_layMark 17 = .ok (.imul, 1) := by decide +kernel
theorem dX9_layMark_18 : decode cX9_layMark 18 = .ok (.iload_n 3, 1) := by decide +kernel
theorem dX9_layMark_19 : decode cX9_layMark 19 = .ok (.iadd, 1) := by decide +kernel
theorem dX9_layMark_20 : decode cX9_layMark 20 = .ok (.iaload, 1) := by decide +kernel
theorem dX9_layMark_21 : decode cX9_layMark 21 = .ok (.iastore, 1) := by decide +kernel
theorem dX9_layMark_22 : decode cX9_layMark 22 = .ok (.aload_n 0, 1) := by decide +kernel
theorem dX9_layMark_23 : decode cX9_layMark 23 = .ok (.getfield 84, 3) := by decide +kernel
theorem dX9_layMark_26 : decode cX9_layMark 26 = .ok (.bipush 16, 2) := by decide +kernel
theorem dX9_layMark_28 : decode cX9_layMark 28 = .ok (.iload_n 2, 1) := by decide +kernel
theorem dX9_layMark_29 : decode cX9_layMark 29 = .ok (.imul, 1) := by decide +kernel
theorem dX9_layMark_30 : decode cX9_layMark 30 = .ok (.iload_n 3, 1) := by decide +kernel
theorem dX9_layMark_31 : decode cX9_layMark 31 = .ok (.iadd, 1) := by decide +kernel
theorem dX9_layMark_32 : decode cX9_layMark 32 = .ok (.aload_n 0, 1) := by decide +kernel
theorem dX9_layMark_33 : decode cX9_layMark 33 = .ok (.getfield 84, 3) := by decide +kernel
theorem dX9_layMark_36 : decode cX9_layMark 36 = .ok (.bipush 16, 2) := by decide +kernel
theorem dX9_layMark_38 : decode cX9_layMark 38 = .ok (.iload_n 1, 1) := by decide +kernel
theorem dX9_layMark_39 : decode cX9_layMark 39 = .ok (.imul, 1) := by decide +kernel
theorem dX9_layMark_40 : decode cX9_layMark 40 = .ok (.iload_n 3, 1) := by decide +kernel
theorem dX9_layMark_41 : decode cX9_layMark 41 = .ok (.iadd, 1) := by decide +kernel
theorem dX9_layMark_42 : decode cX9_layMark 42 = .ok (.iaload, 1) := by decide +kernel
theorem dX9_layMark_43 : decode cX9_layMark 43 = .ok (.iastore, 1) := by decide +kernel
theorem dX9_layMark_44 : decode cX9_layMark 44 = .ok (.aload_n 0, 1) := by decide +kernel
theorem dX9_layMark_45 : decode cX9_layMark 45 = .ok (.getfield 87, 3) := by decide +kernel
theorem dX9_layMark_48 : decode cX9_layMark 48 = .ok (.bipush 16, 2) := by decide +kernel
theorem dX9_layMark_50 : decode cX9_layMark 50 = .ok (.iload_n 2, 1) := by decide +kernel
theorem dX9_layMark_51 : decode cX9_layMark 51 = .ok (.imul, 1) := by decide +kernel
theorem dX9_layMark_52 : decode cX9_layMark 52 = .ok (.iload_n 3, 1) := by decide +kernel
theorem dX9_layMark_53 : decode cX9_layMark 53 = .ok (.iadd, 1) := by decide +kernel
theorem dX9_layMark_54 : decode cX9_layMark 54 = .ok (.aload_n 0, 1) := by decide +kernel
theorem dX9_layMark_55 : decode cX9_layMark 55 = .ok (.getfield 87, 3) := by decide +kernel
theorem dX9_layMark_58 : decode cX9_layMark 58 = .ok (.bipush 16, 2) := by decide +kernel
theorem dX9_layMark_60 : decode cX9_layMark 60 = .ok (.iload_n 1, 1) := by decide +kernel
theorem dX9_layMark_61 : decode cX9_layMark 61 = .ok (.imul, 1) := by decide +kernel
theorem dX9_layMark_62 : decode cX9_layMark 62 = .ok (.iload_n 3, 1) := by decide +kernel
theorem dX9_layMark_63 : decode cX9_layMark 63 = .ok (.iadd, 1) := by decide +kernel
theorem dX9_layMark_64 : decode cX9_layMark 64 = .ok (.baload, 1) := by decide +kernel
theorem dX9_layMark_65 : decode cX9_layMark 65 = .ok (.bastore, 1) := by decide +kernel
theorem dX9_layMark_66 : decode cX9_layMark 66 = .ok (.return_, 1) := by decide +kernel
theorem dX9_come_0 : decode cX9_come 0 = .ok (.aload_n 0, 1) := by decide +kernel
theorem dX9_come_1 : decode cX9_come 1 = .ok (.getfield 39, 3) := by decide +kernel
theorem dX9_come_4 : decode cX9_come 4 = .ok (.iload_n 1, 1) := by decide +kernel
theorem dX9_come_5 : decode cX9_come 5 = .ok (.iload_n 2, 1) := by decide +kernel
theorem dX9_come_6 : decode cX9_come 6 = .ok (.iastore, 1) := by decide +kernel
theorem dX9_come_7 : decode cX9_come 7 = .ok (.iconst 0, 1) := by decide +kernel
theorem dX9_come_8 : decode cX9_come 8 = .ok (.istore_n 3, 1) := by decide +kernel
theorem dX9_come_9 : decode cX9_come 9 = .ok (.iload_n 3, 1) := by decide +kernel
theorem dX9_come_10 : decode cX9_come 10 = .ok (.iconst 5, 1) := by decide +kernel
theorem dX9_come_11 : decode cX9_come 11 = .ok (.if_icmp .ge 71, 3) := by decide +kernel
theorem dX9_come_14 : decode cX9_come 14 = .ok (.aload_n 0, 1) := by decide +kernel
theorem dX9_come_15 : decode cX9_come 15 = .ok (.aload_n 0, 1) := by decide +kernel
theorem dX9_come_16 : decode cX9_come 16 = .ok (.iload_n 1, 1) := by decide +kernel
theorem dX9_come_17 : decode cX9_come 17 = .ok (.iconst 1, 1) := by decide +kernel
theorem dX9_come_18 : decode cX9_come 18 = .ok (.iload_n 3, 1) := by decide +kernel
theorem dX9_come_19 : decode cX9_come 19 = .ok (.invokevirtual 181, 3) := by decide +kernel
theorem dX9_come_22 : decode cX9_come 22 = .ok (.aload_n 0, 1) := by decide +kernel
theorem dX9_come_23 : decode cX9_come 23 = .ok (.iload_n 1, 1) := by decide +kernel
theorem dX9_come_24 : decode cX9_come 24 = .ok (.iconst 0, 1) := by decide +kernel
theorem dX9_come_25 : decode cX9_come 25 = .ok (.iload_n 3, 1) := by decide +kernel
theorem dX9_come_26 : decode cX9_come 26 = .ok (.invokevirtual 181, 3) := by decide +kernel
theorem dX9_come_29 : decode cX9_come 29 = .ok (.invokevirtual 173, 3) := by decide +kernel
theorem dX9_come_32 : decode cX9_come 32 = .ok (.aload_n 0, 1) := by decide +kernel
theorem dX9_come_33 : decode cX9_come 33 = .ok (.getfield 48, 3) := by decide +kernel
theorem dX9_come_36 : decode cX9_come 36 = .ok (.aload_n 0, 1) := by decide +kernel
theorem dX9_come_37 : decode cX9_come 37 = .ok (.iload_n 1, 1) := by decide +kernel
theorem dX9_come_38 : decode cX9_come 38 = .ok (.iconst 1, 1) := by decide +kernel
theorem dX9_come_39 : decode cX9_come 39 = .ok (.iload_n 3, 1) := by decide +kernel
theorem dX9_come_40 : decode cX9_come 40 = .ok (.invokevirtual 181, 3) := by decide +kernel
theorem dX9_come_43 : decode cX9_come 43 = .ok (.iconst 0, 1) := by decide +kernel
theorem dX9_come_44 : decode cX9_come 44 = .ok (.bastore, 1) := by decide +kernel
theorem dX9_come_45 : decode cX9_come 45 = .ok (.aload_n 0, 1) := by decide +kernel
theorem dX9_come_46 : decode cX9_come 46 = .ok (.aload_n 0, 1) := by decide +kernel
theorem dX9_come_47 : decode cX9_come 47 = .ok (.iload_n 1, 1) := by decide +kernel
theorem dX9_come_48 : decode cX9_come 48 = .ok (.iconst 1, 1) := by decide +kernel
theorem dX9_come_49 : decode cX9_come 49 = .ok (.iload_n 3, 1) := by decide +kernel
theorem dX9_come_50 : decode cX9_come 50 = .ok (.invokevirtual 158, 3) := by decide +kernel
theorem dX9_come_53 : decode cX9_come 53 = .ok (.aload_n 0, 1) := by decide +kernel
theorem dX9_come_54 : decode cX9_come 54 = .ok (.iload_n 1, 1) := by decide +kernel
theorem dX9_come_55 : decode cX9_come 55 = .ok (.iconst 0, 1) := by decide +kernel
theorem dX9_come_56 : decode cX9_come 56 = .ok (.iload_n 3, 1) := by decide +kernel
theorem dX9_come_57 : decode cX9_come 57 = .ok (.invokevirtual 158, 3) := by decide +kernel
theorem dX9_come_60 : decode cX9_come 60 = .ok (.invokevirtual 173, 3) := by decide +kernel
theorem dX9_come_63 : decode cX9_come 63 = .ok (.aload_n 0, 1) := by decide +kernel
theorem dX9_come_64 : decode cX9_come 64 = .ok (.getfield 48, 3) := by decide +kernel
theorem dX9_come_67 : decode cX9_come 67 = .ok (.aload_n 0, 1) := by decide +kernel
theorem dX9_come_68 : decode cX9_come 68 = .ok (.iload_n 1, 1) := by decide +kernel
theorem dX9_come_69 : decode cX9_come 69 = .ok (.iconst 1, 1) := by decide +kernel
theorem dX9_come_70 : decode cX9_come 70 = .ok (.iload_n 3, 1) := by decide +kernel
theorem dX9_come_71 : decode cX9_come 71 = .ok (.invokevirtual 158, 3) := by decide +kernel
theorem dX9_come_74 : decode cX9_come 74 = .ok (.iconst 0, 1) := by decide +kernel
theorem dX9_come_75 : decode cX9_come 75 = .ok (.bastore, 1) := by decide +kernel
theorem dX9_come_76 : decode cX9_come 76 = .ok (.iinc 3 1, 3) := by decide +kernel
theorem dX9_come_79 : decode cX9_come 79 = .ok (.goto (-70), 3) := by decide +kernel
theorem dX9_come_82 : decode cX9_come 82 = .ok (.iload_n 2, 1) := by decide +kernel
theorem dX9_come_83 : decode cX9_come 83 = .ok (.sipush 200, 3) := by decide +kernel
theorem dX9_come_86 : decode cX9_come 86 = .ok (.if_icmp .ne 11, 3) := by decide +kernel
theorem dX9_come_89 : decode cX9_come 89 = .ok (.aload_n 0, 1) := by decide +kernel
theorem dX9_come_90 : decode cX9_come 90 = .ok (.getfield 42, 3) := by decide +kernel
theorem dX9_come_93 : decode cX9_come 93 = .ok (.iload_n 1, 1) := by decide +kernel
theorem dX9_come_94 : decode cX9_come 94 = .ok (.iconst 1, 1) := by decide +kernel
theorem dX9_come_95 : decode cX9_come 95 = .ok (.bastore, 1) := by decide +kernel
theorem dX9_come_96 : decode cX9_come 96 = .ok (.return_, 1) := by decide +kernel
theorem dX9_come_97 : decode cX9_come 97 = .ok (.aload_n 0, 1) := by decide +kernel
theorem dX9_come_98 : decode cX9_come 98 = .ok (.getfield 128, 3) := by decide +kernel
theorem dX9_come_101 : decode cX9_come 101 = .ok (.ifCond .ne 10, 3) := by decide +kernel
theorem dX9_come_104 : decode cX9_come 104 = .ok (.iload_n 2, 1) := by decide +kernel
theorem dX9_come_105 : decode cX9_come 105 = .ok (.ifCond .ne 20, 3) := by decide +kernel
theorem dX9_come_108 : decode cX9_come 108 = .ok (.goto 12, 3) := by decide +kernel
theorem dX9_come_111 : decode cX9_come 111 = .ok (.iload_n 2, 1) := by decide +kernel
theorem dX9_come_112 : decode cX9_come 112 = .ok (.aload_n 0, 1) := by decide +kernel
theorem dX9_come_113 : decode cX9_come 113 = .ok (.getfield 128, 3) := by decide +kernel
theorem dX9_come_116 : decode cX9_come 116 = .ok (.irem, 1) := by decide +kernel
theorem dX9_come_117 : decode cX9_come 117 = .ok (.ifCond .ne 8, 3) := by decide +kernel
theorem dX9_come_120 : decode cX9_come 120 = .ok (.aload_n 0, 1) := by decide +kernel
theorem dX9_come_121 : decode cX9_come 121 = .ok (.iload_n 1, 1) := by decide +kernel
theorem dX9_come_122 : decode cX9_come 122 = .ok (.invokevirtual 184, 3) := by decide +kernel
theorem dX9_come_125 : decode cX9_come 125 = .ok (.aload_n 0, 1) := by decide +kernel
theorem dX9_come_126 : decode cX9_come 126 = .ok (.iload_n 1, 1) := by decide +kernel
theorem dX9_come_127 : decode cX9_come 127 = .ok (.invokevirtual 187, 3) := by decide +kernel
theorem dX9_come_130 : decode cX9_come 130 = .ok (.return_, 1) := by decide +kernel
theorem dX9_begin_0 : decode cX9_begin 0 = .ok (.iconst 0, 1) := by decide +kernel
theorem dX9_begin_1 : decode cX9_begin 1 = .ok (.istore_n 1, 1) := by decide +kernel
theorem dX9_begin_2 : decode cX9_begin 2 = .ok (.iload_n 1, 1) := by decide +kernel
theorem dX9_begin_3 : decode cX9_begin 3 = .ok (.bipush 16, 2) := by decide +kernel
theorem dX9_begin_5 : decode cX9_begin 5 = .ok (.if_icmp .ge 16, 3) := by decide +kernel
theorem dX9_begin_8 : decode cX9_begin 8 = .ok (.aload_n 0, 1) := by decide +kernel
theorem dX9_begin_9 : decode cX9_begin 9 = .ok (.getfield 93, 3) := by decide +kernel
theorem dX9_begin_12 : decode cX9_begin 12 = .ok (.iload_n 1, 1) := by decide +kernel
theorem dX9_begin_13 : decode cX9_begin 13 = .ok (.iconst 0, 1) := by decide +kernel
theorem dX9_begin_14 : decode cX9_begin 14 = .ok (.bastore, 1) := by decide +kernel
theorem dX9_begin_15 : decode cX9_begin 15 = .ok (.iinc 1 1, 3) := by decide +kernel
theorem dX9_begin_18 : decode cX9_begin 18 = .ok (.goto (-16), 3) := by decide +kernel
theorem dX9_begin_21 : decode cX9_begin 21 = .ok (.return_, 1) := by decide +kernel
theorem dX9_hear_0 : decode cX9_hear 0 = .ok (.aload_n 0, 1) := by decide +kernel
theorem dX9_hear_1 : decode cX9_hear 1 = .ok (.getfield 93, 3) := by decide +kernel
theorem dX9_hear_4 : decode cX9_hear 4 = .ok (.iload_n 1, 1) := by decide +kernel
theorem dX9_hear_5 : decode cX9_hear 5 = .ok (.baload, 1) := by decide +kernel
theorem dX9_hear_6 : decode cX9_hear 6 = .ok (.ifCond .ne 20, 3) := by decide +kernel
theorem dX9_hear_9 : decode cX9_hear 9 = .ok (.aload_n 0, 1) := by decide +kernel
theorem dX9_hear_10 : decode cX9_hear 10 = .ok (.getfield 96, 3) := by decide +kernel
theorem dX9_hear_13 : decode cX9_hear 13 = .ok (.iload_n 1, 1) := by decide +kernel
theorem dX9_hear_14 : decode cX9_hear 14 = .ok (.iload_n 2, 1) := by decide +kernel
theorem dX9_hear_15 : decode cX9_hear 15 = .ok (.iastore, 1) := by decide +kernel
theorem dX9_hear_16 : decode cX9_hear 16 = .ok (.aload_n 0, 1) := by decide +kernel
theorem dX9_hear_17 : decode cX9_hear 17 = .ok (.getfield 99, 3) := by decide +kernel
theorem dX9_hear_20 : decode cX9_hear 20 = .ok (.iload_n 1, 1) := by decide +kernel
theorem dX9_hear_21 : decode cX9_hear 21 = .ok (.iload_n 3, 1) := by decide +kernel
theorem dX9_hear_22 : decode cX9_hear 22 = .ok (.iastore, 1) := by decide +kernel
theorem dX9_hear_23 : decode cX9_hear 23 = .ok (.goto 55, 3) := by decide +kernel
theorem dX9_hear_26 : decode cX9_hear 26 = .ok (.aload_n 0, 1) := by decide +kernel
theorem dX9_hear_27 : decode cX9_hear 27 = .ok (.getfield 121, 3) := by decide +kernel
theorem dX9_hear_30 : decode cX9_hear 30 = .ok (.iconst 3, 1) := by decide +kernel
theorem dX9_hear_31 : decode cX9_hear 31 = .ok (.if_icmp .ge 23, 3) := by decide +kernel
theorem dX9_hear_34 : decode cX9_hear 34 = .ok (.aload_n 0, 1) := by decide +kernel
theorem dX9_hear_35 : decode cX9_hear 35 = .ok (.getfield 96, 3) := by decide +kernel
theorem dX9_hear_38 : decode cX9_hear 38 = .ok (.iload_n 1, 1) := by decide +kernel
theorem dX9_hear_39 : decode cX9_hear 39 = .ok (.aload_n 0, 1) := by decide +kernel
theorem dX9_hear_40 : decode cX9_hear 40 = .ok (.aload_n 0, 1) := by decide +kernel
theorem dX9_hear_41 : decode cX9_hear 41 = .ok (.getfield 96, 3) := by decide +kernel
theorem dX9_hear_44 : decode cX9_hear 44 = .ok (.iload_n 1, 1) := by decide +kernel
theorem dX9_hear_45 : decode cX9_hear 45 = .ok (.iaload, 1) := by decide +kernel
theorem dX9_hear_46 : decode cX9_hear 46 = .ok (.iload_n 2, 1) := by decide +kernel
theorem dX9_hear_47 : decode cX9_hear 47 = .ok (.invokevirtual 154, 3) := by decide +kernel
theorem dX9_hear_50 : decode cX9_hear 50 = .ok (.iastore, 1) := by decide +kernel
theorem dX9_hear_51 : decode cX9_hear 51 = .ok (.goto 27, 3) := by decide +kernel
theorem dX9_hear_54 : decode cX9_hear 54 = .ok (.iload_n 3, 1) := by decide +kernel
theorem dX9_hear_55 : decode cX9_hear 55 = .ok (.aload_n 0, 1) := by decide +kernel
theorem dX9_hear_56 : decode cX9_hear 56 = .ok (.getfield 99, 3) := by decide +kernel
theorem dX9_hear_59 : decode cX9_hear 59 = .ok (.iload_n 1, 1) := by decide +kernel
theorem dX9_hear_60 : decode cX9_hear 60 = .ok (.iaload, 1) := by decide +kernel
theorem dX9_hear_61 : decode cX9_hear 61 = .ok (.if_icmp .le 17, 3) := by decide +kernel
theorem dX9_hear_64 : decode cX9_hear 64 = .ok (.aload_n 0, 1) := by decide +kernel
theorem dX9_hear_65 : decode cX9_hear 65 = .ok (.getfield 96, 3) := by decide +kernel
theorem dX9_hear_68 : decode cX9_hear 68 = .ok (.iload_n 1, 1) := by decide +kernel
theorem dX9_hear_69 : decode cX9_hear 69 = .ok (.iload_n 2, 1) := by decide +kernel
theorem dX9_hear_70 : decode cX9_hear 70 = .ok (.iastore, 1) := by decide +kernel
theorem dX9_hear_71 : decode cX9_hear 71 = .ok (.aload_n 0, 1) := by decide +kernel
theorem dX9_hear_72 : decode cX9_hear 72 = .ok (.getfield 99, 3) := by decide +kernel
theorem dX9_hear_75 : decode cX9_hear 75 = .ok (.iload_n 1, 1) := by decide +kernel
theorem dX9_hear_76 : decode cX9_hear 76 = .ok (.iload_n 3, 1) := by decide +kernel
theorem dX9_hear_77 : decode cX9_hear 77 = .ok (.iastore, 1) := by decide +kernel
theorem dX9_hear_78 : decode cX9_hear 78 = .ok (.aload_n 0, 1) := by decide +kernel
theorem dX9_hear_79 : decode cX9_hear 79 = .ok (.getfield 93, 3) := by decide +kernel
theorem dX9_hear_82 : decode cX9_hear 82 = .ok (.iload_n 1, 1) := by decide +kernel
theorem dX9_hear_83 : decode cX9_hear 83 = .ok (.iconst 1, 1) := by decide +kernel
theorem dX9_hear_84 : decode cX9_hear 84 = .ok (.bastore, 1) := by decide +kernel
theorem dX9_hear_85 : decode cX9_hear 85 = .ok (.return_, 1) := by decide +kernel
theorem dX9_behind_0 : decode cX9_behind 0 = .ok (.aload_n 0, 1) := by decide +kernel
theorem dX9_behind_1 : decode cX9_behind 1 = .ok (.getfield 121, 3) := by decide +kernel
theorem dX9_behind_4 : decode cX9_behind 4 = .ok (.iconst 2, 1) := by decide +kernel
theorem dX9_behind_5 : decode cX9_behind 5 = .ok (.if_icmp .ne 23, 3) := by decide +kernel
theorem dX9_behind_8 : decode cX9_behind 8 = .ok (.aload_n 0, 1) := by decide +kernel
theorem dX9_behind_9 : decode cX9_behind 9 = .ok (.getfield 93, 3) := by decide +kernel
theorem dX9_behind_12 : decode cX9_behind 12 = .ok (.iload_n 1, 1) := by decide +kernel
theorem dX9_behind_13 : decode cX9_behind 13 = .ok (.baload, 1) := by decide +kernel
theorem dX9_behind_14 : decode cX9_behind 14 = .ok (.ifCond .eq 12, 3) := by decide +kernel
theorem dX9_behind_17 : decode cX9_behind 17 = .ok (.aload_n 0, 1) := by decide +kernel
theorem dX9_behind_18 : decode cX9_behind 18 = .ok (.getfield 96, 3) := by decide +kernel
theorem dX9_behind_21 : decode cX9_behind 21 = .ok (.iload_n 1, 1) := by decide +kernel
theorem dX9_behind_22 : decode cX9_behind 22 = .ok (.iaload, 1) := by decide +kernel
theorem dX9_behind_23 : decode cX9_behind 23 = .ok (.goto 4, 3) := by decide +kernel
theorem dX9_behind_26 : decode cX9_behind 26 = .ok (.iconst 0, 1) := by decide +kernel
theorem dX9_behind_27 : decode cX9_behind 27 = .ok (.ireturn, 1) := by decide +kernel
theorem dX9_behind_28 : decode cX9_behind 28 = .ok (.aload_n 0, 1) := by decide +kernel
theorem dX9_behind_29 : decode cX9_behind 29 = .ok (.getfield 93, 3) := by decide +kernel
theorem dX9_behind_32 : decode cX9_behind 32 = .ok (.iload_n 1, 1) := by decide +kernel
theorem dX9_behind_33 : decode cX9_behind 33 = .ok (.baload, 1) := by decide +kernel
theorem dX9_behind_34 : decode cX9_behind 34 = .ok (.ifCond .ne 7, 3) := by decide +kernel
theorem dX9_behind_37 : decode cX9_behind 37 = .ok (.iload_n 2, 1) := by decide +kernel
theorem dX9_behind_38 : decode cX9_behind 38 = .ok (.goto 31, 3) := by decide +kernel
theorem dX9_behind_41 : decode cX9_behind 41 = .ok (.aload_n 0, 1) := by decide +kernel
theorem dX9_behind_42 : decode cX9_behind 42 = .ok (.getfield 121, 3) := by decide +kernel
theorem dX9_behind_45 : decode cX9_behind 45 = .ok (.iconst 3, 1) := by decide +kernel
theorem dX9_behind_46 : decode cX9_behind 46 = .ok (.if_icmp .ne 12, 3) := by decide +kernel
theorem dX9_behind_49 : decode cX9_behind 49 = .ok (.aload_n 0, 1) := by decide +kernel
theorem dX9_behind_50 : decode cX9_behind 50 = .ok (.getfield 96, 3) := by decide +kernel
theorem dX9_behind_53 : decode cX9_behind 53 = .ok (.iload_n 1, 1) := by decide +kernel
theorem dX9_behind_54 : decode cX9_behind 54 = .ok (.iaload, 1) := by decide +kernel
theorem dX9_behind_55 : decode cX9_behind 55 = .ok (.goto 14, 3) := by decide +kernel
theorem dX9_behind_58 : decode cX9_behind 58 = .ok (.aload_n 0, 1) := by decide +kernel
theorem dX9_behind_59 : decode cX9_behind 59 = .ok (.iload_n 2, 1) := by decide +kernel
theorem dX9_behind_60 : decode cX9_behind 60 = .ok (.aload_n 0, 1) := by decide +kernel
theorem dX9_behind_61 : decode cX9_behind 61 = .ok (.getfield 96, 3) := by decide +kernel
theorem dX9_behind_64 : decode cX9_behind 64 = .ok (.iload_n 1, 1) := by decide +kernel
theorem dX9_behind_65 : decode cX9_behind 65 = .ok (.iaload, 1) := by decide +kernel
theorem dX9_behind_66 : decode cX9_behind 66 = .ok (.invokevirtual 154, 3) := by decide +kernel
theorem dX9_behind_69 : decode cX9_behind 69 = .ok (.ireturn, 1) := by decide +kernel
theorem dX9_take_0 : decode cX9_take 0 = .ok (.aload_n 0, 1) := by decide +kernel
theorem dX9_take_1 : decode cX9_take 1 = .ok (.invokevirtual 190, 3) := by decide +kernel
theorem dX9_take_4 : decode cX9_take 4 = .ok (.iconst 0, 1) := by decide +kernel
theorem dX9_take_5 : decode cX9_take 5 = .ok (.istore_n 2, 1) := by decide +kernel
theorem dX9_take_6 : decode cX9_take 6 = .ok (.iload_n 2, 1) := by decide +kernel
theorem dX9_take_7 : decode cX9_take 7 = .ok (.aload_n 0, 1) := by decide +kernel
theorem dX9_take_8 : decode cX9_take 8 = .ok (.getfield 118, 3) := by decide +kernel
theorem dX9_take_11 : decode cX9_take 11 = .ok (.if_icmp .ge 85, 3) := by decide +kernel
theorem dX9_take_14 : decode cX9_take 14 = .ok (.aload_n 0, 1) := by decide +kernel
theorem dX9_take_15 : decode cX9_take 15 = .ok (.getfield 27, 3) := by decide +kernel
theorem dX9_take_18 : decode cX9_take 18 = .ok (.aload_n 0, 1) := by decide +kernel
theorem dX9_take_19 : decode cX9_take 19 = .ok (.getfield 30, 3) := by decide +kernel
theorem dX9_take_22 : decode cX9_take 22 = .ok (.iload_n 2, 1) := by decide +kernel
theorem dX9_take_23 : decode cX9_take 23 = .ok (.iaload, 1) := by decide +kernel
theorem dX9_take_24 : decode cX9_take 24 = .ok (.iaload, 1) := by decide +kernel
theorem dX9_take_25 : decode cX9_take 25 = .ok (.iload_n 1, 1) := by decide +kernel
theorem dX9_take_26 : decode cX9_take 26 = .ok (.if_icmp .ne 64, 3) := by decide +kernel
theorem dX9_take_29 : decode cX9_take 29 = .ok (.aload_n 0, 1) := by decide +kernel
theorem dX9_take_30 : decode cX9_take 30 = .ok (.getfield 27, 3) := by decide +kernel
theorem dX9_take_33 : decode cX9_take 33 = .ok (.aload_n 0, 1) := by decide +kernel
theorem dX9_take_34 : decode cX9_take 34 = .ok (.getfield 33, 3) := by decide +kernel
theorem dX9_take_37 : decode cX9_take 37 = .ok (.iload_n 2, 1) := by decide +kernel
theorem dX9_take_38 : decode cX9_take 38 = .ok (.iaload, 1) := by decide +kernel
theorem dX9_take_39 : decode cX9_take 39 = .ok (.iaload, 1) := by decide +kernel
theorem dX9_take_40 : decode cX9_take 40 = .ok (.iload_n 1, 1) := by decide +kernel
theorem dX9_take_41 : decode cX9_take 41 = .ok (.if_icmp .ne 49, 3) := by decide +kernel
theorem dX9_take_44 : decode cX9_take 44 = .ok (.aload_n 0, 1) := by decide +kernel
theorem dX9_take_45 : decode cX9_take 45 = .ok (.getfield 23, 3) := by decide +kernel
theorem dX9_take_48 : decode cX9_take 48 = .ok (.aload_n 0, 1) := by decide +kernel
theorem dX9_take_49 : decode cX9_take 49 = .ok (.getfield 30, 3) := by decide +kernel
theorem dX9_take_52 : decode cX9_take 52 = .ok (.iload_n 2, 1) := by decide +kernel
theorem dX9_take_53 : decode cX9_take 53 = .ok (.iaload, 1) := by decide +kernel
theorem dX9_take_54 : decode cX9_take 54 = .ok (.baload, 1) := by decide +kernel
theorem dX9_take_55 : decode cX9_take 55 = .ok (.ifCond .eq 35, 3) := by decide +kernel
theorem dX9_take_58 : decode cX9_take 58 = .ok (.aload_n 0, 1) := by decide +kernel
theorem dX9_take_59 : decode cX9_take 59 = .ok (.aload_n 0, 1) := by decide +kernel
theorem dX9_take_60 : decode cX9_take 60 = .ok (.getfield 33, 3) := by decide +kernel
theorem dX9_take_63 : decode cX9_take 63 = .ok (.iload_n 2, 1) := by decide +kernel
theorem dX9_take_64 : decode cX9_take 64 = .ok (.iaload, 1) := by decide +kernel
theorem dX9_take_65 : decode cX9_take 65 = .ok (.aload_n 0, 1) := by decide +kernel
theorem dX9_take_66 : decode cX9_take 66 = .ok (.aload_n 0, 1) := by decide +kernel
theorem dX9_take_67 : decode cX9_take 67 = .ok (.getfield 17, 3) := by decide +kernel
theorem dX9_take_70 : decode cX9_take 70 = .ok (.aload_n 0, 1) := by decide +kernel
theorem dX9_take_71 : decode cX9_take 71 = .ok (.getfield 30, 3) := by decide +kernel
theorem dX9_take_74 : decode cX9_take 74 = .ok (.iload_n 2, 1) := by decide +kernel
theorem dX9_take_75 : decode cX9_take 75 = .ok (.iaload, 1) := by decide +kernel
theorem dX9_take_76 : decode cX9_take 76 = .ok (.iaload, 1) := by decide +kernel
theorem dX9_take_77 : decode cX9_take 77 = .ok (.aload_n 0, 1) := by decide +kernel
theorem dX9_take_78 : decode cX9_take 78 = .ok (.getfield 36, 3) := by decide +kernel
theorem dX9_take_81 : decode cX9_take 81 = .ok (.iload_n 2, 1) := by decide +kernel
theorem dX9_take_82 : decode cX9_take 82 = .ok (.iaload, 1) := by decide +kernel
theorem dX9_take_83 : decode cX9_take 83 = .ok (.invokevirtual 166, 3) := by decide +kernel
theorem dX9_take_86 : decode cX9_take 86 = .ok (.iload_n 2, 1) := by decide +kernel
theorem dX9_take_87 : decode cX9_take 87 = .ok (.invokevirtual 193, 3) := by decide +kernel
theorem dX9_take_90 : decode cX9_take 90 = .ok (.iinc 2 1, 3) := by decide +kernel
theorem dX9_take_93 : decode cX9_take 93 = .ok (.goto (-87), 3) := by decide +kernel
theorem dX9_take_96 : decode cX9_take 96 = .ok (.iconst 0, 1) := by decide +kernel
theorem dX9_take_97 : decode cX9_take 97 = .ok (.istore_n 2, 1) := by decide +kernel
theorem dX9_take_98 : decode cX9_take 98 = .ok (.iload_n 2, 1) := by decide +kernel
theorem dX9_take_99 : decode cX9_take 99 = .ok (.aload_n 0, 1) := by decide +kernel
theorem dX9_take_100 : decode cX9_take 100 = .ok (.getfield 7, 3) := by decide +kernel
theorem dX9_take_103 : decode cX9_take 103 = .ok (.if_icmp .ge 76, 3) := by decide +kernel
theorem dX9_take_106 : decode cX9_take 106 = .ok (.aload_n 0, 1) := by decide +kernel
theorem dX9_take_107 : decode cX9_take 107 = .ok (.iload_n 1, 1) := by decide +kernel
theorem dX9_take_108 : decode cX9_take 108 = .ok (.iconst 0, 1) := by decide +kernel
theorem dX9_take_109 : decode cX9_take 109 = .ok (.iload_n 2, 1) := by decide +kernel
theorem dX9_take_110 : decode cX9_take 110 = .ok (.invokevirtual 181, 3) := by decide +kernel
theorem dX9_take_113 : decode cX9_take 113 = .ok (.istore_n 3, 1) := by decide +kernel
theorem dX9_take_114 : decode cX9_take 114 = .ok (.iconst 0, 1) := by decide +kernel
theorem dX9_take_115 : decode cX9_take 115 = .ok (.istore 4, 2) := by decide +kernel
theorem dX9_take_117 : decode cX9_take 117 = .ok (.iload_n 2, 1) := by decide +kernel
theorem dX9_take_118 : decode cX9_take 118 = .ok (.iload_n 1, 1) := by decide +kernel
theorem dX9_take_119 : decode cX9_take 119 = .ok (.if_icmp .eq 54, 3) := by decide +kernel
theorem dX9_take_122 : decode cX9_take 122 = .ok (.iload 4, 2) := by decide +kernel
theorem dX9_take_124 : decode cX9_take 124 = .ok (.aload_n 0, 1) := by decide +kernel
theorem dX9_take_125 : decode cX9_take 125 = .ok (.getfield 66, 3) := by decide +kernel
theorem dX9_take_128 : decode cX9_take 128 = .ok (.iload_n 3, 1) := by decide +kernel
theorem dX9_take_129 : decode cX9_take 129 = .ok (.iaload, 1) := by decide +kernel
theorem dX9_take_130 : decode cX9_take 130 = .ok (.if_icmp .ge 43, 3) := by decide +kernel
theorem dX9_take_133 : decode cX9_take 133 = .ok (.bipush 40, 2) := by decide +kernel
theorem dX9_take_135 : decode cX9_take 135 = .ok (.iload_n 3, 1) := by decide +kernel
theorem dX9_take_136 : decode cX9_take 136 = .ok (.imul, 1) := by decide +kernel
theorem dX9_take_137 : decode cX9_take 137 = .ok (.iload 4, 2) := by decide +kernel
theorem dX9_take_139 : decode cX9_take 139 = .ok (.iadd, 1) := by decide +kernel
theorem dX9_take_140 : decode cX9_take 140 = .ok (.istore 5, 2) := by decide +kernel
theorem dX9_take_142 : decode cX9_take 142 = .ok (.aload_n 0, 1) := by decide +kernel
theorem dX9_take_143 : decode cX9_take 143 = .ok (.aload_n 0, 1) := by decide +kernel
theorem dX9_take_144 : decode cX9_take 144 = .ok (.getfield 69, 3) := by decide +kernel
theorem dX9_take_147 : decode cX9_take 147 = .ok (.iload 5, 2) := by decide +kernel
theorem dX9_take_149 : decode cX9_take 149 = .ok (.iaload, 1) := by decide +kernel
theorem dX9_take_150 : decode cX9_take 150 = .ok (.aload_n 0, 1) := by decide +kernel
theorem dX9_take_151 : decode cX9_take 151 = .ok (.getfield 72, 3) := by decide +kernel
theorem dX9_take_154 : decode cX9_take 154 = .ok (.iload 5, 2) := by decide +kernel
theorem dX9_take_156 : decode cX9_take 156 = .ok (.iaload, 1) := by decide +kernel
theorem dX9_take_157 : decode cX9_take 157 = .ok (.aload_n 0, 1) := by decide +kernel
theorem dX9_take_158 : decode cX9_take 158 = .ok (.getfield 75, 3) := by decide +kernel
theorem dX9_take_161 : decode cX9_take 161 = .ok (.iload 5, 2) := by decide +kernel
theorem dX9_take_163 : decode cX9_take 163 = .ok (.iaload, 1) := by decide +kernel
theorem dX9_take_164 : decode cX9_take 164 = .ok (.invokevirtual 193, 3) := by decide +kernel
theorem dX9_take_167 : decode cX9_take 167 = .ok (.iinc 4 1, 3) := by decide +kernel
theorem dX9_take_170 : decode cX9_take 170 = .ok (.goto (-53), 3) := by decide +kernel
theorem dX9_take_173 : decode cX9_take 173 = .ok (.iinc 2 1, 3) := by decide +kernel
theorem dX9_take_176 : decode cX9_take 176 = .ok (.goto (-78), 3) := by decide +kernel
theorem dX9_take_179 : decode cX9_take 179 = .ok (.iconst 0, 1) := by decide +kernel
theorem dX9_take_180 : decode cX9_take 180 = .ok (.istore_n 2, 1) := by decide +kernel
theorem dX9_take_181 : decode cX9_take 181 = .ok (.iload_n 2, 1) := by decide +kernel
theorem dX9_take_182 : decode cX9_take 182 = .ok (.aload_n 0, 1) := by decide +kernel
theorem dX9_take_183 : decode cX9_take 183 = .ok (.getfield 115, 3) := by decide +kernel
theorem dX9_take_186 : decode cX9_take 186 = .ok (.if_icmp .ge 101, 3) := by decide +kernel
theorem dX9_take_189 : decode cX9_take 189 = .ok (.aload_n 0, 1) := by decide +kernel
theorem dX9_take_190 : decode cX9_take 190 = .ok (.getfield 27, 3) := by decide +kernel
theorem dX9_take_193 : decode cX9_take 193 = .ok (.iload_n 2, 1) := by decide +kernel
theorem dX9_take_194 : decode cX9_take 194 = .ok (.iaload, 1) := by decide +kernel
theorem dX9_take_195 : decode cX9_take 195 = .ok (.iload_n 1, 1) := by decide +kernel
theorem dX9_take_196 : decode cX9_take 196 = .ok (.if_icmp .ne 85, 3) := by decide +kernel
theorem dX9_take_199 : decode cX9_take 199 = .ok (.aload_n 0, 1) := by decide +kernel
theorem dX9_take_200 : decode cX9_take 200 = .ok (.iload_n 2, 1) := by decide +kernel
theorem dX9_take_201 : decode cX9_take 201 = .ok (.aload_n 0, 1) := by decide +kernel
theorem dX9_take_202 : decode cX9_take 202 = .ok (.getfield 17, 3) := by decide +kernel
theorem dX9_take_205 : decode cX9_take 205 = .ok (.iload_n 2, 1) := by decide +kernel
theorem dX9_take_206 : decode cX9_take 206 = .ok (.iaload, 1) := by decide +kernel
theorem dX9_take_207 : decode cX9_take 207 = .ok (.invokevirtual 196, 3) := by decide +kernel
theorem dX9_take_210 : decode cX9_take 210 = .ok (.istore_n 3, 1) := by decide +kernel
theorem dX9_take_211 : decode cX9_take 211 = .ok (.aload_n 0, 1) := by decide +kernel
theorem dX9_take_212 : decode cX9_take 212 = .ok (.getfield 23, 3) := by decide +kernel
theorem dX9_take_215 : decode cX9_take 215 = .ok (.iload_n 2, 1) := by decide +kernel
theorem dX9_take_216 : decode cX9_take 216 = .ok (.aload_n 0, 1) := by decide +kernel
theorem dX9_take_217 : decode cX9_take 217 = .ok (.getfield 121, 3) := by decide +kernel
theorem dX9_take_220 : decode cX9_take 220 = .ok (.iconst 2, 1) := by decide +kernel
theorem dX9_take_221 : decode cX9_take 221 = .ok (.if_icmp .ne 15, 3) := by decide +kernel
theorem dX9_take_224 : decode cX9_take 224 = .ok (.iload_n 3, 1) := by decide +kernel
theorem dX9_take_225 : decode cX9_take 225 = .ok (.ifCond .eq 7, 3) := by decide +kernel
theorem dX9_take_228 : decode cX9_take 228 = .ok (.iconst 1, 1) := by decide +kernel
theorem dX9_take_229 : decode cX9_take 229 = .ok (.goto 22, 3) := by decide +kernel
theorem dX9_take_232 : decode cX9_take 232 = .ok (.iconst 0, 1) := by decide +kernel
theorem dX9_take_233 : decode cX9_take 233 = .ok (.goto 18, 3) := by decide +kernel
theorem dX9_take_236 : decode cX9_take 236 = .ok (.iload_n 3, 1) := by decide +kernel
theorem dX9_take_237 : decode cX9_take 237 = .ok (.aload_n 0, 1) := by decide +kernel
theorem dX9_take_238 : decode cX9_take 238 = .ok (.getfield 17, 3) := by decide +kernel
theorem dX9_take_241 : decode cX9_take 241 = .ok (.iload_n 2, 1) := by decide +kernel
theorem dX9_take_242 : decode cX9_take 242 = .ok (.iaload, 1) := by decide +kernel
theorem dX9_take_243 : decode cX9_take 243 = .ok (.if_icmp .eq 7, 3) := by decide +kernel
theorem dX9_take_246 : decode cX9_take 246 = .ok (.iconst 1, 1) := by decide +kernel
theorem dX9_take_247 : decode cX9_take 247 = .ok (.goto 4, 3) := by decide +kernel
theorem dX9_take_250 : decode cX9_take 250 = .ok (.iconst 0, 1) := by decide +kernel
theorem dX9_take_251 : decode cX9_take 251 = .ok (.bastore, 1) := by decide +kernel
theorem dX9_take_252 : decode cX9_take 252 = .ok (.aload_n 0, 1) := by decide +kernel
theorem dX9_take_253 : decode cX9_take 253 = .ok (.getfield 17, 3) := by decide +kernel
theorem dX9_take_256 : decode cX9_take 256 = .ok (.iload_n 2, 1) := by decide +kernel
theorem dX9_take_257 : decode cX9_take 257 = .ok (.iload_n 3, 1) := by decide +kernel
theorem dX9_take_258 : decode cX9_take 258 = .ok (.iastore, 1) := by decide +kernel
theorem dX9_take_259 : decode cX9_take 259 = .ok (.aload_n 0, 1) := by decide +kernel
theorem dX9_take_260 : decode cX9_take 260 = .ok (.getfield 20, 3) := by decide +kernel
theorem dX9_take_263 : decode cX9_take 263 = .ok (.iload_n 2, 1) := by decide +kernel
theorem dX9_take_264 : decode cX9_take 264 = .ok (.dup2, 1) := by decide +kernel
theorem dX9_take_265 : decode cX9_take 265 = .ok (.iaload, 1) := by decide +kernel
theorem dX9_take_266 : decode cX9_take 266 = .ok (.aload_n 0, 1) := by decide +kernel
theorem dX9_take_267 : decode cX9_take 267 = .ok (.getfield 121, 3) := by decide +kernel
theorem dX9_take_270 : decode cX9_take 270 = .ok (.iconst 2, 1) := by decide +kernel
theorem dX9_take_271 : decode cX9_take 271 = .ok (.if_icmp .ne 7, 3) := by decide +kernel
theorem dX9_take_274 : decode cX9_take 274 = .ok (.iload_n 3, 1) := by decide +kernel
theorem dX9_take_275 : decode cX9_take 275 = .ok (.goto 4, 3) := by decide +kernel
theorem dX9_take_278 : decode cX9_take 278 = .ok (.iconst 0, 1) := by decide +kernel
theorem dX9_take_279 : decode cX9_take 279 = .ok (.iadd, 1) := by decide +kernel
theorem dX9_take_280 : decode cX9_take 280 = .ok (.iastore, 1) := by decide +kernel
theorem dX9_take_281 : decode cX9_take 281 = .ok (.iinc 2 1, 3) := by decide +kernel
theorem dX9_take_284 : decode cX9_take 284 = .ok (.goto (-103), 3) := by decide +kernel
theorem dX9_take_287 : decode cX9_take 287 = .ok (.return_, 1) := by decide +kernel
theorem dX9_letters_0 : decode cX9_letters 0 = .ok (.iconst 0, 1) := by decide +kernel
theorem dX9_letters_1 : decode cX9_letters 1 = .ok (.istore_n 2, 1) := by decide +kernel
theorem dX9_letters_2 : decode cX9_letters 2 = .ok (.iconst 0, 1) := by decide +kernel
theorem dX9_letters_3 : decode cX9_letters 3 = .ok (.istore_n 3, 1) := by decide +kernel
theorem dX9_letters_4 : decode cX9_letters 4 = .ok (.iload_n 3, 1) := by decide +kernel
theorem dX9_letters_5 : decode cX9_letters 5 = .ok (.aload_n 0, 1) := by decide +kernel
theorem dX9_letters_6 : decode cX9_letters 6 = .ok (.getfield 7, 3) := by decide +kernel
theorem dX9_letters_9 : decode cX9_letters 9 = .ok (.if_icmp .ge 32, 3) := by decide +kernel
theorem dX9_letters_12 : decode cX9_letters 12 = .ok (.iload_n 2, 1) := by decide +kernel
theorem dX9_letters_13 : decode cX9_letters 13 = .ok (.aload_n 0, 1) := by decide +kernel
theorem dX9_letters_14 : decode cX9_letters 14 = .ok (.getfield 48, 3) := by decide +kernel
theorem dX9_letters_17 : decode cX9_letters 17 = .ok (.aload_n 0, 1) := by decide +kernel
theorem dX9_letters_18 : decode cX9_letters 18 = .ok (.iload_n 1, 1) := by decide +kernel
theorem dX9_letters_19 : decode cX9_letters 19 = .ok (.iconst 0, 1) := by decide +kernel
theorem dX9_letters_20 : decode cX9_letters 20 = .ok (.iload_n 3, 1) := by decide +kernel
theorem dX9_letters_21 : decode cX9_letters 21 = .ok (.invokevirtual 181, 3) := by decide +kernel
theorem dX9_letters_24 : decode cX9_letters 24 = .ok (.baload, 1) := by decide +kernel
theorem dX9_letters_25 : decode cX9_letters 25 = .ok (.ifCond .eq 7, 3) := by decide +kernel
theorem dX9_letters_28 : decode cX9_letters 28 = .ok (.iconst 1, 1) := by decide +kernel
theorem dX9_letters_29 : decode cX9_letters 29 = .ok (.goto 4, 3) := by decide +kernel
theorem dX9_letters_32 : decode cX9_letters 32 = .ok (.iconst 0, 1) := by decide +kernel
theorem dX9_letters_33 : decode cX9_letters 33 = .ok (.iadd, 1) := by decide +kernel
theorem dX9_letters_34 : decode cX9_letters 34 = .ok (.istore_n 2, 1) := by decide +kernel
theorem dX9_letters_35 : decode cX9_letters 35 = .ok (.iinc 3 1, 3) := by decide +kernel
theorem dX9_letters_38 : decode cX9_letters 38 = .ok (.goto (-34), 3) := by decide +kernel
theorem dX9_letters_41 : decode cX9_letters 41 = .ok (.iload_n 2, 1) := by decide +kernel
theorem dX9_letters_42 : decode cX9_letters 42 = .ok (.ireturn, 1) := by decide +kernel
theorem dX9_goOn_0 : decode cX9_goOn 0 = .ok (.aload_n 0, 1) := by decide +kernel
theorem dX9_goOn_1 : decode cX9_goOn 1 = .ok (.getfield 42, 3) := by decide +kernel
theorem dX9_goOn_4 : decode cX9_goOn 4 = .ok (.iload_n 1, 1) := by decide +kernel
theorem dX9_goOn_5 : decode cX9_goOn 5 = .ok (.baload, 1) := by decide +kernel
theorem dX9_goOn_6 : decode cX9_goOn 6 = .ok (.ifCond .ne 98, 3) := by decide +kernel
theorem dX9_goOn_9 : decode cX9_goOn 9 = .ok (.aload_n 0, 1) := by decide +kernel
theorem dX9_goOn_10 : decode cX9_goOn 10 = .ok (.iload_n 1, 1) := by decide +kernel
theorem dX9_goOn_11 : decode cX9_goOn 11 = .ok (.invokevirtual 199, 3) := by decide +kernel
theorem dX9_goOn_14 : decode cX9_goOn 14 = .ok (.aload_n 0, 1) := by decide +kernel
theorem dX9_goOn_15 : decode cX9_goOn 15 = .ok (.getfield 7, 3) := by decide +kernel
theorem dX9_goOn_18 : decode cX9_goOn 18 = .ok (.iconst 1, 1) := by decide +kernel
theorem dX9_goOn_19 : decode cX9_goOn 19 = .ok (.isub, 1) := by decide +kernel
theorem dX9_goOn_20 : decode cX9_goOn 20 = .ok (.if_icmp .ne 84, 3) := by decide +kernel
theorem dX9_goOn_23 : decode cX9_goOn 23 = .ok (.aload_n 0, 1) := by decide +kernel
theorem dX9_goOn_24 : decode cX9_goOn 24 = .ok (.iload_n 1, 1) := by decide +kernel
theorem dX9_goOn_25 : decode cX9_goOn 25 = .ok (.invokevirtual 162, 3) := by decide +kernel
theorem dX9_goOn_28 : decode cX9_goOn 28 = .ok (.istore_n 2, 1) := by decide +kernel
theorem dX9_goOn_29 : decode cX9_goOn 29 = .ok (.iconst 0, 1) := by decide +kernel
theorem dX9_goOn_30 : decode cX9_goOn 30 = .ok (.istore_n 3, 1) := by decide +kernel
theorem dX9_goOn_31 : decode cX9_goOn 31 = .ok (.iload_n 3, 1) := by decide +kernel
theorem dX9_goOn_32 : decode cX9_goOn 32 = .ok (.aload_n 0, 1) := by decide +kernel
theorem dX9_goOn_33 : decode cX9_goOn 33 = .ok (.getfield 7, 3) := by decide +kernel
theorem dX9_goOn_36 : decode cX9_goOn 36 = .ok (.if_icmp .ge 33, 3) := by decide +kernel
theorem dX9_goOn_39 : decode cX9_goOn 39 = .ok (.iload_n 2, 1) := by decide +kernel
theorem dX9_goOn_40 : decode cX9_goOn 40 = .ok (.iload_n 3, 1) := by decide +kernel
theorem dX9_goOn_41 : decode cX9_goOn 41 = .ok (.iload_n 1, 1) := by decide +kernel
theorem dX9_goOn_42 : decode cX9_goOn 42 = .ok (.if_icmp .ne 7, 3) := by decide +kernel
theorem dX9_goOn_45 : decode cX9_goOn 45 = .ok (.iconst 0, 1) := by decide +kernel
theorem dX9_goOn_46 : decode cX9_goOn 46 = .ok (.goto 15, 3) := by decide +kernel
theorem dX9_goOn_49 : decode cX9_goOn 49 = .ok (.aload_n 0, 1) := by decide +kernel
theorem dX9_goOn_50 : decode cX9_goOn 50 = .ok (.getfield 63, 3) := by decide +kernel
theorem dX9_goOn_53 : decode cX9_goOn 53 = .ok (.aload_n 0, 1) := by decide +kernel
theorem dX9_goOn_54 : decode cX9_goOn 54 = .ok (.iload_n 1, 1) := by decide +kernel
theorem dX9_goOn_55 : decode cX9_goOn 55 = .ok (.iconst 0, 1) := by decide +kernel
theorem dX9_goOn_56 : decode cX9_goOn 56 = .ok (.iload_n 3, 1) := by decide +kernel
theorem dX9_goOn_57 : decode cX9_goOn 57 = .ok (.invokevirtual 181, 3) := by decide +kernel
theorem dX9_goOn_60 : decode cX9_goOn 60 = .ok (.iaload, 1) := by decide +kernel
theorem dX9_goOn_61 : decode cX9_goOn 61 = .ok (.iadd, 1) := by decide +kernel
theorem dX9_goOn_62 : decode cX9_goOn 62 = .ok (.istore_n 2, 1) := by decide +kernel
theorem dX9_goOn_63 : decode cX9_goOn 63 = .ok (.iinc 3 1, 3) := by decide +kernel
theorem dX9_goOn_66 : decode cX9_goOn 66 = .ok (.goto (-35), 3) := by decide +kernel
theorem dX9_goOn_69 : decode cX9_goOn 69 = .ok (.iload_n 2, 1) := by decide +kernel
theorem dX9_goOn_70 : decode cX9_goOn 70 = .ok (.ifCond .ne 13, 3) := by decide +kernel
theorem dX9_goOn_73 : decode cX9_goOn 73 = .ok (.aload_n 0, 1) := by decide +kernel
theorem dX9_goOn_74 : decode cX9_goOn 74 = .ok (.getfield 42, 3) := by decide +kernel
theorem dX9_goOn_77 : decode cX9_goOn 77 = .ok (.iload_n 1, 1) := by decide +kernel
theorem dX9_goOn_78 : decode cX9_goOn 78 = .ok (.iconst 1, 1) := by decide +kernel
theorem dX9_goOn_79 : decode cX9_goOn 79 = .ok (.bastore, 1) := by decide +kernel
theorem dX9_goOn_80 : decode cX9_goOn 80 = .ok (.goto 21, 3) := by decide +kernel
theorem dX9_goOn_83 : decode cX9_goOn 83 = .ok (.aload_n 0, 1) := by decide +kernel
theorem dX9_goOn_84 : decode cX9_goOn 84 = .ok (.iload_n 1, 1) := by decide +kernel
theorem dX9_goOn_85 : decode cX9_goOn 85 = .ok (.invokevirtual 202, 3) := by decide +kernel
theorem dX9_goOn_88 : decode cX9_goOn 88 = .ok (.aload_n 0, 1) := by decide +kernel
theorem dX9_goOn_89 : decode cX9_goOn 89 = .ok (.iload_n 1, 1) := by decide +kernel
theorem dX9_goOn_90 : decode cX9_goOn 90 = .ok (.aload_n 0, 1) := by decide +kernel
theorem dX9_goOn_91 : decode cX9_goOn 91 = .ok (.getfield 39, 3) := by decide +kernel
theorem dX9_goOn_94 : decode cX9_goOn 94 = .ok (.iload_n 1, 1) := by decide +kernel
theorem dX9_goOn_95 : decode cX9_goOn 95 = .ok (.iaload, 1) := by decide +kernel
theorem dX9_goOn_96 : decode cX9_goOn 96 = .ok (.iconst 1, 1) := by decide +kernel
theorem dX9_goOn_97 : decode cX9_goOn 97 = .ok (.iadd, 1) := by decide +kernel
theorem dX9_goOn_98 : decode cX9_goOn 98 = .ok (.invokevirtual 205, 3) := by decide +kernel
theorem dX9_goOn_101 : decode cX9_goOn 101 = .ok (.goto (-101), 3) := by decide +kernel
theorem dX9_goOn_104 : decode cX9_goOn 104 = .ok (.return_, 1) := by decide +kernel
theorem dX9_start_0 : decode cX9_start 0 = .ok (.aload_n 0, 1) := by decide +kernel
theorem dX9_start_1 : decode cX9_start 1 = .ok (.getfield 131, 3) := by decide +kernel
theorem dX9_start_4 : decode cX9_start 4 = .ok (.ifCond .eq 6, 3) := by decide +kernel
theorem dX9_start_7 : decode cX9_start 7 = .ok (.bipush (-2), 2) := by decide +kernel
theorem dX9_start_9 : decode cX9_start 9 = .ok (.ireturn, 1) := by decide +kernel
theorem dX9_start_10 : decode cX9_start 10 = .ok (.aload_n 0, 1) := by decide +kernel
theorem dX9_start_11 : decode cX9_start 11 = .ok (.iconst 1, 1) := by decide +kernel
theorem dX9_start_12 : decode cX9_start 12 = .ok (.putfield 131, 3) := by decide +kernel
theorem dX9_start_15 : decode cX9_start 15 = .ok (.iconst 0, 1) := by decide +kernel
theorem dX9_start_16 : decode cX9_start 16 = .ok (.istore_n 1, 1) := by decide +kernel
theorem dX9_start_17 : decode cX9_start 17 = .ok (.iload_n 1, 1) := by decide +kernel
theorem dX9_start_18 : decode cX9_start 18 = .ok (.aload_n 0, 1) := by decide +kernel
theorem dX9_start_19 : decode cX9_start 19 = .ok (.getfield 7, 3) := by decide +kernel
theorem dX9_start_22 : decode cX9_start 22 = .ok (.if_icmp .ge 15, 3) := by decide +kernel
theorem dX9_start_25 : decode cX9_start 25 = .ok (.aload_n 0, 1) := by decide +kernel
theorem dX9_start_26 : decode cX9_start 26 = .ok (.iload_n 1, 1) := by decide +kernel
theorem dX9_start_27 : decode cX9_start 27 = .ok (.iconst 0, 1) := by decide +kernel
theorem dX9_start_28 : decode cX9_start 28 = .ok (.invokevirtual 205, 3) := by decide +kernel
theorem dX9_start_31 : decode cX9_start 31 = .ok (.iinc 1 1, 3) := by decide +kernel
theorem dX9_start_34 : decode cX9_start 34 = .ok (.goto (-17), 3) := by decide +kernel
theorem dX9_start_37 : decode cX9_start 37 = .ok (.aload_n 0, 1) := by decide +kernel
theorem dX9_start_38 : decode cX9_start 38 = .ok (.getfield 134, 3) := by decide +kernel
theorem dX9_start_41 : decode cX9_start 41 = .ok (.ireturn, 1) := by decide +kernel
theorem dX9_isLetter_0 : decode cX9_isLetter 0 = .ok (.iload_n 1, 1) := by decide +kernel
theorem dX9_isLetter_1 : decode cX9_isLetter 1 = .ok (.iconst 0, 1) := by decide +kernel
theorem dX9_isLetter_2 : decode cX9_isLetter 2 = .ok (.aload_n 0, 1) := by decide +kernel
theorem dX9_isLetter_3 : decode cX9_isLetter 3 = .ok (.getfield 134, 3) := by decide +kernel
theorem dX9_isLetter_6 : decode cX9_isLetter 6 = .ok (.iconst 1, 1) := by decide +kernel
theorem dX9_isLetter_7 : decode cX9_isLetter 7 = .ok (.isub, 1) := by decide +kernel
theorem dX9_isLetter_8 : decode cX9_isLetter 8 = .ok (.invokestatic 143, 3) := by decide +kernel
theorem dX9_isLetter_11 : decode cX9_isLetter 11 = .ok (.ireturn, 1) := by decide +kernel
theorem dX9_letter_0 : decode cX9_letter 0 = .ok (.aload_n 0, 1) := by decide +kernel
theorem dX9_letter_1 : decode cX9_letter 1 = .ok (.iload_n 1, 1) := by decide +kernel
theorem dX9_letter_2 : decode cX9_letter 2 = .ok (.invokevirtual 208, 3) := by decide +kernel
theorem dX9_letter_5 : decode cX9_letter 5 = .ok (.ifCond .eq 12, 3) := by decide +kernel
theorem dX9_letter_8 : decode cX9_letter 8 = .ok (.iload_n 2, 1) := by decide +kernel
theorem dX9_letter_9 : decode cX9_letter 9 = .ok (.iconst 0, 1) := by decide +kernel
theorem dX9_letter_10 : decode cX9_letter 10 = .ok (.iconst 5, 1) := by decide +kernel
theorem dX9_letter_11 : decode cX9_letter 11 = .ok (.invokestatic 143, 3) := by decide +kernel
theorem dX9_letter_14 : decode cX9_letter 14 = .ok (.ifCond .ne 5, 3) := by decide +kernel
theorem dX9_letter_17 : decode cX9_letter 17 = .ok (.iconst (-1), 1) := by decide +kernel
theorem dX9_letter_18 : decode cX9_letter 18 = .ok (.ireturn, 1) := by decide +kernel
theorem dX9_letter_19 : decode cX9_letter 19 = .ok (.iload_n 2, 1) := by decide +kernel
theorem dX9_letter_20 : decode cX9_letter 20 = .ok (.tableswitch 71 0 4 #[36, 43, 50, 57, 64], 36) := by decide +kernel
theorem dX9_letter_56 : decode cX9_letter 56 = .ok (.aload_n 0, 1) := by decide +kernel
theorem dX9_letter_57 : decode cX9_letter 57 = .ok (.getfield 57, 3) := by decide +kernel
theorem dX9_letter_60 : decode cX9_letter 60 = .ok (.iload_n 1, 1) := by decide +kernel
theorem dX9_letter_61 : decode cX9_letter 61 = .ok (.iaload, 1) := by decide +kernel
theorem dX9_letter_62 : decode cX9_letter 62 = .ok (.ireturn, 1) := by decide +kernel
theorem dX9_letter_63 : decode cX9_letter 63 = .ok (.aload_n 0, 1) := by decide +kernel
theorem dX9_letter_64 : decode cX9_letter 64 = .ok (.getfield 60, 3) := by decide +kernel
theorem dX9_letter_67 : decode cX9_letter 67 = .ok (.iload_n 1, 1) := by decide +kernel
theorem dX9_letter_68 : decode cX9_letter 68 = .ok (.iaload, 1) := by decide +kernel
theorem dX9_letter_69 : decode cX9_letter 69 = .ok (.ireturn, 1) := by decide +kernel
theorem dX9_letter_70 : decode cX9_letter 70 = .ok (.aload_n 0, 1) := by decide +kernel
theorem dX9_letter_71 : decode cX9_letter 71 = .ok (.getfield 54, 3) := by decide +kernel
theorem dX9_letter_74 : decode cX9_letter 74 = .ok (.iload_n 1, 1) := by decide +kernel
theorem dX9_letter_75 : decode cX9_letter 75 = .ok (.iaload, 1) := by decide +kernel
theorem dX9_letter_76 : decode cX9_letter 76 = .ok (.ireturn, 1) := by decide +kernel
theorem dX9_letter_77 : decode cX9_letter 77 = .ok (.aload_n 0, 1) := by decide +kernel
theorem dX9_letter_78 : decode cX9_letter 78 = .ok (.getfield 51, 3) := by decide +kernel
theorem dX9_letter_81 : decode cX9_letter 81 = .ok (.iload_n 1, 1) := by decide +kernel
theorem dX9_letter_82 : decode cX9_letter 82 = .ok (.iaload, 1) := by decide +kernel
theorem dX9_letter_83 : decode cX9_letter 83 = .ok (.ireturn, 1) := by decide +kernel
theorem dX9_letter_84 : decode cX9_letter 84 = .ok (.aload_n 0, 1) := by decide +kernel
theorem dX9_letter_85 : decode cX9_letter 85 = .ok (.getfield 66, 3) := by decide +kernel
theorem dX9_letter_88 : decode cX9_letter 88 = .ok (.iload_n 1, 1) := by decide +kernel
theorem dX9_letter_89 : decode cX9_letter 89 = .ok (.iaload, 1) := by decide +kernel
theorem dX9_letter_90 : decode cX9_letter 90 = .ok (.ireturn, 1) := by decide +kernel
theorem dX9_letter_91 : decode cX9_letter 91 = .ok (.aload_n 0, 1) := by decide +kernel
theorem dX9_letter_92 : decode cX9_letter 92 = .ok (.getfield 63, 3) := by decide +kernel
theorem dX9_letter_95 : decode cX9_letter 95 = .ok (.iload_n 1, 1) := by decide +kernel
theorem dX9_letter_96 : decode cX9_letter 96 = .ok (.iaload, 1) := by decide +kernel
theorem dX9_letter_97 : decode cX9_letter 97 = .ok (.ireturn, 1) := by decide +kernel
theorem dX9_entry_0 : decode cX9_entry 0 = .ok (.aload_n 0, 1) := by decide +kernel
theorem dX9_entry_1 : decode cX9_entry 1 = .ok (.iload_n 1, 1) := by decide +kernel
theorem dX9_entry_2 : decode cX9_entry 2 = .ok (.invokevirtual 208, 3) := by decide +kernel
theorem dX9_entry_5 : decode cX9_entry 5 = .ok (.ifCond .eq 28, 3) := by decide +kernel
theorem dX9_entry_8 : decode cX9_entry 8 = .ok (.iload_n 2, 1) := by decide +kernel
theorem dX9_entry_9 : decode cX9_entry 9 = .ok (.iconst 0, 1) := by decide +kernel
theorem dX9_entry_10 : decode cX9_entry 10 = .ok (.aload_n 0, 1) := by decide +kernel
theorem dX9_entry_11 : decode cX9_entry 11 = .ok (.getfield 66, 3) := by decide +kernel
theorem dX9_entry_14 : decode cX9_entry 14 = .ok (.iload_n 1, 1) := by decide +kernel
theorem dX9_entry_15 : decode cX9_entry 15 = .ok (.iaload, 1) := by decide +kernel
theorem dX9_entry_16 : decode cX9_entry 16 = .ok (.iconst 1, 1) := by decide +kernel
theorem dX9_entry_17 : decode cX9_entry 17 = .ok (.isub, 1) := by decide +kernel
theorem dX9_entry_18 : decode cX9_entry 18 = .ok (.invokestatic 143, 3) := by decide +kernel
theorem dX9_entry_21 : decode cX9_entry 21 = .ok (.ifCond .eq 12, 3) := by decide +kernel
theorem dX9_entry_24 : decode cX9_entry 24 = .ok (.iload_n 3, 1) := by decide +kernel
theorem dX9_entry_25 : decode cX9_entry 25 = .ok (.iconst 0, 1) := by decide +kernel
theorem dX9_entry_26 : decode cX9_entry 26 = .ok (.iconst 1, 1) := by decide +kernel
theorem dX9_entry_27 : decode cX9_entry 27 = .ok (.invokestatic 143, 3) := by decide +kernel
theorem dX9_entry_30 : decode cX9_entry 30 = .ok (.ifCond .ne 7, 3) := by decide +kernel
theorem dX9_entry_33 : decode cX9_entry 33 = .ok (.ldc2_w 211, 3) := by decide +kernel
theorem dX9_entry_36 : decode cX9_entry 36 = .ok (.lreturn, 1) := by decide +kernel
theorem dX9_entry_37 : decode cX9_entry 37 = .ok (.iload_n 3, 1) := by decide +kernel
theorem dX9_entry_38 : decode cX9_entry 38 = .ok (.ifCond .ne 18, 3) := by decide +kernel
theorem dX9_entry_41 : decode cX9_entry 41 = .ok (.aload_n 0, 1) := by decide +kernel
theorem dX9_entry_42 : decode cX9_entry 42 = .ok (.getfield 69, 3) := by decide +kernel
theorem dX9_entry_45 : decode cX9_entry 45 = .ok (.bipush 40, 2) := by decide +kernel
theorem dX9_entry_47 : decode cX9_entry 47 = .ok (.iload_n 1, 1) := by decide +kernel
theorem dX9_entry_48 : decode cX9_entry 48 = .ok (.imul, 1) := by decide +kernel
theorem dX9_entry_49 : decode cX9_entry 49 = .ok (.iload_n 2, 1) := by decide +kernel
theorem dX9_entry_50 : decode cX9_entry 50 = .ok (.iadd, 1) := by decide +kernel
theorem dX9_entry_51 : decode cX9_entry 51 = .ok (.iaload, 1) := by decide +kernel
theorem dX9_entry_52 : decode cX9_entry 52 = .ok (.i2l, 1) := by decide +kernel
theorem dX9_entry_53 : decode cX9_entry 53 = .ok (.goto 15, 3) := by decide +kernel
theorem dX9_entry_56 : decode cX9_entry 56 = .ok (.aload_n 0, 1) := by decide +kernel
theorem dX9_entry_57 : decode cX9_entry 57 = .ok (.getfield 72, 3) := by decide +kernel
theorem dX9_entry_60 : decode cX9_entry 60 = .ok (.bipush 40, 2) := by decide +kernel
theorem dX9_entry_62 : decode cX9_entry 62 = .ok (.iload_n 1, 1) := by decide +kernel
theorem dX9_entry_63 : decode cX9_entry 63 = .ok (.imul, 1) := by decide +kernel
theorem dX9_entry_64 : decode cX9_entry 64 = .ok (.iload_n 2, 1) := by decide +kernel
theorem dX9_entry_65 : decode cX9_entry 65 = .ok (.iadd, 1) := by decide +kernel
theorem dX9_entry_66 : decode cX9_entry 66 = .ok (.iaload, 1) := by decide +kernel
theorem dX9_entry_67 : decode cX9_entry 67 = .ok (.i2l, 1) := by decide +kernel
theorem dX9_entry_68 : decode cX9_entry 68 = .ok (.lreturn, 1) := by decide +kernel
theorem dX9_coming_0 : decode cX9_coming 0 = .ok (.aload_n 0, 1) := by decide +kernel
theorem dX9_coming_1 : decode cX9_coming 1 = .ok (.getfield 60, 3) := by decide +kernel
theorem dX9_coming_4 : decode cX9_coming 4 = .ok (.iload_n 1, 1) := by decide +kernel
theorem dX9_coming_5 : decode cX9_coming 5 = .ok (.iaload, 1) := by decide +kernel
theorem dX9_coming_6 : decode cX9_coming 6 = .ok (.istore_n 2, 1) := by decide +kernel
theorem dX9_coming_7 : decode cX9_coming 7 = .ok (.aload_n 0, 1) := by decide +kernel
theorem dX9_coming_8 : decode cX9_coming 8 = .ok (.getfield 45, 3) := by decide +kernel
theorem dX9_coming_11 : decode cX9_coming 11 = .ok (.iload_n 2, 1) := by decide +kernel
theorem dX9_coming_12 : decode cX9_coming 12 = .ok (.baload, 1) := by decide +kernel
theorem dX9_coming_13 : decode cX9_coming 13 = .ok (.ifCond .eq 5, 3) := by decide +kernel
theorem dX9_coming_16 : decode cX9_coming 16 = .ok (.iconst 3, 1) := by decide +kernel
theorem dX9_coming_17 : decode cX9_coming 17 = .ok (.ireturn, 1) := by decide +kernel
theorem dX9_coming_18 : decode cX9_coming 18 = .ok (.aload_n 0, 1) := by decide +kernel
theorem dX9_coming_19 : decode cX9_coming 19 = .ok (.getfield 51, 3) := by decide +kernel
theorem dX9_coming_22 : decode cX9_coming 22 = .ok (.iload_n 1, 1) := by decide +kernel
theorem dX9_coming_23 : decode cX9_coming 23 = .ok (.iaload, 1) := by decide +kernel
theorem dX9_coming_24 : decode cX9_coming 24 = .ok (.aload_n 0, 1) := by decide +kernel
theorem dX9_coming_25 : decode cX9_coming 25 = .ok (.getfield 137, 3) := by decide +kernel
theorem dX9_coming_28 : decode cX9_coming 28 = .ok (.if_icmp .ne 27, 3) := by decide +kernel
theorem dX9_coming_31 : decode cX9_coming 31 = .ok (.aload_n 0, 1) := by decide +kernel
theorem dX9_coming_32 : decode cX9_coming 32 = .ok (.getfield 54, 3) := by decide +kernel
theorem dX9_coming_35 : decode cX9_coming 35 = .ok (.iload_n 1, 1) := by decide +kernel
theorem dX9_coming_36 : decode cX9_coming 36 = .ok (.iaload, 1) := by decide +kernel
theorem dX9_coming_37 : decode cX9_coming 37 = .ok (.aload_n 0, 1) := by decide +kernel
theorem dX9_coming_38 : decode cX9_coming 38 = .ok (.getfield 39, 3) := by decide +kernel
theorem dX9_coming_41 : decode cX9_coming 41 = .ok (.iload_n 2, 1) := by decide +kernel
theorem dX9_coming_42 : decode cX9_coming 42 = .ok (.iaload, 1) := by decide +kernel
theorem dX9_coming_43 : decode cX9_coming 43 = .ok (.if_icmp .lt 12, 3) := by decide +kernel
theorem dX9_coming_46 : decode cX9_coming 46 = .ok (.aload_n 0, 1) := by decide +kernel
theorem dX9_coming_47 : decode cX9_coming 47 = .ok (.getfield 42, 3) := by decide +kernel
theorem dX9_coming_50 : decode cX9_coming 50 = .ok (.iload_n 2, 1) := by decide +kernel
theorem dX9_coming_51 : decode cX9_coming 51 = .ok (.baload, 1) := by decide +kernel
theorem dX9_coming_52 : decode cX9_coming 52 = .ok (.ifCond .eq 5, 3) := by decide +kernel
theorem dX9_coming_55 : decode cX9_coming 55 = .ok (.iconst 1, 1) := by decide +kernel
theorem dX9_coming_56 : decode cX9_coming 56 = .ok (.ireturn, 1) := by decide +kernel
theorem dX9_coming_57 : decode cX9_coming 57 = .ok (.aload_n 0, 1) := by decide +kernel
theorem dX9_coming_58 : decode cX9_coming 58 = .ok (.getfield 48, 3) := by decide +kernel
theorem dX9_coming_61 : decode cX9_coming 61 = .ok (.aload_n 0, 1) := by decide +kernel
theorem dX9_coming_62 : decode cX9_coming 62 = .ok (.iload_n 2, 1) := by decide +kernel
theorem dX9_coming_63 : decode cX9_coming 63 = .ok (.aload_n 0, 1) := by decide +kernel
theorem dX9_coming_64 : decode cX9_coming 64 = .ok (.getfield 54, 3) := by decide +kernel
theorem dX9_coming_67 : decode cX9_coming 67 = .ok (.iload_n 1, 1) := by decide +kernel
theorem dX9_coming_68 : decode cX9_coming 68 = .ok (.iaload, 1) := by decide +kernel
theorem dX9_coming_69 : decode cX9_coming 69 = .ok (.aload_n 0, 1) := by decide +kernel
theorem dX9_coming_70 : decode cX9_coming 70 = .ok (.getfield 39, 3) := by decide +kernel
theorem dX9_coming_73 : decode cX9_coming 73 = .ok (.iload_n 2, 1) := by decide +kernel
theorem dX9_coming_74 : decode cX9_coming 74 = .ok (.iaload, 1) := by decide +kernel
theorem dX9_coming_75 : decode cX9_coming 75 = .ok (.isub, 1) := by decide +kernel
theorem dX9_coming_76 : decode cX9_coming 76 = .ok (.aload_n 0, 1) := by decide +kernel
theorem dX9_coming_77 : decode cX9_coming 77 = .ok (.getfield 57, 3) := by decide +kernel
theorem dX9_coming_80 : decode cX9_coming 80 = .ok (.iload_n 1, 1) := by decide +kernel
theorem dX9_coming_81 : decode cX9_coming 81 = .ok (.iaload, 1) := by decide +kernel
theorem dX9_coming_82 : decode cX9_coming 82 = .ok (.invokevirtual 181, 3) := by decide +kernel
theorem dX9_coming_85 : decode cX9_coming 85 = .ok (.baload, 1) := by decide +kernel
theorem dX9_coming_86 : decode cX9_coming 86 = .ok (.ifCond .eq 7, 3) := by decide +kernel
theorem dX9_coming_89 : decode cX9_coming 89 = .ok (.iconst 2, 1) := by decide +kernel
theorem dX9_coming_90 : decode cX9_coming 90 = .ok (.goto 4, 3) := by decide +kernel
theorem dX9_coming_93 : decode cX9_coming 93 = .ok (.iconst 0, 1) := by decide +kernel
theorem dX9_coming_94 : decode cX9_coming 94 = .ok (.ireturn, 1) := by decide +kernel
theorem dX9_deliver_0 : decode cX9_deliver 0 = .ok (.aload_n 0, 1) := by decide +kernel
theorem dX9_deliver_1 : decode cX9_deliver 1 = .ok (.iload_n 1, 1) := by decide +kernel
theorem dX9_deliver_2 : decode cX9_deliver 2 = .ok (.invokevirtual 208, 3) := by decide +kernel
theorem dX9_deliver_5 : decode cX9_deliver 5 = .ok (.ifCond .ne 5, 3) := by decide +kernel
theorem dX9_deliver_8 : decode cX9_deliver 8 = .ok (.iconst (-1), 1) := by decide +kernel
theorem dX9_deliver_9 : decode cX9_deliver 9 = .ok (.ireturn, 1) := by decide +kernel
theorem dX9_deliver_10 : decode cX9_deliver 10 = .ok (.aload_n 0, 1) := by decide +kernel
theorem dX9_deliver_11 : decode cX9_deliver 11 = .ok (.iload_n 1, 1) := by decide +kernel
theorem dX9_deliver_12 : decode cX9_deliver 12 = .ok (.invokevirtual 213, 3) := by decide +kernel
theorem dX9_deliver_15 : decode cX9_deliver 15 = .ok (.istore_n 2, 1) := by decide +kernel
theorem dX9_deliver_16 : decode cX9_deliver 16 = .ok (.aload_n 0, 1) := by decide +kernel
theorem dX9_deliver_17 : decode cX9_deliver 17 = .ok (.getfield 60, 3) := by decide +kernel
theorem dX9_deliver_20 : decode cX9_deliver 20 = .ok (.iload_n 1, 1) := by decide +kernel
theorem dX9_deliver_21 : decode cX9_deliver 21 = .ok (.iaload, 1) := by decide +kernel
theorem dX9_deliver_22 : decode cX9_deliver 22 = .ok (.istore_n 3, 1) := by decide +kernel
theorem dX9_deliver_23 : decode cX9_deliver 23 = .ok (.iload_n 2, 1) := by decide +kernel
theorem dX9_deliver_24 : decode cX9_deliver 24 = .ok (.ifCond .ne 32, 3) := by decide +kernel
theorem dX9_deliver_27 : decode cX9_deliver 27 = .ok (.aload_n 0, 1) := by decide +kernel
theorem dX9_deliver_28 : decode cX9_deliver 28 = .ok (.iload_n 1, 1) := by decide +kernel
theorem dX9_deliver_29 : decode cX9_deliver 29 = .ok (.aload_n 0, 1) := by decide +kernel
theorem dX9_deliver_30 : decode cX9_deliver 30 = .ok (.iload_n 3, 1) := by decide +kernel
theorem dX9_deliver_31 : decode cX9_deliver 31 = .ok (.aload_n 0, 1) := by decide +kernel
theorem dX9_deliver_32 : decode cX9_deliver 32 = .ok (.getfield 54, 3) := by decide +kernel
theorem dX9_deliver_35 : decode cX9_deliver 35 = .ok (.iload_n 1, 1) := by decide +kernel
theorem dX9_deliver_36 : decode cX9_deliver 36 = .ok (.iaload, 1) := by decide +kernel
theorem dX9_deliver_37 : decode cX9_deliver 37 = .ok (.aload_n 0, 1) := by decide +kernel
theorem dX9_deliver_38 : decode cX9_deliver 38 = .ok (.getfield 39, 3) := by decide +kernel
theorem dX9_deliver_41 : decode cX9_deliver 41 = .ok (.iload_n 3, 1) := by decide +kernel
theorem dX9_deliver_42 : decode cX9_deliver 42 = .ok (.iaload, 1) := by decide +kernel
theorem dX9_deliver_43 : decode cX9_deliver 43 = .ok (.isub, 1) := by decide +kernel
theorem dX9_deliver_44 : decode cX9_deliver 44 = .ok (.aload_n 0, 1) := by decide +kernel
theorem dX9_deliver_45 : decode cX9_deliver 45 = .ok (.getfield 57, 3) := by decide +kernel
theorem dX9_deliver_48 : decode cX9_deliver 48 = .ok (.iload_n 1, 1) := by decide +kernel
theorem dX9_deliver_49 : decode cX9_deliver 49 = .ok (.iaload, 1) := by decide +kernel
theorem dX9_deliver_50 : decode cX9_deliver 50 = .ok (.invokevirtual 181, 3) := by decide +kernel
theorem dX9_deliver_53 : decode cX9_deliver 53 = .ok (.invokevirtual 173, 3) := by decide +kernel
theorem dX9_deliver_56 : decode cX9_deliver 56 = .ok (.aload_n 0, 1) := by decide +kernel
theorem dX9_deliver_57 : decode cX9_deliver 57 = .ok (.getfield 90, 3) := by decide +kernel
theorem dX9_deliver_60 : decode cX9_deliver 60 = .ok (.iload_n 2, 1) := by decide +kernel
theorem dX9_deliver_61 : decode cX9_deliver 61 = .ok (.dup2, 1) := by decide +kernel
theorem dX9_deliver_62 : decode cX9_deliver 62 = .ok (.iaload, 1) := by decide +kernel
theorem dX9_deliver_63 : decode cX9_deliver 63 = .ok (.iconst 1, 1) := by decide +kernel
theorem dX9_deliver_64 : decode cX9_deliver 64 = .ok (.iadd, 1) := by decide +kernel
theorem dX9_deliver_65 : decode cX9_deliver 65 = .ok (.iastore, 1) := by decide +kernel
theorem dX9_deliver_66 : decode cX9_deliver 66 = .ok (.aload_n 0, 1) := by decide +kernel
theorem dX9_deliver_67 : decode cX9_deliver 67 = .ok (.iload_n 1, 1) := by decide +kernel
theorem dX9_deliver_68 : decode cX9_deliver 68 = .ok (.invokevirtual 216, 3) := by decide +kernel
theorem dX9_deliver_71 : decode cX9_deliver 71 = .ok (.iload_n 2, 1) := by decide +kernel
theorem dX9_deliver_72 : decode cX9_deliver 72 = .ok (.ifCond .ne 8, 3) := by decide +kernel
theorem dX9_deliver_75 : decode cX9_deliver 75 = .ok (.aload_n 0, 1) := by decide +kernel
theorem dX9_deliver_76 : decode cX9_deliver 76 = .ok (.iload_n 3, 1) := by decide +kernel
theorem dX9_deliver_77 : decode cX9_deliver 77 = .ok (.invokevirtual 219, 3) := by decide +kernel
theorem dX9_deliver_80 : decode cX9_deliver 80 = .ok (.iload_n 2, 1) := by decide +kernel
theorem dX9_deliver_81 : decode cX9_deliver 81 = .ok (.ireturn, 1) := by decide +kernel
theorem dX9_lose_0 : decode cX9_lose 0 = .ok (.aload_n 0, 1) := by decide +kernel
theorem dX9_lose_1 : decode cX9_lose 1 = .ok (.iload_n 1, 1) := by decide +kernel
theorem dX9_lose_2 : decode cX9_lose 2 = .ok (.invokevirtual 208, 3) := by decide +kernel
theorem dX9_lose_5 : decode cX9_lose 5 = .ok (.ifCond .ne 5, 3) := by decide +kernel
theorem dX9_lose_8 : decode cX9_lose 8 = .ok (.iconst (-1), 1) := by decide +kernel
theorem dX9_lose_9 : decode cX9_lose 9 = .ok (.ireturn, 1) := by decide +kernel
theorem dX9_lose_10 : decode cX9_lose 10 = .ok (.aload_n 0, 1) := by decide +kernel
theorem dX9_lose_11 : decode cX9_lose 11 = .ok (.iload_n 1, 1) := by decide +kernel
theorem dX9_lose_12 : decode cX9_lose 12 = .ok (.invokevirtual 216, 3) := by decide +kernel
theorem dX9_lose_15 : decode cX9_lose 15 = .ok (.aload_n 0, 1) := by decide +kernel
theorem dX9_lose_16 : decode cX9_lose 16 = .ok (.getfield 134, 3) := by decide +kernel
theorem dX9_lose_19 : decode cX9_lose 19 = .ok (.ireturn, 1) := by decide +kernel
theorem dX9_copy_0 : decode cX9_copy 0 = .ok (.aload_n 0, 1) := by decide +kernel
theorem dX9_copy_1 : decode cX9_copy 1 = .ok (.iload_n 1, 1) := by decide +kernel
theorem dX9_copy_2 : decode cX9_copy 2 = .ok (.invokevirtual 208, 3) := by decide +kernel
theorem dX9_copy_5 : decode cX9_copy 5 = .ok (.ifCond .ne 5, 3) := by decide +kernel
theorem dX9_copy_8 : decode cX9_copy 8 = .ok (.iconst (-1), 1) := by decide +kernel
theorem dX9_copy_9 : decode cX9_copy 9 = .ok (.ireturn, 1) := by decide +kernel
theorem dX9_copy_10 : decode cX9_copy 10 = .ok (.aload_n 0, 1) := by decide +kernel
theorem dX9_copy_11 : decode cX9_copy 11 = .ok (.getfield 134, 3) := by decide +kernel
theorem dX9_copy_14 : decode cX9_copy 14 = .ok (.bipush 60, 2) := by decide +kernel
theorem dX9_copy_16 : decode cX9_copy 16 = .ok (.if_icmp .ne 6, 3) := by decide +kernel
theorem dX9_copy_19 : decode cX9_copy 19 = .ok (.bipush (-3), 2) := by decide +kernel
theorem dX9_copy_21 : decode cX9_copy 21 = .ok (.ireturn, 1) := by decide +kernel
theorem dX9_copy_22 : decode cX9_copy 22 = .ok (.aload_n 0, 1) := by decide +kernel
theorem dX9_copy_23 : decode cX9_copy 23 = .ok (.iload_n 1, 1) := by decide +kernel
theorem dX9_copy_24 : decode cX9_copy 24 = .ok (.aload_n 0, 1) := by decide +kernel
theorem dX9_copy_25 : decode cX9_copy 25 = .ok (.getfield 134, 3) := by decide +kernel
theorem dX9_copy_28 : decode cX9_copy 28 = .ok (.invokevirtual 173, 3) := by decide +kernel
theorem dX9_copy_31 : decode cX9_copy 31 = .ok (.aload_n 0, 1) := by decide +kernel
theorem dX9_copy_32 : decode cX9_copy 32 = .ok (.dup, 1) := by decide +kernel
theorem dX9_copy_33 : decode cX9_copy 33 = .ok (.getfield 134, 3) := by decide +kernel
theorem dX9_copy_36 : decode cX9_copy 36 = .ok (.iconst 1, 1) := by decide +kernel
theorem dX9_copy_37 : decode cX9_copy 37 = .ok (.iadd, 1) := by decide +kernel
theorem dX9_copy_38 : decode cX9_copy 38 = .ok (.putfield 134, 3) := by decide +kernel
theorem dX9_copy_41 : decode cX9_copy 41 = .ok (.aload_n 0, 1) := by decide +kernel
theorem dX9_copy_42 : decode cX9_copy 42 = .ok (.getfield 134, 3) := by decide +kernel
theorem dX9_copy_45 : decode cX9_copy 45 = .ok (.ireturn, 1) := by decide +kernel
theorem dX9_resend_0 : decode cX9_resend 0 = .ok (.aload_n 0, 1) := by decide +kernel
theorem dX9_resend_1 : decode cX9_resend 1 = .ok (.iload_n 1, 1) := by decide +kernel
theorem dX9_resend_2 : decode cX9_resend 2 = .ok (.invokevirtual 147, 3) := by decide +kernel
theorem dX9_resend_5 : decode cX9_resend 5 = .ok (.ifCond .eq 16, 3) := by decide +kernel
theorem dX9_resend_8 : decode cX9_resend 8 = .ok (.aload_n 0, 1) := by decide +kernel
theorem dX9_resend_9 : decode cX9_resend 9 = .ok (.iload_n 2, 1) := by decide +kernel
theorem dX9_resend_10 : decode cX9_resend 10 = .ok (.invokevirtual 147, 3) := by decide +kernel
theorem dX9_resend_13 : decode cX9_resend 13 = .ok (.ifCond .eq 8, 3) := by decide +kernel
theorem dX9_resend_16 : decode cX9_resend 16 = .ok (.iload_n 1, 1) := by decide +kernel
theorem dX9_resend_17 : decode cX9_resend 17 = .ok (.iload_n 2, 1) := by decide +kernel
theorem dX9_resend_18 : decode cX9_resend 18 = .ok (.if_icmp .ne 5, 3) := by decide +kernel
theorem dX9_resend_21 : decode cX9_resend 21 = .ok (.iconst (-1), 1) := by decide +kernel
theorem dX9_resend_22 : decode cX9_resend 22 = .ok (.ireturn, 1) := by decide +kernel
theorem dX9_resend_23 : decode cX9_resend 23 = .ok (.aload_n 0, 1) := by decide +kernel
theorem dX9_resend_24 : decode cX9_resend 24 = .ok (.getfield 131, 3) := by decide +kernel
theorem dX9_resend_27 : decode cX9_resend 27 = .ok (.ifCond .eq 12, 3) := by decide +kernel
theorem dX9_resend_30 : decode cX9_resend 30 = .ok (.aload_n 0, 1) := by decide +kernel
theorem dX9_resend_31 : decode cX9_resend 31 = .ok (.getfield 45, 3) := by decide +kernel
theorem dX9_resend_34 : decode cX9_resend 34 = .ok (.iload_n 1, 1) := by decide +kernel
theorem dX9_resend_35 : decode cX9_resend 35 = .ok (.baload, 1) := by decide +kernel
theorem dX9_resend_36 : decode cX9_resend 36 = .ok (.ifCond .eq 6, 3) := by decide +kernel
theorem dX9_resend_39 : decode cX9_resend 39 = .ok (.bipush (-2), 2) := by decide +kernel
theorem dX9_resend_41 : decode cX9_resend 41 = .ok (.ireturn, 1) := by decide +kernel
theorem dX9_resend_42 : decode cX9_resend 42 = .ok (.iconst 0, 1) := by decide +kernel
theorem dX9_resend_43 : decode cX9_resend 43 = .ok (.istore_n 3, 1) := by decide +kernel
theorem dX9_resend_44 : decode cX9_resend 44 = .ok (.iconst 0, 1) := by decide +kernel
theorem dX9_resend_45 : decode cX9_resend 45 = .ok (.istore 4, 2) := by decide +kernel
theorem dX9_resend_47 : decode cX9_resend 47 = .ok (.iload 4, 2) := by decide +kernel
theorem dX9_resend_49 : decode cX9_resend 49 = .ok (.iconst 2, 1) := by decide +kernel
theorem dX9_resend_50 : decode cX9_resend 50 = .ok (.if_icmp .ge 63, 3) := by decide +kernel
theorem dX9_resend_53 : decode cX9_resend 53 = .ok (.aload_n 0, 1) := by decide +kernel
theorem dX9_resend_54 : decode cX9_resend 54 = .ok (.getfield 48, 3) := by decide +kernel
theorem dX9_resend_57 : decode cX9_resend 57 = .ok (.aload_n 0, 1) := by decide +kernel
theorem dX9_resend_58 : decode cX9_resend 58 = .ok (.iload_n 1, 1) := by decide +kernel
theorem dX9_resend_59 : decode cX9_resend 59 = .ok (.iload 4, 2) := by decide +kernel
theorem dX9_resend_61 : decode cX9_resend 61 = .ok (.iload_n 2, 1) := by decide +kernel
theorem dX9_resend_62 : decode cX9_resend 62 = .ok (.invokevirtual 158, 3) := by decide +kernel
theorem dX9_resend_65 : decode cX9_resend 65 = .ok (.baload, 1) := by decide +kernel
theorem dX9_resend_66 : decode cX9_resend 66 = .ok (.ifCond .eq 41, 3) := by decide +kernel
theorem dX9_resend_69 : decode cX9_resend 69 = .ok (.aload_n 0, 1) := by decide +kernel
theorem dX9_resend_70 : decode cX9_resend 70 = .ok (.getfield 134, 3) := by decide +kernel
theorem dX9_resend_73 : decode cX9_resend 73 = .ok (.bipush 60, 2) := by decide +kernel
theorem dX9_resend_75 : decode cX9_resend 75 = .ok (.if_icmp .ge 32, 3) := by decide +kernel
theorem dX9_resend_78 : decode cX9_resend 78 = .ok (.aload_n 0, 1) := by decide +kernel
theorem dX9_resend_79 : decode cX9_resend 79 = .ok (.aload_n 0, 1) := by decide +kernel
theorem dX9_resend_80 : decode cX9_resend 80 = .ok (.iload_n 1, 1) := by decide +kernel
theorem dX9_resend_81 : decode cX9_resend 81 = .ok (.iload 4, 2) := by decide +kernel
theorem dX9_resend_83 : decode cX9_resend 83 = .ok (.iload_n 2, 1) := by decide +kernel
theorem dX9_resend_84 : decode cX9_resend 84 = .ok (.invokevirtual 158, 3) := by decide +kernel
theorem dX9_resend_87 : decode cX9_resend 87 = .ok (.aload_n 0, 1) := by decide +kernel
theorem dX9_resend_88 : decode cX9_resend 88 = .ok (.getfield 134, 3) := by decide +kernel
theorem dX9_resend_91 : decode cX9_resend 91 = .ok (.invokevirtual 173, 3) := by decide +kernel
theorem dX9_resend_94 : decode cX9_resend 94 = .ok (.aload_n 0, 1) := by decide +kernel
theorem dX9_resend_95 : decode cX9_resend 95 = .ok (.dup, 1) := by decide +kernel
theorem dX9_resend_96 : decode cX9_resend 96 = .ok (.getfield 134, 3) := by decide +kernel
theorem dX9_resend_99 : decode cX9_resend 99 = .ok (.iconst 1, 1) := by decide +kernel
theorem dX9_resend_100 : decode cX9_resend 100 = .ok (.iadd, 1) := by decide +kernel
theorem dX9_resend_101 : decode cX9_resend 101 = .ok (.putfield 134, 3) := by decide +kernel
theorem dX9_resend_104 : decode cX9_resend 104 = .ok (.iinc 3 1, 3) := by decide +kernel
theorem dX9_resend_107 : decode cX9_resend 107 = .ok (.iinc 4 1, 3) := by decide +kernel
theorem dX9_resend_110 : decode cX9_resend 110 = .ok (.goto (-63), 3) := by decide +kernel
theorem dX9_resend_113 : decode cX9_resend 113 = .ok (.iload_n 3, 1) := by decide +kernel
theorem dX9_resend_114 : decode cX9_resend 114 = .ok (.ireturn, 1) := by decide +kernel
theorem dX9_forget_0 : decode cX9_forget 0 = .ok (.iconst 0, 1) := by decide +kernel
theorem dX9_forget_1 : decode cX9_forget 1 = .ok (.istore_n 2, 1) := by decide +kernel
theorem dX9_forget_2 : decode cX9_forget 2 = .ok (.iload_n 2, 1) := by decide +kernel
theorem dX9_forget_3 : decode cX9_forget 3 = .ok (.bipush 10, 2) := by decide +kernel
theorem dX9_forget_5 : decode cX9_forget 5 = .ok (.if_icmp .ge 39, 3) := by decide +kernel
theorem dX9_forget_8 : decode cX9_forget 8 = .ok (.aload_n 0, 1) := by decide +kernel
theorem dX9_forget_9 : decode cX9_forget 9 = .ok (.getfield 48, 3) := by decide +kernel
theorem dX9_forget_12 : decode cX9_forget 12 = .ok (.bipush 110, 2) := by decide +kernel
theorem dX9_forget_14 : decode cX9_forget 14 = .ok (.bipush 10, 2) := by decide +kernel
theorem dX9_forget_16 : decode cX9_forget 16 = .ok (.iload_n 1, 1) := by decide +kernel
theorem dX9_forget_17 : decode cX9_forget 17 = .ok (.imul, 1) := by decide +kernel
theorem dX9_forget_18 : decode cX9_forget 18 = .ok (.iadd, 1) := by decide +kernel
theorem dX9_forget_19 : decode cX9_forget 19 = .ok (.iload_n 2, 1) := by decide +kernel
theorem dX9_forget_20 : decode cX9_forget 20 = .ok (.iadd, 1) := by decide +kernel
theorem dX9_forget_21 : decode cX9_forget 21 = .ok (.iconst 0, 1) := by decide +kernel
theorem dX9_forget_22 : decode cX9_forget 22 = .ok (.bastore, 1) := by decide +kernel
theorem dX9_forget_23 : decode cX9_forget 23 = .ok (.aload_n 0, 1) := by decide +kernel
theorem dX9_forget_24 : decode cX9_forget 24 = .ok (.getfield 48, 3) := by decide +kernel
theorem dX9_forget_27 : decode cX9_forget 27 = .ok (.bipush 60, 2) := by decide +kernel
theorem dX9_forget_29 : decode cX9_forget 29 = .ok (.bipush 10, 2) := by decide +kernel
theorem dX9_forget_31 : decode cX9_forget 31 = .ok (.iload_n 1, 1) := by decide +kernel
theorem dX9_forget_32 : decode cX9_forget 32 = .ok (.imul, 1) := by decide +kernel
theorem dX9_forget_33 : decode cX9_forget 33 = .ok (.iadd, 1) := by decide +kernel
theorem dX9_forget_34 : decode cX9_forget 34 = .ok (.iload_n 2, 1) := by decide +kernel
theorem dX9_forget_35 : decode cX9_forget 35 = .ok (.iadd, 1) := by decide +kernel
theorem dX9_forget_36 : decode cX9_forget 36 = .ok (.iconst 0, 1) := by decide +kernel
theorem dX9_forget_37 : decode cX9_forget 37 = .ok (.bastore, 1) := by decide +kernel
theorem dX9_forget_38 : decode cX9_forget 38 = .ok (.iinc 2 1, 3) := by decide +kernel
theorem dX9_forget_41 : decode cX9_forget 41 = .ok (.goto (-39), 3) := by decide +kernel
theorem dX9_forget_44 : decode cX9_forget 44 = .ok (.return_, 1) := by decide +kernel
theorem dX9_crash_0 : decode cX9_crash 0 = .ok (.aload_n 0, 1) := by decide +kernel
theorem dX9_crash_1 : decode cX9_crash 1 = .ok (.iload_n 1, 1) := by decide +kernel
theorem dX9_crash_2 : decode cX9_crash 2 = .ok (.invokevirtual 147, 3) := by decide +kernel
theorem dX9_crash_5 : decode cX9_crash 5 = .ok (.ifCond .ne 5, 3) := by decide +kernel
theorem dX9_crash_8 : decode cX9_crash 8 = .ok (.iconst (-1), 1) := by decide +kernel
theorem dX9_crash_9 : decode cX9_crash 9 = .ok (.ireturn, 1) := by decide +kernel
theorem dX9_crash_10 : decode cX9_crash 10 = .ok (.aload_n 0, 1) := by decide +kernel
theorem dX9_crash_11 : decode cX9_crash 11 = .ok (.getfield 131, 3) := by decide +kernel
theorem dX9_crash_14 : decode cX9_crash 14 = .ok (.ifCond .eq 12, 3) := by decide +kernel
theorem dX9_crash_17 : decode cX9_crash 17 = .ok (.aload_n 0, 1) := by decide +kernel
theorem dX9_crash_18 : decode cX9_crash 18 = .ok (.getfield 45, 3) := by decide +kernel
theorem dX9_crash_21 : decode cX9_crash 21 = .ok (.iload_n 1, 1) := by decide +kernel
theorem dX9_crash_22 : decode cX9_crash 22 = .ok (.baload, 1) := by decide +kernel
theorem dX9_crash_23 : decode cX9_crash 23 = .ok (.ifCond .eq 6, 3) := by decide +kernel
theorem dX9_crash_26 : decode cX9_crash 26 = .ok (.bipush (-2), 2) := by decide +kernel
theorem dX9_crash_28 : decode cX9_crash 28 = .ok (.ireturn, 1) := by decide +kernel
theorem dX9_crash_29 : decode cX9_crash 29 = .ok (.aload_n 0, 1) := by decide +kernel
theorem dX9_crash_30 : decode cX9_crash 30 = .ok (.getfield 45, 3) := by decide +kernel
theorem dX9_crash_33 : decode cX9_crash 33 = .ok (.iload_n 1, 1) := by decide +kernel
theorem dX9_crash_34 : decode cX9_crash 34 = .ok (.iconst 1, 1) := by decide +kernel
theorem dX9_crash_35 : decode cX9_crash 35 = .ok (.bastore, 1) := by decide +kernel
theorem dX9_crash_36 : decode cX9_crash 36 = .ok (.aload_n 0, 1) := by decide +kernel
theorem dX9_crash_37 : decode cX9_crash 37 = .ok (.getfield 42, 3) := by decide +kernel
theorem dX9_crash_40 : decode cX9_crash 40 = .ok (.iload_n 1, 1) := by decide +kernel
theorem dX9_crash_41 : decode cX9_crash 41 = .ok (.iconst 0, 1) := by decide +kernel
theorem dX9_crash_42 : decode cX9_crash 42 = .ok (.bastore, 1) := by decide +kernel
theorem dX9_crash_43 : decode cX9_crash 43 = .ok (.aload_n 0, 1) := by decide +kernel
theorem dX9_crash_44 : decode cX9_crash 44 = .ok (.iload_n 1, 1) := by decide +kernel
theorem dX9_crash_45 : decode cX9_crash 45 = .ok (.invokevirtual 222, 3) := by decide +kernel
theorem dX9_crash_48 : decode cX9_crash 48 = .ok (.iconst 1, 1) := by decide +kernel
theorem dX9_crash_49 : decode cX9_crash 49 = .ok (.ireturn, 1) := by decide +kernel
theorem dX9_hasMark_0 : decode cX9_hasMark 0 = .ok (.aload_n 0, 1) := by decide +kernel
theorem dX9_hasMark_1 : decode cX9_hasMark 1 = .ok (.getfield 78, 3) := by decide +kernel
theorem dX9_hasMark_4 : decode cX9_hasMark 4 = .ok (.iconst 2, 1) := by decide +kernel
theorem dX9_hasMark_5 : decode cX9_hasMark 5 = .ok (.iload_n 1, 1) := by decide +kernel
theorem dX9_hasMark_6 : decode cX9_hasMark 6 = .ok (.imul, 1) := by decide +kernel
theorem dX9_hasMark_7 : decode cX9_hasMark 7 = .ok (.iaload, 1) := by decide +kernel
theorem dX9_hasMark_8 : decode cX9_hasMark 8 = .ok (.iload_n 2, 1) := by decide +kernel
theorem dX9_hasMark_9 : decode cX9_hasMark 9 = .ok (.if_icmp .eq 17, 3) := by decide +kernel
theorem dX9_hasMark_12 : decode cX9_hasMark 12 = .ok (.aload_n 0, 1) := by decide +kernel
theorem dX9_hasMark_13 : decode cX9_hasMark 13 = .ok (.getfield 78, 3) := by decide +kernel
theorem dX9_hasMark_16 : decode cX9_hasMark 16 = .ok (.iconst 2, 1) := by decide +kernel
theorem dX9_hasMark_17 : decode cX9_hasMark 17 = .ok (.iload_n 1, 1) := by decide +kernel
theorem dX9_hasMark_18 : decode cX9_hasMark 18 = .ok (.imul, 1) := by decide +kernel
theorem dX9_hasMark_19 : decode cX9_hasMark 19 = .ok (.iconst 1, 1) := by decide +kernel
theorem dX9_hasMark_20 : decode cX9_hasMark 20 = .ok (.iadd, 1) := by decide +kernel
theorem dX9_hasMark_21 : decode cX9_hasMark 21 = .ok (.iaload, 1) := by decide +kernel
theorem dX9_hasMark_22 : decode cX9_hasMark 22 = .ok (.iload_n 2, 1) := by decide +kernel
theorem dX9_hasMark_23 : decode cX9_hasMark 23 = .ok (.if_icmp .ne 7, 3) := by decide +kernel
theorem dX9_hasMark_26 : decode cX9_hasMark 26 = .ok (.iconst 1, 1) := by decide +kernel
theorem dX9_hasMark_27 : decode cX9_hasMark 27 = .ok (.goto 4, 3) := by decide +kernel
theorem dX9_hasMark_30 : decode cX9_hasMark 30 = .ok (.iconst 0, 1) := by decide +kernel
theorem dX9_hasMark_31 : decode cX9_hasMark 31 = .ok (.ireturn, 1) := by decide +kernel
theorem dX9_isMarked_0 : decode cX9_isMarked 0 = .ok (.iload_n 1, 1) := by decide +kernel
theorem dX9_isMarked_1 : decode cX9_isMarked 1 = .ok (.ifCond .lt 7, 3) := by decide +kernel
theorem dX9_isMarked_4 : decode cX9_isMarked 4 = .ok (.iconst 1, 1) := by decide +kernel
theorem dX9_isMarked_5 : decode cX9_isMarked 5 = .ok (.goto 4, 3) := by decide +kernel
theorem dX9_isMarked_8 : decode cX9_isMarked 8 = .ok (.iconst 0, 1) := by decide +kernel
theorem dX9_isMarked_9 : decode cX9_isMarked 9 = .ok (.istore_n 2, 1) := by decide +kernel
theorem dX9_isMarked_10 : decode cX9_isMarked 10 = .ok (.iconst 0, 1) := by decide +kernel
theorem dX9_isMarked_11 : decode cX9_isMarked 11 = .ok (.istore_n 3, 1) := by decide +kernel
theorem dX9_isMarked_12 : decode cX9_isMarked 12 = .ok (.iload_n 3, 1) := by decide +kernel
theorem dX9_isMarked_13 : decode cX9_isMarked 13 = .ok (.aload_n 0, 1) := by decide +kernel
theorem dX9_isMarked_14 : decode cX9_isMarked 14 = .ok (.getfield 7, 3) := by decide +kernel
theorem dX9_isMarked_17 : decode cX9_isMarked 17 = .ok (.if_icmp .ge 28, 3) := by decide +kernel
theorem dX9_isMarked_20 : decode cX9_isMarked 20 = .ok (.iload_n 2, 1) := by decide +kernel
theorem dX9_isMarked_21 : decode cX9_isMarked 21 = .ok (.ifCond .eq 16, 3) := by decide +kernel
theorem dX9_isMarked_24 : decode cX9_isMarked 24 = .ok (.aload_n 0, 1) := by decide +kernel
theorem dX9_isMarked_25 : decode cX9_isMarked 25 = .ok (.iload_n 3, 1) := by decide +kernel
theorem dX9_isMarked_26 : decode cX9_isMarked 26 = .ok (.iload_n 1, 1) := by decide +kernel
theorem dX9_isMarked_27 : decode cX9_isMarked 27 = .ok (.invokevirtual 225, 3) := by decide +kernel
theorem dX9_isMarked_30 : decode cX9_isMarked 30 = .ok (.ifCond .eq 7, 3) := by decide +kernel
theorem dX9_isMarked_33 : decode cX9_isMarked 33 = .ok (.iconst 1, 1) := by decide +kernel
theorem dX9_isMarked_34 : decode cX9_isMarked 34 = .ok (.goto 4, 3) := by decide +kernel
theorem dX9_isMarked_37 : decode cX9_isMarked 37 = .ok (.iconst 0, 1) := by decide +kernel
theorem dX9_isMarked_38 : decode cX9_isMarked 38 = .ok (.istore_n 2, 1) := by decide +kernel
theorem dX9_isMarked_39 : decode cX9_isMarked 39 = .ok (.iinc 3 1, 3) := by decide +kernel
theorem dX9_isMarked_42 : decode cX9_isMarked 42 = .ok (.goto (-30), 3) := by decide +kernel
theorem dX9_isMarked_45 : decode cX9_isMarked 45 = .ok (.iload_n 2, 1) := by decide +kernel
theorem dX9_isMarked_46 : decode cX9_isMarked 46 = .ok (.ireturn, 1) := by decide +kernel
theorem dX9_goBack_0 : decode cX9_goBack 0 = .ok (.aload_n 0, 1) := by decide +kernel
theorem dX9_goBack_1 : decode cX9_goBack 1 = .ok (.getfield 78, 3) := by decide +kernel
theorem dX9_goBack_4 : decode cX9_goBack 4 = .ok (.iconst 2, 1) := by decide +kernel
theorem dX9_goBack_5 : decode cX9_goBack 5 = .ok (.iload_n 1, 1) := by decide +kernel
theorem dX9_goBack_6 : decode cX9_goBack 6 = .ok (.imul, 1) := by decide +kernel
theorem dX9_goBack_7 : decode cX9_goBack 7 = .ok (.iconst 1, 1) := by decide +kernel
theorem dX9_goBack_8 : decode cX9_goBack 8 = .ok (.iadd, 1) := by decide +kernel
theorem dX9_goBack_9 : decode cX9_goBack 9 = .ok (.iaload, 1) := by decide +kernel
theorem dX9_goBack_10 : decode cX9_goBack 10 = .ok (.iload_n 2, 1) := by decide +kernel
theorem dX9_goBack_11 : decode cX9_goBack 11 = .ok (.if_icmp .eq 50, 3) := by decide +kernel
theorem dX9_goBack_14 : decode cX9_goBack 14 = .ok (.aload_n 0, 1) := by decide +kernel
theorem dX9_goBack_15 : decode cX9_goBack 15 = .ok (.getfield 78, 3) := by decide +kernel
theorem dX9_goBack_18 : decode cX9_goBack 18 = .ok (.iconst 2, 1) := by decide +kernel
theorem dX9_goBack_19 : decode cX9_goBack 19 = .ok (.iload_n 1, 1) := by decide +kernel
theorem dX9_goBack_20 : decode cX9_goBack 20 = .ok (.imul, 1) := by decide +kernel
theorem dX9_goBack_21 : decode cX9_goBack 21 = .ok (.iconst 1, 1) := by decide +kernel
theorem dX9_goBack_22 : decode cX9_goBack 22 = .ok (.iadd, 1) := by decide +kernel
theorem dX9_goBack_23 : decode cX9_goBack 23 = .ok (.iload_n 2, 1) := by decide +kernel
theorem dX9_goBack_24 : decode cX9_goBack 24 = .ok (.iastore, 1) := by decide +kernel
theorem dX9_goBack_25 : decode cX9_goBack 25 = .ok (.aload_n 0, 1) := by decide +kernel
theorem dX9_goBack_26 : decode cX9_goBack 26 = .ok (.getfield 78, 3) := by decide +kernel
theorem dX9_goBack_29 : decode cX9_goBack 29 = .ok (.iconst 2, 1) := by decide +kernel
theorem dX9_goBack_30 : decode cX9_goBack 30 = .ok (.iload_n 1, 1) := by decide +kernel
theorem dX9_goBack_31 : decode cX9_goBack 31 = .ok (.imul, 1) := by decide +kernel
theorem dX9_goBack_32 : decode cX9_goBack 32 = .ok (.iconst (-1), 1) := by decide +kernel
theorem dX9_goBack_33 : decode cX9_goBack 33 = .ok (.iastore, 1) := by decide +kernel
theorem dX9_goBack_34 : decode cX9_goBack 34 = .ok (.iconst 0, 1) := by decide +kernel
theorem dX9_goBack_35 : decode cX9_goBack 35 = .ok (.istore_n 3, 1) := by decide +kernel
theorem dX9_goBack_36 : decode cX9_goBack 36 = .ok (.iload_n 3, 1) := by decide +kernel
theorem dX9_goBack_37 : decode cX9_goBack 37 = .ok (.bipush 16, 2) := by decide +kernel
theorem dX9_goBack_39 : decode cX9_goBack 39 = .ok (.if_icmp .ge 22, 3) := by decide +kernel
theorem dX9_goBack_42 : decode cX9_goBack 42 = .ok (.aload_n 0, 1) := by decide +kernel
theorem dX9_goBack_43 : decode cX9_goBack 43 = .ok (.iconst 2, 1) := by decide +kernel
theorem dX9_goBack_44 : decode cX9_goBack 44 = .ok (.iload_n 1, 1) := by decide +kernel
theorem dX9_goBack_45 : decode cX9_goBack 45 = .ok (.imul, 1) := by decide +kernel
theorem dX9_goBack_46 : decode cX9_goBack 46 = .ok (.iconst 2, 1) := by decide +kernel
end
section
theorem dX9_goBack_47 : decode cX9_goBack 47 = .ok (.iload_n 1, 1) := by decide +kernel
theorem dX9_goBack_48 : decode cX9_goBack 48 = .ok (.imul, 1) := by decide +kernel
theorem dX9_goBack_49 : decode cX9_goBack 49 = .ok (.iconst 1, 1) := by decide +kernel
theorem dX9_goBack_50 : decode cX9_goBack 50 = .ok (.iadd, 1) := by decide +kernel
theorem dX9_goBack_51 : decode cX9_goBack 51 = .ok (.iload_n 3, 1) := by decide +kernel
theorem dX9_goBack_52 : decode cX9_goBack 52 = .ok (.invokevirtual 177, 3) := by decide +kernel
theorem dX9_goBack_55 : decode cX9_goBack 55 = .ok (.iinc 3 1, 3) := by decide +kernel
theorem dX9_goBack_58 : decode cX9_goBack 58 = .ok (.goto (-22), 3) := by decide +kernel
theorem dX9_goBack_61 : decode cX9_goBack 61 = .ok (.iconst 0, 1) := by decide +kernel
theorem dX9_goBack_62 : decode cX9_goBack 62 = .ok (.istore_n 3, 1) := by decide +kernel
theorem dX9_goBack_63 : decode cX9_goBack 63 = .ok (.iload_n 3, 1) := by decide +kernel
theorem dX9_goBack_64 : decode cX9_goBack 64 = .ok (.aload_n 0, 1) := by decide +kernel
theorem dX9_goBack_65 : decode cX9_goBack 65 = .ok (.getfield 115, 3) := by decide +kernel
theorem dX9_goBack_68 : decode cX9_goBack 68 = .ok (.if_icmp .ge 70, 3) := by decide +kernel
theorem dX9_goBack_71 : decode cX9_goBack 71 = .ok (.aload_n 0, 1) := by decide +kernel
theorem dX9_goBack_72 : decode cX9_goBack 72 = .ok (.getfield 27, 3) := by decide +kernel
theorem dX9_goBack_75 : decode cX9_goBack 75 = .ok (.iload_n 3, 1) := by decide +kernel
theorem dX9_goBack_76 : decode cX9_goBack 76 = .ok (.iaload, 1) := by decide +kernel
theorem dX9_goBack_77 : decode cX9_goBack 77 = .ok (.iload_n 1, 1) := by decide +kernel
theorem dX9_goBack_78 : decode cX9_goBack 78 = .ok (.if_icmp .ne 54, 3) := by decide +kernel
theorem dX9_goBack_81 : decode cX9_goBack 81 = .ok (.bipush 16, 2) := by decide +kernel
theorem dX9_goBack_83 : decode cX9_goBack 83 = .ok (.iconst 2, 1) := by decide +kernel
theorem dX9_goBack_84 : decode cX9_goBack 84 = .ok (.iload_n 1, 1) := by decide +kernel
theorem dX9_goBack_85 : decode cX9_goBack 85 = .ok (.imul, 1) := by decide +kernel
theorem dX9_goBack_86 : decode cX9_goBack 86 = .ok (.iconst 1, 1) := by decide +kernel
theorem dX9_goBack_87 : decode cX9_goBack 87 = .ok (.iadd, 1) := by decide +kernel
theorem dX9_goBack_88 : decode cX9_goBack 88 = .ok (.imul, 1) := by decide +kernel
theorem dX9_goBack_89 : decode cX9_goBack 89 = .ok (.iload_n 3, 1) := by decide +kernel
theorem dX9_goBack_90 : decode cX9_goBack 90 = .ok (.iadd, 1) := by decide +kernel
theorem dX9_goBack_91 : decode cX9_goBack 91 = .ok (.istore 4, 2) := by decide +kernel
theorem dX9_goBack_93 : decode cX9_goBack 93 = .ok (.aload_n 0, 1) := by decide +kernel
theorem dX9_goBack_94 : decode cX9_goBack 94 = .ok (.getfield 17, 3) := by decide +kernel
theorem dX9_goBack_97 : decode cX9_goBack 97 = .ok (.iload_n 3, 1) := by decide +kernel
theorem dX9_goBack_98 : decode cX9_goBack 98 = .ok (.aload_n 0, 1) := by decide +kernel
theorem dX9_goBack_99 : decode cX9_goBack 99 = .ok (.getfield 81, 3) := by decide +kernel
theorem dX9_goBack_102 : decode cX9_goBack 102 = .ok (.iload 4, 2) := by decide +kernel
theorem dX9_goBack_104 : decode cX9_goBack 104 = .ok (.iaload, 1) := by decide +kernel
theorem dX9_goBack_105 : decode cX9_goBack 105 = .ok (.iastore, 1) := by decide +kernel
theorem dX9_goBack_106 : decode cX9_goBack 106 = .ok (.aload_n 0, 1) := by decide +kernel
theorem dX9_goBack_107 : decode cX9_goBack 107 = .ok (.getfield 20, 3) := by decide +kernel
theorem dX9_goBack_110 : decode cX9_goBack 110 = .ok (.iload_n 3, 1) := by decide +kernel
theorem dX9_goBack_111 : decode cX9_goBack 111 = .ok (.aload_n 0, 1) := by decide +kernel
theorem dX9_goBack_112 : decode cX9_goBack 112 = .ok (.getfield 84, 3) := by decide +kernel
theorem dX9_goBack_115 : decode cX9_goBack 115 = .ok (.iload 4, 2) := by decide +kernel
theorem dX9_goBack_117 : decode cX9_goBack 117 = .ok (.iaload, 1) := by decide +kernel
theorem dX9_goBack_118 : decode cX9_goBack 118 = .ok (.iastore, 1) := by decide +kernel
theorem dX9_goBack_119 : decode cX9_goBack 119 = .ok (.aload_n 0, 1) := by decide +kernel
theorem dX9_goBack_120 : decode cX9_goBack 120 = .ok (.getfield 23, 3) := by decide +kernel
theorem dX9_goBack_123 : decode cX9_goBack 123 = .ok (.iload_n 3, 1) := by decide +kernel
theorem dX9_goBack_124 : decode cX9_goBack 124 = .ok (.aload_n 0, 1) := by decide +kernel
theorem dX9_goBack_125 : decode cX9_goBack 125 = .ok (.getfield 87, 3) := by decide +kernel
theorem dX9_goBack_128 : decode cX9_goBack 128 = .ok (.iload 4, 2) := by decide +kernel
theorem dX9_goBack_130 : decode cX9_goBack 130 = .ok (.baload, 1) := by decide +kernel
theorem dX9_goBack_131 : decode cX9_goBack 131 = .ok (.bastore, 1) := by decide +kernel
theorem dX9_goBack_132 : decode cX9_goBack 132 = .ok (.iinc 3 1, 3) := by decide +kernel
theorem dX9_goBack_135 : decode cX9_goBack 135 = .ok (.goto (-72), 3) := by decide +kernel
theorem dX9_goBack_138 : decode cX9_goBack 138 = .ok (.aload_n 0, 1) := by decide +kernel
theorem dX9_goBack_139 : decode cX9_goBack 139 = .ok (.getfield 39, 3) := by decide +kernel
theorem dX9_goBack_142 : decode cX9_goBack 142 = .ok (.iload_n 1, 1) := by decide +kernel
theorem dX9_goBack_143 : decode cX9_goBack 143 = .ok (.iload_n 2, 1) := by decide +kernel
theorem dX9_goBack_144 : decode cX9_goBack 144 = .ok (.iastore, 1) := by decide +kernel
theorem dX9_goBack_145 : decode cX9_goBack 145 = .ok (.aload_n 0, 1) := by decide +kernel
theorem dX9_goBack_146 : decode cX9_goBack 146 = .ok (.getfield 45, 3) := by decide +kernel
theorem dX9_goBack_149 : decode cX9_goBack 149 = .ok (.iload_n 1, 1) := by decide +kernel
theorem dX9_goBack_150 : decode cX9_goBack 150 = .ok (.iconst 0, 1) := by decide +kernel
theorem dX9_goBack_151 : decode cX9_goBack 151 = .ok (.bastore, 1) := by decide +kernel
theorem dX9_goBack_152 : decode cX9_goBack 152 = .ok (.aload_n 0, 1) := by decide +kernel
theorem dX9_goBack_153 : decode cX9_goBack 153 = .ok (.getfield 42, 3) := by decide +kernel
theorem dX9_goBack_156 : decode cX9_goBack 156 = .ok (.iload_n 1, 1) := by decide +kernel
theorem dX9_goBack_157 : decode cX9_goBack 157 = .ok (.iconst 0, 1) := by decide +kernel
theorem dX9_goBack_158 : decode cX9_goBack 158 = .ok (.bastore, 1) := by decide +kernel
theorem dX9_goBack_159 : decode cX9_goBack 159 = .ok (.aload_n 0, 1) := by decide +kernel
theorem dX9_goBack_160 : decode cX9_goBack 160 = .ok (.iload_n 1, 1) := by decide +kernel
theorem dX9_goBack_161 : decode cX9_goBack 161 = .ok (.invokevirtual 222, 3) := by decide +kernel
theorem dX9_goBack_164 : decode cX9_goBack 164 = .ok (.return_, 1) := by decide +kernel
theorem dX9_back_0 : decode cX9_back 0 = .ok (.iconst 0, 1) := by decide +kernel
theorem dX9_back_1 : decode cX9_back 1 = .ok (.istore_n 1, 1) := by decide +kernel
theorem dX9_back_2 : decode cX9_back 2 = .ok (.iconst 0, 1) := by decide +kernel
theorem dX9_back_3 : decode cX9_back 3 = .ok (.istore_n 2, 1) := by decide +kernel
theorem dX9_back_4 : decode cX9_back 4 = .ok (.iload_n 2, 1) := by decide +kernel
theorem dX9_back_5 : decode cX9_back 5 = .ok (.aload_n 0, 1) := by decide +kernel
theorem dX9_back_6 : decode cX9_back 6 = .ok (.getfield 7, 3) := by decide +kernel
theorem dX9_back_9 : decode cX9_back 9 = .ok (.if_icmp .ge 28, 3) := by decide +kernel
theorem dX9_back_12 : decode cX9_back 12 = .ok (.iload_n 1, 1) := by decide +kernel
theorem dX9_back_13 : decode cX9_back 13 = .ok (.ifCond .ne 12, 3) := by decide +kernel
theorem dX9_back_16 : decode cX9_back 16 = .ok (.aload_n 0, 1) := by decide +kernel
theorem dX9_back_17 : decode cX9_back 17 = .ok (.getfield 45, 3) := by decide +kernel
theorem dX9_back_20 : decode cX9_back 20 = .ok (.iload_n 2, 1) := by decide +kernel
theorem dX9_back_21 : decode cX9_back 21 = .ok (.baload, 1) := by decide +kernel
theorem dX9_back_22 : decode cX9_back 22 = .ok (.ifCond .eq 7, 3) := by decide +kernel
theorem dX9_back_25 : decode cX9_back 25 = .ok (.iconst 1, 1) := by decide +kernel
theorem dX9_back_26 : decode cX9_back 26 = .ok (.goto 4, 3) := by decide +kernel
theorem dX9_back_29 : decode cX9_back 29 = .ok (.iconst 0, 1) := by decide +kernel
theorem dX9_back_30 : decode cX9_back 30 = .ok (.istore_n 1, 1) := by decide +kernel
theorem dX9_back_31 : decode cX9_back 31 = .ok (.iinc 2 1, 3) := by decide +kernel
theorem dX9_back_34 : decode cX9_back 34 = .ok (.goto (-30), 3) := by decide +kernel
theorem dX9_back_37 : decode cX9_back 37 = .ok (.aload_n 0, 1) := by decide +kernel
theorem dX9_back_38 : decode cX9_back 38 = .ok (.getfield 131, 3) := by decide +kernel
theorem dX9_back_41 : decode cX9_back 41 = .ok (.ifCond .eq 7, 3) := by decide +kernel
theorem dX9_back_44 : decode cX9_back 44 = .ok (.iload_n 1, 1) := by decide +kernel
theorem dX9_back_45 : decode cX9_back 45 = .ok (.ifCond .ne 6, 3) := by decide +kernel
theorem dX9_back_48 : decode cX9_back 48 = .ok (.bipush (-2), 2) := by decide +kernel
theorem dX9_back_50 : decode cX9_back 50 = .ok (.ireturn, 1) := by decide +kernel
theorem dX9_back_51 : decode cX9_back 51 = .ok (.aload_n 0, 1) := by decide +kernel
theorem dX9_back_52 : decode cX9_back 52 = .ok (.aload_n 0, 1) := by decide +kernel
theorem dX9_back_53 : decode cX9_back 53 = .ok (.getfield 78, 3) := by decide +kernel
theorem dX9_back_56 : decode cX9_back 56 = .ok (.iconst 1, 1) := by decide +kernel
theorem dX9_back_57 : decode cX9_back 57 = .ok (.iaload, 1) := by decide +kernel
theorem dX9_back_58 : decode cX9_back 58 = .ok (.invokevirtual 229, 3) := by decide +kernel
theorem dX9_back_61 : decode cX9_back 61 = .ok (.ifCond .eq 12, 3) := by decide +kernel
theorem dX9_back_64 : decode cX9_back 64 = .ok (.aload_n 0, 1) := by decide +kernel
theorem dX9_back_65 : decode cX9_back 65 = .ok (.getfield 78, 3) := by decide +kernel
theorem dX9_back_68 : decode cX9_back 68 = .ok (.iconst 1, 1) := by decide +kernel
theorem dX9_back_69 : decode cX9_back 69 = .ok (.iaload, 1) := by decide +kernel
theorem dX9_back_70 : decode cX9_back 70 = .ok (.goto 9, 3) := by decide +kernel
theorem dX9_back_73 : decode cX9_back 73 = .ok (.aload_n 0, 1) := by decide +kernel
theorem dX9_back_74 : decode cX9_back 74 = .ok (.getfield 78, 3) := by decide +kernel
theorem dX9_back_77 : decode cX9_back 77 = .ok (.iconst 0, 1) := by decide +kernel
theorem dX9_back_78 : decode cX9_back 78 = .ok (.iaload, 1) := by decide +kernel
theorem dX9_back_79 : decode cX9_back 79 = .ok (.istore_n 2, 1) := by decide +kernel
theorem dX9_back_80 : decode cX9_back 80 = .ok (.aload_n 0, 1) := by decide +kernel
theorem dX9_back_81 : decode cX9_back 81 = .ok (.dup, 1) := by decide +kernel
theorem dX9_back_82 : decode cX9_back 82 = .ok (.getfield 137, 3) := by decide +kernel
theorem dX9_back_85 : decode cX9_back 85 = .ok (.iconst 1, 1) := by decide +kernel
theorem dX9_back_86 : decode cX9_back 86 = .ok (.iadd, 1) := by decide +kernel
theorem dX9_back_87 : decode cX9_back 87 = .ok (.putfield 137, 3) := by decide +kernel
theorem dX9_back_90 : decode cX9_back 90 = .ok (.iconst 0, 1) := by decide +kernel
theorem dX9_back_91 : decode cX9_back 91 = .ok (.istore_n 3, 1) := by decide +kernel
theorem dX9_back_92 : decode cX9_back 92 = .ok (.iload_n 3, 1) := by decide +kernel
theorem dX9_back_93 : decode cX9_back 93 = .ok (.aload_n 0, 1) := by decide +kernel
theorem dX9_back_94 : decode cX9_back 94 = .ok (.getfield 7, 3) := by decide +kernel
theorem dX9_back_97 : decode cX9_back 97 = .ok (.if_icmp .ge 15, 3) := by decide +kernel
theorem dX9_back_100 : decode cX9_back 100 = .ok (.aload_n 0, 1) := by decide +kernel
theorem dX9_back_101 : decode cX9_back 101 = .ok (.iload_n 3, 1) := by decide +kernel
theorem dX9_back_102 : decode cX9_back 102 = .ok (.iload_n 2, 1) := by decide +kernel
theorem dX9_back_103 : decode cX9_back 103 = .ok (.invokevirtual 232, 3) := by decide +kernel
theorem dX9_back_106 : decode cX9_back 106 = .ok (.iinc 3 1, 3) := by decide +kernel
theorem dX9_back_109 : decode cX9_back 109 = .ok (.goto (-17), 3) := by decide +kernel
theorem dX9_back_112 : decode cX9_back 112 = .ok (.iconst 0, 1) := by decide +kernel
theorem dX9_back_113 : decode cX9_back 113 = .ok (.istore_n 3, 1) := by decide +kernel
theorem dX9_back_114 : decode cX9_back 114 = .ok (.iload_n 3, 1) := by decide +kernel
theorem dX9_back_115 : decode cX9_back 115 = .ok (.aload_n 0, 1) := by decide +kernel
theorem dX9_back_116 : decode cX9_back 116 = .ok (.getfield 7, 3) := by decide +kernel
theorem dX9_back_119 : decode cX9_back 119 = .ok (.if_icmp .ge 14, 3) := by decide +kernel
theorem dX9_back_122 : decode cX9_back 122 = .ok (.aload_n 0, 1) := by decide +kernel
theorem dX9_back_123 : decode cX9_back 123 = .ok (.iload_n 3, 1) := by decide +kernel
theorem dX9_back_124 : decode cX9_back 124 = .ok (.invokevirtual 187, 3) := by decide +kernel
theorem dX9_back_127 : decode cX9_back 127 = .ok (.iinc 3 1, 3) := by decide +kernel
theorem dX9_back_130 : decode cX9_back 130 = .ok (.goto (-16), 3) := by decide +kernel
theorem dX9_back_133 : decode cX9_back 133 = .ok (.iload_n 2, 1) := by decide +kernel
theorem dX9_back_134 : decode cX9_back 134 = .ok (.ireturn, 1) := by decide +kernel
theorem dX9_move_0 : decode cX9_move 0 = .ok (.aload_n 0, 1) := by decide +kernel
theorem dX9_move_1 : decode cX9_move 1 = .ok (.iload_n 1, 1) := by decide +kernel
theorem dX9_move_2 : decode cX9_move 2 = .ok (.invokevirtual 151, 3) := by decide +kernel
theorem dX9_move_5 : decode cX9_move 5 = .ok (.ifCond .eq 11, 3) := by decide +kernel
theorem dX9_move_8 : decode cX9_move 8 = .ok (.aload_n 0, 1) := by decide +kernel
theorem dX9_move_9 : decode cX9_move 9 = .ok (.iload_n 2, 1) := by decide +kernel
theorem dX9_move_10 : decode cX9_move 10 = .ok (.invokevirtual 147, 3) := by decide +kernel
theorem dX9_move_13 : decode cX9_move 13 = .ok (.ifCond .ne 5, 3) := by decide +kernel
theorem dX9_move_16 : decode cX9_move 16 = .ok (.iconst (-1), 1) := by decide +kernel
theorem dX9_move_17 : decode cX9_move 17 = .ok (.ireturn, 1) := by decide +kernel
theorem dX9_move_18 : decode cX9_move 18 = .ok (.aload_n 0, 1) := by decide +kernel
theorem dX9_move_19 : decode cX9_move 19 = .ok (.getfield 131, 3) := by decide +kernel
theorem dX9_move_22 : decode cX9_move 22 = .ok (.istore_n 3, 1) := by decide +kernel
theorem dX9_move_23 : decode cX9_move 23 = .ok (.iconst 0, 1) := by decide +kernel
theorem dX9_move_24 : decode cX9_move 24 = .ok (.istore 4, 2) := by decide +kernel
theorem dX9_move_26 : decode cX9_move 26 = .ok (.iload 4, 2) := by decide +kernel
theorem dX9_move_28 : decode cX9_move 28 = .ok (.aload_n 0, 1) := by decide +kernel
theorem dX9_move_29 : decode cX9_move 29 = .ok (.getfield 7, 3) := by decide +kernel
theorem dX9_move_32 : decode cX9_move 32 = .ok (.if_icmp .ge 55, 3) := by decide +kernel
theorem dX9_move_35 : decode cX9_move 35 = .ok (.iload_n 3, 1) := by decide +kernel
theorem dX9_move_36 : decode cX9_move 36 = .ok (.ifCond .eq 43, 3) := by decide +kernel
theorem dX9_move_39 : decode cX9_move 39 = .ok (.aload_n 0, 1) := by decide +kernel
theorem dX9_move_40 : decode cX9_move 40 = .ok (.getfield 45, 3) := by decide +kernel
theorem dX9_move_43 : decode cX9_move 43 = .ok (.iload 4, 2) := by decide +kernel
theorem dX9_move_45 : decode cX9_move 45 = .ok (.baload, 1) := by decide +kernel
theorem dX9_move_46 : decode cX9_move 46 = .ok (.ifCond .ne 33, 3) := by decide +kernel
theorem dX9_move_49 : decode cX9_move 49 = .ok (.aload_n 0, 1) := by decide +kernel
theorem dX9_move_50 : decode cX9_move 50 = .ok (.getfield 42, 3) := by decide +kernel
theorem dX9_move_53 : decode cX9_move 53 = .ok (.iload 4, 2) := by decide +kernel
theorem dX9_move_55 : decode cX9_move 55 = .ok (.baload, 1) := by decide +kernel
theorem dX9_move_56 : decode cX9_move 56 = .ok (.ifCond .ne 23, 3) := by decide +kernel
theorem dX9_move_59 : decode cX9_move 59 = .ok (.aload_n 0, 1) := by decide +kernel
theorem dX9_move_60 : decode cX9_move 60 = .ok (.getfield 39, 3) := by decide +kernel
theorem dX9_move_63 : decode cX9_move 63 = .ok (.iload 4, 2) := by decide +kernel
theorem dX9_move_65 : decode cX9_move 65 = .ok (.iaload, 1) := by decide +kernel
theorem dX9_move_66 : decode cX9_move 66 = .ok (.aload_n 0, 1) := by decide +kernel
theorem dX9_move_67 : decode cX9_move 67 = .ok (.getfield 39, 3) := by decide +kernel
theorem dX9_move_70 : decode cX9_move 70 = .ok (.iconst 0, 1) := by decide +kernel
theorem dX9_move_71 : decode cX9_move 71 = .ok (.iaload, 1) := by decide +kernel
theorem dX9_move_72 : decode cX9_move 72 = .ok (.if_icmp .ne 7, 3) := by decide +kernel
theorem dX9_move_75 : decode cX9_move 75 = .ok (.iconst 1, 1) := by decide +kernel
theorem dX9_move_76 : decode cX9_move 76 = .ok (.goto 4, 3) := by decide +kernel
theorem dX9_move_79 : decode cX9_move 79 = .ok (.iconst 0, 1) := by decide +kernel
theorem dX9_move_80 : decode cX9_move 80 = .ok (.istore_n 3, 1) := by decide +kernel
theorem dX9_move_81 : decode cX9_move 81 = .ok (.iinc 4 1, 3) := by decide +kernel
theorem dX9_move_84 : decode cX9_move 84 = .ok (.goto (-58), 3) := by decide +kernel
theorem dX9_move_87 : decode cX9_move 87 = .ok (.iload_n 3, 1) := by decide +kernel
theorem dX9_move_88 : decode cX9_move 88 = .ok (.ifCond .ne 6, 3) := by decide +kernel
theorem dX9_move_91 : decode cX9_move 91 = .ok (.bipush (-2), 2) := by decide +kernel
theorem dX9_move_93 : decode cX9_move 93 = .ok (.ireturn, 1) := by decide +kernel
theorem dX9_move_94 : decode cX9_move 94 = .ok (.aload_n 0, 1) := by decide +kernel
theorem dX9_move_95 : decode cX9_move 95 = .ok (.getfield 27, 3) := by decide +kernel
theorem dX9_move_98 : decode cX9_move 98 = .ok (.iload_n 1, 1) := by decide +kernel
theorem dX9_move_99 : decode cX9_move 99 = .ok (.iaload, 1) := by decide +kernel
theorem dX9_move_100 : decode cX9_move 100 = .ok (.istore 4, 2) := by decide +kernel
theorem dX9_move_102 : decode cX9_move 102 = .ok (.aload_n 0, 1) := by decide +kernel
theorem dX9_move_103 : decode cX9_move 103 = .ok (.getfield 27, 3) := by decide +kernel
theorem dX9_move_106 : decode cX9_move 106 = .ok (.iload_n 1, 1) := by decide +kernel
theorem dX9_move_107 : decode cX9_move 107 = .ok (.iload_n 2, 1) := by decide +kernel
theorem dX9_move_108 : decode cX9_move 108 = .ok (.iastore, 1) := by decide +kernel
theorem dX9_move_109 : decode cX9_move 109 = .ok (.aload_n 0, 1) := by decide +kernel
theorem dX9_move_110 : decode cX9_move 110 = .ok (.dup, 1) := by decide +kernel
theorem dX9_move_111 : decode cX9_move 111 = .ok (.getfield 137, 3) := by decide +kernel
theorem dX9_move_114 : decode cX9_move 114 = .ok (.iconst 1, 1) := by decide +kernel
theorem dX9_move_115 : decode cX9_move 115 = .ok (.iadd, 1) := by decide +kernel
theorem dX9_move_116 : decode cX9_move 116 = .ok (.putfield 137, 3) := by decide +kernel
theorem dX9_move_119 : decode cX9_move 119 = .ok (.iconst 0, 1) := by decide +kernel
theorem dX9_move_120 : decode cX9_move 120 = .ok (.istore 5, 2) := by decide +kernel
theorem dX9_move_122 : decode cX9_move 122 = .ok (.iload 5, 2) := by decide +kernel
theorem dX9_move_124 : decode cX9_move 124 = .ok (.aload_n 0, 1) := by decide +kernel
theorem dX9_move_125 : decode cX9_move 125 = .ok (.getfield 7, 3) := by decide +kernel
theorem dX9_move_128 : decode cX9_move 128 = .ok (.if_icmp .ge 31, 3) := by decide +kernel
theorem dX9_move_131 : decode cX9_move 131 = .ok (.aload_n 0, 1) := by decide +kernel
theorem dX9_move_132 : decode cX9_move 132 = .ok (.iload 5, 2) := by decide +kernel
theorem dX9_move_134 : decode cX9_move 134 = .ok (.invokevirtual 222, 3) := by decide +kernel
theorem dX9_move_137 : decode cX9_move 137 = .ok (.aload_n 0, 1) := by decide +kernel
theorem dX9_move_138 : decode cX9_move 138 = .ok (.iload 5, 2) := by decide +kernel
theorem dX9_move_140 : decode cX9_move 140 = .ok (.invokevirtual 184, 3) := by decide +kernel
theorem dX9_move_143 : decode cX9_move 143 = .ok (.aload_n 0, 1) := by decide +kernel
theorem dX9_move_144 : decode cX9_move 144 = .ok (.getfield 78, 3) := by decide +kernel
theorem dX9_move_147 : decode cX9_move 147 = .ok (.iconst 2, 1) := by decide +kernel
theorem dX9_move_148 : decode cX9_move 148 = .ok (.iload 5, 2) := by decide +kernel
theorem dX9_move_150 : decode cX9_move 150 = .ok (.imul, 1) := by decide +kernel
theorem dX9_move_151 : decode cX9_move 151 = .ok (.iconst (-1), 1) := by decide +kernel
theorem dX9_move_152 : decode cX9_move 152 = .ok (.iastore, 1) := by decide +kernel
theorem dX9_move_153 : decode cX9_move 153 = .ok (.iinc 5 1, 3) := by decide +kernel
theorem dX9_move_156 : decode cX9_move 156 = .ok (.goto (-34), 3) := by decide +kernel
theorem dX9_move_159 : decode cX9_move 159 = .ok (.iconst 0, 1) := by decide +kernel
theorem dX9_move_160 : decode cX9_move 160 = .ok (.istore 5, 2) := by decide +kernel
theorem dX9_move_162 : decode cX9_move 162 = .ok (.iload 5, 2) := by decide +kernel
theorem dX9_move_164 : decode cX9_move 164 = .ok (.aload_n 0, 1) := by decide +kernel
theorem dX9_move_165 : decode cX9_move 165 = .ok (.getfield 7, 3) := by decide +kernel
theorem dX9_move_168 : decode cX9_move 168 = .ok (.if_icmp .ge 15, 3) := by decide +kernel
theorem dX9_move_171 : decode cX9_move 171 = .ok (.aload_n 0, 1) := by decide +kernel
theorem dX9_move_172 : decode cX9_move 172 = .ok (.iload 5, 2) := by decide +kernel
theorem dX9_move_174 : decode cX9_move 174 = .ok (.invokevirtual 187, 3) := by decide +kernel
theorem dX9_move_177 : decode cX9_move 177 = .ok (.iinc 5 1, 3) := by decide +kernel
theorem dX9_move_180 : decode cX9_move 180 = .ok (.goto (-18), 3) := by decide +kernel
theorem dX9_move_183 : decode cX9_move 183 = .ok (.iload 4, 2) := by decide +kernel
theorem dX9_move_185 : decode cX9_move 185 = .ok (.ireturn, 1) := by decide +kernel
theorem dX9_of_0 : decode cX9_of 0 = .ok (.aload_n 0, 1) := by decide +kernel
theorem dX9_of_1 : decode cX9_of 1 = .ok (.iload_n 1, 1) := by decide +kernel
theorem dX9_of_2 : decode cX9_of 2 = .ok (.invokevirtual 151, 3) := by decide +kernel
theorem dX9_of_5 : decode cX9_of 5 = .ok (.ifCond .eq 12, 3) := by decide +kernel
theorem dX9_of_8 : decode cX9_of 8 = .ok (.iload_n 2, 1) := by decide +kernel
theorem dX9_of_9 : decode cX9_of 9 = .ok (.iconst 0, 1) := by decide +kernel
theorem dX9_of_10 : decode cX9_of 10 = .ok (.iconst 3, 1) := by decide +kernel
theorem dX9_of_11 : decode cX9_of 11 = .ok (.invokestatic 143, 3) := by decide +kernel
theorem dX9_of_14 : decode cX9_of 14 = .ok (.ifCond .ne 7, 3) := by decide +kernel
theorem dX9_of_17 : decode cX9_of 17 = .ok (.ldc2_w 211, 3) := by decide +kernel
theorem dX9_of_20 : decode cX9_of 20 = .ok (.lreturn, 1) := by decide +kernel
theorem dX9_of_21 : decode cX9_of 21 = .ok (.iload_n 2, 1) := by decide +kernel
theorem dX9_of_22 : decode cX9_of 22 = .ok (.iconst 3, 1) := by decide +kernel
theorem dX9_of_23 : decode cX9_of 23 = .ok (.if_icmp .ne 11, 3) := by decide +kernel
theorem dX9_of_26 : decode cX9_of 26 = .ok (.aload_n 0, 1) := by decide +kernel
theorem dX9_of_27 : decode cX9_of 27 = .ok (.getfield 27, 3) := by decide +kernel
theorem dX9_of_30 : decode cX9_of 30 = .ok (.iload_n 1, 1) := by decide +kernel
theorem dX9_of_31 : decode cX9_of 31 = .ok (.iaload, 1) := by decide +kernel
theorem dX9_of_32 : decode cX9_of 32 = .ok (.i2l, 1) := by decide +kernel
theorem dX9_of_33 : decode cX9_of 33 = .ok (.lreturn, 1) := by decide +kernel
theorem dX9_of_34 : decode cX9_of 34 = .ok (.aload_n 0, 1) := by decide +kernel
theorem dX9_of_35 : decode cX9_of 35 = .ok (.getfield 45, 3) := by decide +kernel
theorem dX9_of_38 : decode cX9_of 38 = .ok (.aload_n 0, 1) := by decide +kernel
theorem dX9_of_39 : decode cX9_of 39 = .ok (.getfield 27, 3) := by decide +kernel
theorem dX9_of_42 : decode cX9_of 42 = .ok (.iload_n 1, 1) := by decide +kernel
theorem dX9_of_43 : decode cX9_of 43 = .ok (.iaload, 1) := by decide +kernel
theorem dX9_of_44 : decode cX9_of 44 = .ok (.baload, 1) := by decide +kernel
theorem dX9_of_45 : decode cX9_of 45 = .ok (.ifCond .eq 7, 3) := by decide +kernel
theorem dX9_of_48 : decode cX9_of 48 = .ok (.ldc2_w 211, 3) := by decide +kernel
theorem dX9_of_51 : decode cX9_of 51 = .ok (.lreturn, 1) := by decide +kernel
theorem dX9_of_52 : decode cX9_of 52 = .ok (.iload_n 2, 1) := by decide +kernel
theorem dX9_of_53 : decode cX9_of 53 = .ok (.ifCond .ne 13, 3) := by decide +kernel
theorem dX9_of_56 : decode cX9_of 56 = .ok (.aload_n 0, 1) := by decide +kernel
theorem dX9_of_57 : decode cX9_of 57 = .ok (.getfield 17, 3) := by decide +kernel
theorem dX9_of_60 : decode cX9_of 60 = .ok (.iload_n 1, 1) := by decide +kernel
theorem dX9_of_61 : decode cX9_of 61 = .ok (.iaload, 1) := by decide +kernel
theorem dX9_of_62 : decode cX9_of 62 = .ok (.i2l, 1) := by decide +kernel
theorem dX9_of_63 : decode cX9_of 63 = .ok (.goto 32, 3) := by decide +kernel
theorem dX9_of_66 : decode cX9_of 66 = .ok (.iload_n 2, 1) := by decide +kernel
theorem dX9_of_67 : decode cX9_of 67 = .ok (.iconst 1, 1) := by decide +kernel
theorem dX9_of_68 : decode cX9_of 68 = .ok (.if_icmp .ne 13, 3) := by decide +kernel
theorem dX9_of_71 : decode cX9_of 71 = .ok (.aload_n 0, 1) := by decide +kernel
theorem dX9_of_72 : decode cX9_of 72 = .ok (.getfield 20, 3) := by decide +kernel
theorem dX9_of_75 : decode cX9_of 75 = .ok (.iload_n 1, 1) := by decide +kernel
theorem dX9_of_76 : decode cX9_of 76 = .ok (.iaload, 1) := by decide +kernel
theorem dX9_of_77 : decode cX9_of 77 = .ok (.i2l, 1) := by decide +kernel
theorem dX9_of_78 : decode cX9_of 78 = .ok (.goto 17, 3) := by decide +kernel
theorem dX9_of_81 : decode cX9_of 81 = .ok (.aload_n 0, 1) := by decide +kernel
theorem dX9_of_82 : decode cX9_of 82 = .ok (.getfield 23, 3) := by decide +kernel
theorem dX9_of_85 : decode cX9_of 85 = .ok (.iload_n 1, 1) := by decide +kernel
theorem dX9_of_86 : decode cX9_of 86 = .ok (.baload, 1) := by decide +kernel
theorem dX9_of_87 : decode cX9_of 87 = .ok (.ifCond .eq 7, 3) := by decide +kernel
theorem dX9_of_90 : decode cX9_of 90 = .ok (.lconst 1, 1) := by decide +kernel
theorem dX9_of_91 : decode cX9_of 91 = .ok (.goto 4, 3) := by decide +kernel
theorem dX9_of_94 : decode cX9_of 94 = .ok (.lconst 0, 1) := by decide +kernel
theorem dX9_of_95 : decode cX9_of 95 = .ok (.lreturn, 1) := by decide +kernel
theorem dX9_oneRound_0 : decode cX9_oneRound 0 = .ok (.aload_n 0, 1) := by decide +kernel
theorem dX9_oneRound_1 : decode cX9_oneRound 1 = .ok (.invokevirtual 190, 3) := by decide +kernel
theorem dX9_oneRound_4 : decode cX9_oneRound 4 = .ok (.iconst 0, 1) := by decide +kernel
theorem dX9_oneRound_5 : decode cX9_oneRound 5 = .ok (.istore_n 1, 1) := by decide +kernel
theorem dX9_oneRound_6 : decode cX9_oneRound 6 = .ok (.iload_n 1, 1) := by decide +kernel
theorem dX9_oneRound_7 : decode cX9_oneRound 7 = .ok (.aload_n 0, 1) := by decide +kernel
theorem dX9_oneRound_8 : decode cX9_oneRound 8 = .ok (.getfield 118, 3) := by decide +kernel
theorem dX9_oneRound_11 : decode cX9_oneRound 11 = .ok (.if_icmp .ge 55, 3) := by decide +kernel
theorem dX9_oneRound_14 : decode cX9_oneRound 14 = .ok (.aload_n 0, 1) := by decide +kernel
theorem dX9_oneRound_15 : decode cX9_oneRound 15 = .ok (.getfield 108, 3) := by decide +kernel
theorem dX9_oneRound_18 : decode cX9_oneRound 18 = .ok (.aload_n 0, 1) := by decide +kernel
theorem dX9_oneRound_19 : decode cX9_oneRound 19 = .ok (.getfield 30, 3) := by decide +kernel
theorem dX9_oneRound_22 : decode cX9_oneRound 22 = .ok (.iload_n 1, 1) := by decide +kernel
theorem dX9_oneRound_23 : decode cX9_oneRound 23 = .ok (.iaload, 1) := by decide +kernel
theorem dX9_oneRound_24 : decode cX9_oneRound 24 = .ok (.baload, 1) := by decide +kernel
theorem dX9_oneRound_25 : decode cX9_oneRound 25 = .ok (.ifCond .eq 35, 3) := by decide +kernel
theorem dX9_oneRound_28 : decode cX9_oneRound 28 = .ok (.aload_n 0, 1) := by decide +kernel
theorem dX9_oneRound_29 : decode cX9_oneRound 29 = .ok (.aload_n 0, 1) := by decide +kernel
theorem dX9_oneRound_30 : decode cX9_oneRound 30 = .ok (.getfield 33, 3) := by decide +kernel
theorem dX9_oneRound_33 : decode cX9_oneRound 33 = .ok (.iload_n 1, 1) := by decide +kernel
theorem dX9_oneRound_34 : decode cX9_oneRound 34 = .ok (.iaload, 1) := by decide +kernel
theorem dX9_oneRound_35 : decode cX9_oneRound 35 = .ok (.aload_n 0, 1) := by decide +kernel
theorem dX9_oneRound_36 : decode cX9_oneRound 36 = .ok (.aload_n 0, 1) := by decide +kernel
theorem dX9_oneRound_37 : decode cX9_oneRound 37 = .ok (.getfield 102, 3) := by decide +kernel
theorem dX9_oneRound_40 : decode cX9_oneRound 40 = .ok (.aload_n 0, 1) := by decide +kernel
theorem dX9_oneRound_41 : decode cX9_oneRound 41 = .ok (.getfield 30, 3) := by decide +kernel
theorem dX9_oneRound_44 : decode cX9_oneRound 44 = .ok (.iload_n 1, 1) := by decide +kernel
theorem dX9_oneRound_45 : decode cX9_oneRound 45 = .ok (.iaload, 1) := by decide +kernel
theorem dX9_oneRound_46 : decode cX9_oneRound 46 = .ok (.iaload, 1) := by decide +kernel
theorem dX9_oneRound_47 : decode cX9_oneRound 47 = .ok (.aload_n 0, 1) := by decide +kernel
theorem dX9_oneRound_48 : decode cX9_oneRound 48 = .ok (.getfield 36, 3) := by decide +kernel
theorem dX9_oneRound_51 : decode cX9_oneRound 51 = .ok (.iload_n 1, 1) := by decide +kernel
theorem dX9_oneRound_52 : decode cX9_oneRound 52 = .ok (.iaload, 1) := by decide +kernel
theorem dX9_oneRound_53 : decode cX9_oneRound 53 = .ok (.invokevirtual 166, 3) := by decide +kernel
theorem dX9_oneRound_56 : decode cX9_oneRound 56 = .ok (.iload_n 1, 1) := by decide +kernel
theorem dX9_oneRound_57 : decode cX9_oneRound 57 = .ok (.invokevirtual 193, 3) := by decide +kernel
theorem dX9_oneRound_60 : decode cX9_oneRound 60 = .ok (.iinc 1 1, 3) := by decide +kernel
theorem dX9_oneRound_63 : decode cX9_oneRound 63 = .ok (.goto (-57), 3) := by decide +kernel
theorem dX9_oneRound_66 : decode cX9_oneRound 66 = .ok (.iconst 0, 1) := by decide +kernel
theorem dX9_oneRound_67 : decode cX9_oneRound 67 = .ok (.istore_n 1, 1) := by decide +kernel
theorem dX9_oneRound_68 : decode cX9_oneRound 68 = .ok (.iload_n 1, 1) := by decide +kernel
theorem dX9_oneRound_69 : decode cX9_oneRound 69 = .ok (.aload_n 0, 1) := by decide +kernel
theorem dX9_oneRound_70 : decode cX9_oneRound 70 = .ok (.getfield 115, 3) := by decide +kernel
theorem dX9_oneRound_73 : decode cX9_oneRound 73 = .ok (.if_icmp .ge 91, 3) := by decide +kernel
theorem dX9_oneRound_76 : decode cX9_oneRound 76 = .ok (.aload_n 0, 1) := by decide +kernel
theorem dX9_oneRound_77 : decode cX9_oneRound 77 = .ok (.iload_n 1, 1) := by decide +kernel
theorem dX9_oneRound_78 : decode cX9_oneRound 78 = .ok (.aload_n 0, 1) := by decide +kernel
theorem dX9_oneRound_79 : decode cX9_oneRound 79 = .ok (.getfield 102, 3) := by decide +kernel
theorem dX9_oneRound_82 : decode cX9_oneRound 82 = .ok (.iload_n 1, 1) := by decide +kernel
theorem dX9_oneRound_83 : decode cX9_oneRound 83 = .ok (.iaload, 1) := by decide +kernel
theorem dX9_oneRound_84 : decode cX9_oneRound 84 = .ok (.invokevirtual 196, 3) := by decide +kernel
theorem dX9_oneRound_87 : decode cX9_oneRound 87 = .ok (.istore_n 2, 1) := by decide +kernel
theorem dX9_oneRound_88 : decode cX9_oneRound 88 = .ok (.aload_n 0, 1) := by decide +kernel
theorem dX9_oneRound_89 : decode cX9_oneRound 89 = .ok (.getfield 108, 3) := by decide +kernel
theorem dX9_oneRound_92 : decode cX9_oneRound 92 = .ok (.iload_n 1, 1) := by decide +kernel
theorem dX9_oneRound_93 : decode cX9_oneRound 93 = .ok (.aload_n 0, 1) := by decide +kernel
theorem dX9_oneRound_94 : decode cX9_oneRound 94 = .ok (.getfield 121, 3) := by decide +kernel
theorem dX9_oneRound_97 : decode cX9_oneRound 97 = .ok (.iconst 2, 1) := by decide +kernel
theorem dX9_oneRound_98 : decode cX9_oneRound 98 = .ok (.if_icmp .ne 15, 3) := by decide +kernel
theorem dX9_oneRound_101 : decode cX9_oneRound 101 = .ok (.iload_n 2, 1) := by decide +kernel
theorem dX9_oneRound_102 : decode cX9_oneRound 102 = .ok (.ifCond .eq 7, 3) := by decide +kernel
theorem dX9_oneRound_105 : decode cX9_oneRound 105 = .ok (.iconst 1, 1) := by decide +kernel
theorem dX9_oneRound_106 : decode cX9_oneRound 106 = .ok (.goto 22, 3) := by decide +kernel
theorem dX9_oneRound_109 : decode cX9_oneRound 109 = .ok (.iconst 0, 1) := by decide +kernel
theorem dX9_oneRound_110 : decode cX9_oneRound 110 = .ok (.goto 18, 3) := by decide +kernel
theorem dX9_oneRound_113 : decode cX9_oneRound 113 = .ok (.iload_n 2, 1) := by decide +kernel
theorem dX9_oneRound_114 : decode cX9_oneRound 114 = .ok (.aload_n 0, 1) := by decide +kernel
theorem dX9_oneRound_115 : decode cX9_oneRound 115 = .ok (.getfield 102, 3) := by decide +kernel
theorem dX9_oneRound_118 : decode cX9_oneRound 118 = .ok (.iload_n 1, 1) := by decide +kernel
theorem dX9_oneRound_119 : decode cX9_oneRound 119 = .ok (.iaload, 1) := by decide +kernel
theorem dX9_oneRound_120 : decode cX9_oneRound 120 = .ok (.if_icmp .eq 7, 3) := by decide +kernel
theorem dX9_oneRound_123 : decode cX9_oneRound 123 = .ok (.iconst 1, 1) := by decide +kernel
theorem dX9_oneRound_124 : decode cX9_oneRound 124 = .ok (.goto 4, 3) := by decide +kernel
theorem dX9_oneRound_127 : decode cX9_oneRound 127 = .ok (.iconst 0, 1) := by decide +kernel
theorem dX9_oneRound_128 : decode cX9_oneRound 128 = .ok (.bastore, 1) := by decide +kernel
theorem dX9_oneRound_129 : decode cX9_oneRound 129 = .ok (.aload_n 0, 1) := by decide +kernel
theorem dX9_oneRound_130 : decode cX9_oneRound 130 = .ok (.getfield 102, 3) := by decide +kernel
theorem dX9_oneRound_133 : decode cX9_oneRound 133 = .ok (.iload_n 1, 1) := by decide +kernel
theorem dX9_oneRound_134 : decode cX9_oneRound 134 = .ok (.iload_n 2, 1) := by decide +kernel
theorem dX9_oneRound_135 : decode cX9_oneRound 135 = .ok (.iastore, 1) := by decide +kernel
theorem dX9_oneRound_136 : decode cX9_oneRound 136 = .ok (.aload_n 0, 1) := by decide +kernel
theorem dX9_oneRound_137 : decode cX9_oneRound 137 = .ok (.getfield 105, 3) := by decide +kernel
theorem dX9_oneRound_140 : decode cX9_oneRound 140 = .ok (.iload_n 1, 1) := by decide +kernel
theorem dX9_oneRound_141 : decode cX9_oneRound 141 = .ok (.dup2, 1) := by decide +kernel
theorem dX9_oneRound_142 : decode cX9_oneRound 142 = .ok (.iaload, 1) := by decide +kernel
theorem dX9_oneRound_143 : decode cX9_oneRound 143 = .ok (.aload_n 0, 1) := by decide +kernel
theorem dX9_oneRound_144 : decode cX9_oneRound 144 = .ok (.getfield 121, 3) := by decide +kernel
theorem dX9_oneRound_147 : decode cX9_oneRound 147 = .ok (.iconst 2, 1) := by decide +kernel
theorem dX9_oneRound_148 : decode cX9_oneRound 148 = .ok (.if_icmp .ne 7, 3) := by decide +kernel
theorem dX9_oneRound_151 : decode cX9_oneRound 151 = .ok (.iload_n 2, 1) := by decide +kernel
theorem dX9_oneRound_152 : decode cX9_oneRound 152 = .ok (.goto 4, 3) := by decide +kernel
theorem dX9_oneRound_155 : decode cX9_oneRound 155 = .ok (.iconst 0, 1) := by decide +kernel
theorem dX9_oneRound_156 : decode cX9_oneRound 156 = .ok (.iadd, 1) := by decide +kernel
theorem dX9_oneRound_157 : decode cX9_oneRound 157 = .ok (.iastore, 1) := by decide +kernel
theorem dX9_oneRound_158 : decode cX9_oneRound 158 = .ok (.iinc 1 1, 3) := by decide +kernel
theorem dX9_oneRound_161 : decode cX9_oneRound 161 = .ok (.goto (-93), 3) := by decide +kernel
theorem dX9_oneRound_164 : decode cX9_oneRound 164 = .ok (.return_, 1) := by decide +kernel
theorem dX9_alone_0 : decode cX9_alone 0 = .ok (.aload_n 0, 1) := by decide +kernel
theorem dX9_alone_1 : decode cX9_alone 1 = .ok (.iload_n 1, 1) := by decide +kernel
theorem dX9_alone_2 : decode cX9_alone 2 = .ok (.invokevirtual 151, 3) := by decide +kernel
theorem dX9_alone_5 : decode cX9_alone 5 = .ok (.ifCond .eq 23, 3) := by decide +kernel
theorem dX9_alone_8 : decode cX9_alone 8 = .ok (.iload_n 2, 1) := by decide +kernel
theorem dX9_alone_9 : decode cX9_alone 9 = .ok (.iconst 0, 1) := by decide +kernel
theorem dX9_alone_10 : decode cX9_alone 10 = .ok (.sipush 200, 3) := by decide +kernel
theorem dX9_alone_13 : decode cX9_alone 13 = .ok (.invokestatic 143, 3) := by decide +kernel
theorem dX9_alone_16 : decode cX9_alone 16 = .ok (.ifCond .eq 12, 3) := by decide +kernel
theorem dX9_alone_19 : decode cX9_alone 19 = .ok (.iload_n 3, 1) := by decide +kernel
theorem dX9_alone_20 : decode cX9_alone 20 = .ok (.iconst 0, 1) := by decide +kernel
theorem dX9_alone_21 : decode cX9_alone 21 = .ok (.iconst 2, 1) := by decide +kernel
theorem dX9_alone_22 : decode cX9_alone 22 = .ok (.invokestatic 143, 3) := by decide +kernel
theorem dX9_alone_25 : decode cX9_alone 25 = .ok (.ifCond .ne 7, 3) := by decide +kernel
theorem dX9_alone_28 : decode cX9_alone 28 = .ok (.ldc2_w 211, 3) := by decide +kernel
theorem dX9_alone_31 : decode cX9_alone 31 = .ok (.lreturn, 1) := by decide +kernel
theorem dX9_alone_32 : decode cX9_alone 32 = .ok (.iconst 0, 1) := by decide +kernel
theorem dX9_alone_33 : decode cX9_alone 33 = .ok (.istore 4, 2) := by decide +kernel
theorem dX9_alone_35 : decode cX9_alone 35 = .ok (.iload 4, 2) := by decide +kernel
theorem dX9_alone_37 : decode cX9_alone 37 = .ok (.aload_n 0, 1) := by decide +kernel
theorem dX9_alone_38 : decode cX9_alone 38 = .ok (.getfield 115, 3) := by decide +kernel
theorem dX9_alone_41 : decode cX9_alone 41 = .ok (.if_icmp .ge 39, 3) := by decide +kernel
theorem dX9_alone_44 : decode cX9_alone 44 = .ok (.aload_n 0, 1) := by decide +kernel
theorem dX9_alone_45 : decode cX9_alone 45 = .ok (.getfield 102, 3) := by decide +kernel
theorem dX9_alone_48 : decode cX9_alone 48 = .ok (.iload 4, 2) := by decide +kernel
theorem dX9_alone_50 : decode cX9_alone 50 = .ok (.aload_n 0, 1) := by decide +kernel
theorem dX9_alone_51 : decode cX9_alone 51 = .ok (.getfield 13, 3) := by decide +kernel
theorem dX9_alone_54 : decode cX9_alone 54 = .ok (.iload 4, 2) := by decide +kernel
theorem dX9_alone_56 : decode cX9_alone 56 = .ok (.iaload, 1) := by decide +kernel
theorem dX9_alone_57 : decode cX9_alone 57 = .ok (.iastore, 1) := by decide +kernel
theorem dX9_alone_58 : decode cX9_alone 58 = .ok (.aload_n 0, 1) := by decide +kernel
theorem dX9_alone_59 : decode cX9_alone 59 = .ok (.getfield 105, 3) := by decide +kernel
theorem dX9_alone_62 : decode cX9_alone 62 = .ok (.iload 4, 2) := by decide +kernel
theorem dX9_alone_64 : decode cX9_alone 64 = .ok (.iconst 0, 1) := by decide +kernel
theorem dX9_alone_65 : decode cX9_alone 65 = .ok (.iastore, 1) := by decide +kernel
theorem dX9_alone_66 : decode cX9_alone 66 = .ok (.aload_n 0, 1) := by decide +kernel
theorem dX9_alone_67 : decode cX9_alone 67 = .ok (.getfield 108, 3) := by decide +kernel
theorem dX9_alone_70 : decode cX9_alone 70 = .ok (.iload 4, 2) := by decide +kernel
theorem dX9_alone_72 : decode cX9_alone 72 = .ok (.iconst 1, 1) := by decide +kernel
theorem dX9_alone_73 : decode cX9_alone 73 = .ok (.bastore, 1) := by decide +kernel
theorem dX9_alone_74 : decode cX9_alone 74 = .ok (.iinc 4 1, 3) := by decide +kernel
theorem dX9_alone_77 : decode cX9_alone 77 = .ok (.goto (-42), 3) := by decide +kernel
theorem dX9_alone_80 : decode cX9_alone 80 = .ok (.iconst 0, 1) := by decide +kernel
theorem dX9_alone_81 : decode cX9_alone 81 = .ok (.istore 4, 2) := by decide +kernel
theorem dX9_alone_83 : decode cX9_alone 83 = .ok (.iload 4, 2) := by decide +kernel
theorem dX9_alone_85 : decode cX9_alone 85 = .ok (.iload_n 2, 1) := by decide +kernel
theorem dX9_alone_86 : decode cX9_alone 86 = .ok (.if_icmp .ge 13, 3) := by decide +kernel
theorem dX9_alone_89 : decode cX9_alone 89 = .ok (.aload_n 0, 1) := by decide +kernel
theorem dX9_alone_90 : decode cX9_alone 90 = .ok (.invokevirtual 235, 3) := by decide +kernel
theorem dX9_alone_93 : decode cX9_alone 93 = .ok (.iinc 4 1, 3) := by decide +kernel
theorem dX9_alone_96 : decode cX9_alone 96 = .ok (.goto (-13), 3) := by decide +kernel
theorem dX9_alone_99 : decode cX9_alone 99 = .ok (.iload_n 3, 1) := by decide +kernel
theorem dX9_alone_100 : decode cX9_alone 100 = .ok (.ifCond .ne 13, 3) := by decide +kernel
theorem dX9_alone_103 : decode cX9_alone 103 = .ok (.aload_n 0, 1) := by decide +kernel
theorem dX9_alone_104 : decode cX9_alone 104 = .ok (.getfield 102, 3) := by decide +kernel
theorem dX9_alone_107 : decode cX9_alone 107 = .ok (.iload_n 1, 1) := by decide +kernel
theorem dX9_alone_108 : decode cX9_alone 108 = .ok (.iaload, 1) := by decide +kernel
theorem dX9_alone_109 : decode cX9_alone 109 = .ok (.i2l, 1) := by decide +kernel
theorem dX9_alone_110 : decode cX9_alone 110 = .ok (.goto 32, 3) := by decide +kernel
theorem dX9_alone_113 : decode cX9_alone 113 = .ok (.iload_n 3, 1) := by decide +kernel
theorem dX9_alone_114 : decode cX9_alone 114 = .ok (.iconst 1, 1) := by decide +kernel
theorem dX9_alone_115 : decode cX9_alone 115 = .ok (.if_icmp .ne 13, 3) := by decide +kernel
theorem dX9_alone_118 : decode cX9_alone 118 = .ok (.aload_n 0, 1) := by decide +kernel
theorem dX9_alone_119 : decode cX9_alone 119 = .ok (.getfield 105, 3) := by decide +kernel
theorem dX9_alone_122 : decode cX9_alone 122 = .ok (.iload_n 1, 1) := by decide +kernel
theorem dX9_alone_123 : decode cX9_alone 123 = .ok (.iaload, 1) := by decide +kernel
theorem dX9_alone_124 : decode cX9_alone 124 = .ok (.i2l, 1) := by decide +kernel
theorem dX9_alone_125 : decode cX9_alone 125 = .ok (.goto 17, 3) := by decide +kernel
theorem dX9_alone_128 : decode cX9_alone 128 = .ok (.aload_n 0, 1) := by decide +kernel
theorem dX9_alone_129 : decode cX9_alone 129 = .ok (.getfield 108, 3) := by decide +kernel
theorem dX9_alone_132 : decode cX9_alone 132 = .ok (.iload_n 1, 1) := by decide +kernel
theorem dX9_alone_133 : decode cX9_alone 133 = .ok (.baload, 1) := by decide +kernel
theorem dX9_alone_134 : decode cX9_alone 134 = .ok (.ifCond .eq 7, 3) := by decide +kernel
theorem dX9_alone_137 : decode cX9_alone 137 = .ok (.lconst 1, 1) := by decide +kernel
theorem dX9_alone_138 : decode cX9_alone 138 = .ok (.goto 4, 3) := by decide +kernel
theorem dX9_alone_141 : decode cX9_alone 141 = .ok (.lconst 0, 1) := by decide +kernel
theorem dX9_alone_142 : decode cX9_alone 142 = .ok (.lreturn, 1) := by decide +kernel
theorem dX9_node_0 : decode cX9_node 0 = .ok (.aload_n 0, 1) := by decide +kernel
theorem dX9_node_1 : decode cX9_node 1 = .ok (.iload_n 1, 1) := by decide +kernel
theorem dX9_node_2 : decode cX9_node 2 = .ok (.invokevirtual 147, 3) := by decide +kernel
theorem dX9_node_5 : decode cX9_node 5 = .ok (.ifCond .eq 12, 3) := by decide +kernel
theorem dX9_node_8 : decode cX9_node 8 = .ok (.iload_n 2, 1) := by decide +kernel
theorem dX9_node_9 : decode cX9_node 9 = .ok (.iconst 0, 1) := by decide +kernel
theorem dX9_node_10 : decode cX9_node 10 = .ok (.iconst 5, 1) := by decide +kernel
theorem dX9_node_11 : decode cX9_node 11 = .ok (.invokestatic 143, 3) := by decide +kernel
theorem dX9_node_14 : decode cX9_node 14 = .ok (.ifCond .ne 5, 3) := by decide +kernel
theorem dX9_node_17 : decode cX9_node 17 = .ok (.iconst (-1), 1) := by decide +kernel
theorem dX9_node_18 : decode cX9_node 18 = .ok (.ireturn, 1) := by decide +kernel
theorem dX9_node_19 : decode cX9_node 19 = .ok (.iconst 0, 1) := by decide +kernel
theorem dX9_node_20 : decode cX9_node 20 = .ok (.istore_n 3, 1) := by decide +kernel
theorem dX9_node_21 : decode cX9_node 21 = .ok (.iload_n 2, 1) := by decide +kernel
theorem dX9_node_22 : decode cX9_node 22 = .ok (.tableswitch 116 0 4 #[34, 41, 56, 71, 77], 34) := by decide +kernel
theorem dX9_node_56 : decode cX9_node 56 = .ok (.aload_n 0, 1) := by decide +kernel
theorem dX9_node_57 : decode cX9_node 57 = .ok (.getfield 39, 3) := by decide +kernel
theorem dX9_node_60 : decode cX9_node 60 = .ok (.iload_n 1, 1) := by decide +kernel
theorem dX9_node_61 : decode cX9_node 61 = .ok (.iaload, 1) := by decide +kernel
theorem dX9_node_62 : decode cX9_node 62 = .ok (.ireturn, 1) := by decide +kernel
theorem dX9_node_63 : decode cX9_node 63 = .ok (.aload_n 0, 1) := by decide +kernel
theorem dX9_node_64 : decode cX9_node 64 = .ok (.getfield 42, 3) := by decide +kernel
theorem dX9_node_67 : decode cX9_node 67 = .ok (.iload_n 1, 1) := by decide +kernel
theorem dX9_node_68 : decode cX9_node 68 = .ok (.baload, 1) := by decide +kernel
theorem dX9_node_69 : decode cX9_node 69 = .ok (.ifCond .eq 7, 3) := by decide +kernel
theorem dX9_node_72 : decode cX9_node 72 = .ok (.iconst 1, 1) := by decide +kernel
theorem dX9_node_73 : decode cX9_node 73 = .ok (.goto 4, 3) := by decide +kernel
theorem dX9_node_76 : decode cX9_node 76 = .ok (.iconst 0, 1) := by decide +kernel
theorem dX9_node_77 : decode cX9_node 77 = .ok (.ireturn, 1) := by decide +kernel
theorem dX9_node_78 : decode cX9_node 78 = .ok (.aload_n 0, 1) := by decide +kernel
theorem dX9_node_79 : decode cX9_node 79 = .ok (.getfield 45, 3) := by decide +kernel
theorem dX9_node_82 : decode cX9_node 82 = .ok (.iload_n 1, 1) := by decide +kernel
theorem dX9_node_83 : decode cX9_node 83 = .ok (.baload, 1) := by decide +kernel
theorem dX9_node_84 : decode cX9_node 84 = .ok (.ifCond .eq 7, 3) := by decide +kernel
theorem dX9_node_87 : decode cX9_node 87 = .ok (.iconst 1, 1) := by decide +kernel
theorem dX9_node_88 : decode cX9_node 88 = .ok (.goto 4, 3) := by decide +kernel
theorem dX9_node_91 : decode cX9_node 91 = .ok (.iconst 0, 1) := by decide +kernel
theorem dX9_node_92 : decode cX9_node 92 = .ok (.ireturn, 1) := by decide +kernel
theorem dX9_node_93 : decode cX9_node 93 = .ok (.aload_n 0, 1) := by decide +kernel
theorem dX9_node_94 : decode cX9_node 94 = .ok (.iload_n 1, 1) := by decide +kernel
theorem dX9_node_95 : decode cX9_node 95 = .ok (.invokevirtual 199, 3) := by decide +kernel
theorem dX9_node_98 : decode cX9_node 98 = .ok (.ireturn, 1) := by decide +kernel
theorem dX9_node_99 : decode cX9_node 99 = .ok (.iconst 0, 1) := by decide +kernel
theorem dX9_node_100 : decode cX9_node 100 = .ok (.istore 4, 2) := by decide +kernel
theorem dX9_node_102 : decode cX9_node 102 = .ok (.iload 4, 2) := by decide +kernel
theorem dX9_node_104 : decode cX9_node 104 = .ok (.aload_n 0, 1) := by decide +kernel
theorem dX9_node_105 : decode cX9_node 105 = .ok (.getfield 115, 3) := by decide +kernel
theorem dX9_node_108 : decode cX9_node 108 = .ok (.if_icmp .ge 28, 3) := by decide +kernel
theorem dX9_node_111 : decode cX9_node 111 = .ok (.iload_n 3, 1) := by decide +kernel
theorem dX9_node_112 : decode cX9_node 112 = .ok (.aload_n 0, 1) := by decide +kernel
theorem dX9_node_113 : decode cX9_node 113 = .ok (.getfield 27, 3) := by decide +kernel
theorem dX9_node_116 : decode cX9_node 116 = .ok (.iload 4, 2) := by decide +kernel
theorem dX9_node_118 : decode cX9_node 118 = .ok (.iaload, 1) := by decide +kernel
theorem dX9_node_119 : decode cX9_node 119 = .ok (.iload_n 1, 1) := by decide +kernel
theorem dX9_node_120 : decode cX9_node 120 = .ok (.if_icmp .ne 7, 3) := by decide +kernel
theorem dX9_node_123 : decode cX9_node 123 = .ok (.iconst 1, 1) := by decide +kernel
theorem dX9_node_124 : decode cX9_node 124 = .ok (.goto 4, 3) := by decide +kernel
theorem dX9_node_127 : decode cX9_node 127 = .ok (.iconst 0, 1) := by decide +kernel
theorem dX9_node_128 : decode cX9_node 128 = .ok (.iadd, 1) := by decide +kernel
theorem dX9_node_129 : decode cX9_node 129 = .ok (.istore_n 3, 1) := by decide +kernel
theorem dX9_node_130 : decode cX9_node 130 = .ok (.iinc 4 1, 3) := by decide +kernel
theorem dX9_node_133 : decode cX9_node 133 = .ok (.goto (-31), 3) := by decide +kernel
theorem dX9_node_136 : decode cX9_node 136 = .ok (.iload_n 3, 1) := by decide +kernel
theorem dX9_node_137 : decode cX9_node 137 = .ok (.ireturn, 1) := by decide +kernel
theorem dX9_node_138 : decode cX9_node 138 = .ok (.aload_n 0, 1) := by decide +kernel
theorem dX9_node_139 : decode cX9_node 139 = .ok (.getfield 78, 3) := by decide +kernel
theorem dX9_node_142 : decode cX9_node 142 = .ok (.iconst 2, 1) := by decide +kernel
theorem dX9_node_143 : decode cX9_node 143 = .ok (.iload_n 1, 1) := by decide +kernel
theorem dX9_node_144 : decode cX9_node 144 = .ok (.imul, 1) := by decide +kernel
theorem dX9_node_145 : decode cX9_node 145 = .ok (.iconst 1, 1) := by decide +kernel
theorem dX9_node_146 : decode cX9_node 146 = .ok (.iadd, 1) := by decide +kernel
theorem dX9_node_147 : decode cX9_node 147 = .ok (.iaload, 1) := by decide +kernel
theorem dX9_node_148 : decode cX9_node 148 = .ok (.ireturn, 1) := by decide +kernel
theorem dX9_told_0 : decode cX9_told 0 = .ok (.iload_n 1, 1) := by decide +kernel
theorem dX9_told_1 : decode cX9_told 1 = .ok (.tableswitch 131 0 11 #[63, 68, 73, 78, 83, 88, 93, 100, 107, 114, 121, 126], 63) := by decide +kernel
theorem dX9_told_64 : decode cX9_told 64 = .ok (.aload_n 0, 1) := by decide +kernel
theorem dX9_told_65 : decode cX9_told 65 = .ok (.getfield 115, 3) := by decide +kernel
theorem dX9_told_68 : decode cX9_told 68 = .ok (.ireturn, 1) := by decide +kernel
theorem dX9_told_69 : decode cX9_told 69 = .ok (.aload_n 0, 1) := by decide +kernel
theorem dX9_told_70 : decode cX9_told 70 = .ok (.getfield 118, 3) := by decide +kernel
theorem dX9_told_73 : decode cX9_told 73 = .ok (.ireturn, 1) := by decide +kernel
theorem dX9_told_74 : decode cX9_told 74 = .ok (.aload_n 0, 1) := by decide +kernel
theorem dX9_told_75 : decode cX9_told 75 = .ok (.getfield 7, 3) := by decide +kernel
theorem dX9_told_78 : decode cX9_told 78 = .ok (.ireturn, 1) := by decide +kernel
theorem dX9_told_79 : decode cX9_told 79 = .ok (.aload_n 0, 1) := by decide +kernel
theorem dX9_told_80 : decode cX9_told 80 = .ok (.getfield 121, 3) := by decide +kernel
theorem dX9_told_83 : decode cX9_told 83 = .ok (.ireturn, 1) := by decide +kernel
theorem dX9_told_84 : decode cX9_told 84 = .ok (.aload_n 0, 1) := by decide +kernel
theorem dX9_told_85 : decode cX9_told 85 = .ok (.getfield 134, 3) := by decide +kernel
theorem dX9_told_88 : decode cX9_told 88 = .ok (.ireturn, 1) := by decide +kernel
theorem dX9_told_89 : decode cX9_told 89 = .ok (.aload_n 0, 1) := by decide +kernel
theorem dX9_told_90 : decode cX9_told 90 = .ok (.getfield 140, 3) := by decide +kernel
theorem dX9_told_93 : decode cX9_told 93 = .ok (.ireturn, 1) := by decide +kernel
theorem dX9_told_94 : decode cX9_told 94 = .ok (.aload_n 0, 1) := by decide +kernel
theorem dX9_told_95 : decode cX9_told 95 = .ok (.getfield 90, 3) := by decide +kernel
theorem dX9_told_98 : decode cX9_told 98 = .ok (.iconst 0, 1) := by decide +kernel
theorem dX9_told_99 : decode cX9_told 99 = .ok (.iaload, 1) := by decide +kernel
theorem dX9_told_100 : decode cX9_told 100 = .ok (.ireturn, 1) := by decide +kernel
theorem dX9_told_101 : decode cX9_told 101 = .ok (.aload_n 0, 1) := by decide +kernel
theorem dX9_told_102 : decode cX9_told 102 = .ok (.getfield 90, 3) := by decide +kernel
theorem dX9_told_105 : decode cX9_told 105 = .ok (.iconst 1, 1) := by decide +kernel
theorem dX9_told_106 : decode cX9_told 106 = .ok (.iaload, 1) := by decide +kernel
theorem dX9_told_107 : decode cX9_told 107 = .ok (.ireturn, 1) := by decide +kernel
theorem dX9_told_108 : decode cX9_told 108 = .ok (.aload_n 0, 1) := by decide +kernel
theorem dX9_told_109 : decode cX9_told 109 = .ok (.getfield 90, 3) := by decide +kernel
theorem dX9_told_112 : decode cX9_told 112 = .ok (.iconst 2, 1) := by decide +kernel
theorem dX9_told_113 : decode cX9_told 113 = .ok (.iaload, 1) := by decide +kernel
theorem dX9_told_114 : decode cX9_told 114 = .ok (.ireturn, 1) := by decide +kernel
theorem dX9_told_115 : decode cX9_told 115 = .ok (.aload_n 0, 1) := by decide +kernel
theorem dX9_told_116 : decode cX9_told 116 = .ok (.getfield 90, 3) := by decide +kernel
theorem dX9_told_119 : decode cX9_told 119 = .ok (.iconst 3, 1) := by decide +kernel
theorem dX9_told_120 : decode cX9_told 120 = .ok (.iaload, 1) := by decide +kernel
theorem dX9_told_121 : decode cX9_told 121 = .ok (.ireturn, 1) := by decide +kernel
theorem dX9_told_122 : decode cX9_told 122 = .ok (.aload_n 0, 1) := by decide +kernel
theorem dX9_told_123 : decode cX9_told 123 = .ok (.getfield 137, 3) := by decide +kernel
theorem dX9_told_126 : decode cX9_told 126 = .ok (.ireturn, 1) := by decide +kernel
theorem dX9_told_127 : decode cX9_told 127 = .ok (.aload_n 0, 1) := by decide +kernel
theorem dX9_told_128 : decode cX9_told 128 = .ok (.getfield 128, 3) := by decide +kernel
theorem dX9_told_131 : decode cX9_told 131 = .ok (.ireturn, 1) := by decide +kernel
theorem dX9_told_132 : decode cX9_told 132 = .ok (.iconst (-1), 1) := by decide +kernel
theorem dX9_told_133 : decode cX9_told 133 = .ok (.ireturn, 1) := by decide +kernel
theorem dJ9_max_7cf53_0 : decode cJ9_max_7cf53 0 = .ok (.iload_n 0, 1) := by decide +kernel
theorem dJ9_max_7cf53_1 : decode cJ9_max_7cf53 1 = .ok (.iload_n 1, 1) := by decide +kernel
theorem dJ9_max_7cf53_2 : decode cJ9_max_7cf53 2 = .ok (.if_icmp .lt 7, 3) := by decide +kernel
theorem dJ9_max_7cf53_5 : decode cJ9_max_7cf53 5 = .ok (.iload_n 0, 1) := by decide +kernel
theorem dJ9_max_7cf53_6 : decode cJ9_max_7cf53 6 = .ok (.goto 4, 3) := by decide +kernel
theorem dJ9_max_7cf53_9 : decode cJ9_max_7cf53 9 = .ok (.iload_n 1, 1) := by decide +kernel
theorem dJ9_max_7cf53_10 : decode cJ9_max_7cf53 10 = .ok (.ireturn, 1) := by decide +kernel
theorem dJ9_min_7cf53_0 : decode cJ9_min_7cf53 0 = .ok (.iload_n 0, 1) := by decide +kernel
theorem dJ9_min_7cf53_1 : decode cJ9_min_7cf53 1 = .ok (.iload_n 1, 1) := by decide +kernel
theorem dJ9_min_7cf53_2 : decode cJ9_min_7cf53 2 = .ok (.if_icmp .gt 7, 3) := by decide +kernel
theorem dJ9_min_7cf53_5 : decode cJ9_min_7cf53 5 = .ok (.iload_n 0, 1) := by decide +kernel
theorem dJ9_min_7cf53_6 : decode cJ9_min_7cf53 6 = .ok (.goto 4, 3) := by decide +kernel
theorem dJ9_min_7cf53_9 : decode cJ9_min_7cf53 9 = .ok (.iload_n 1, 1) := by decide +kernel
theorem dJ9_min_7cf53_10 : decode cJ9_min_7cf53 10 = .ok (.ireturn, 1) := by decide +kernel
theorem dJ7_fill_53178_0 : decode cJ7_fill_53178 0 = .ok (.iconst 0, 1) := by decide +kernel
theorem dJ7_fill_53178_1 : decode cJ7_fill_53178 1 = .ok (.istore_n 2, 1) := by decide +kernel
theorem dJ7_fill_53178_2 : decode cJ7_fill_53178 2 = .ok (.aload_n 0, 1) := by decide +kernel
theorem dJ7_fill_53178_3 : decode cJ7_fill_53178 3 = .ok (.arraylength, 1) := by decide +kernel
theorem dJ7_fill_53178_4 : decode cJ7_fill_53178 4 = .ok (.istore_n 3, 1) := by decide +kernel
theorem dJ7_fill_53178_5 : decode cJ7_fill_53178 5 = .ok (.iload_n 2, 1) := by decide +kernel
theorem dJ7_fill_53178_6 : decode cJ7_fill_53178 6 = .ok (.iload_n 3, 1) := by decide +kernel
theorem dJ7_fill_53178_7 : decode cJ7_fill_53178 7 = .ok (.if_icmp .ge 13, 3) := by decide +kernel
theorem dJ7_fill_53178_10 : decode cJ7_fill_53178 10 = .ok (.aload_n 0, 1) := by decide +kernel
theorem dJ7_fill_53178_11 : decode cJ7_fill_53178 11 = .ok (.iload_n 2, 1) := by decide +kernel
theorem dJ7_fill_53178_12 : decode cJ7_fill_53178 12 = .ok (.iload_n 1, 1) := by decide +kernel
theorem dJ7_fill_53178_13 : decode cJ7_fill_53178 13 = .ok (.iastore, 1) := by decide +kernel
theorem dJ7_fill_53178_14 : decode cJ7_fill_53178 14 = .ok (.iinc 2 1, 3) := by decide +kernel
theorem dJ7_fill_53178_17 : decode cJ7_fill_53178 17 = .ok (.goto (-12), 3) := by decide +kernel
theorem dJ7_fill_53178_20 : decode cJ7_fill_53178 20 = .ok (.return_, 1) := by decide +kernel
theorem dJ7_copyOf_59c91_0 : decode cJ7_copyOf_59c91 0 = .ok (.iload_n 1, 1) := by decide +kernel
theorem dJ7_copyOf_59c91_1 : decode cJ7_copyOf_59c91 1 = .ok (.aload_n 0, 1) := by decide +kernel
theorem dJ7_copyOf_59c91_2 : decode cJ7_copyOf_59c91 2 = .ok (.arraylength, 1) := by decide +kernel
theorem dJ7_copyOf_59c91_3 : decode cJ7_copyOf_59c91 3 = .ok (.if_icmp .ne 11, 3) := by decide +kernel
theorem dJ7_copyOf_59c91_6 : decode cJ7_copyOf_59c91 6 = .ok (.aload_n 0, 1) := by decide +kernel
theorem dJ7_copyOf_59c91_7 : decode cJ7_copyOf_59c91 7 = .ok (.invokevirtual 316, 3) := by decide +kernel
theorem dJ7_copyOf_59c91_10 : decode cJ7_copyOf_59c91 10 = .ok (.checkcast 317, 3) := by decide +kernel
theorem dJ7_copyOf_59c91_13 : decode cJ7_copyOf_59c91 13 = .ok (.areturn, 1) := by decide +kernel
theorem dJ7_copyOf_59c91_14 : decode cJ7_copyOf_59c91 14 = .ok (.iload_n 1, 1) := by decide +kernel
theorem dJ7_copyOf_59c91_15 : decode cJ7_copyOf_59c91 15 = .ok (.newarray .int, 2) := by decide +kernel
theorem dJ7_copyOf_59c91_17 : decode cJ7_copyOf_59c91 17 = .ok (.astore_n 2, 1) := by decide +kernel
theorem dJ7_copyOf_59c91_18 : decode cJ7_copyOf_59c91 18 = .ok (.aload_n 0, 1) := by decide +kernel
theorem dJ7_copyOf_59c91_19 : decode cJ7_copyOf_59c91 19 = .ok (.iconst 0, 1) := by decide +kernel
theorem dJ7_copyOf_59c91_20 : decode cJ7_copyOf_59c91 20 = .ok (.aload_n 2, 1) := by decide +kernel
theorem dJ7_copyOf_59c91_21 : decode cJ7_copyOf_59c91 21 = .ok (.iconst 0, 1) := by decide +kernel
theorem dJ7_copyOf_59c91_22 : decode cJ7_copyOf_59c91 22 = .ok (.aload_n 0, 1) := by decide +kernel
theorem dJ7_copyOf_59c91_23 : decode cJ7_copyOf_59c91 23 = .ok (.arraylength, 1) := by decide +kernel
theorem dJ7_copyOf_59c91_24 : decode cJ7_copyOf_59c91 24 = .ok (.iload_n 1, 1) := by decide +kernel
theorem dJ7_copyOf_59c91_25 : decode cJ7_copyOf_59c91 25 = .ok (.invokestatic 304, 3) := by decide +kernel
theorem dJ7_copyOf_59c91_28 : decode cJ7_copyOf_59c91 28 = .ok (.invokestatic 150, 3) := by decide +kernel
theorem dJ7_copyOf_59c91_31 : decode cJ7_copyOf_59c91 31 = .ok (.aload_n 2, 1) := by decide +kernel
theorem dJ7_copyOf_59c91_32 : decode cJ7_copyOf_59c91 32 = .ok (.areturn, 1) := by decide +kernel
theorem dL_law_0 : decode cL_law 0 = .ok (.new 7, 3) := by decide +kernel
theorem dL_law_3 : decode cL_law 3 = .ok (.dup, 1) := by decide +kernel
theorem dL_law_4 : decode cL_law 4 = .ok (.invokespecial 9, 3) := by decide +kernel
theorem dL_law_7 : decode cL_law 7 = .ok (.astore_n 1, 1) := by decide +kernel
theorem dL_law_8 : decode cL_law 8 = .ok (.new 10, 3) := by decide +kernel
theorem dL_law_11 : decode cL_law 11 = .ok (.dup, 1) := by decide +kernel
theorem dL_law_12 : decode cL_law 12 = .ok (.invokespecial 12, 3) := by decide +kernel
theorem dL_law_15 : decode cL_law 15 = .ok (.astore_n 2, 1) := by decide +kernel
theorem dL_law_16 : decode cL_law 16 = .ok (.iconst 0, 1) := by decide +kernel
theorem dL_law_17 : decode cL_law 17 = .ok (.istore_n 3, 1) := by decide +kernel
theorem dL_law_18 : decode cL_law 18 = .ok (.iload_n 3, 1) := by decide +kernel
theorem dL_law_19 : decode cL_law 19 = .ok (.aload_n 0, 1) := by decide +kernel
theorem dL_law_20 : decode cL_law 20 = .ok (.arraylength, 1) := by decide +kernel
theorem dL_law_21 : decode cL_law 21 = .ok (.iconst 4, 1) := by decide +kernel
theorem dL_law_22 : decode cL_law 22 = .ok (.isub, 1) := by decide +kernel
theorem dL_law_23 : decode cL_law 23 = .ok (.if_icmp .gt 690, 3) := by decide +kernel
theorem dL_law_26 : decode cL_law 26 = .ok (.aload_n 0, 1) := by decide +kernel
theorem dL_law_27 : decode cL_law 27 = .ok (.iload_n 3, 1) := by decide +kernel
theorem dL_law_28 : decode cL_law 28 = .ok (.iaload, 1) := by decide +kernel
theorem dL_law_29 : decode cL_law 29 = .ok (.bipush 31, 2) := by decide +kernel
theorem dL_law_31 : decode cL_law 31 = .ok (.iand, 1) := by decide +kernel
theorem dL_law_32 : decode cL_law 32 = .ok (.tableswitch 675 0 19 #[96, 119, 152, 195, 218, 257, 280, 293, 326, 370, 393, 416, 439, 472, 495, 508, 541, 575, 619, 652], 96) := by decide +kernel
theorem dL_law_128 : decode cL_law 128 = .ok (.aload_n 1, 1) := by decide +kernel
theorem dL_law_129 : decode cL_law 129 = .ok (.aload_n 0, 1) := by decide +kernel
theorem dL_law_130 : decode cL_law 130 = .ok (.iload_n 3, 1) := by decide +kernel
theorem dL_law_131 : decode cL_law 131 = .ok (.iconst 1, 1) := by decide +kernel
theorem dL_law_132 : decode cL_law 132 = .ok (.iadd, 1) := by decide +kernel
theorem dL_law_133 : decode cL_law 133 = .ok (.iaload, 1) := by decide +kernel
theorem dL_law_134 : decode cL_law 134 = .ok (.invokevirtual 13, 3) := by decide +kernel
theorem dL_law_137 : decode cL_law 137 = .ok (.aload_n 2, 1) := by decide +kernel
theorem dL_law_138 : decode cL_law 138 = .ok (.aload_n 0, 1) := by decide +kernel
theorem dL_law_139 : decode cL_law 139 = .ok (.iload_n 3, 1) := by decide +kernel
theorem dL_law_140 : decode cL_law 140 = .ok (.iconst 1, 1) := by decide +kernel
theorem dL_law_141 : decode cL_law 141 = .ok (.iadd, 1) := by decide +kernel
theorem dL_law_142 : decode cL_law 142 = .ok (.iaload, 1) := by decide +kernel
theorem dL_law_143 : decode cL_law 143 = .ok (.invokevirtual 17, 3) := by decide +kernel
theorem dL_law_146 : decode cL_law 146 = .ok (.if_icmp .eq 561, 3) := by decide +kernel
theorem dL_law_149 : decode cL_law 149 = .ok (.iconst 0, 1) := by decide +kernel
theorem dL_law_150 : decode cL_law 150 = .ok (.ireturn, 1) := by decide +kernel
theorem dL_law_151 : decode cL_law 151 = .ok (.aload_n 1, 1) := by decide +kernel
theorem dL_law_152 : decode cL_law 152 = .ok (.aload_n 0, 1) := by decide +kernel
theorem dL_law_153 : decode cL_law 153 = .ok (.iload_n 3, 1) := by decide +kernel
theorem dL_law_154 : decode cL_law 154 = .ok (.iconst 1, 1) := by decide +kernel
theorem dL_law_155 : decode cL_law 155 = .ok (.iadd, 1) := by decide +kernel
theorem dL_law_156 : decode cL_law 156 = .ok (.iaload, 1) := by decide +kernel
theorem dL_law_157 : decode cL_law 157 = .ok (.aload_n 0, 1) := by decide +kernel
theorem dL_law_158 : decode cL_law 158 = .ok (.iload_n 3, 1) := by decide +kernel
theorem dL_law_159 : decode cL_law 159 = .ok (.iconst 2, 1) := by decide +kernel
theorem dL_law_160 : decode cL_law 160 = .ok (.iadd, 1) := by decide +kernel
theorem dL_law_161 : decode cL_law 161 = .ok (.iaload, 1) := by decide +kernel
theorem dL_law_162 : decode cL_law 162 = .ok (.invokevirtual 18, 3) := by decide +kernel
theorem dL_law_165 : decode cL_law 165 = .ok (.aload_n 2, 1) := by decide +kernel
theorem dL_law_166 : decode cL_law 166 = .ok (.aload_n 0, 1) := by decide +kernel
theorem dL_law_167 : decode cL_law 167 = .ok (.iload_n 3, 1) := by decide +kernel
theorem dL_law_168 : decode cL_law 168 = .ok (.iconst 1, 1) := by decide +kernel
theorem dL_law_169 : decode cL_law 169 = .ok (.iadd, 1) := by decide +kernel
theorem dL_law_170 : decode cL_law 170 = .ok (.iaload, 1) := by decide +kernel
theorem dL_law_171 : decode cL_law 171 = .ok (.aload_n 0, 1) := by decide +kernel
theorem dL_law_172 : decode cL_law 172 = .ok (.iload_n 3, 1) := by decide +kernel
theorem dL_law_173 : decode cL_law 173 = .ok (.iconst 2, 1) := by decide +kernel
theorem dL_law_174 : decode cL_law 174 = .ok (.iadd, 1) := by decide +kernel
theorem dL_law_175 : decode cL_law 175 = .ok (.iaload, 1) := by decide +kernel
theorem dL_law_176 : decode cL_law 176 = .ok (.invokevirtual 22, 3) := by decide +kernel
theorem dL_law_179 : decode cL_law 179 = .ok (.if_icmp .eq 528, 3) := by decide +kernel
theorem dL_law_182 : decode cL_law 182 = .ok (.iconst 0, 1) := by decide +kernel
theorem dL_law_183 : decode cL_law 183 = .ok (.ireturn, 1) := by decide +kernel
theorem dL_law_184 : decode cL_law 184 = .ok (.aload_n 1, 1) := by decide +kernel
theorem dL_law_185 : decode cL_law 185 = .ok (.aload_n 0, 1) := by decide +kernel
theorem dL_law_186 : decode cL_law 186 = .ok (.iload_n 3, 1) := by decide +kernel
theorem dL_law_187 : decode cL_law 187 = .ok (.iconst 1, 1) := by decide +kernel
theorem dL_law_188 : decode cL_law 188 = .ok (.iadd, 1) := by decide +kernel
theorem dL_law_189 : decode cL_law 189 = .ok (.iaload, 1) := by decide +kernel
theorem dL_law_190 : decode cL_law 190 = .ok (.aload_n 0, 1) := by decide +kernel
theorem dL_law_191 : decode cL_law 191 = .ok (.iload_n 3, 1) := by decide +kernel
theorem dL_law_192 : decode cL_law 192 = .ok (.iconst 2, 1) := by decide +kernel
theorem dL_law_193 : decode cL_law 193 = .ok (.iadd, 1) := by decide +kernel
theorem dL_law_194 : decode cL_law 194 = .ok (.iaload, 1) := by decide +kernel
theorem dL_law_195 : decode cL_law 195 = .ok (.aload_n 0, 1) := by decide +kernel
theorem dL_law_196 : decode cL_law 196 = .ok (.iload_n 3, 1) := by decide +kernel
theorem dL_law_197 : decode cL_law 197 = .ok (.iconst 3, 1) := by decide +kernel
theorem dL_law_198 : decode cL_law 198 = .ok (.iadd, 1) := by decide +kernel
theorem dL_law_199 : decode cL_law 199 = .ok (.iaload, 1) := by decide +kernel
theorem dL_law_200 : decode cL_law 200 = .ok (.invokevirtual 23, 3) := by decide +kernel
theorem dL_law_203 : decode cL_law 203 = .ok (.aload_n 2, 1) := by decide +kernel
theorem dL_law_204 : decode cL_law 204 = .ok (.aload_n 0, 1) := by decide +kernel
theorem dL_law_205 : decode cL_law 205 = .ok (.iload_n 3, 1) := by decide +kernel
theorem dL_law_206 : decode cL_law 206 = .ok (.iconst 1, 1) := by decide +kernel
theorem dL_law_207 : decode cL_law 207 = .ok (.iadd, 1) := by decide +kernel
theorem dL_law_208 : decode cL_law 208 = .ok (.iaload, 1) := by decide +kernel
theorem dL_law_209 : decode cL_law 209 = .ok (.aload_n 0, 1) := by decide +kernel
theorem dL_law_210 : decode cL_law 210 = .ok (.iload_n 3, 1) := by decide +kernel
theorem dL_law_211 : decode cL_law 211 = .ok (.iconst 2, 1) := by decide +kernel
theorem dL_law_212 : decode cL_law 212 = .ok (.iadd, 1) := by decide +kernel
theorem dL_law_213 : decode cL_law 213 = .ok (.iaload, 1) := by decide +kernel
theorem dL_law_214 : decode cL_law 214 = .ok (.aload_n 0, 1) := by decide +kernel
theorem dL_law_215 : decode cL_law 215 = .ok (.iload_n 3, 1) := by decide +kernel
theorem dL_law_216 : decode cL_law 216 = .ok (.iconst 3, 1) := by decide +kernel
theorem dL_law_217 : decode cL_law 217 = .ok (.iadd, 1) := by decide +kernel
theorem dL_law_218 : decode cL_law 218 = .ok (.iaload, 1) := by decide +kernel
theorem dL_law_219 : decode cL_law 219 = .ok (.invokevirtual 27, 3) := by decide +kernel
theorem dL_law_222 : decode cL_law 222 = .ok (.if_icmp .eq 485, 3) := by decide +kernel
theorem dL_law_225 : decode cL_law 225 = .ok (.iconst 0, 1) := by decide +kernel
theorem dL_law_226 : decode cL_law 226 = .ok (.ireturn, 1) := by decide +kernel
theorem dL_law_227 : decode cL_law 227 = .ok (.aload_n 1, 1) := by decide +kernel
theorem dL_law_228 : decode cL_law 228 = .ok (.aload_n 0, 1) := by decide +kernel
theorem dL_law_229 : decode cL_law 229 = .ok (.iload_n 3, 1) := by decide +kernel
theorem dL_law_230 : decode cL_law 230 = .ok (.iconst 1, 1) := by decide +kernel
theorem dL_law_231 : decode cL_law 231 = .ok (.iadd, 1) := by decide +kernel
theorem dL_law_232 : decode cL_law 232 = .ok (.iaload, 1) := by decide +kernel
theorem dL_law_233 : decode cL_law 233 = .ok (.invokevirtual 28, 3) := by decide +kernel
theorem dL_law_236 : decode cL_law 236 = .ok (.aload_n 2, 1) := by decide +kernel
theorem dL_law_237 : decode cL_law 237 = .ok (.aload_n 0, 1) := by decide +kernel
theorem dL_law_238 : decode cL_law 238 = .ok (.iload_n 3, 1) := by decide +kernel
theorem dL_law_239 : decode cL_law 239 = .ok (.iconst 1, 1) := by decide +kernel
theorem dL_law_240 : decode cL_law 240 = .ok (.iadd, 1) := by decide +kernel
theorem dL_law_241 : decode cL_law 241 = .ok (.iaload, 1) := by decide +kernel
theorem dL_law_242 : decode cL_law 242 = .ok (.invokevirtual 31, 3) := by decide +kernel
theorem dL_law_245 : decode cL_law 245 = .ok (.if_icmp .eq 462, 3) := by decide +kernel
theorem dL_law_248 : decode cL_law 248 = .ok (.iconst 0, 1) := by decide +kernel
theorem dL_law_249 : decode cL_law 249 = .ok (.ireturn, 1) := by decide +kernel
theorem dL_law_250 : decode cL_law 250 = .ok (.aload_n 1, 1) := by decide +kernel
theorem dL_law_251 : decode cL_law 251 = .ok (.aload_n 0, 1) := by decide +kernel
theorem dL_law_252 : decode cL_law 252 = .ok (.iload_n 3, 1) := by decide +kernel
theorem dL_law_253 : decode cL_law 253 = .ok (.iconst 1, 1) := by decide +kernel
theorem dL_law_254 : decode cL_law 254 = .ok (.iadd, 1) := by decide +kernel
theorem dL_law_255 : decode cL_law 255 = .ok (.iaload, 1) := by decide +kernel
theorem dL_law_256 : decode cL_law 256 = .ok (.ifCond .eq 7, 3) := by decide +kernel
theorem dL_law_259 : decode cL_law 259 = .ok (.iconst 1, 1) := by decide +kernel
theorem dL_law_260 : decode cL_law 260 = .ok (.goto 4, 3) := by decide +kernel
theorem dL_law_263 : decode cL_law 263 = .ok (.iconst 0, 1) := by decide +kernel
theorem dL_law_264 : decode cL_law 264 = .ok (.invokevirtual 32, 3) := by decide +kernel
theorem dL_law_267 : decode cL_law 267 = .ok (.aload_n 2, 1) := by decide +kernel
theorem dL_law_268 : decode cL_law 268 = .ok (.aload_n 0, 1) := by decide +kernel
theorem dL_law_269 : decode cL_law 269 = .ok (.iload_n 3, 1) := by decide +kernel
theorem dL_law_270 : decode cL_law 270 = .ok (.iconst 1, 1) := by decide +kernel
theorem dL_law_271 : decode cL_law 271 = .ok (.iadd, 1) := by decide +kernel
theorem dL_law_272 : decode cL_law 272 = .ok (.iaload, 1) := by decide +kernel
theorem dL_law_273 : decode cL_law 273 = .ok (.ifCond .eq 7, 3) := by decide +kernel
theorem dL_law_276 : decode cL_law 276 = .ok (.iconst 1, 1) := by decide +kernel
theorem dL_law_277 : decode cL_law 277 = .ok (.goto 4, 3) := by decide +kernel
theorem dL_law_280 : decode cL_law 280 = .ok (.iconst 0, 1) := by decide +kernel
theorem dL_law_281 : decode cL_law 281 = .ok (.invokevirtual 36, 3) := by decide +kernel
theorem dL_law_284 : decode cL_law 284 = .ok (.if_icmp .eq 423, 3) := by decide +kernel
theorem dL_law_287 : decode cL_law 287 = .ok (.iconst 0, 1) := by decide +kernel
theorem dL_law_288 : decode cL_law 288 = .ok (.ireturn, 1) := by decide +kernel
theorem dL_law_289 : decode cL_law 289 = .ok (.aload_n 1, 1) := by decide +kernel
theorem dL_law_290 : decode cL_law 290 = .ok (.aload_n 0, 1) := by decide +kernel
theorem dL_law_291 : decode cL_law 291 = .ok (.iload_n 3, 1) := by decide +kernel
theorem dL_law_292 : decode cL_law 292 = .ok (.iconst 1, 1) := by decide +kernel
theorem dL_law_293 : decode cL_law 293 = .ok (.iadd, 1) := by decide +kernel
theorem dL_law_294 : decode cL_law 294 = .ok (.iaload, 1) := by decide +kernel
theorem dL_law_295 : decode cL_law 295 = .ok (.invokevirtual 37, 3) := by decide +kernel
theorem dL_law_298 : decode cL_law 298 = .ok (.aload_n 2, 1) := by decide +kernel
theorem dL_law_299 : decode cL_law 299 = .ok (.aload_n 0, 1) := by decide +kernel
theorem dL_law_300 : decode cL_law 300 = .ok (.iload_n 3, 1) := by decide +kernel
theorem dL_law_301 : decode cL_law 301 = .ok (.iconst 1, 1) := by decide +kernel
theorem dL_law_302 : decode cL_law 302 = .ok (.iadd, 1) := by decide +kernel
theorem dL_law_303 : decode cL_law 303 = .ok (.iaload, 1) := by decide +kernel
theorem dL_law_304 : decode cL_law 304 = .ok (.invokevirtual 40, 3) := by decide +kernel
theorem dL_law_307 : decode cL_law 307 = .ok (.if_icmp .eq 400, 3) := by decide +kernel
theorem dL_law_310 : decode cL_law 310 = .ok (.iconst 0, 1) := by decide +kernel
theorem dL_law_311 : decode cL_law 311 = .ok (.ireturn, 1) := by decide +kernel
theorem dL_law_312 : decode cL_law 312 = .ok (.aload_n 1, 1) := by decide +kernel
theorem dL_law_313 : decode cL_law 313 = .ok (.invokevirtual 41, 3) := by decide +kernel
theorem dL_law_316 : decode cL_law 316 = .ok (.aload_n 2, 1) := by decide +kernel
theorem dL_law_317 : decode cL_law 317 = .ok (.invokevirtual 45, 3) := by decide +kernel
theorem dL_law_320 : decode cL_law 320 = .ok (.if_icmp .eq 387, 3) := by decide +kernel
theorem dL_law_323 : decode cL_law 323 = .ok (.iconst 0, 1) := by decide +kernel
theorem dL_law_324 : decode cL_law 324 = .ok (.ireturn, 1) := by decide +kernel
theorem dL_law_325 : decode cL_law 325 = .ok (.aload_n 1, 1) := by decide +kernel
theorem dL_law_326 : decode cL_law 326 = .ok (.aload_n 0, 1) := by decide +kernel
theorem dL_law_327 : decode cL_law 327 = .ok (.iload_n 3, 1) := by decide +kernel
theorem dL_law_328 : decode cL_law 328 = .ok (.iconst 1, 1) := by decide +kernel
theorem dL_law_329 : decode cL_law 329 = .ok (.iadd, 1) := by decide +kernel
theorem dL_law_330 : decode cL_law 330 = .ok (.iaload, 1) := by decide +kernel
theorem dL_law_331 : decode cL_law 331 = .ok (.aload_n 0, 1) := by decide +kernel
theorem dL_law_332 : decode cL_law 332 = .ok (.iload_n 3, 1) := by decide +kernel
theorem dL_law_333 : decode cL_law 333 = .ok (.iconst 2, 1) := by decide +kernel
theorem dL_law_334 : decode cL_law 334 = .ok (.iadd, 1) := by decide +kernel
theorem dL_law_335 : decode cL_law 335 = .ok (.iaload, 1) := by decide +kernel
theorem dL_law_336 : decode cL_law 336 = .ok (.invokevirtual 46, 3) := by decide +kernel
theorem dL_law_339 : decode cL_law 339 = .ok (.aload_n 2, 1) := by decide +kernel
theorem dL_law_340 : decode cL_law 340 = .ok (.aload_n 0, 1) := by decide +kernel
theorem dL_law_341 : decode cL_law 341 = .ok (.iload_n 3, 1) := by decide +kernel
theorem dL_law_342 : decode cL_law 342 = .ok (.iconst 1, 1) := by decide +kernel
theorem dL_law_343 : decode cL_law 343 = .ok (.iadd, 1) := by decide +kernel
theorem dL_law_344 : decode cL_law 344 = .ok (.iaload, 1) := by decide +kernel
theorem dL_law_345 : decode cL_law 345 = .ok (.aload_n 0, 1) := by decide +kernel
theorem dL_law_346 : decode cL_law 346 = .ok (.iload_n 3, 1) := by decide +kernel
theorem dL_law_347 : decode cL_law 347 = .ok (.iconst 2, 1) := by decide +kernel
theorem dL_law_348 : decode cL_law 348 = .ok (.iadd, 1) := by decide +kernel
theorem dL_law_349 : decode cL_law 349 = .ok (.iaload, 1) := by decide +kernel
theorem dL_law_350 : decode cL_law 350 = .ok (.invokevirtual 49, 3) := by decide +kernel
theorem dL_law_353 : decode cL_law 353 = .ok (.if_icmp .eq 354, 3) := by decide +kernel
theorem dL_law_356 : decode cL_law 356 = .ok (.iconst 0, 1) := by decide +kernel
theorem dL_law_357 : decode cL_law 357 = .ok (.ireturn, 1) := by decide +kernel
theorem dL_law_358 : decode cL_law 358 = .ok (.aload_n 1, 1) := by decide +kernel
theorem dL_law_359 : decode cL_law 359 = .ok (.aload_n 0, 1) := by decide +kernel
theorem dL_law_360 : decode cL_law 360 = .ok (.iload_n 3, 1) := by decide +kernel
theorem dL_law_361 : decode cL_law 361 = .ok (.iconst 1, 1) := by decide +kernel
theorem dL_law_362 : decode cL_law 362 = .ok (.iadd, 1) := by decide +kernel
theorem dL_law_363 : decode cL_law 363 = .ok (.iaload, 1) := by decide +kernel
theorem dL_law_364 : decode cL_law 364 = .ok (.aload_n 0, 1) := by decide +kernel
theorem dL_law_365 : decode cL_law 365 = .ok (.iload_n 3, 1) := by decide +kernel
theorem dL_law_366 : decode cL_law 366 = .ok (.iconst 2, 1) := by decide +kernel
theorem dL_law_367 : decode cL_law 367 = .ok (.iadd, 1) := by decide +kernel
theorem dL_law_368 : decode cL_law 368 = .ok (.iaload, 1) := by decide +kernel
theorem dL_law_369 : decode cL_law 369 = .ok (.aload_n 0, 1) := by decide +kernel
theorem dL_law_370 : decode cL_law 370 = .ok (.iload_n 3, 1) := by decide +kernel
theorem dL_law_371 : decode cL_law 371 = .ok (.iconst 3, 1) := by decide +kernel
theorem dL_law_372 : decode cL_law 372 = .ok (.iadd, 1) := by decide +kernel
theorem dL_law_373 : decode cL_law 373 = .ok (.iaload, 1) := by decide +kernel
theorem dL_law_374 : decode cL_law 374 = .ok (.invokevirtual 50, 3) := by decide +kernel
theorem dL_law_377 : decode cL_law 377 = .ok (.aload_n 2, 1) := by decide +kernel
theorem dL_law_378 : decode cL_law 378 = .ok (.aload_n 0, 1) := by decide +kernel
theorem dL_law_379 : decode cL_law 379 = .ok (.iload_n 3, 1) := by decide +kernel
theorem dL_law_380 : decode cL_law 380 = .ok (.iconst 1, 1) := by decide +kernel
theorem dL_law_381 : decode cL_law 381 = .ok (.iadd, 1) := by decide +kernel
theorem dL_law_382 : decode cL_law 382 = .ok (.iaload, 1) := by decide +kernel
theorem dL_law_383 : decode cL_law 383 = .ok (.aload_n 0, 1) := by decide +kernel
theorem dL_law_384 : decode cL_law 384 = .ok (.iload_n 3, 1) := by decide +kernel
theorem dL_law_385 : decode cL_law 385 = .ok (.iconst 2, 1) := by decide +kernel
theorem dL_law_386 : decode cL_law 386 = .ok (.iadd, 1) := by decide +kernel
theorem dL_law_387 : decode cL_law 387 = .ok (.iaload, 1) := by decide +kernel
theorem dL_law_388 : decode cL_law 388 = .ok (.aload_n 0, 1) := by decide +kernel
theorem dL_law_389 : decode cL_law 389 = .ok (.iload_n 3, 1) := by decide +kernel
theorem dL_law_390 : decode cL_law 390 = .ok (.iconst 3, 1) := by decide +kernel
theorem dL_law_391 : decode cL_law 391 = .ok (.iadd, 1) := by decide +kernel
theorem dL_law_392 : decode cL_law 392 = .ok (.iaload, 1) := by decide +kernel
theorem dL_law_393 : decode cL_law 393 = .ok (.invokevirtual 54, 3) := by decide +kernel
theorem dL_law_396 : decode cL_law 396 = .ok (.lcmp, 1) := by decide +kernel
theorem dL_law_397 : decode cL_law 397 = .ok (.ifCond .eq 310, 3) := by decide +kernel
theorem dL_law_400 : decode cL_law 400 = .ok (.iconst 0, 1) := by decide +kernel
theorem dL_law_401 : decode cL_law 401 = .ok (.ireturn, 1) := by decide +kernel
theorem dL_law_402 : decode cL_law 402 = .ok (.aload_n 1, 1) := by decide +kernel
theorem dL_law_403 : decode cL_law 403 = .ok (.aload_n 0, 1) := by decide +kernel
theorem dL_law_404 : decode cL_law 404 = .ok (.iload_n 3, 1) := by decide +kernel
theorem dL_law_405 : decode cL_law 405 = .ok (.iconst 1, 1) := by decide +kernel
theorem dL_law_406 : decode cL_law 406 = .ok (.iadd, 1) := by decide +kernel
theorem dL_law_407 : decode cL_law 407 = .ok (.iaload, 1) := by decide +kernel
theorem dL_law_408 : decode cL_law 408 = .ok (.invokevirtual 55, 3) := by decide +kernel
theorem dL_law_411 : decode cL_law 411 = .ok (.aload_n 2, 1) := by decide +kernel
theorem dL_law_412 : decode cL_law 412 = .ok (.aload_n 0, 1) := by decide +kernel
theorem dL_law_413 : decode cL_law 413 = .ok (.iload_n 3, 1) := by decide +kernel
theorem dL_law_414 : decode cL_law 414 = .ok (.iconst 1, 1) := by decide +kernel
theorem dL_law_415 : decode cL_law 415 = .ok (.iadd, 1) := by decide +kernel
theorem dL_law_416 : decode cL_law 416 = .ok (.iaload, 1) := by decide +kernel
theorem dL_law_417 : decode cL_law 417 = .ok (.invokevirtual 58, 3) := by decide +kernel
theorem dL_law_420 : decode cL_law 420 = .ok (.if_icmp .eq 287, 3) := by decide +kernel
theorem dL_law_423 : decode cL_law 423 = .ok (.iconst 0, 1) := by decide +kernel
theorem dL_law_424 : decode cL_law 424 = .ok (.ireturn, 1) := by decide +kernel
theorem dL_law_425 : decode cL_law 425 = .ok (.aload_n 1, 1) := by decide +kernel
theorem dL_law_426 : decode cL_law 426 = .ok (.aload_n 0, 1) := by decide +kernel
theorem dL_law_427 : decode cL_law 427 = .ok (.iload_n 3, 1) := by decide +kernel
theorem dL_law_428 : decode cL_law 428 = .ok (.iconst 1, 1) := by decide +kernel
theorem dL_law_429 : decode cL_law 429 = .ok (.iadd, 1) := by decide +kernel
theorem dL_law_430 : decode cL_law 430 = .ok (.iaload, 1) := by decide +kernel
theorem dL_law_431 : decode cL_law 431 = .ok (.invokevirtual 59, 3) := by decide +kernel
theorem dL_law_434 : decode cL_law 434 = .ok (.aload_n 2, 1) := by decide +kernel
theorem dL_law_435 : decode cL_law 435 = .ok (.aload_n 0, 1) := by decide +kernel
theorem dL_law_436 : decode cL_law 436 = .ok (.iload_n 3, 1) := by decide +kernel
theorem dL_law_437 : decode cL_law 437 = .ok (.iconst 1, 1) := by decide +kernel
theorem dL_law_438 : decode cL_law 438 = .ok (.iadd, 1) := by decide +kernel
theorem dL_law_439 : decode cL_law 439 = .ok (.iaload, 1) := by decide +kernel
theorem dL_law_440 : decode cL_law 440 = .ok (.invokevirtual 62, 3) := by decide +kernel
theorem dL_law_443 : decode cL_law 443 = .ok (.if_icmp .eq 264, 3) := by decide +kernel
theorem dL_law_446 : decode cL_law 446 = .ok (.iconst 0, 1) := by decide +kernel
theorem dL_law_447 : decode cL_law 447 = .ok (.ireturn, 1) := by decide +kernel
theorem dL_law_448 : decode cL_law 448 = .ok (.aload_n 1, 1) := by decide +kernel
theorem dL_law_449 : decode cL_law 449 = .ok (.aload_n 0, 1) := by decide +kernel
theorem dL_law_450 : decode cL_law 450 = .ok (.iload_n 3, 1) := by decide +kernel
theorem dL_law_451 : decode cL_law 451 = .ok (.iconst 1, 1) := by decide +kernel
theorem dL_law_452 : decode cL_law 452 = .ok (.iadd, 1) := by decide +kernel
theorem dL_law_453 : decode cL_law 453 = .ok (.iaload, 1) := by decide +kernel
theorem dL_law_454 : decode cL_law 454 = .ok (.invokevirtual 63, 3) := by decide +kernel
theorem dL_law_457 : decode cL_law 457 = .ok (.aload_n 2, 1) := by decide +kernel
theorem dL_law_458 : decode cL_law 458 = .ok (.aload_n 0, 1) := by decide +kernel
theorem dL_law_459 : decode cL_law 459 = .ok (.iload_n 3, 1) := by decide +kernel
theorem dL_law_460 : decode cL_law 460 = .ok (.iconst 1, 1) := by decide +kernel
theorem dL_law_461 : decode cL_law 461 = .ok (.iadd, 1) := by decide +kernel
theorem dL_law_462 : decode cL_law 462 = .ok (.iaload, 1) := by decide +kernel
theorem dL_law_463 : decode cL_law 463 = .ok (.invokevirtual 66, 3) := by decide +kernel
theorem dL_law_466 : decode cL_law 466 = .ok (.if_icmp .eq 241, 3) := by decide +kernel
theorem dL_law_469 : decode cL_law 469 = .ok (.iconst 0, 1) := by decide +kernel
theorem dL_law_470 : decode cL_law 470 = .ok (.ireturn, 1) := by decide +kernel
theorem dL_law_471 : decode cL_law 471 = .ok (.aload_n 1, 1) := by decide +kernel
theorem dL_law_472 : decode cL_law 472 = .ok (.aload_n 0, 1) := by decide +kernel
theorem dL_law_473 : decode cL_law 473 = .ok (.iload_n 3, 1) := by decide +kernel
theorem dL_law_474 : decode cL_law 474 = .ok (.iconst 1, 1) := by decide +kernel
theorem dL_law_475 : decode cL_law 475 = .ok (.iadd, 1) := by decide +kernel
theorem dL_law_476 : decode cL_law 476 = .ok (.iaload, 1) := by decide +kernel
theorem dL_law_477 : decode cL_law 477 = .ok (.aload_n 0, 1) := by decide +kernel
theorem dL_law_478 : decode cL_law 478 = .ok (.iload_n 3, 1) := by decide +kernel
theorem dL_law_479 : decode cL_law 479 = .ok (.iconst 2, 1) := by decide +kernel
theorem dL_law_480 : decode cL_law 480 = .ok (.iadd, 1) := by decide +kernel
theorem dL_law_481 : decode cL_law 481 = .ok (.iaload, 1) := by decide +kernel
theorem dL_law_482 : decode cL_law 482 = .ok (.invokevirtual 67, 3) := by decide +kernel
theorem dL_law_485 : decode cL_law 485 = .ok (.aload_n 2, 1) := by decide +kernel
theorem dL_law_486 : decode cL_law 486 = .ok (.aload_n 0, 1) := by decide +kernel
theorem dL_law_487 : decode cL_law 487 = .ok (.iload_n 3, 1) := by decide +kernel
theorem dL_law_488 : decode cL_law 488 = .ok (.iconst 1, 1) := by decide +kernel
theorem dL_law_489 : decode cL_law 489 = .ok (.iadd, 1) := by decide +kernel
theorem dL_law_490 : decode cL_law 490 = .ok (.iaload, 1) := by decide +kernel
theorem dL_law_491 : decode cL_law 491 = .ok (.aload_n 0, 1) := by decide +kernel
theorem dL_law_492 : decode cL_law 492 = .ok (.iload_n 3, 1) := by decide +kernel
theorem dL_law_493 : decode cL_law 493 = .ok (.iconst 2, 1) := by decide +kernel
theorem dL_law_494 : decode cL_law 494 = .ok (.iadd, 1) := by decide +kernel
theorem dL_law_495 : decode cL_law 495 = .ok (.iaload, 1) := by decide +kernel
theorem dL_law_496 : decode cL_law 496 = .ok (.invokevirtual 70, 3) := by decide +kernel
theorem dL_law_499 : decode cL_law 499 = .ok (.if_icmp .eq 208, 3) := by decide +kernel
theorem dL_law_502 : decode cL_law 502 = .ok (.iconst 0, 1) := by decide +kernel
theorem dL_law_503 : decode cL_law 503 = .ok (.ireturn, 1) := by decide +kernel
theorem dL_law_504 : decode cL_law 504 = .ok (.aload_n 1, 1) := by decide +kernel
theorem dL_law_505 : decode cL_law 505 = .ok (.aload_n 0, 1) := by decide +kernel
theorem dL_law_506 : decode cL_law 506 = .ok (.iload_n 3, 1) := by decide +kernel
theorem dL_law_507 : decode cL_law 507 = .ok (.iconst 1, 1) := by decide +kernel
theorem dL_law_508 : decode cL_law 508 = .ok (.iadd, 1) := by decide +kernel
theorem dL_law_509 : decode cL_law 509 = .ok (.iaload, 1) := by decide +kernel
theorem dL_law_510 : decode cL_law 510 = .ok (.invokevirtual 71, 3) := by decide +kernel
theorem dL_law_513 : decode cL_law 513 = .ok (.aload_n 2, 1) := by decide +kernel
theorem dL_law_514 : decode cL_law 514 = .ok (.aload_n 0, 1) := by decide +kernel
theorem dL_law_515 : decode cL_law 515 = .ok (.iload_n 3, 1) := by decide +kernel
theorem dL_law_516 : decode cL_law 516 = .ok (.iconst 1, 1) := by decide +kernel
theorem dL_law_517 : decode cL_law 517 = .ok (.iadd, 1) := by decide +kernel
theorem dL_law_518 : decode cL_law 518 = .ok (.iaload, 1) := by decide +kernel
theorem dL_law_519 : decode cL_law 519 = .ok (.invokevirtual 74, 3) := by decide +kernel
theorem dL_law_522 : decode cL_law 522 = .ok (.if_icmp .eq 185, 3) := by decide +kernel
theorem dL_law_525 : decode cL_law 525 = .ok (.iconst 0, 1) := by decide +kernel
theorem dL_law_526 : decode cL_law 526 = .ok (.ireturn, 1) := by decide +kernel
theorem dL_law_527 : decode cL_law 527 = .ok (.aload_n 1, 1) := by decide +kernel
theorem dL_law_528 : decode cL_law 528 = .ok (.invokevirtual 75, 3) := by decide +kernel
theorem dL_law_531 : decode cL_law 531 = .ok (.aload_n 2, 1) := by decide +kernel
theorem dL_law_532 : decode cL_law 532 = .ok (.invokevirtual 78, 3) := by decide +kernel
theorem dL_law_535 : decode cL_law 535 = .ok (.if_icmp .eq 172, 3) := by decide +kernel
theorem dL_law_538 : decode cL_law 538 = .ok (.iconst 0, 1) := by decide +kernel
theorem dL_law_539 : decode cL_law 539 = .ok (.ireturn, 1) := by decide +kernel
theorem dL_law_540 : decode cL_law 540 = .ok (.aload_n 1, 1) := by decide +kernel
theorem dL_law_541 : decode cL_law 541 = .ok (.aload_n 0, 1) := by decide +kernel
theorem dL_law_542 : decode cL_law 542 = .ok (.iload_n 3, 1) := by decide +kernel
theorem dL_law_543 : decode cL_law 543 = .ok (.iconst 1, 1) := by decide +kernel
theorem dL_law_544 : decode cL_law 544 = .ok (.iadd, 1) := by decide +kernel
theorem dL_law_545 : decode cL_law 545 = .ok (.iaload, 1) := by decide +kernel
theorem dL_law_546 : decode cL_law 546 = .ok (.aload_n 0, 1) := by decide +kernel
theorem dL_law_547 : decode cL_law 547 = .ok (.iload_n 3, 1) := by decide +kernel
theorem dL_law_548 : decode cL_law 548 = .ok (.iconst 2, 1) := by decide +kernel
theorem dL_law_549 : decode cL_law 549 = .ok (.iadd, 1) := by decide +kernel
theorem dL_law_550 : decode cL_law 550 = .ok (.iaload, 1) := by decide +kernel
theorem dL_law_551 : decode cL_law 551 = .ok (.invokevirtual 79, 3) := by decide +kernel
theorem dL_law_554 : decode cL_law 554 = .ok (.aload_n 2, 1) := by decide +kernel
theorem dL_law_555 : decode cL_law 555 = .ok (.aload_n 0, 1) := by decide +kernel
theorem dL_law_556 : decode cL_law 556 = .ok (.iload_n 3, 1) := by decide +kernel
theorem dL_law_557 : decode cL_law 557 = .ok (.iconst 1, 1) := by decide +kernel
theorem dL_law_558 : decode cL_law 558 = .ok (.iadd, 1) := by decide +kernel
theorem dL_law_559 : decode cL_law 559 = .ok (.iaload, 1) := by decide +kernel
theorem dL_law_560 : decode cL_law 560 = .ok (.aload_n 0, 1) := by decide +kernel
theorem dL_law_561 : decode cL_law 561 = .ok (.iload_n 3, 1) := by decide +kernel
theorem dL_law_562 : decode cL_law 562 = .ok (.iconst 2, 1) := by decide +kernel
theorem dL_law_563 : decode cL_law 563 = .ok (.iadd, 1) := by decide +kernel
theorem dL_law_564 : decode cL_law 564 = .ok (.iaload, 1) := by decide +kernel
theorem dL_law_565 : decode cL_law 565 = .ok (.invokevirtual 82, 3) := by decide +kernel
theorem dL_law_568 : decode cL_law 568 = .ok (.if_icmp .eq 139, 3) := by decide +kernel
theorem dL_law_571 : decode cL_law 571 = .ok (.iconst 0, 1) := by decide +kernel
theorem dL_law_572 : decode cL_law 572 = .ok (.ireturn, 1) := by decide +kernel
theorem dL_law_573 : decode cL_law 573 = .ok (.aload_n 1, 1) := by decide +kernel
theorem dL_law_574 : decode cL_law 574 = .ok (.aload_n 0, 1) := by decide +kernel
theorem dL_law_575 : decode cL_law 575 = .ok (.iload_n 3, 1) := by decide +kernel
theorem dL_law_576 : decode cL_law 576 = .ok (.iconst 1, 1) := by decide +kernel
theorem dL_law_577 : decode cL_law 577 = .ok (.iadd, 1) := by decide +kernel
theorem dL_law_578 : decode cL_law 578 = .ok (.iaload, 1) := by decide +kernel
theorem dL_law_579 : decode cL_law 579 = .ok (.aload_n 0, 1) := by decide +kernel
theorem dL_law_580 : decode cL_law 580 = .ok (.iload_n 3, 1) := by decide +kernel
theorem dL_law_581 : decode cL_law 581 = .ok (.iconst 2, 1) := by decide +kernel
theorem dL_law_582 : decode cL_law 582 = .ok (.iadd, 1) := by decide +kernel
theorem dL_law_583 : decode cL_law 583 = .ok (.iaload, 1) := by decide +kernel
theorem dL_law_584 : decode cL_law 584 = .ok (.invokevirtual 83, 3) := by decide +kernel
theorem dL_law_587 : decode cL_law 587 = .ok (.aload_n 2, 1) := by decide +kernel
theorem dL_law_588 : decode cL_law 588 = .ok (.aload_n 0, 1) := by decide +kernel
theorem dL_law_589 : decode cL_law 589 = .ok (.iload_n 3, 1) := by decide +kernel
theorem dL_law_590 : decode cL_law 590 = .ok (.iconst 1, 1) := by decide +kernel
theorem dL_law_591 : decode cL_law 591 = .ok (.iadd, 1) := by decide +kernel
theorem dL_law_592 : decode cL_law 592 = .ok (.iaload, 1) := by decide +kernel
theorem dL_law_593 : decode cL_law 593 = .ok (.aload_n 0, 1) := by decide +kernel
theorem dL_law_594 : decode cL_law 594 = .ok (.iload_n 3, 1) := by decide +kernel
theorem dL_law_595 : decode cL_law 595 = .ok (.iconst 2, 1) := by decide +kernel
theorem dL_law_596 : decode cL_law 596 = .ok (.iadd, 1) := by decide +kernel
theorem dL_law_597 : decode cL_law 597 = .ok (.iaload, 1) := by decide +kernel
theorem dL_law_598 : decode cL_law 598 = .ok (.invokevirtual 87, 3) := by decide +kernel
theorem dL_law_601 : decode cL_law 601 = .ok (.lcmp, 1) := by decide +kernel
theorem dL_law_602 : decode cL_law 602 = .ok (.ifCond .eq 105, 3) := by decide +kernel
theorem dL_law_605 : decode cL_law 605 = .ok (.iconst 0, 1) := by decide +kernel
theorem dL_law_606 : decode cL_law 606 = .ok (.ireturn, 1) := by decide +kernel
theorem dL_law_607 : decode cL_law 607 = .ok (.aload_n 1, 1) := by decide +kernel
theorem dL_law_608 : decode cL_law 608 = .ok (.aload_n 0, 1) := by decide +kernel
theorem dL_law_609 : decode cL_law 609 = .ok (.iload_n 3, 1) := by decide +kernel
theorem dL_law_610 : decode cL_law 610 = .ok (.iconst 1, 1) := by decide +kernel
theorem dL_law_611 : decode cL_law 611 = .ok (.iadd, 1) := by decide +kernel
theorem dL_law_612 : decode cL_law 612 = .ok (.iaload, 1) := by decide +kernel
theorem dL_law_613 : decode cL_law 613 = .ok (.aload_n 0, 1) := by decide +kernel
theorem dL_law_614 : decode cL_law 614 = .ok (.iload_n 3, 1) := by decide +kernel
theorem dL_law_615 : decode cL_law 615 = .ok (.iconst 2, 1) := by decide +kernel
theorem dL_law_616 : decode cL_law 616 = .ok (.iadd, 1) := by decide +kernel
theorem dL_law_617 : decode cL_law 617 = .ok (.iaload, 1) := by decide +kernel
theorem dL_law_618 : decode cL_law 618 = .ok (.aload_n 0, 1) := by decide +kernel
theorem dL_law_619 : decode cL_law 619 = .ok (.iload_n 3, 1) := by decide +kernel
theorem dL_law_620 : decode cL_law 620 = .ok (.iconst 3, 1) := by decide +kernel
theorem dL_law_621 : decode cL_law 621 = .ok (.iadd, 1) := by decide +kernel
theorem dL_law_622 : decode cL_law 622 = .ok (.iaload, 1) := by decide +kernel
theorem dL_law_623 : decode cL_law 623 = .ok (.invokevirtual 88, 3) := by decide +kernel
theorem dL_law_626 : decode cL_law 626 = .ok (.aload_n 2, 1) := by decide +kernel
theorem dL_law_627 : decode cL_law 627 = .ok (.aload_n 0, 1) := by decide +kernel
theorem dL_law_628 : decode cL_law 628 = .ok (.iload_n 3, 1) := by decide +kernel
theorem dL_law_629 : decode cL_law 629 = .ok (.iconst 1, 1) := by decide +kernel
theorem dL_law_630 : decode cL_law 630 = .ok (.iadd, 1) := by decide +kernel
theorem dL_law_631 : decode cL_law 631 = .ok (.iaload, 1) := by decide +kernel
theorem dL_law_632 : decode cL_law 632 = .ok (.aload_n 0, 1) := by decide +kernel
theorem dL_law_633 : decode cL_law 633 = .ok (.iload_n 3, 1) := by decide +kernel
theorem dL_law_634 : decode cL_law 634 = .ok (.iconst 2, 1) := by decide +kernel
theorem dL_law_635 : decode cL_law 635 = .ok (.iadd, 1) := by decide +kernel
theorem dL_law_636 : decode cL_law 636 = .ok (.iaload, 1) := by decide +kernel
theorem dL_law_637 : decode cL_law 637 = .ok (.aload_n 0, 1) := by decide +kernel
theorem dL_law_638 : decode cL_law 638 = .ok (.iload_n 3, 1) := by decide +kernel
theorem dL_law_639 : decode cL_law 639 = .ok (.iconst 3, 1) := by decide +kernel
theorem dL_law_640 : decode cL_law 640 = .ok (.iadd, 1) := by decide +kernel
theorem dL_law_641 : decode cL_law 641 = .ok (.iaload, 1) := by decide +kernel
theorem dL_law_642 : decode cL_law 642 = .ok (.invokevirtual 91, 3) := by decide +kernel
theorem dL_law_645 : decode cL_law 645 = .ok (.lcmp, 1) := by decide +kernel
theorem dL_law_646 : decode cL_law 646 = .ok (.ifCond .eq 61, 3) := by decide +kernel
theorem dL_law_649 : decode cL_law 649 = .ok (.iconst 0, 1) := by decide +kernel
theorem dL_law_650 : decode cL_law 650 = .ok (.ireturn, 1) := by decide +kernel
theorem dL_law_651 : decode cL_law 651 = .ok (.aload_n 1, 1) := by decide +kernel
theorem dL_law_652 : decode cL_law 652 = .ok (.aload_n 0, 1) := by decide +kernel
theorem dL_law_653 : decode cL_law 653 = .ok (.iload_n 3, 1) := by decide +kernel
theorem dL_law_654 : decode cL_law 654 = .ok (.iconst 1, 1) := by decide +kernel
theorem dL_law_655 : decode cL_law 655 = .ok (.iadd, 1) := by decide +kernel
theorem dL_law_656 : decode cL_law 656 = .ok (.iaload, 1) := by decide +kernel
theorem dL_law_657 : decode cL_law 657 = .ok (.aload_n 0, 1) := by decide +kernel
theorem dL_law_658 : decode cL_law 658 = .ok (.iload_n 3, 1) := by decide +kernel
theorem dL_law_659 : decode cL_law 659 = .ok (.iconst 2, 1) := by decide +kernel
theorem dL_law_660 : decode cL_law 660 = .ok (.iadd, 1) := by decide +kernel
theorem dL_law_661 : decode cL_law 661 = .ok (.iaload, 1) := by decide +kernel
theorem dL_law_662 : decode cL_law 662 = .ok (.invokevirtual 92, 3) := by decide +kernel
theorem dL_law_665 : decode cL_law 665 = .ok (.aload_n 2, 1) := by decide +kernel
theorem dL_law_666 : decode cL_law 666 = .ok (.aload_n 0, 1) := by decide +kernel
theorem dL_law_667 : decode cL_law 667 = .ok (.iload_n 3, 1) := by decide +kernel
theorem dL_law_668 : decode cL_law 668 = .ok (.iconst 1, 1) := by decide +kernel
theorem dL_law_669 : decode cL_law 669 = .ok (.iadd, 1) := by decide +kernel
theorem dL_law_670 : decode cL_law 670 = .ok (.iaload, 1) := by decide +kernel
theorem dL_law_671 : decode cL_law 671 = .ok (.aload_n 0, 1) := by decide +kernel
theorem dL_law_672 : decode cL_law 672 = .ok (.iload_n 3, 1) := by decide +kernel
theorem dL_law_673 : decode cL_law 673 = .ok (.iconst 2, 1) := by decide +kernel
theorem dL_law_674 : decode cL_law 674 = .ok (.iadd, 1) := by decide +kernel
theorem dL_law_675 : decode cL_law 675 = .ok (.iaload, 1) := by decide +kernel
theorem dL_law_676 : decode cL_law 676 = .ok (.invokevirtual 95, 3) := by decide +kernel
theorem dL_law_679 : decode cL_law 679 = .ok (.if_icmp .eq 28, 3) := by decide +kernel
theorem dL_law_682 : decode cL_law 682 = .ok (.iconst 0, 1) := by decide +kernel
theorem dL_law_683 : decode cL_law 683 = .ok (.ireturn, 1) := by decide +kernel
theorem dL_law_684 : decode cL_law 684 = .ok (.aload_n 1, 1) := by decide +kernel
theorem dL_law_685 : decode cL_law 685 = .ok (.aload_n 0, 1) := by decide +kernel
theorem dL_law_686 : decode cL_law 686 = .ok (.iload_n 3, 1) := by decide +kernel
theorem dL_law_687 : decode cL_law 687 = .ok (.iconst 1, 1) := by decide +kernel
theorem dL_law_688 : decode cL_law 688 = .ok (.iadd, 1) := by decide +kernel
theorem dL_law_689 : decode cL_law 689 = .ok (.iaload, 1) := by decide +kernel
theorem dL_law_690 : decode cL_law 690 = .ok (.invokevirtual 96, 3) := by decide +kernel
theorem dL_law_693 : decode cL_law 693 = .ok (.aload_n 2, 1) := by decide +kernel
theorem dL_law_694 : decode cL_law 694 = .ok (.aload_n 0, 1) := by decide +kernel
theorem dL_law_695 : decode cL_law 695 = .ok (.iload_n 3, 1) := by decide +kernel
theorem dL_law_696 : decode cL_law 696 = .ok (.iconst 1, 1) := by decide +kernel
theorem dL_law_697 : decode cL_law 697 = .ok (.iadd, 1) := by decide +kernel
theorem dL_law_698 : decode cL_law 698 = .ok (.iaload, 1) := by decide +kernel
theorem dL_law_699 : decode cL_law 699 = .ok (.invokevirtual 99, 3) := by decide +kernel
theorem dL_law_702 : decode cL_law 702 = .ok (.if_icmp .eq 5, 3) := by decide +kernel
theorem dL_law_705 : decode cL_law 705 = .ok (.iconst 0, 1) := by decide +kernel
theorem dL_law_706 : decode cL_law 706 = .ok (.ireturn, 1) := by decide +kernel
theorem dL_law_707 : decode cL_law 707 = .ok (.iinc 3 4, 3) := by decide +kernel
theorem dL_law_710 : decode cL_law 710 = .ok (.goto (-692), 3) := by decide +kernel
theorem dL_law_713 : decode cL_law 713 = .ok (.iconst 1, 1) := by decide +kernel
theorem dL_law_714 : decode cL_law 714 = .ok (.ireturn, 1) := by decide +kernel
end
section
/-! THE TYPED MEMORY: cells at 1, 2, ..: mT: (kind, length); kinds 0 .. 9 the classes of vwCl, 10 int[], 11 boolean[], 12 Letter[], 13 Node[]; mI: the ints (and booleans), mR: the references, by cell and place; mN: how many cells. The script is 0. -/
abbrev am_M : Type := (Nat → Nat × Nat) × (Nat → Nat → Int32) × (Nat → Nat → Option Nat) × Nat
def mT (M : am_M) (a : Nat) : Nat × Nat := M.1 a
def mI (M : am_M) (a : Nat) : Nat → Int32 := M.2.1 a
def mR (M : am_M) (a : Nat) : Nat → Option Nat := M.2.2.1 a
def mN (M : am_M) : Nat := M.2.2.2
def am_u {α : Type} (f : Nat → Nat → α) (a k : Nat) (v : α) : Nat → Nat → α := fun x => if x = a then va_up (f a) k v else f x
def wI (M : am_M) (a k : Nat) (v : Int32) : am_M := (M.1, am_u M.2.1 a k v, M.2.2.1, M.2.2.2)
def wR (M : am_M) (a k : Nat) (v : Option Nat) : am_M := (M.1, M.2.1, am_u M.2.2.1 a k v, M.2.2.2)
def wF (M : am_M) (a : Nat) (f : Nat → Int32) : am_M := (M.1, (fun x => if x = a then f else M.2.1 x), M.2.2.1, M.2.2.2)
def wN (M : am_M) (t n : Nat) : am_M := (va_up M.1 (M.2.2.2 + 1) (t, n), (fun x => if x = M.2.2.2 + 1 then fun _ => 0 else M.2.1 x), (fun x => if x = M.2.2.2 + 1 then fun _ => none else M.2.2.1 x), M.2.2.2 + 1)
def am_nf (t : Nat) : Nat := match t with
  | 0 => 4 | 1 => 8 | 2 => 3 | 3 => 8 | 4 => 2 | 5 => 2 | 6 => 7 | 7 => 3 | 8 => 14 | _ => 42
def am_ty (t : Nat) : Nat → FieldType := match t with
  | 0 => tyX0 | 1 => tyX1 | 2 => tyX2 | 3 => tyX3 | 4 => tyX4 | 5 => tyX5 | 6 => tyX6 | 7 => tyX7 | 8 => tyX8 | _ => tyX9
def am_isR (t k : Nat) : Bool := match am_ty t k with
  | .object _ => true
  | .array _ => true
  | _ => false
def am_rho (b base : Nat) : Nat → Nat
  | 0 => b
  | a + 1 => base + a
def am_tv (b base : Nat) (v : Value) : Value := match v with
  | .ref a => .ref (am_rho b base a)
  | w => w
def am_fv (b base : Nat) (M : am_M) (a t k : Nat) : Value := if am_isR t k = true then va_rf ((mR M a k).map (am_rho b base)) else .int (mI M a k)
def am_fs (b base : Nat) (M : am_M) (a t : Nat) : List Value := (List.range (am_nf t)).map (am_fv b base M a t)
def am_ob (b base : Nat) (cA : Nat → ClassId) (M : am_M) (a : Nat) : va_E := if (mT M a).1 < 10 then .inr ((mT M a).1, am_fs b base M a (mT M a).1) else .inl (cA (mT M a).1, (mT M a).2, if (mT M a).1 < 12 then .inl (mI M a) else .inr (.inr (.inr (.inr (fun i => (mR M a i).map (am_rho b base))))))
def am_ws (b base : Nat) (cA : Nat → ClassId) (M : am_M) : va_W := (List.range (mN M)).map (fun k => (base + k, am_ob b base cA M (k + 1)))
def am_tys (cA : Nat → ClassId) : List (ClassId × FieldType) := [(cA 10, .int), (cA 11, .boolean), (cA 12, .object RX3), (cA 13, .object RX6)]
/-- a cell of that kind and length -/
def am_ok (M : am_M) (a t n : Nat) : Prop := 1 ≤ a ∧ a ≤ mN M ∧ mT M a = (t, n)
theorem okw_wI {M : am_M} {a t n : Nat} (h : am_ok M a t n) (x k : Nat) (v : Int32) : am_ok (wI M x k v) a t n := h
theorem okw_wR {M : am_M} {a t n : Nat} (h : am_ok M a t n) (x k : Nat) (v : Option Nat) : am_ok (wR M x k v) a t n := h
theorem okw_wF {M : am_M} {a t n : Nat} (h : am_ok M a t n) (x : Nat) (f : Nat → Int32) : am_ok (wF M x f) a t n := h
theorem okw_wN {M : am_M} {a t n : Nat} (h : am_ok M a t n) (t' n' : Nat) : am_ok (wN M t' n') a t n := by
  obtain ⟨h1, h2, h3⟩ := h
  refine ⟨h1, Nat.le_succ_of_le h2, ?_⟩
  have hne : a ≠ mN M + 1 := by omega
  show va_up M.1 (M.2.2.2 + 1) (t', n') a = _
  rw [va_up_ne _ _ (show a ≠ M.2.2.2 + 1 from hne)]
  exact h3
theorem okw_new (M : am_M) (t n : Nat) : am_ok (wN M t n) (mN M + 1) t n := ⟨by omega, Nat.le_refl _, va_up_self _ _ _⟩
theorem mI_wI (M : am_M) (a k : Nat) (v : Int32) (x j : Nat) : mI (wI M a k v) x j = if x = a ∧ j = k then v else mI M x j := by
  by_cases hx : x = a
  · subst hx
    by_cases hj : j = k <;> simp [mI, wI, am_u, va_up, hj]
  · simp [mI, wI, am_u, hx]
theorem mI_wI_s (M : am_M) (a k : Nat) (v : Int32) : mI (wI M a k v) a = va_up (mI M a) k v := by simp [mI, wI, am_u]
theorem mI_wI_n (M : am_M) {a x : Nat} (k : Nat) (v : Int32) (h : x ≠ a) : mI (wI M a k v) x = mI M x := by simp [mI, wI, am_u, h]
theorem mR_wR (M : am_M) (a k : Nat) (v : Option Nat) (x j : Nat) : mR (wR M a k v) x j = if x = a ∧ j = k then v else mR M x j := by
  by_cases hx : x = a
  · subst hx
    by_cases hj : j = k <;> simp [mR, wR, am_u, va_up, hj]
  · simp [mR, wR, am_u, hx]
theorem mR_wR_s (M : am_M) (a k : Nat) (v : Option Nat) : mR (wR M a k v) a = va_up (mR M a) k v := by simp [mR, wR, am_u]
theorem mR_wR_n (M : am_M) {a x : Nat} (k : Nat) (v : Option Nat) (h : x ≠ a) : mR (wR M a k v) x = mR M x := by simp [mR, wR, am_u, h]
theorem mR_wI (M : am_M) (a k : Nat) (v : Int32) : mR (wI M a k v) = mR M := rfl
theorem mI_wR (M : am_M) (a k : Nat) (v : Option Nat) : mI (wR M a k v) = mI M := rfl
theorem mT_wI (M : am_M) (a k : Nat) (v : Int32) : mT (wI M a k v) = mT M := rfl
theorem mT_wR (M : am_M) (a k : Nat) (v : Option Nat) : mT (wR M a k v) = mT M := rfl
theorem mN_wI (M : am_M) (a k : Nat) (v : Int32) : mN (wI M a k v) = mN M := rfl
theorem mN_wR (M : am_M) (a k : Nat) (v : Option Nat) : mN (wR M a k v) = mN M := rfl
theorem mI_wF_s (M : am_M) (a : Nat) (f : Nat → Int32) : mI (wF M a f) a = f := by simp [mI, wF]
theorem mI_wF_n (M : am_M) {a x : Nat} (f : Nat → Int32) (h : x ≠ a) : mI (wF M a f) x = mI M x := by simp [mI, wF, h]
theorem mR_wF (M : am_M) (a : Nat) (f : Nat → Int32) : mR (wF M a f) = mR M := rfl
theorem mT_wF (M : am_M) (a : Nat) (f : Nat → Int32) : mT (wF M a f) = mT M := rfl
theorem mN_wF (M : am_M) (a : Nat) (f : Nat → Int32) : mN (wF M a f) = mN M := rfl
theorem mN_wN (M : am_M) (t n : Nat) : mN (wN M t n) = mN M + 1 := rfl
theorem mI_wN_n (M : am_M) (t n : Nat) {x : Nat} (h : x ≠ mN M + 1) : mI (wN M t n) x = mI M x := by
  have h' : x ≠ M.2.2.2 + 1 := h
  simp [mI, wN, h']
theorem mR_wN_n (M : am_M) (t n : Nat) {x : Nat} (h : x ≠ mN M + 1) : mR (wN M t n) x = mR M x := by
  have h' : x ≠ M.2.2.2 + 1 := h
  simp [mR, wN, h']
theorem mT_wN_n (M : am_M) (t n : Nat) {x : Nat} (h : x ≠ mN M + 1) : mT (wN M t n) x = mT M x := va_up_ne _ _ h
theorem mI_wN_s (M : am_M) (t n : Nat) : mI (wN M t n) (mN M + 1) = fun _ => 0 := by simp [mI, wN, mN]
theorem mR_wN_s (M : am_M) (t n : Nat) : mR (wN M t n) (mN M + 1) = fun _ => none := by simp [mR, wN, mN]
theorem mT_wN_s (M : am_M) (t n : Nat) : mT (wN M t n) (mN M + 1) = (t, n) := va_up_self _ _ _
theorem am_rho_pos {b base a : Nat} (h : 1 ≤ a) : am_rho b base a = base + (a - 1) := by
  obtain ⟨k, rfl⟩ : ∃ k, a = k + 1 := ⟨a - 1, by omega⟩
  rfl
theorem am_tv_rf (b base : Nat) (r : Option Nat) : am_tv b base (va_rf r) = va_rf (r.map (am_rho b base)) := by cases r <;> rfl
theorem am_tv_cat (b base : Nat) (v : Value) : (am_tv b base v).category = v.category := by cases v <;> rfl
theorem am_ws_len (b base : Nat) (cA : Nat → ClassId) (M : am_M) : (am_ws b base cA M).length = mN M := by simp [am_ws]
theorem am_ws_get (b base : Nat) (cA : Nat → ClassId) (M : am_M) {k : Nat} (h : k < mN M) : (am_ws b base cA M)[k]? = some (base + k, am_ob b base cA M (k + 1)) := by
  simp [am_ws, h]
theorem am_ws_at {b base : Nat} {cA : Nat → ClassId} {M : am_M} {a : Nat} (h1 : 1 ≤ a) (h2 : a ≤ mN M) : (am_ws b base cA M)[a - 1]? = some (am_rho b base a, am_ob b base cA M a) := by
  rw [am_ws_get b base cA M (show a - 1 < mN M by omega), am_rho_pos h1, show a - 1 + 1 = a by omega]
theorem am_ob_o {b base : Nat} {cA : Nat → ClassId} {M : am_M} {a t n : Nat} (ht : t < 10) (h : mT M a = (t, n)) : am_ob b base cA M a = .inr (t, am_fs b base M a t) := by simp [am_ob, h, ht]
theorem am_ob_i {b base : Nat} {cA : Nat → ClassId} {M : am_M} {a n : Nat} (h : mT M a = (10, n)) : am_ob b base cA M a = .inl (cA 10, n, .inl (mI M a)) := by simp [am_ob, h]
theorem am_ob_z {b base : Nat} {cA : Nat → ClassId} {M : am_M} {a n : Nat} (h : mT M a = (11, n)) : am_ob b base cA M a = .inl (cA 11, n, .inl (mI M a)) := by simp [am_ob, h]
theorem am_ob_q {b base : Nat} {cA : Nat → ClassId} {M : am_M} {a t n : Nat} (ht : ¬ t < 12) (h : mT M a = (t, n)) : am_ob b base cA M a = .inl (cA t, n, .inr (.inr (.inr (.inr (fun i => (mR M a i).map (am_rho b base)))))) := by
  have h10 : ¬ t < 10 := by omega
  simp [am_ob, h, ht, h10]
/-- a change of one cell: the world's list changes in one place -/
theorem am_ws_set {b base : Nat} {cA : Nat → ClassId} {M M' : am_M} {a : Nat} (h1 : 1 ≤ a) (h2 : a ≤ mN M) (hN : mN M' = mN M) (ho : ∀ x, x ≠ a → am_ob b base cA M' x = am_ob b base cA M x) : am_ws b base cA M' = (am_ws b base cA M).set (a - 1) (am_rho b base a, am_ob b base cA M' a) := by
  apply List.ext_getElem?
  intro k
  by_cases hk : k < mN M
  · rw [am_ws_get b base cA M' (by rw [hN]; exact hk)]
    by_cases e : k = a - 1
    · subst e
      rw [List.getElem?_set_self (by rw [am_ws_len]; exact hk), am_rho_pos h1, show a - 1 + 1 = a by omega]
    · rw [List.getElem?_set_ne (fun q => e q.symm), am_ws_get b base cA M hk, ho _ (by omega)]
  · rw [List.getElem?_eq_none (by rw [am_ws_len, hN]; omega), List.getElem?_eq_none (by rw [List.length_set, am_ws_len]; omega)]
theorem am_ob_congr {b base : Nat} {cA : Nat → ClassId} {M M' : am_M} {x : Nat} (hT : mT M' x = mT M x) (hI : mI M' x = mI M x) (hR : mR M' x = mR M x) : am_ob b base cA M' x = am_ob b base cA M x := by
  have hf : am_fv b base M' x = am_fv b base M x := by
    funext t k
    simp only [am_fv, hI, hR]
  simp only [am_ob, am_fs, hT, hI, hR, hf]
theorem am_ws_push (b base : Nat) (cA : Nat → ClassId) (M : am_M) (t n : Nat) : am_ws b base cA (wN M t n) = am_ws b base cA M ++ [(base + mN M, am_ob b base cA (wN M t n) (mN M + 1))] := by
  apply List.ext_getElem?
  intro k
  by_cases hk : k < mN M
  · rw [List.getElem?_append_left (by rw [am_ws_len]; exact hk), am_ws_get b base cA M hk, am_ws_get b base cA (wN M t n) (by rw [mN_wN]; omega)]
    rw [am_ob_congr (mT_wN_n M t n (by omega)) (mI_wN_n M t n (by omega)) (mR_wN_n M t n (by omega))]
  · by_cases e : k = mN M
    · subst e
      rw [am_ws_get b base cA (wN M t n) (by rw [mN_wN]; omega), List.getElem?_append_right (by rw [am_ws_len]; exact Nat.le_refl _), am_ws_len, Nat.sub_self]
      rfl
    · rw [List.getElem?_eq_none (by rw [am_ws_len, mN_wN]; omega), List.getElem?_eq_none (by rw [List.length_append, am_ws_len]; simp; omega)]
theorem am_D (b base : Nat) (cA : Nat → ClassId) (M : am_M) : va_D (fun q => base ≤ q) (am_ws b base cA M) := by
  have hk : ∀ (k : Nat) (q : Nat × va_E), (am_ws b base cA M)[k]? = some q → q.1 = base + k := by
    intro k q h
    have hl : k < mN M := by
      have := (List.getElem?_eq_some_iff.mp h).1
      rwa [am_ws_len] at this
    rw [am_ws_get b base cA M hl] at h
    cases h
    rfl
  refine ⟨fun i j p q hp hq e => ?_, fun k q h => ?_⟩
  · have := hk i p hp
    have := hk j q hq
    omega
  · have := hk k q h
    show base ≤ q.1
    omega
theorem am_fs_get (b base : Nat) (M : am_M) (a t : Nat) {k : Nat} (h : k < am_nf t) : (am_fs b base M a t)[k]? = some (am_fv b base M a t k) := by simp [am_fs, h]
theorem am_fs_len (b base : Nat) (M : am_M) (a t : Nat) : (am_fs b base M a t).length = am_nf t := by simp [am_fs]
theorem am_fs_wI (b base : Nat) (M : am_M) (a t k : Nat) (v : Int32) (hr : am_isR t k = false) : am_fs b base (wI M a k v) a t = (am_fs b base M a t).set k (.int v) := by
  apply List.ext_getElem?
  intro j
  by_cases hj : j < am_nf t
  · rw [am_fs_get _ _ _ _ _ hj]
    by_cases e : j = k
    · subst e
      rw [List.getElem?_set_self (by rw [am_fs_len]; exact hj)]
      simp [am_fv, hr, mI_wI_s, va_up_self]
    · rw [List.getElem?_set_ne (fun q => e q.symm), am_fs_get _ _ _ _ _ hj]
      simp [am_fv, mI_wI_s, va_up_ne _ _ e, mR_wI]
  · rw [List.getElem?_eq_none (by rw [am_fs_len]; omega), List.getElem?_eq_none (by rw [List.length_set, am_fs_len]; omega)]
theorem am_fs_wR (b base : Nat) (M : am_M) (a t k : Nat) (v : Option Nat) (hr : am_isR t k = true) : am_fs b base (wR M a k v) a t = (am_fs b base M a t).set k (va_rf (v.map (am_rho b base))) := by
  apply List.ext_getElem?
  intro j
  by_cases hj : j < am_nf t
  · rw [am_fs_get _ _ _ _ _ hj]
    by_cases e : j = k
    · subst e
      rw [List.getElem?_set_self (by rw [am_fs_len]; exact hj)]
      simp [am_fv, hr, mR_wR_s, va_up_self]
    · rw [List.getElem?_set_ne (fun q => e q.symm), am_fs_get _ _ _ _ _ hj]
      simp [am_fv, mR_wR_s, va_up_ne _ _ e, mI_wR]
  · rw [List.getElem?_eq_none (by rw [am_fs_len]; omega), List.getElem?_eq_none (by rw [List.length_set, am_fs_len]; omega)]
end
section
/-! THE JUDGEMENT OVER THE TYPED MEMORY -/
def am_gw : List Cond := lw_tbl.filter goodWord
theorem am_gw_lw {w : Cond} (h : w ∈ lw_tbl) (hg : goodWord w = true) : w ∈ am_gw := List.mem_filter.mpr ⟨h, hg⟩
theorem am_gw_good : GoodIn am_gw am_gw := fun w h => ⟨h, good_of_word (List.mem_filter.mp h).2⟩
def am_nk : List (String × Nat × MethodName × String) := [(RX8, 11, yX1_init, RX8), (RX8, 20, yX7_init, RX8), (RX8, 30, yX2_init, RX8), (RX8, 37, yX0_init, RX8), (RX8, 44, yX5_init, RX8), (RX8, 59, yX6_init, RX8), (RX6, 22, yX4_init, RX8), (RX4, 11, yX7_init, RX8), (RX0, 62, yX8_fold, RX8), (RX2, 22, yX8_fold, RX8)]
def am_K (D : va_G) (cA : Nat → ClassId) (U : State) : Prop := va_K D vwCl (am_tys cA) U ∧ (∀ q ∈ am_nk, va_Nw (.methodLinkNest q.1 q.2.1 q.2.2.1 q.2.2.2) U) ∧ va_AO RX3 U ∧ va_AO RX6 U ∧ va_Nw (.castable "[I" "java/lang/Cloneable") U
theorem am_K.warm {D : va_G} {cA : Nat → ClassId} {s U : State} (hW : s.WarmedH U.vm) (h : am_K D cA s) : am_K D cA U := ⟨va_K.moved hW.alike h.1, fun q hq => (h.2.1 q hq).warmM hW, h.2.2.1.moved hW.alike, h.2.2.2.1.moved hW.alike, h.2.2.2.2.warmC hW⟩
theorem am_K.same {D : va_G} {cA : Nat → ClassId} {s U : State} (hv : s.vm = U.vm) (h : am_K D cA s) : am_K D cA U := ⟨va_K.moved (by rw [hv]; exact Vm.Alike.refl _) h.1, fun q hq => (h.2.1 q hq).same rfl hv, h.2.2.1.moved (by rw [hv]; exact Vm.Alike.refl _), h.2.2.2.1.moved (by rw [hv]; exact Vm.Alike.refl _), h.2.2.2.2.same rfl hv⟩
def am_E (y : MethodName) (cc : ByteArray) (nL : Nat) (rt : Option FieldType) (R : Room) (mc ms : Nat) (p : Program) (s : State) (m : MethodId) (args : Array Value) (meth : Method) (c : Code) : Prop :=
  p.tables.exec = Jvm.exec ∧ c.code = cc ∧ meth.sig.returnType = rt ∧ meth.locks = false ∧ c.maxLocals = nL ∧ s.vm.findClass y.cls = some m.cls ∧ (y.name = "<init>" → meth.name = "<init>") ∧ (∀ w ∈ am_gw, w.before args s = true) ∧ mc ≤ R.cells ∧ ms ≤ R.slots
def am_H (X : Nat × (Nat → Int32)) (D : va_G) (cA : Nat → ClassId) (b base : Nat) (s : State) (M : am_M) (H : Heap) (locs : List Loc) : Prop :=
  am_K D cA s ∧ va_P D vwCl (am_ws b base cA M) H ∧ H.size = base + mN M ∧ va_X b X.1 X.2 s s.heap ∧ b < base ∧ base ≤ s.heap.size ∧ va_S (fun q => base ≤ q) s.heap H locs
def am_L (b base nL : Nat) (lsr : Array Slot) (ls : List (Option Value)) : Prop := lsr.size = nL ∧ lv_wf lsr ∧ ∀ (i : Nat) (v : Value), ls[i]? = some (some v) → lsr[i]? = some (.val (am_tv b base v)) ∧ v.category = 1
def am_Q (D : va_G) (cA : Nat → ClassId) (b base : Nat) (Post : Option Value → am_M → Prop) : Array Value → State → Outcome → State → Prop := fun _ st o t => ∃ (v : Option Value) (M' : am_M), o = .returned (v.map (am_tv b base)) ∧ Post v M' ∧ va_P D vwCl (am_ws b base cA M') t.heap ∧ t.heap.size = base + mN M' ∧ va_F (fun q => base ≤ q) st t
/-- where the machine stands: method y (its bytes cc, nL locals, answer rt) in the room R, of which bc cells and bs slots are left; at pc, with these locals and stack, over the memory M; it will end with Post -/
def am_V (l : Launch) (y : MethodName) (cc : ByteArray) (nL : Nat) (rt : Option FieldType) (R : Room) (mc ms : Nat) (X : Nat × (Nat → Int32)) (Post : Option Value → am_M → Prop) (bc bs pc : Nat) (ls : List (Option Value)) (st : List Value) (M : am_M) : Prop :=
  ∀ (p : Program) (e : Env) (s : State) (m : MethodId) (args : Array Value) (below : List Frame) (meth : Method) (c : Code) (D : va_G) (cA : Nat → ClassId) (b base : Nat) (H : Heap) (locs : List Loc) (cells slots : Nat) (lsr : Array Slot),
    am_E y cc nL rt R mc ms p s m args meth c → am_H X D cA b base s M H locs → am_L b base nL lsr ls → cells + bc ≤ mc → slots + bs ≤ ms →
    W p l e R s m args below meth c H locs cells slots (MQ below (am_Q D cA b base Post) args s mc ms (fun q => base ≤ q)) (F0 m pc lsr (st.map (am_tv b base)))
def am_R (d mc ms : Nat) : Room := { frames := d, cells := mc, slots := ms, locals := 38 * d }
/-- the contract of a method for these arguments over this memory -/
def am_C (l : Launch) (y : MethodName) (cc : ByteArray) (nL : Nat) (rt : Option FieldType) (d mc ms : Nat) (X : Nat × (Nat → Int32)) (As : List Value) (M : am_M) (Post : Option Value → am_M → Prop) : Prop :=
  ∀ (D : va_G) (cA : Nat → ClassId) (b base : Nat), Met l y (Cond.code y cc nL rt :: am_gw) (am_R d mc ms) (va_Pc (As.map (am_tv b base)) (fun U => am_K D cA U ∧ va_P D vwCl (am_ws b base cA M) U.heap ∧ U.heap.size = base + mN M ∧ va_X b X.1 X.2 U U.heap ∧ b < base)) (am_Q D cA b base Post) mc ms (fun q => base ≤ q)
theorem am_lvargs {vs : List Value} (hc : ∀ v ∈ vs, v.category = 1) : ∀ (k i : Nat) (v : Value), vs[i]? = some v → (k + i, v) ∈ lv_args k vs := by
  induction vs with
  | nil => intro k i v h; simp at h
  | cons a t ih =>
    intro k i v h
    have ha : ¬ a.category = 2 := by rw [hc a List.mem_cons_self]; omega
    cases i with
    | zero =>
      simp at h
      subst h
      exact List.mem_cons_self
    | succ i =>
      simp at h
      have := ih (fun w hw => hc w (List.mem_cons_of_mem _ hw)) (k + 1) i v h
      unfold lv_args
      rw [if_neg ha]
      refine List.mem_cons_of_mem _ ?_
      rw [show k + (i + 1) = k + 1 + i by omega]
      exact this
theorem am_slen {vs : List Value} (hc : ∀ v ∈ vs, v.category = 1) : (lg_sl vs).length = vs.length := by
  induction vs with
  | nil => rfl
  | cons a t ih =>
    have ha : ¬ a.category = 2 := by rw [hc a List.mem_cons_self]; omega
    have := ih (fun w hw => hc w (List.mem_cons_of_mem _ hw))
    simp only [lg_sl, List.flatMap_cons, if_neg ha] at this ⊢
    simp [this]
theorem am_entry {b base nL : Nat} {As : List Value} (hc : ∀ v ∈ As, v.category = 1) (hn : As.length ≤ nL) : am_L b base nL ((lg_sl (As.map (am_tv b base)) ++ List.replicate (nL - (lg_sl (As.map (am_tv b base))).length) Slot.unset).toArray) (As.map some) := by
  have hc' : ∀ v ∈ As.map (am_tv b base), v.category = 1 := by
    intro v hv
    obtain ⟨w, hw, rfl⟩ := List.mem_map.mp hv
    rw [am_tv_cat]
    exact hc w hw
  have h := lv_entry (As.map (am_tv b base)) (n := nL) (by rw [am_slen hc', List.length_map]; exact hn)
  refine ⟨h.1, h.2.1, fun i v hv => ?_⟩
  have hv2 : As[i]? = some v := by
    rw [List.getElem?_map] at hv
    cases ha : As[i]? with
    | none => rw [ha] at hv; cases hv
    | some w => rw [ha] at hv; cases hv; rfl
  refine ⟨h.2.2 (i, am_tv b base v) ?_, hc v (List.mem_of_getElem? hv2)⟩
  have := am_lvargs hc' 0 i (am_tv b base v) (by rw [List.getElem?_map, hv2]; rfl)
  rwa [Nat.zero_add] at this
theorem am_C.of {l : Launch} {y : MethodName} {cc : ByteArray} {nL : Nat} {rt : Option FieldType} {d mc ms : Nat} {X : Nat × (Nat → Int32)} {As : List Value} {M : am_M} {Post : Option Value → am_M → Prop} (hy : plainName y.cls = true) (hc : ∀ v ∈ As, v.category = 1) (hn : As.length ≤ nL)
    (h : am_V l y cc nL rt (am_R d mc ms) mc ms X Post mc ms 0 (As.map some) [] M) : am_C l y cc nL rt d mc ms X As M Post := by
  intro D cA b base
  refine Met.ofW (cc := cc) (maxL := nL) (ret := rt) hy rfl ?_
  intro p e s m args below meth c s₁ B hml hv
  obtain ⟨rfl, hK, hP, hsz, hX, hb⟩ := hv
  have hts := atoms_spec (ws := Cond.code y cc nL rt :: am_gw) B.pre
  have hle : base ≤ s.heap.size := by rw [hsz]; omega
  rw [lg_entry_eq]
  exact h p e s m _ below meth c D cA b base s.heap [] 0 0 _ ⟨B.exec, B.bytes, B.returns, B.notSynchronized, hml, findClass_of_methodNamed B.named, fun h => (name_of_methodNamed B.named B.method).1.trans h, fun w hw => hts w (List.mem_cons_of_mem _ hw), Nat.le_refl _, Nat.le_refl _⟩ ⟨hK, hP, hsz, hX, hb, hle, va_S.rf⟩ (am_entry hc hn) (by omega) (by omega)
theorem am_C.mono {l : Launch} {y : MethodName} {cc : ByteArray} {nL : Nat} {rt : Option FieldType} {d mc ms : Nat} {X : Nat × (Nat → Int32)} {As : List Value} {M : am_M} {Post Post' : Option Value → am_M → Prop} (h : am_C l y cc nL rt d mc ms X As M Post) (hp : ∀ v M', Post v M' → Post' v M') : am_C l y cc nL rt d mc ms X As M Post' := by
  intro D cA b base
  exact MetFree.mono (h D cA b base) (fun _ _ h => h) (fun _ _ _ _ _ h => h) (fun _ _ _ _ _ ⟨⟨v, M', e, hq, r⟩, hL⟩ => ⟨⟨v, M', e, hp v M' hq, r⟩, hL⟩)
end
section
/-! ROWS: a row an instruction -/
section AmRows
variable {l : Launch} {y : MethodName} {cc : ByteArray} {nL : Nat} {rt : Option FieldType} {R : Room} {mc ms : Nat} {X : Nat × (Nat → Int32)} {Post : Option Value → am_M → Prop} {bc bs pc : Nat} {ls : List (Option Value)} {st : List Value} {M : am_M}
theorem r_iconst {n : Int} (v : Int32) (hd : decode cc pc = .ok (.iconst n, 1)) (hv : Int32.ofInt n = v) (k : am_V l y cc nL rt R mc ms X Post bc bs (pc + 1) ls (.int v :: st) M) : am_V l y cc nL rt R mc ms X Post bc bs pc ls st M := by
  intro p e s m args below meth c D cA b base H locs cells slots lsr E0 H0 L0 q1 q2
  obtain ⟨hx, hb, -⟩ := id E0
  exact lv_iconst hx hb hd hv (k p e s m args below meth c D cA b base H locs cells slots lsr E0 H0 L0 q1 q2)
theorem r_bipush {n : Int} (v : Int32) (hd : decode cc pc = .ok (.bipush n, 2)) (hv : (Int8.ofInt n).toInt32 = v) (k : am_V l y cc nL rt R mc ms X Post bc bs (pc + 2) ls (.int v :: st) M) : am_V l y cc nL rt R mc ms X Post bc bs pc ls st M := by
  intro p e s m args below meth c D cA b base H locs cells slots lsr E0 H0 L0 q1 q2
  obtain ⟨hx, hb, -⟩ := id E0
  exact lv_bipush hx hb hd hv (k p e s m args below meth c D cA b base H locs cells slots lsr E0 H0 L0 q1 q2)
theorem r_sipush {n : Int} (v : Int32) (hd : decode cc pc = .ok (.sipush n, 3)) (hv : (Int16.ofInt n).toInt32 = v) (k : am_V l y cc nL rt R mc ms X Post bc bs (pc + 3) ls (.int v :: st) M) : am_V l y cc nL rt R mc ms X Post bc bs pc ls st M := by
  intro p e s m args below meth c D cA b base H locs cells slots lsr E0 H0 L0 q1 q2
  obtain ⟨hx, hb, -⟩ := id E0
  exact lv_sipush hx hb hd hv (k p e s m args below meth c D cA b base H locs cells slots lsr E0 H0 L0 q1 q2)
theorem r_lconst {n : Fin 2} (v : Int64) (hd : decode cc pc = .ok (.lconst n, 1)) (hv : Int64.ofNat (n : Nat) = v) (k : am_V l y cc nL rt R mc ms X Post bc bs (pc + 1) ls (.long v :: st) M) : am_V l y cc nL rt R mc ms X Post bc bs pc ls st M := by
  intro p e s m args below meth c D cA b base H locs cells slots lsr E0 H0 L0 q1 q2
  obtain ⟨hx, hb, -⟩ := id E0
  exact lv_lconst hx hb hd hv (k p e s m args below meth c D cA b base H locs cells slots lsr E0 H0 L0 q1 q2)
theorem r_ldc2 {ix : Nat} (v : Int64) (hd : decode cc pc = .ok (.ldc2_w ix, 3)) (hv : Cond.constantLong y.cls ix v ∈ am_gw) (k : am_V l y cc nL rt R mc ms X Post bc bs (pc + 3) ls (.long v :: st) M) : am_V l y cc nL rt R mc ms X Post bc bs pc ls st M := by
  intro p e s m args below meth c D cA b base H locs cells slots lsr E0 H0 L0 q1 q2
  obtain ⟨hx, hb, -⟩ := id E0
  obtain ⟨-, -, -, -, -, ho, -, ht, -⟩ := id E0
  exact lv_ldc2 hx hb ho (ht _ hv) hd (k p e s m args below meth c D cA b base H locs cells slots lsr E0 H0 L0 q1 q2)
theorem r_null (hd : decode cc pc = .ok (.aconst_null, 1)) (k : am_V l y cc nL rt R mc ms X Post bc bs (pc + 1) ls (.null :: st) M) : am_V l y cc nL rt R mc ms X Post bc bs pc ls st M := by
  intro p e s m args below meth c D cA b base H locs cells slots lsr E0 H0 L0 q1 q2
  obtain ⟨hx, hb, -⟩ := id E0
  exact lv_null hx hb hd (k p e s m args below meth c D cA b base H locs cells slots lsr E0 H0 L0 q1 q2)
theorem r_iload_n {k0 : Fin 4} {x : Int32} (hd : decode cc pc = .ok (.iload_n k0, 1)) (hl : ls[(k0 : Nat)]? = some (some (.int x))) (k : am_V l y cc nL rt R mc ms X Post bc bs (pc + 1) ls (.int x :: st) M) : am_V l y cc nL rt R mc ms X Post bc bs pc ls st M := by
  intro p e s m args below meth c D cA b base H locs cells slots lsr E0 H0 L0 q1 q2
  obtain ⟨hx, hb, -⟩ := id E0
  exact lv_iload_n hx hb hd rfl (L0.2.2 _ _ hl).1 (k p e s m args below meth c D cA b base H locs cells slots lsr E0 H0 L0 q1 q2)
theorem r_iload {i : Nat} {x : Int32} (hd : decode cc pc = .ok (.iload i, 2)) (hl : ls[i]? = some (some (.int x))) (k : am_V l y cc nL rt R mc ms X Post bc bs (pc + 2) ls (.int x :: st) M) : am_V l y cc nL rt R mc ms X Post bc bs pc ls st M := by
  intro p e s m args below meth c D cA b base H locs cells slots lsr E0 H0 L0 q1 q2
  obtain ⟨hx, hb, -⟩ := id E0
  exact lv_iload hx hb hd (L0.2.2 _ _ hl).1 (k p e s m args below meth c D cA b base H locs cells slots lsr E0 H0 L0 q1 q2)
theorem r_aload_n {k0 : Fin 4} {x : Nat} (hd : decode cc pc = .ok (.aload_n k0, 1)) (hl : ls[(k0 : Nat)]? = some (some (.ref x))) (k : am_V l y cc nL rt R mc ms X Post bc bs (pc + 1) ls (.ref x :: st) M) : am_V l y cc nL rt R mc ms X Post bc bs pc ls st M := by
  intro p e s m args below meth c D cA b base H locs cells slots lsr E0 H0 L0 q1 q2
  obtain ⟨hx, hb, -⟩ := id E0
  exact lv_aload_n hx hb hd rfl (L0.2.2 _ _ hl).1 (k p e s m args below meth c D cA b base H locs cells slots lsr E0 H0 L0 q1 q2)
theorem r_aload {i : Nat} {x : Nat} (hd : decode cc pc = .ok (.aload i, 2)) (hl : ls[i]? = some (some (.ref x))) (k : am_V l y cc nL rt R mc ms X Post bc bs (pc + 2) ls (.ref x :: st) M) : am_V l y cc nL rt R mc ms X Post bc bs pc ls st M := by
  intro p e s m args below meth c D cA b base H locs cells slots lsr E0 H0 L0 q1 q2
  obtain ⟨hx, hb, -⟩ := id E0
  exact lv_aload hx hb hd (L0.2.2 _ _ hl).1 (k p e s m args below meth c D cA b base H locs cells slots lsr E0 H0 L0 q1 q2)
theorem r_aload_nq {k0 : Fin 4} {r : Option Nat} (hd : decode cc pc = .ok (.aload_n k0, 1)) (hl : ls[(k0 : Nat)]? = some (some (va_rf r))) (k : am_V l y cc nL rt R mc ms X Post bc bs (pc + 1) ls (va_rf r :: st) M) : am_V l y cc nL rt R mc ms X Post bc bs pc ls st M := by
  intro p e s m args below meth c D cA b base H locs cells slots lsr E0 H0 L0 q1 q2
  obtain ⟨hx, hb, -⟩ := id E0
  cases r with
  | none => exact lv_aload_nN hx hb hd rfl (L0.2.2 _ _ hl).1 (k p e s m args below meth c D cA b base H locs cells slots lsr E0 H0 L0 q1 q2)
  | some x => exact lv_aload_n hx hb hd rfl (L0.2.2 _ _ hl).1 (k p e s m args below meth c D cA b base H locs cells slots lsr E0 H0 L0 q1 q2)
theorem r_aloadq {i : Nat} {r : Option Nat} (hd : decode cc pc = .ok (.aload i, 2)) (hl : ls[i]? = some (some (va_rf r))) (k : am_V l y cc nL rt R mc ms X Post bc bs (pc + 2) ls (va_rf r :: st) M) : am_V l y cc nL rt R mc ms X Post bc bs pc ls st M := by
  intro p e s m args below meth c D cA b base H locs cells slots lsr E0 H0 L0 q1 q2
  obtain ⟨hx, hb, -⟩ := id E0
  cases r with
  | none => exact lv_aloadN hx hb hd (L0.2.2 _ _ hl).1 (k p e s m args below meth c D cA b base H locs cells slots lsr E0 H0 L0 q1 q2)
  | some x => exact lv_aload hx hb hd (L0.2.2 _ _ hl).1 (k p e s m args below meth c D cA b base H locs cells slots lsr E0 H0 L0 q1 q2)
theorem r_iadd {a b : Int32} (hd : decode cc pc = .ok (.iadd, 1)) (k : am_V l y cc nL rt R mc ms X Post bc bs (pc + 1) ls (.int (a + b) :: st) M) : am_V l y cc nL rt R mc ms X Post bc bs pc ls (.int b :: .int a :: st) M := by
  intro p e s m args below meth c D cA b base H locs cells slots lsr E0 H0 L0 q1 q2
  obtain ⟨hx, hb, -⟩ := id E0
  exact lv_iadd hx hb hd (k p e s m args below meth c D cA b base H locs cells slots lsr E0 H0 L0 q1 q2)
theorem r_isub {a b : Int32} (hd : decode cc pc = .ok (.isub, 1)) (k : am_V l y cc nL rt R mc ms X Post bc bs (pc + 1) ls (.int (a - b) :: st) M) : am_V l y cc nL rt R mc ms X Post bc bs pc ls (.int b :: .int a :: st) M := by
  intro p e s m args below meth c D cA b base H locs cells slots lsr E0 H0 L0 q1 q2
  obtain ⟨hx, hb, -⟩ := id E0
  exact lv_isub hx hb hd (k p e s m args below meth c D cA b base H locs cells slots lsr E0 H0 L0 q1 q2)
theorem r_imul {a b : Int32} (hd : decode cc pc = .ok (.imul, 1)) (k : am_V l y cc nL rt R mc ms X Post bc bs (pc + 1) ls (.int (a * b) :: st) M) : am_V l y cc nL rt R mc ms X Post bc bs pc ls (.int b :: .int a :: st) M := by
  intro p e s m args below meth c D cA b base H locs cells slots lsr E0 H0 L0 q1 q2
  obtain ⟨hx, hb, -⟩ := id E0
  exact lv_imul hx hb hd (k p e s m args below meth c D cA b base H locs cells slots lsr E0 H0 L0 q1 q2)
theorem r_iand {a b : Int32} (hd : decode cc pc = .ok (.iand, 1)) (k : am_V l y cc nL rt R mc ms X Post bc bs (pc + 1) ls (.int (a &&& b) :: st) M) : am_V l y cc nL rt R mc ms X Post bc bs pc ls (.int b :: .int a :: st) M := by
  intro p e s m args below meth c D cA b base H locs cells slots lsr E0 H0 L0 q1 q2
  obtain ⟨hx, hb, -⟩ := id E0
  exact lv_iand hx hb hd (k p e s m args below meth c D cA b base H locs cells slots lsr E0 H0 L0 q1 q2)
theorem r_i2l {a : Int32} (hd : decode cc pc = .ok (.i2l, 1)) (k : am_V l y cc nL rt R mc ms X Post bc bs (pc + 1) ls (.long a.toInt64 :: st) M) : am_V l y cc nL rt R mc ms X Post bc bs pc ls (.int a :: st) M := by
  intro p e s m args below meth c D cA b base H locs cells slots lsr E0 H0 L0 q1 q2
  obtain ⟨hx, hb, -⟩ := id E0
  exact lv_i2l hx hb hd rfl (k p e s m args below meth c D cA b base H locs cells slots lsr E0 H0 L0 q1 q2)
theorem r_irem {a b : Int32} (hd : decode cc pc = .ok (.irem, 1)) (hne : ¬ b = 0) (k : am_V l y cc nL rt R mc ms X Post bc bs (pc + 1) ls (.int (a - a / b * b) :: st) M) : am_V l y cc nL rt R mc ms X Post bc bs pc ls (.int b :: .int a :: st) M := by
  intro p e s m args below meth c D cA b base H locs cells slots lsr E0 H0 L0 q1 q2
  obtain ⟨hx, hb, -⟩ := id E0
  exact lv_irem hx hb hd hne (k p e s m args below meth c D cA b base H locs cells slots lsr E0 H0 L0 q1 q2)
theorem r_lcmp {a b : Int64} (hd : decode cc pc = .ok (.lcmp, 1)) (k : am_V l y cc nL rt R mc ms X Post bc bs (pc + 1) ls (.int (lg_cmp a b) :: st) M) : am_V l y cc nL rt R mc ms X Post bc bs pc ls (.long b :: .long a :: st) M := by
  intro p e s m args below meth c D cA b base H locs cells slots lsr E0 H0 L0 q1 q2
  obtain ⟨hx, hb, -⟩ := id E0
  exact W.lcmp hx hb hd (k p e s m args below meth c D cA b base H locs cells slots lsr E0 H0 L0 q1 q2)
theorem r_dup {v : Value} (hd : decode cc pc = .ok (.dup, 1)) (hv : v.category = 1) (k : am_V l y cc nL rt R mc ms X Post bc bs (pc + 1) ls (v :: v :: st) M) : am_V l y cc nL rt R mc ms X Post bc bs pc ls (v :: st) M := by
  intro p e s m args below meth c D cA b base H locs cells slots lsr E0 H0 L0 q1 q2
  obtain ⟨hx, hb, -⟩ := id E0
  exact lv_dup hx hb hd (by rw [am_tv_cat]; exact hv) (k p e s m args below meth c D cA b base H locs cells slots lsr E0 H0 L0 q1 q2)
theorem r_pop {v : Value} (hd : decode cc pc = .ok (.pop, 1)) (hv : v.category = 1) (k : am_V l y cc nL rt R mc ms X Post bc bs (pc + 1) ls st M) : am_V l y cc nL rt R mc ms X Post bc bs pc ls (v :: st) M := by
  intro p e s m args below meth c D cA b base H locs cells slots lsr E0 H0 L0 q1 q2
  obtain ⟨hx, hb, -⟩ := id E0
  exact lv_pop hx hb hd (by rw [am_tv_cat]; exact hv) (k p e s m args below meth c D cA b base H locs cells slots lsr E0 H0 L0 q1 q2)
theorem r_dup_x1 {v w : Value} (hd : decode cc pc = .ok (.dup_x1, 1)) (hv : v.category = 1) (hw : w.category = 1) (k : am_V l y cc nL rt R mc ms X Post bc bs (pc + 1) ls (v :: w :: v :: st) M) : am_V l y cc nL rt R mc ms X Post bc bs pc ls (v :: w :: st) M := by
  intro p e s m args below meth c D cA b base H locs cells slots lsr E0 H0 L0 q1 q2
  obtain ⟨hx, hb, -⟩ := id E0
  exact lv_dup_x1 hx hb hd (by rw [am_tv_cat]; exact hv) (by rw [am_tv_cat]; exact hw) (k p e s m args below meth c D cA b base H locs cells slots lsr E0 H0 L0 q1 q2)
theorem r_dup2 {v w : Value} (hd : decode cc pc = .ok (.dup2, 1)) (hv : v.category = 1) (hw : w.category = 1) (k : am_V l y cc nL rt R mc ms X Post bc bs (pc + 1) ls (v :: w :: v :: w :: st) M) : am_V l y cc nL rt R mc ms X Post bc bs pc ls (v :: w :: st) M := by
  intro p e s m args below meth c D cA b base H locs cells slots lsr E0 H0 L0 q1 q2
  obtain ⟨hx, hb, -⟩ := id E0
  exact lv_dup2_11 hx hb hd (by rw [am_tv_cat]; exact hv) (by rw [am_tv_cat]; exact hw) (k p e s m args below meth c D cA b base H locs cells slots lsr E0 H0 L0 q1 q2)
theorem r_goto {off : Int} (tgt : Nat) (hd : decode cc pc = .ok (.goto off, 3)) (ht : (pc : Int) + off = (tgt : Int)) (k : am_V l y cc nL rt R mc ms X Post bc bs tgt ls st M) : am_V l y cc nL rt R mc ms X Post bc bs pc ls st M := by
  intro p e s m args below meth c D cA b base H locs cells slots lsr E0 H0 L0 q1 q2
  obtain ⟨hx, hb, -⟩ := id E0
  exact lv_goto hx hb hd ht (k p e s m args below meth c D cA b base H locs cells slots lsr E0 H0 L0 q1 q2)
theorem r_if_eq {x : Int32} {off : Int} (tgt : Nat) (hd : decode cc pc = .ok (.ifCond .eq off, 3)) (ht : (pc : Int) + off = (tgt : Int)) (k1 : x = 0 → am_V l y cc nL rt R mc ms X Post bc bs tgt ls st M) (k2 : ¬ x = 0 → am_V l y cc nL rt R mc ms X Post bc bs (pc + 3) ls st M) : am_V l y cc nL rt R mc ms X Post bc bs pc ls (.int x :: st) M := by
  intro p e s m args below meth c D cA b base H locs cells slots lsr E0 H0 L0 q1 q2
  obtain ⟨hx, hb, -⟩ := id E0
  exact lv_if_eq hx hb hd ht (fun hc => k1 hc p e s m args below meth c D cA b base H locs cells slots lsr E0 H0 L0 q1 q2) (fun hc => k2 hc p e s m args below meth c D cA b base H locs cells slots lsr E0 H0 L0 q1 q2)
theorem r_icmp_eq {x z : Int32} {off : Int} (tgt : Nat) (hd : decode cc pc = .ok (.if_icmp .eq off, 3)) (ht : (pc : Int) + off = (tgt : Int)) (k1 : x = z → am_V l y cc nL rt R mc ms X Post bc bs tgt ls st M) (k2 : ¬ x = z → am_V l y cc nL rt R mc ms X Post bc bs (pc + 3) ls st M) : am_V l y cc nL rt R mc ms X Post bc bs pc ls (.int z :: .int x :: st) M := by
  intro p e s m args below meth c D cA b base H locs cells slots lsr E0 H0 L0 q1 q2
  obtain ⟨hx, hb, -⟩ := id E0
  exact lv_icmp_eq hx hb hd ht (fun hc => k1 hc p e s m args below meth c D cA b base H locs cells slots lsr E0 H0 L0 q1 q2) (fun hc => k2 hc p e s m args below meth c D cA b base H locs cells slots lsr E0 H0 L0 q1 q2)
theorem r_if_ne {x : Int32} {off : Int} (tgt : Nat) (hd : decode cc pc = .ok (.ifCond .ne off, 3)) (ht : (pc : Int) + off = (tgt : Int)) (k1 : ¬ x = 0 → am_V l y cc nL rt R mc ms X Post bc bs tgt ls st M) (k2 : x = 0 → am_V l y cc nL rt R mc ms X Post bc bs (pc + 3) ls st M) : am_V l y cc nL rt R mc ms X Post bc bs pc ls (.int x :: st) M := by
  intro p e s m args below meth c D cA b base H locs cells slots lsr E0 H0 L0 q1 q2
  obtain ⟨hx, hb, -⟩ := id E0
  exact lv_if_ne hx hb hd ht (fun hc => k1 hc p e s m args below meth c D cA b base H locs cells slots lsr E0 H0 L0 q1 q2) (fun hc => k2 hc p e s m args below meth c D cA b base H locs cells slots lsr E0 H0 L0 q1 q2)
theorem r_icmp_ne {x z : Int32} {off : Int} (tgt : Nat) (hd : decode cc pc = .ok (.if_icmp .ne off, 3)) (ht : (pc : Int) + off = (tgt : Int)) (k1 : ¬ x = z → am_V l y cc nL rt R mc ms X Post bc bs tgt ls st M) (k2 : x = z → am_V l y cc nL rt R mc ms X Post bc bs (pc + 3) ls st M) : am_V l y cc nL rt R mc ms X Post bc bs pc ls (.int z :: .int x :: st) M := by
  intro p e s m args below meth c D cA b base H locs cells slots lsr E0 H0 L0 q1 q2
  obtain ⟨hx, hb, -⟩ := id E0
  exact lv_icmp_ne hx hb hd ht (fun hc => k1 hc p e s m args below meth c D cA b base H locs cells slots lsr E0 H0 L0 q1 q2) (fun hc => k2 hc p e s m args below meth c D cA b base H locs cells slots lsr E0 H0 L0 q1 q2)
theorem r_if_lt {x : Int32} {off : Int} (tgt : Nat) (hd : decode cc pc = .ok (.ifCond .lt off, 3)) (ht : (pc : Int) + off = (tgt : Int)) (k1 : x < 0 → am_V l y cc nL rt R mc ms X Post bc bs tgt ls st M) (k2 : ¬ x < 0 → am_V l y cc nL rt R mc ms X Post bc bs (pc + 3) ls st M) : am_V l y cc nL rt R mc ms X Post bc bs pc ls (.int x :: st) M := by
  intro p e s m args below meth c D cA b base H locs cells slots lsr E0 H0 L0 q1 q2
  obtain ⟨hx, hb, -⟩ := id E0
  exact lv_if_lt hx hb hd ht (fun hc => k1 hc p e s m args below meth c D cA b base H locs cells slots lsr E0 H0 L0 q1 q2) (fun hc => k2 hc p e s m args below meth c D cA b base H locs cells slots lsr E0 H0 L0 q1 q2)
theorem r_icmp_lt {x z : Int32} {off : Int} (tgt : Nat) (hd : decode cc pc = .ok (.if_icmp .lt off, 3)) (ht : (pc : Int) + off = (tgt : Int)) (k1 : x < z → am_V l y cc nL rt R mc ms X Post bc bs tgt ls st M) (k2 : ¬ x < z → am_V l y cc nL rt R mc ms X Post bc bs (pc + 3) ls st M) : am_V l y cc nL rt R mc ms X Post bc bs pc ls (.int z :: .int x :: st) M := by
  intro p e s m args below meth c D cA b base H locs cells slots lsr E0 H0 L0 q1 q2
  obtain ⟨hx, hb, -⟩ := id E0
  exact lv_icmp_lt hx hb hd ht (fun hc => k1 hc p e s m args below meth c D cA b base H locs cells slots lsr E0 H0 L0 q1 q2) (fun hc => k2 hc p e s m args below meth c D cA b base H locs cells slots lsr E0 H0 L0 q1 q2)
theorem r_if_ge {x : Int32} {off : Int} (tgt : Nat) (hd : decode cc pc = .ok (.ifCond .ge off, 3)) (ht : (pc : Int) + off = (tgt : Int)) (k1 : 0 ≤ x → am_V l y cc nL rt R mc ms X Post bc bs tgt ls st M) (k2 : ¬ 0 ≤ x → am_V l y cc nL rt R mc ms X Post bc bs (pc + 3) ls st M) : am_V l y cc nL rt R mc ms X Post bc bs pc ls (.int x :: st) M := by
  intro p e s m args below meth c D cA b base H locs cells slots lsr E0 H0 L0 q1 q2
  obtain ⟨hx, hb, -⟩ := id E0
  exact lv_if_ge hx hb hd ht (fun hc => k1 hc p e s m args below meth c D cA b base H locs cells slots lsr E0 H0 L0 q1 q2) (fun hc => k2 hc p e s m args below meth c D cA b base H locs cells slots lsr E0 H0 L0 q1 q2)
theorem r_icmp_ge {x z : Int32} {off : Int} (tgt : Nat) (hd : decode cc pc = .ok (.if_icmp .ge off, 3)) (ht : (pc : Int) + off = (tgt : Int)) (k1 : z ≤ x → am_V l y cc nL rt R mc ms X Post bc bs tgt ls st M) (k2 : ¬ z ≤ x → am_V l y cc nL rt R mc ms X Post bc bs (pc + 3) ls st M) : am_V l y cc nL rt R mc ms X Post bc bs pc ls (.int z :: .int x :: st) M := by
  intro p e s m args below meth c D cA b base H locs cells slots lsr E0 H0 L0 q1 q2
  obtain ⟨hx, hb, -⟩ := id E0
  exact lv_icmp_ge hx hb hd ht (fun hc => k1 hc p e s m args below meth c D cA b base H locs cells slots lsr E0 H0 L0 q1 q2) (fun hc => k2 hc p e s m args below meth c D cA b base H locs cells slots lsr E0 H0 L0 q1 q2)
theorem r_if_gt {x : Int32} {off : Int} (tgt : Nat) (hd : decode cc pc = .ok (.ifCond .gt off, 3)) (ht : (pc : Int) + off = (tgt : Int)) (k1 : 0 < x → am_V l y cc nL rt R mc ms X Post bc bs tgt ls st M) (k2 : ¬ 0 < x → am_V l y cc nL rt R mc ms X Post bc bs (pc + 3) ls st M) : am_V l y cc nL rt R mc ms X Post bc bs pc ls (.int x :: st) M := by
  intro p e s m args below meth c D cA b base H locs cells slots lsr E0 H0 L0 q1 q2
  obtain ⟨hx, hb, -⟩ := id E0
  exact lv_if_gt hx hb hd ht (fun hc => k1 hc p e s m args below meth c D cA b base H locs cells slots lsr E0 H0 L0 q1 q2) (fun hc => k2 hc p e s m args below meth c D cA b base H locs cells slots lsr E0 H0 L0 q1 q2)
theorem r_icmp_gt {x z : Int32} {off : Int} (tgt : Nat) (hd : decode cc pc = .ok (.if_icmp .gt off, 3)) (ht : (pc : Int) + off = (tgt : Int)) (k1 : z < x → am_V l y cc nL rt R mc ms X Post bc bs tgt ls st M) (k2 : ¬ z < x → am_V l y cc nL rt R mc ms X Post bc bs (pc + 3) ls st M) : am_V l y cc nL rt R mc ms X Post bc bs pc ls (.int z :: .int x :: st) M := by
  intro p e s m args below meth c D cA b base H locs cells slots lsr E0 H0 L0 q1 q2
  obtain ⟨hx, hb, -⟩ := id E0
  exact lv_icmp_gt hx hb hd ht (fun hc => k1 hc p e s m args below meth c D cA b base H locs cells slots lsr E0 H0 L0 q1 q2) (fun hc => k2 hc p e s m args below meth c D cA b base H locs cells slots lsr E0 H0 L0 q1 q2)
theorem r_if_le {x : Int32} {off : Int} (tgt : Nat) (hd : decode cc pc = .ok (.ifCond .le off, 3)) (ht : (pc : Int) + off = (tgt : Int)) (k1 : x ≤ 0 → am_V l y cc nL rt R mc ms X Post bc bs tgt ls st M) (k2 : ¬ x ≤ 0 → am_V l y cc nL rt R mc ms X Post bc bs (pc + 3) ls st M) : am_V l y cc nL rt R mc ms X Post bc bs pc ls (.int x :: st) M := by
  intro p e s m args below meth c D cA b base H locs cells slots lsr E0 H0 L0 q1 q2
  obtain ⟨hx, hb, -⟩ := id E0
  exact lv_if_le hx hb hd ht (fun hc => k1 hc p e s m args below meth c D cA b base H locs cells slots lsr E0 H0 L0 q1 q2) (fun hc => k2 hc p e s m args below meth c D cA b base H locs cells slots lsr E0 H0 L0 q1 q2)
theorem r_icmp_le {x z : Int32} {off : Int} (tgt : Nat) (hd : decode cc pc = .ok (.if_icmp .le off, 3)) (ht : (pc : Int) + off = (tgt : Int)) (k1 : x ≤ z → am_V l y cc nL rt R mc ms X Post bc bs tgt ls st M) (k2 : ¬ x ≤ z → am_V l y cc nL rt R mc ms X Post bc bs (pc + 3) ls st M) : am_V l y cc nL rt R mc ms X Post bc bs pc ls (.int z :: .int x :: st) M := by
  intro p e s m args below meth c D cA b base H locs cells slots lsr E0 H0 L0 q1 q2
  obtain ⟨hx, hb, -⟩ := id E0
  exact lv_icmp_le hx hb hd ht (fun hc => k1 hc p e s m args below meth c D cA b base H locs cells slots lsr E0 H0 L0 q1 q2) (fun hc => k2 hc p e s m args below meth c D cA b base H locs cells slots lsr E0 H0 L0 q1 q2)
theorem r_ifnull {r : Option Nat} {off : Int} (tgt : Nat) (hd : decode cc pc = .ok (.ifnull off, 3)) (ht : (pc : Int) + off = (tgt : Int)) (k1 : r = none → am_V l y cc nL rt R mc ms X Post bc bs tgt ls st M) (k2 : ∀ a, r = some a → am_V l y cc nL rt R mc ms X Post bc bs (pc + 3) ls st M) : am_V l y cc nL rt R mc ms X Post bc bs pc ls (va_rf r :: st) M := by
  intro p e s m args below meth c D cA b base H locs cells slots lsr E0 H0 L0 q1 q2
  obtain ⟨hx, hb, -⟩ := id E0
  cases r with
  | none => exact lv_ifnullN hx hb hd ht (k1 rfl p e s m args below meth c D cA b base H locs cells slots lsr E0 H0 L0 q1 q2)
  | some a => exact lv_ifnull hx hb hd (k2 a rfl p e s m args below meth c D cA b base H locs cells slots lsr E0 H0 L0 q1 q2)
theorem r_ifnonnull {r : Option Nat} {off : Int} (tgt : Nat) (hd : decode cc pc = .ok (.ifnonnull off, 3)) (ht : (pc : Int) + off = (tgt : Int)) (k1 : ∀ a, r = some a → am_V l y cc nL rt R mc ms X Post bc bs tgt ls st M) (k2 : r = none → am_V l y cc nL rt R mc ms X Post bc bs (pc + 3) ls st M) : am_V l y cc nL rt R mc ms X Post bc bs pc ls (va_rf r :: st) M := by
  intro p e s m args below meth c D cA b base H locs cells slots lsr E0 H0 L0 q1 q2
  obtain ⟨hx, hb, -⟩ := id E0
  cases r with
  | none => exact lv_ifnonnullN hx hb hd (k2 rfl p e s m args below meth c D cA b base H locs cells slots lsr E0 H0 L0 q1 q2)
  | some a => exact lv_ifnonnull hx hb hd ht (k1 a rfl p e s m args below meth c D cA b base H locs cells slots lsr E0 H0 L0 q1 q2)
theorem r_tableOut {dflt lo hi : Int} {offs : Array Int} {len : Nat} {x : Int32} (tgt : Nat) (hd : decode cc pc = .ok (.tableswitch dflt lo hi offs, len)) (h : x.toInt < lo ∨ hi < x.toInt) (ht : (pc : Int) + dflt = (tgt : Int)) (k : am_V l y cc nL rt R mc ms X Post bc bs tgt ls st M) : am_V l y cc nL rt R mc ms X Post bc bs pc ls (.int x :: st) M := by
  intro p e s m args below meth c D cA b base H locs cells slots lsr E0 H0 L0 q1 q2
  obtain ⟨hx, hb, -⟩ := id E0
  exact lv_tableOut hx hb hd h ht (k p e s m args below meth c D cA b base H locs cells slots lsr E0 H0 L0 q1 q2)
theorem r_tableIn {dflt lo hi : Int} {offs : Array Int} {len : Nat} {x : Int32} {off : Int} (tgt : Nat) (hd : decode cc pc = .ok (.tableswitch dflt lo hi offs, len)) (h1 : ¬ x.toInt < lo) (h2 : ¬ hi < x.toInt) (ho : offs[(x.toInt - lo).toNat]? = some off) (ht : (pc : Int) + off = (tgt : Int)) (k : am_V l y cc nL rt R mc ms X Post bc bs tgt ls st M) : am_V l y cc nL rt R mc ms X Post bc bs pc ls (.int x :: st) M := by
  intro p e s m args below meth c D cA b base H locs cells slots lsr E0 H0 L0 q1 q2
  obtain ⟨hx, hb, -⟩ := id E0
  exact lv_tableIn hx hb hd h1 h2 ho ht (k p e s m args below meth c D cA b base H locs cells slots lsr E0 H0 L0 q1 q2)
theorem r_lookup {dflt : Int} {ps : Array (Int × Int)} {len : Nat} {x : Int32} {off : Int} (tgt : Nat) (hd : decode cc pc = .ok (.lookupswitch dflt ps, len)) (hp : (ps.toList.zip (ps.toList.drop 1)).all (fun (a, next) => a.1 < next.1) = true) (ho : Op.lookupswitch.offset ps.toList dflt x.toInt = off) (ht : (pc : Int) + off = (tgt : Int)) (k : am_V l y cc nL rt R mc ms X Post bc bs tgt ls st M) : am_V l y cc nL rt R mc ms X Post bc bs pc ls (.int x :: st) M := by
  intro p e s m args below meth c D cA b base H locs cells slots lsr E0 H0 L0 q1 q2
  obtain ⟨hx, hb, -⟩ := id E0
  exact lv_lookup hx hb hd hp ho ht (k p e s m args below meth c D cA b base H locs cells slots lsr E0 H0 L0 q1 q2)
theorem am_lstore {b base : Nat} {lsr : Array Slot} {ls : List (Option Value)} {i : Nat} {v : Value} (h : am_L b base nL lsr ls) (hi : i < nL) (hc : v.category = 1) : ∃ ls', storeLocals lsr i (am_tv b base v) = some ls' ∧ am_L b base nL ls' ((ls ++ List.replicate (i + 1 - ls.length) none).set i (some v)) := by
  obtain ⟨ls', e1, e2⟩ := lv_store1 (l := (List.range ls.length).filterMap (fun j => (ls[j]?.join).map (fun w => (j, am_tv b base w)))) (v := am_tv b base v) (ls := lsr) (nL := nL) (i := i) ⟨h.1, h.2.1, fun q hq => by
    obtain ⟨j, hj, hq⟩ := List.mem_filterMap.mp hq
    cases hl : ls[j]? with
    | none => rw [hl] at hq; simp at hq
    | some o =>
      cases o with
      | none => rw [hl] at hq; simp at hq
      | some w =>
        rw [hl] at hq
        simp at hq
        subst hq
        exact (h.2.2 j w hl).1⟩ hi (by rw [am_tv_cat]; exact hc)
  refine ⟨ls', e1, e2.1, e2.2.1, fun j w hw => ?_⟩
  by_cases hj : j = i
  · subst hj
    rw [List.getElem?_set_self (by simp; omega)] at hw
    cases hw
    exact ⟨e2.2.2 (j, am_tv b base v) List.mem_cons_self, hc⟩
  · rw [List.getElem?_set_ne (fun q => hj q.symm)] at hw
    have hjl : j < ls.length := by
      rcases Nat.lt_or_ge j ls.length with q | q
      · exact q
      · rw [List.getElem?_append_right q] at hw
        by_cases hr : j - ls.length < i + 1 - ls.length
        · rw [List.getElem?_replicate, if_pos hr] at hw
          cases hw
        · rw [List.getElem?_replicate, if_neg hr] at hw
          cases hw
    rw [List.getElem?_append_left hjl] at hw
    refine ⟨e2.2.2 (j, am_tv b base w) (List.mem_cons_of_mem _ (List.mem_filter.mpr ⟨List.mem_filterMap.mpr ⟨j, List.mem_range.mpr hjl, by rw [hw]; rfl⟩, ?_⟩)), (h.2.2 j w hw).2⟩
    have hcw := (h.2.2 j w hw).2
    simp [hj, am_tv_cat, hcw]
theorem r_istore_n {k0 : Fin 4} {x : Int32} (ls' : List (Option Value)) (hd : decode cc pc = .ok (.istore_n k0, 1)) (hn : (k0 : Nat) < nL) (hl : (ls ++ List.replicate ((k0 : Nat) + 1 - ls.length) none).set (k0 : Nat) (some (.int x)) = ls') (k : am_V l y cc nL rt R mc ms X Post bc bs (pc + 1) ls' st M) : am_V l y cc nL rt R mc ms X Post bc bs pc ls (.int x :: st) M := by
  intro p e s m args below meth c D cA b base H locs cells slots lsr E0 H0 L0 q1 q2
  obtain ⟨hx, hb, -⟩ := id E0
  obtain ⟨l2, e1, L1⟩ := am_lstore (v := .int x) L0 hn rfl
  rw [hl] at L1
  intro T hT Y
  obtain ⟨t, a, b⟩ := k p e s m args below meth c D cA b base H locs cells slots l2 E0 H0 L1 q1 q2 T hT Y
  refine ⟨t, ?_, b⟩
  simp only [am_tv] at e1
  simp only [List.map_cons, am_tv]
  jvm_step Y.here [Y.here.top, ↓top_set Y.here.top, hx, hb, hd, e1, Value.isRef]
  exact a
theorem r_istore {i : Nat} {x : Int32} (ls' : List (Option Value)) (hd : decode cc pc = .ok (.istore i, 2)) (hn : i < nL) (hl : (ls ++ List.replicate (i + 1 - ls.length) none).set i (some (.int x)) = ls') (k : am_V l y cc nL rt R mc ms X Post bc bs (pc + 2) ls' st M) : am_V l y cc nL rt R mc ms X Post bc bs pc ls (.int x :: st) M := by
  intro p e s m args below meth c D cA b base H locs cells slots lsr E0 H0 L0 q1 q2
  obtain ⟨hx, hb, -⟩ := id E0
  obtain ⟨l2, e1, L1⟩ := am_lstore (v := .int x) L0 hn rfl
  rw [hl] at L1
  intro T hT Y
  obtain ⟨t, a, b⟩ := k p e s m args below meth c D cA b base H locs cells slots l2 E0 H0 L1 q1 q2 T hT Y
  refine ⟨t, ?_, b⟩
  simp only [am_tv] at e1
  simp only [List.map_cons, am_tv]
  jvm_step Y.here [Y.here.top, ↓top_set Y.here.top, hx, hb, hd, e1, Value.isRef]
  exact a
theorem r_astore_n {k0 : Fin 4} {x : Nat} (ls' : List (Option Value)) (hd : decode cc pc = .ok (.astore_n k0, 1)) (hn : (k0 : Nat) < nL) (hl : (ls ++ List.replicate ((k0 : Nat) + 1 - ls.length) none).set (k0 : Nat) (some (.ref x)) = ls') (k : am_V l y cc nL rt R mc ms X Post bc bs (pc + 1) ls' st M) : am_V l y cc nL rt R mc ms X Post bc bs pc ls (.ref x :: st) M := by
  intro p e s m args below meth c D cA b base H locs cells slots lsr E0 H0 L0 q1 q2
  obtain ⟨hx, hb, -⟩ := id E0
  obtain ⟨l2, e1, L1⟩ := am_lstore (v := .ref x) L0 hn rfl
  rw [hl] at L1
  intro T hT Y
  obtain ⟨t, a, b⟩ := k p e s m args below meth c D cA b base H locs cells slots l2 E0 H0 L1 q1 q2 T hT Y
  refine ⟨t, ?_, b⟩
  simp only [am_tv] at e1
  simp only [List.map_cons, am_tv]
  jvm_step Y.here [Y.here.top, ↓top_set Y.here.top, hx, hb, hd, e1, Value.isRef]
  exact a
theorem r_astore {i : Nat} {x : Nat} (ls' : List (Option Value)) (hd : decode cc pc = .ok (.astore i, 2)) (hn : i < nL) (hl : (ls ++ List.replicate (i + 1 - ls.length) none).set i (some (.ref x)) = ls') (k : am_V l y cc nL rt R mc ms X Post bc bs (pc + 2) ls' st M) : am_V l y cc nL rt R mc ms X Post bc bs pc ls (.ref x :: st) M := by
  intro p e s m args below meth c D cA b base H locs cells slots lsr E0 H0 L0 q1 q2
  obtain ⟨hx, hb, -⟩ := id E0
  obtain ⟨l2, e1, L1⟩ := am_lstore (v := .ref x) L0 hn rfl
  rw [hl] at L1
  intro T hT Y
  obtain ⟨t, a, b⟩ := k p e s m args below meth c D cA b base H locs cells slots l2 E0 H0 L1 q1 q2 T hT Y
  refine ⟨t, ?_, b⟩
  simp only [am_tv] at e1
  simp only [List.map_cons, am_tv]
  jvm_step Y.here [Y.here.top, ↓top_set Y.here.top, hx, hb, hd, e1, Value.isRef]
  exact a
theorem r_astore_nq {k0 : Fin 4} {r : Option Nat} (ls' : List (Option Value)) (hd : decode cc pc = .ok (.astore_n k0, 1)) (hn : (k0 : Nat) < nL) (hl : (ls ++ List.replicate ((k0 : Nat) + 1 - ls.length) none).set (k0 : Nat) (some (va_rf r)) = ls') (k : am_V l y cc nL rt R mc ms X Post bc bs (pc + 1) ls' st M) : am_V l y cc nL rt R mc ms X Post bc bs pc ls (va_rf r :: st) M := by
  intro p e s m args below meth c D cA b base H locs cells slots lsr E0 H0 L0 q1 q2
  obtain ⟨hx, hb, -⟩ := id E0
  obtain ⟨l2, e1, L1⟩ := am_lstore (v := va_rf r) L0 hn (by cases r <;> rfl)
  rw [hl] at L1
  intro T hT Y
  obtain ⟨t, a, b⟩ := k p e s m args below meth c D cA b base H locs cells slots l2 E0 H0 L1 q1 q2 T hT Y
  refine ⟨t, ?_, b⟩
  cases r <;> (simp only [va_rf, am_tv] at e1 ⊢; jvm_step Y.here [Y.here.top, ↓top_set Y.here.top, hx, hb, hd, e1, Value.isRef, va_rf, am_tv]; exact a)
theorem r_astoreq {i : Nat} {r : Option Nat} (ls' : List (Option Value)) (hd : decode cc pc = .ok (.astore i, 2)) (hn : i < nL) (hl : (ls ++ List.replicate (i + 1 - ls.length) none).set i (some (va_rf r)) = ls') (k : am_V l y cc nL rt R mc ms X Post bc bs (pc + 2) ls' st M) : am_V l y cc nL rt R mc ms X Post bc bs pc ls (va_rf r :: st) M := by
  intro p e s m args below meth c D cA b base H locs cells slots lsr E0 H0 L0 q1 q2
  obtain ⟨hx, hb, -⟩ := id E0
  obtain ⟨l2, e1, L1⟩ := am_lstore (v := va_rf r) L0 hn (by cases r <;> rfl)
  rw [hl] at L1
  intro T hT Y
  obtain ⟨t, a, b⟩ := k p e s m args below meth c D cA b base H locs cells slots l2 E0 H0 L1 q1 q2 T hT Y
  refine ⟨t, ?_, b⟩
  cases r <;> (simp only [va_rf, am_tv] at e1 ⊢; jvm_step Y.here [Y.here.top, ↓top_set Y.here.top, hx, hb, hd, e1, Value.isRef, va_rf, am_tv]; exact a)
theorem r_iinc {i : Nat} {n : Int} {x : Int32} (v : Int32) (ls' : List (Option Value)) (hd : decode cc pc = .ok (.iinc i n, 3)) (hn : i < nL) (hg : ls[i]? = some (some (.int x))) (hv : x + Int32.ofInt n = v) (hl : ls.set i (some (.int v)) = ls') (k : am_V l y cc nL rt R mc ms X Post bc bs (pc + 3) ls' st M) : am_V l y cc nL rt R mc ms X Post bc bs pc ls st M := by
  intro p e s m args below meth c D cA b base H locs cells slots lsr E0 H0 L0 q1 q2
  obtain ⟨hx, hb, -⟩ := id E0
  subst hv
  obtain ⟨l2, e1, L1⟩ := am_lstore (v := .int (x + Int32.ofInt n)) L0 hn rfl
  have hil : i < ls.length := (List.getElem?_eq_some_iff.mp hg).1
  rw [show i + 1 - ls.length = 0 by omega, List.replicate_zero, List.append_nil, hl] at L1
  have hg2 := (L0.2.2 _ _ hg).1
  simp only [am_tv] at e1 hg2
  intro T hT Y
  obtain ⟨t, a, b⟩ := k p e s m args below meth c D cA b base H locs cells slots l2 E0 H0 L1 q1 q2 T hT Y
  refine ⟨t, ?_, b⟩
  jvm_step Y.here [Y.here.top, ↓top_set Y.here.top, hx, hb, hd, hg2, e1]
  exact a
end AmRows
end
section
/-! ROWS OF THE MEMORY -/
section AmHeap
variable {l : Launch} {y : MethodName} {cc : ByteArray} {nL : Nat} {rt : Option FieldType} {R : Room} {mc ms : Nat} {X : Nat × (Nat → Int32)} {Post : Option Value → am_M → Prop} {bc bs pc : Nat} {ls : List (Option Value)} {st : List Value} {M : am_M}
/-- the facts of a class: its number, name, fields -/
def am_cls (ci : Nat) (C : String) (T : u_T) (N : Nat) (ty : Nat → FieldType) : Prop := ci < 10 ∧ vwCl[ci]? = some (C, T, N) ∧ N = am_nf ci ∧ am_ty ci = ty ∧ (∀ w ∈ u_ws C T N, w ∈ am_gw) ∧ (∀ k, k < N → parseFieldDescriptor (T k).2.2.1 = some (ty k)) ∧ (∀ a, a < N → ∀ b, b < N → a ≠ b → (T a).2.1 ≠ (T b).2.1) ∧ ∀ k, k < N → defaultValue (ty k) = if am_isR ci k = true then .null else .int 0
theorem am_P_ob {D : va_G} {cA : Nat → ClassId} {b base : Nat} {H : Heap} {a ci n : Nat} (hP : va_P D vwCl (am_ws b base cA M) H) (hok : am_ok M a ci n) (hci : ci < 10) : (am_ws b base cA M)[a - 1]? = some (am_rho b base a, .inr (ci, am_fs b base M a ci)) := by
  rw [am_ws_at hok.1 hok.2.1, am_ob_o hci hok.2.2]
theorem r_getI {a n index ci k : Nat} {C : String} {T : u_T} {N : Nat} {ty : Nat → FieldType} (hc : am_cls ci C T N ty) (hk : k < N) (hr : am_isR ci k = false) (hl : Cond.fieldLink y.cls index (T k).1 (T k).2.1 (T k).2.2.1 ∈ am_gw) (hok : am_ok M a ci n) (hd : decode cc pc = .ok (.getfield index, 3))
    (kk : am_V l y cc nL rt R mc ms X Post bc bs (pc + 3) ls (.int (mI M a k) :: st) M) : am_V l y cc nL rt R mc ms X Post bc bs pc ls (.ref a :: st) M := by
  intro p e s m args below meth c D cA b base H locs cells slots lsr E0 H0 L0 q1 q2
  obtain ⟨hx, hb, -, -, -, ho, -, ht, -⟩ := id E0
  obtain ⟨⟨hK, -⟩, hP, -⟩ := id H0
  obtain ⟨h10, hv, hN, -, hin, -⟩ := hc
  refine va_get (v := .int (mI M a k)) hx hb ht hin ho hK hP (a - 1) (am_P_ob hP hok h10) hv k hk (ht _ hl) (fun _ h => h) ?_ hd (kk p e s m args below meth c D cA b base H locs cells slots lsr E0 H0 L0 q1 q2)
  rw [am_fs_get _ _ _ _ _ (by omega)]
  simp [am_fv, hr]
theorem r_getR {a n index ci k : Nat} {C : String} {T : u_T} {N : Nat} {ty : Nat → FieldType} (hc : am_cls ci C T N ty) (hk : k < N) (hr : am_isR ci k = true) (hl : Cond.fieldLink y.cls index (T k).1 (T k).2.1 (T k).2.2.1 ∈ am_gw) (hok : am_ok M a ci n) (hd : decode cc pc = .ok (.getfield index, 3))
    (kk : am_V l y cc nL rt R mc ms X Post bc bs (pc + 3) ls (va_rf (mR M a k) :: st) M) : am_V l y cc nL rt R mc ms X Post bc bs pc ls (.ref a :: st) M := by
  intro p e s m args below meth c D cA b base H locs cells slots lsr E0 H0 L0 q1 q2
  obtain ⟨hx, hb, -, -, -, ho, -, ht, -⟩ := id E0
  obtain ⟨⟨hK, -⟩, hP, -⟩ := id H0
  obtain ⟨h10, hv, hN, -, hin, -⟩ := hc
  have k2 := kk p e s m args below meth c D cA b base H locs cells slots lsr E0 H0 L0 q1 q2
  rw [List.map_cons, am_tv_rf] at k2
  refine va_get hx hb ht hin ho hK hP (a - 1) (am_P_ob hP hok h10) hv k hk (ht _ hl) (fun _ h => h) ?_ hd k2
  rw [am_fs_get _ _ _ _ _ (by omega)]
  simp [am_fv, hr]
/-- what a write gives back: the memory's world behind it -/
theorem am_H_set {D : va_G} {cA : Nat → ClassId} {b base : Nat} {s : State} {M' : am_M} {H H1 : Heap} {locs : List Loc} {a j : Nat} {t n : Nat} (H0 : am_H X D cA b base s M H locs) (hok : am_ok M a t n) (hN : mN M' = mN M) (ho : ∀ x, x ≠ a → am_ob b base cA M' x = am_ob b base cA M x)
    (hat : va_at D vwCl (am_rho b base a, am_ob b base cA M' a) H1) (z : H1.size = H.size) (oq : ∀ q, q ≠ am_rho b base a → H1[q]? = H[q]?) : am_H X D cA b base s M' H1 (locs ++ [⟨am_rho b base a, j⟩]) := by
  obtain ⟨hK, hP, hsz, hX, hb, hle, hS⟩ := H0
  have hD := am_D b base cA M
  have hg : (am_ws b base cA M)[a - 1]? = some (am_rho b base a, am_ob b base cA M a) := am_ws_at hok.1 hok.2.1
  refine ⟨hK, ?_, by rw [z, hsz, hN], hX, hb, hle, hS.put z oq ?_⟩
  · rw [am_ws_set hok.1 hok.2.1 hN ho]
    exact hP.set hD hg hat oq
  · show base ≤ am_rho b base a
    rw [am_rho_pos hok.1]
    omega
theorem am_put {a n index ci k : Nat} {C : String} {T : u_T} {N : Nat} {ty : Nat → FieldType} {M' : am_M} {v : Value} (hc : am_cls ci C T N ty) (hk : k < N) (hfin : (T k).2.2.2 = false ∨ ((T k).2.2.2 = true ∧ y.name = "<init>" ∧ y.cls = C ∧ (T k).1 = C)) (hl : Cond.fieldLink y.cls index (T k).1 (T k).2.1 (T k).2.2.1 ∈ am_gw) (hok : am_ok M a ci n) (hd : decode cc pc = .ok (.putfield index, 3))
    (hN' : mN M' = mN M) (hT' : mT M' = mT M) (hn : ∀ b base, narrow (ty k) (am_tv b base v) = am_tv b base v) (hf : ∀ b base, fits (ty k) (am_tv b base v) = true) (hI : ∀ x, x ≠ a → mI M' x = mI M x) (hR : ∀ x, x ≠ a → mR M' x = mR M x) (hfs : ∀ b base, am_fs b base M' a ci = (am_fs b base M a ci).set k (am_tv b base v))
    (kk : am_V l y cc nL rt R mc ms X Post bc bs (pc + 3) ls st M') : am_V l y cc nL rt R mc ms X Post bc bs pc ls (v :: .ref a :: st) M := by
  intro p e s m args below meth c D cA b base H locs cells slots lsr E0 H0 L0 q1 q2
  obtain ⟨hx, hb, -, -, -, ho, hmn, ht, -⟩ := id E0
  obtain ⟨⟨hK, -⟩, hP, -⟩ := id H0
  obtain ⟨h10, hv, hN, hty0, hin, hty, hnm, -⟩ := hc
  have hap := va_apart (own := y.cls) (args := args) (s := s) ht hin ty hty hnm hK hv
  obtain ⟨r, h1, cell, g1, g2, g3, g4⟩ := hP (a - 1) _ (am_P_ob hP hok h10)
  have hr : r = (C, T, N) := Option.some.inj (h1.symm.trans hv)
  subst hr
  obtain ⟨hS, hfc, kC, hkC, hkind⟩ := hK.1 ci _ hv
  obtain ⟨cf, kf, fi, f, hi, hsl⟩ := hS k hk
  have hlay := ht _ (hin _ (u_in_lay hk))
  have hst := (u_facts hfc hkC (u_lays ht hin hk) hi).1
  have fin : ∀ (H' : Heap), H'[am_rho b base a]? = some (cell.setSlot f.slot (am_tv b base v)) → H'.size = H.size → (∀ q, q ≠ am_rho b base a → H'[q]? = H[q]?) → W p l e R s m args below meth c H' (locs ++ [⟨am_rho b base a, f.slot⟩]) cells slots (MQ below (am_Q D cA b base Post) args s mc ms (fun q => base ≤ q)) (F0 m (pc + 3) lsr (st.map (am_tv b base))) := by
    intro H' e1 e2 e3
    refine kk p e s m args below meth c D cA b base H' _ cells slots lsr E0 (am_H_set H0 hok hN' (fun x hx' => am_ob_congr (by rw [hT']) (hI x hx') (hR x hx')) ?_ e2 e3) L0 q1 q2
    rw [am_ob_o h10 (by rw [hT']; exact hok.2.2), hfs]
    rw [hsl] at e1
    exact ⟨_, hv, t_OB.to (V := updV (vp_V (am_fs b base M a ci)) k (am_tv b base v)) ⟨_, e1, g2, g3, t_set g4 hap hk _⟩ (fun j _ => vp_updV_set (by rw [am_fs_len]; omega) _ j)⟩
  rcases hfin with hfin | ⟨hfin, hin2, hcl, hdecl⟩
  · unfold u_lay at hlay
    rw [if_neg (by rw [hfin]; decide)] at hlay
    have h6 := u_store hfc hkC hkind hlay hi (hty k hk) (hn b base) (hf b base)
    refine W.putK hx hb (f := f) ⟨ho, ht _ hl, ⟨_, _, _, hi⟩, hst⟩ (by rw [g2]; exact h6) g1 g3 (by rw [hsl]; exact k2_hasslot (g4 k hk)) rfl rfl hd fin
  · unfold u_lay at hlay
    rw [if_pos hfin] at hlay
    have hcf : m.cls = cf := by
      obtain ⟨_, _, c', _, _, _, -, -, hf', -, -, -, hown2, -⟩ := Cond.laysFinal_spec hlay
      have e1 : c' = cf := by have := hi.symm.trans hf'; simp at this; exact this.1.symm
      rw [hdecl, ← hcl] at hown2
      rw [← e1]; exact Option.some.inj (ho.symm.trans hown2)
    have h6 := u_fits hfc hkC hkind (Or.inr hlay) hi (hty k hk) (hn b base) (hf b base)
    refine W.putFinK hx hb ho (ht _ hl) hi hst hcf (hmn hin2) (by rw [g2]; exact h6) g1 g3 (by rw [hsl]; exact k2_hasslot (g4 k hk)) rfl rfl hd fin
theorem r_putI {a n index ci k : Nat} {C : String} {T : u_T} {N : Nat} {ty : Nat → FieldType} {v : Int32} (hc : am_cls ci C T N ty) (hk : k < N) (hr : am_isR ci k = false) (hfin : (T k).2.2.2 = false ∨ ((T k).2.2.2 = true ∧ y.name = "<init>" ∧ y.cls = C ∧ (T k).1 = C)) (hl : Cond.fieldLink y.cls index (T k).1 (T k).2.1 (T k).2.2.1 ∈ am_gw) (hok : am_ok M a ci n) (hv : narrow (ty k) (.int v) = .int v ∧ fits (ty k) (.int v) = true) (hd : decode cc pc = .ok (.putfield index, 3))
    (kk : am_V l y cc nL rt R mc ms X Post bc bs (pc + 3) ls st (wI M a k v)) : am_V l y cc nL rt R mc ms X Post bc bs pc ls (.int v :: .ref a :: st) M :=
  am_put (M' := wI M a k v) hc hk hfin hl hok hd rfl rfl (fun _ _ => hv.1) (fun _ _ => hv.2) (fun x hx => mI_wI_n M k v hx) (fun _ _ => rfl) (fun b base => am_fs_wI b base M a ci k v hr) kk
theorem r_putR {a n index ci k : Nat} {C : String} {T : u_T} {N : Nat} {ty : Nat → FieldType} {r : Option Nat} (hc : am_cls ci C T N ty) (hk : k < N) (hr : am_isR ci k = true) (hfin : (T k).2.2.2 = false ∨ ((T k).2.2.2 = true ∧ y.name = "<init>" ∧ y.cls = C ∧ (T k).1 = C)) (hl : Cond.fieldLink y.cls index (T k).1 (T k).2.1 (T k).2.2.1 ∈ am_gw) (hok : am_ok M a ci n) (hd : decode cc pc = .ok (.putfield index, 3))
    (kk : am_V l y cc nL rt R mc ms X Post bc bs (pc + 3) ls st (wR M a k r)) : am_V l y cc nL rt R mc ms X Post bc bs pc ls (va_rf r :: .ref a :: st) M := by
  have hty : (∃ o, ty k = .object o) ∨ ∃ t, ty k = .array t := by
    have e := hc.2.2.2.1
    have h := hr
    unfold am_isR at h
    rw [e] at h
    cases hq : ty k with
    | object o => exact Or.inl ⟨o, rfl⟩
    | array t => exact Or.inr ⟨t, rfl⟩
    | _ => rw [hq] at h; cases h
  refine am_put (M' := wR M a k r) hc hk hfin hl hok hd rfl rfl (fun b base => ?_) (fun b base => ?_) (fun _ _ => rfl) (fun x hx => mR_wR_n M k r hx) (fun b base => ?_) kk
  · rw [am_tv_rf]
    rcases hty with ⟨o, ho⟩ | ⟨t, ho⟩ <;> rw [ho] <;> cases r <;> rfl
  · rw [am_tv_rf]
    rcases hty with ⟨o, ho⟩ | ⟨t, ho⟩ <;> rw [ho] <;> cases r <;> rfl
  · rw [am_tv_rf]
    exact am_fs_wR b base M a ci k r hr
end AmHeap
end
section
/-! ROWS OF ARRAYS, NEW CELLS, ANSWERS -/
section AmArr
variable {l : Launch} {y : MethodName} {cc : ByteArray} {nL : Nat} {rt : Option FieldType} {R : Room} {mc ms : Nat} {X : Nat × (Nat → Int32)} {Post : Option Value → am_M → Prop} {bc bs pc : Nat} {ls : List (Option Value)} {st : List Value} {M : am_M}
theorem r_iald {a n : Nat} {i : Int32} (hok : am_ok M a 10 n) (hi : vp_in i n) (hd : decode cc pc = .ok (.iaload, 1)) (kk : am_V l y cc nL rt R mc ms X Post bc bs (pc + 1) ls (.int (mI M a i.toNatClampNeg) :: st) M) : am_V l y cc nL rt R mc ms X Post bc bs pc ls (.int i :: .ref a :: st) M := by
  intro p e s m args below meth c D cA b base H locs cells slots lsr E0 H0 L0 q1 q2
  obtain ⟨hx, hb, -⟩ := id E0
  obtain ⟨⟨hK, -⟩, hP, -⟩ := id H0
  exact va_iald hx hb hK hP (a - 1) 0 ((am_ws_at hok.1 hok.2.1).trans (by rw [am_ob_i hok.2.2])) rfl hi hd (kk p e s m args below meth c D cA b base H locs cells slots lsr E0 H0 L0 q1 q2)
theorem r_zald {a n : Nat} {i : Int32} (hok : am_ok M a 11 n) (hi : vp_in i n) (hd : decode cc pc = .ok (.baload, 1)) (kk : am_V l y cc nL rt R mc ms X Post bc bs (pc + 1) ls (.int (mI M a i.toNatClampNeg) :: st) M) : am_V l y cc nL rt R mc ms X Post bc bs pc ls (.int i :: .ref a :: st) M := by
  intro p e s m args below meth c D cA b base H locs cells slots lsr E0 H0 L0 q1 q2
  obtain ⟨hx, hb, -⟩ := id E0
  obtain ⟨⟨hK, -⟩, hP, -⟩ := id H0
  exact va_zald hx hb hK hP (a - 1) 1 ((am_ws_at hok.1 hok.2.1).trans (by rw [am_ob_z hok.2.2])) rfl hi hd (kk p e s m args below meth c D cA b base H locs cells slots lsr E0 H0 L0 q1 q2)
theorem r_aald {a n t : Nat} {i : Int32} (ht : t = 12 ∨ t = 13) (hok : am_ok M a t n) (hi : vp_in i n) (hd : decode cc pc = .ok (.aaload, 1)) (kk : am_V l y cc nL rt R mc ms X Post bc bs (pc + 1) ls (va_rf (mR M a i.toNatClampNeg) :: st) M) : am_V l y cc nL rt R mc ms X Post bc bs pc ls (.int i :: .ref a :: st) M := by
  intro p e s m args below meth c D cA b base H locs cells slots lsr E0 H0 L0 q1 q2
  obtain ⟨hx, hb, -⟩ := id E0
  obtain ⟨⟨hK, -⟩, hP, -⟩ := id H0
  have k2 := kk p e s m args below meth c D cA b base H locs cells slots lsr E0 H0 L0 q1 q2
  rw [List.map_cons, am_tv_rf] at k2
  rcases ht with rfl | rfl
  · exact va_aldq (C := RX3) hx hb hK hP (a - 1) 2 ((am_ws_at hok.1 hok.2.1).trans (by rw [am_ob_q (by decide) hok.2.2])) rfl hi hd k2
  · exact va_aldq (C := RX6) hx hb hK hP (a - 1) 3 ((am_ws_at hok.1 hok.2.1).trans (by rw [am_ob_q (by decide) hok.2.2])) rfl hi hd k2
theorem r_alen {a n t : Nat} (ht : t = 10 ∨ t = 11) (hok : am_ok M a t n) (hd : decode cc pc = .ok (.arraylength, 1)) (kk : am_V l y cc nL rt R mc ms X Post bc bs (pc + 1) ls (.int (nI n) :: st) M) : am_V l y cc nL rt R mc ms X Post bc bs pc ls (.ref a :: st) M := by
  intro p e s m args below meth c D cA b base H locs cells slots lsr E0 H0 L0 q1 q2
  obtain ⟨hx, hb, -⟩ := id E0
  obtain ⟨⟨hK, -⟩, hP, -⟩ := id H0
  rcases ht with rfl | rfl
  · exact va_alen (x := (n, .inl (mI M a))) hx hb hK hP (a - 1) 0 ((am_ws_at hok.1 hok.2.1).trans (by rw [am_ob_i hok.2.2])) rfl rfl hd (kk p e s m args below meth c D cA b base H locs cells slots lsr E0 H0 L0 q1 q2)
  · exact va_alen (x := (n, .inl (mI M a))) hx hb hK hP (a - 1) 1 ((am_ws_at hok.1 hok.2.1).trans (by rw [am_ob_z hok.2.2])) rfl rfl hd (kk p e s m args below meth c D cA b base H locs cells slots lsr E0 H0 L0 q1 q2)
/-- the script -/
theorem r_sld {i : Int32} (hi : vp_in i X.1) (hd : decode cc pc = .ok (.iaload, 1)) (kk : am_V l y cc nL rt R mc ms X Post bc bs (pc + 1) ls (.int (X.2 i.toNatClampNeg) :: st) M) : am_V l y cc nL rt R mc ms X Post bc bs pc ls (.int i :: .ref 0 :: st) M := by
  intro p e s m args below meth c D cA b base H locs cells slots lsr E0 H0 L0 q1 q2
  obtain ⟨hx, hb, -⟩ := id E0
  obtain ⟨-, -, -, hX, hbb, hle, hS⟩ := id H0
  exact va_sld hx hb hX (Nat.lt_of_lt_of_le hbb hle) (Nat.not_le.mpr hbb) hS hi hd (kk p e s m args below meth c D cA b base H locs cells slots lsr E0 H0 L0 q1 q2)
theorem r_slen (hd : decode cc pc = .ok (.arraylength, 1)) (kk : am_V l y cc nL rt R mc ms X Post bc bs (pc + 1) ls (.int (nI X.1) :: st) M) : am_V l y cc nL rt R mc ms X Post bc bs pc ls (.ref 0 :: st) M := by
  intro p e s m args below meth c D cA b base H locs cells slots lsr E0 H0 L0 q1 q2
  obtain ⟨hx, hb, -⟩ := id E0
  obtain ⟨-, -, -, hX, hbb, hle, hS⟩ := id H0
  exact va_slen hx hb hX (Nat.lt_of_lt_of_le hbb hle) (Nat.not_le.mpr hbb) hS hd (kk p e s m args below meth c D cA b base H locs cells slots lsr E0 H0 L0 q1 q2)
theorem r_iast {a n : Nat} {i x : Int32} (hok : am_ok M a 10 n) (hi : vp_in i n) (hd : decode cc pc = .ok (.iastore, 1)) (kk : am_V l y cc nL rt R mc ms X Post bc bs (pc + 1) ls st (wI M a i.toNatClampNeg x)) : am_V l y cc nL rt R mc ms X Post bc bs pc ls (.int x :: .int i :: .ref a :: st) M := by
  intro p e s m args below meth c D cA b base H locs cells slots lsr E0 H0 L0 q1 q2
  obtain ⟨hx, hb, -⟩ := id E0
  obtain ⟨⟨hK, -⟩, hP, -⟩ := id H0
  have hat := hP (a - 1) _ ((am_ws_at hok.1 hok.2.1).trans (by rw [am_ob_i hok.2.2]))
  refine W.iast hx hb hat ((hK.2 0 _ rfl).1 n (fun j => .int (mI M a j))) (fun q => by cases q) (by show ¬ (i < 0 ∨ (arrV _ _ _).slots.size ≤ _); rw [arrV_size]; exact hi) rfl rfl hd fun H1 e1 z oq => ?_
  refine kk p e s m args below meth c D cA b base H1 _ cells slots lsr E0 (am_H_set H0 hok rfl (fun x' hx' => am_ob_congr rfl (mI_wI_n M _ _ hx') rfl) ?_ z oq) L0 q1 q2
  rw [am_ob_i (show mT (wI M a i.toNatClampNeg x) a = (10, n) from hok.2.2)]
  show H1[_]? = some (vp_cell _ _)
  rw [e1, vp_cell_i, vp_cell_i, arrV_store, mI_wI_s]
  congr 2
  funext q
  by_cases hq : q = i.toNatClampNeg
  · subst hq
    simp [updV, va_up]
  · simp [updV, va_up, hq]
theorem r_zast {a n : Nat} {i x : Int32} (hok : am_ok M a 11 n) (hi : vp_in i n) (h01 : x = 0 ∨ x = 1) (hd : decode cc pc = .ok (.bastore, 1)) (kk : am_V l y cc nL rt R mc ms X Post bc bs (pc + 1) ls st (wI M a i.toNatClampNeg x)) : am_V l y cc nL rt R mc ms X Post bc bs pc ls (.int x :: .int i :: .ref a :: st) M := by
  intro p e s m args below meth c D cA b base H locs cells slots lsr E0 H0 L0 q1 q2
  obtain ⟨hx, hb, -⟩ := id E0
  obtain ⟨⟨hK, -⟩, hP, -⟩ := id H0
  have hat := hP (a - 1) _ ((am_ws_at hok.1 hok.2.1).trans (by rw [am_ob_z hok.2.2]))
  refine W.zast hx hb hat ((hK.2 1 _ rfl).1 n (fun j => .int (mI M a j))) (fun q => by cases q) (by show ¬ (i < 0 ∨ (arrV _ _ _).slots.size ≤ _); rw [arrV_size]; exact hi) rfl rfl hd fun H1 e1 z oq => ?_
  refine kk p e s m args below meth c D cA b base H1 _ cells slots lsr E0 (am_H_set H0 hok rfl (fun x' hx' => am_ob_congr rfl (mI_wI_n M _ _ hx') rfl) ?_ z oq) L0 q1 q2
  rw [am_ob_z (show mT (wI M a i.toNatClampNeg x) a = (11, n) from hok.2.2)]
  show H1[_]? = some (vp_cell _ _)
  have hnar : narrow .boolean (.int x) = .int x := by rcases h01 with rfl | rfl <;> rfl
  rw [e1, vp_cell_i, vp_cell_i, arrV_store, mI_wI_s]
  congr 2
  funext q
  by_cases hq : q = i.toNatClampNeg
  · subst hq
    simp [updV, va_up, hnar]
  · simp [updV, va_up, hq]
theorem r_aast {a n t i' ci n' : Nat} {i : Int32} (ht : (t = 12 ∧ ci = 3) ∨ (t = 13 ∧ ci = 6)) (hok : am_ok M a t n) (hi : vp_in i n) (hv : am_ok M i' ci n') (hd : decode cc pc = .ok (.aastore, 1)) (kk : am_V l y cc nL rt R mc ms X Post bc bs (pc + 1) ls st (wR M a i.toNatClampNeg (some i'))) : am_V l y cc nL rt R mc ms X Post bc bs pc ls (.ref i' :: .int i :: .ref a :: st) M := by
  intro p e s m args below meth c D cA b base H locs cells slots lsr E0 H0 L0 q1 q2
  obtain ⟨hx, hb, -⟩ := id E0
  obtain ⟨⟨hK, -⟩, hP, -⟩ := id H0
  have hlt : i.toNatClampNeg < n := Nat.not_le.mp fun q => hi (Or.inr q)
  have h0 : ¬ i < 0 := fun q => hi (Or.inl q)
  have ht12 : ¬ t < 12 := by rcases ht with ⟨rfl, -⟩ | ⟨rfl, -⟩ <;> decide
  have hci : ci < 10 := by rcases ht with ⟨-, rfl⟩ | ⟨-, rfl⟩ <;> decide
  have hat := hP (a - 1) _ ((am_ws_at hok.1 hok.2.1).trans (by rw [am_ob_q ht12 hok.2.2]))
  obtain ⟨r', hr', cellV, g1, g2, g3, -⟩ := hP (i' - 1) _ (am_P_ob hP hv hci)
  obtain ⟨Cn, tk, hcl, hty⟩ : ∃ (r : vw_C) (tk : Nat), vwCl[ci]? = some r ∧ (am_tys cA)[tk]? = some (cA t, .object r.1) := by
    rcases ht with ⟨rfl, rfl⟩ | ⟨rfl, rfl⟩
    · exact ⟨_, 2, rfl, rfl⟩
    · exact ⟨_, 3, rfl, rfl⟩
  have hcls := (hK.1 ci Cn hcl).2
  obtain ⟨kA, comp, k1, k2, k3, -⟩ := (hK.2 tk _ hty).2
  have hcomp : comp = D.1 ci := Option.some.inj (k3.symm.trans hcls.1)
  subst hcomp
  obtain ⟨kC, hkC, -⟩ := hcls.2
  refine W.aast hx hb hat (fun q h => by cases h) (fun h => by cases h) k1 k2 rfl hkC ⟨h0, by show _ < (arrV _ _ _).slots.size; rw [arrV_size]; exact hlt⟩ g1 (fun q h => by rw [g3] at h; cases h) (by rw [g2]; exact hkC) (by rw [g2]; exact va_assign hcls) rfl rfl hd fun H1 e1 z oq => ?_
  refine kk p e s m args below meth c D cA b base H1 _ cells slots lsr E0 (am_H_set H0 hok rfl (fun x' hx' => am_ob_congr rfl rfl (mR_wR_n M _ _ hx')) ?_ z oq) L0 q1 q2
  rw [am_ob_q ht12 (show mT (wR M a i.toNatClampNeg (some i')) a = (t, n) from hok.2.2)]
  show H1[_]? = some (vp_cell _ _)
  rw [e1, vp_cell_q, vp_cell_q, arrV_store, mR_wR_s]
  congr 2
  funext q
  by_cases hq : q = i.toNatClampNeg
  · subst hq
    simp [updV, va_up, va_rf]
  · simp [updV, va_up, hq]
theorem r_aastN {a n t : Nat} {i : Int32} (ht : t = 12 ∨ t = 13) (hok : am_ok M a t n) (hi : vp_in i n) (hd : decode cc pc = .ok (.aastore, 1)) (kk : am_V l y cc nL rt R mc ms X Post bc bs (pc + 1) ls st (wR M a i.toNatClampNeg none)) : am_V l y cc nL rt R mc ms X Post bc bs pc ls (.null :: .int i :: .ref a :: st) M := by
  intro p e s m args below meth c D cA b base H locs cells slots lsr E0 H0 L0 q1 q2
  obtain ⟨hx, hb, -⟩ := id E0
  obtain ⟨⟨hK, -⟩, hP, -⟩ := id H0
  have ht12 : ¬ t < 12 := by rcases ht with rfl | rfl <;> decide
  have hat := hP (a - 1) _ ((am_ws_at hok.1 hok.2.1).trans (by rw [am_ob_q ht12 hok.2.2]))
  obtain ⟨C, tk, hty⟩ : ∃ (C : String) (tk : Nat), (am_tys cA)[tk]? = some (cA t, .object C) := by
    rcases ht with rfl | rfl
    · exact ⟨_, 2, rfl⟩
    · exact ⟨_, 3, rfl⟩
  refine va_WaastN (C := C) hx hb hat ((hK.2 tk _ hty).1 n (fun j => va_rf ((mR M a j).map (am_rho b base)))) (fun h => by cases h) (by show ¬ (i < 0 ∨ (arrV _ _ _).slots.size ≤ _); rw [arrV_size]; exact hi) rfl rfl hd fun H1 e1 z oq => ?_
  refine kk p e s m args below meth c D cA b base H1 _ cells slots lsr E0 (am_H_set H0 hok rfl (fun x' hx' => am_ob_congr rfl rfl (mR_wR_n M _ _ hx')) ?_ z oq) L0 q1 q2
  rw [am_ob_q ht12 (show mT (wR M a i.toNatClampNeg none) a = (t, n) from hok.2.2)]
  show H1[_]? = some (vp_cell _ _)
  rw [e1, vp_cell_q, vp_cell_q, arrV_store, mR_wR_s]
  congr 2
  funext q
  by_cases hq : q = i.toNatClampNeg
  · subst hq
    simp [updV, va_up, va_rf]
  · simp [updV, va_up, hq]
/-- what a new cell gives back -/
theorem am_H_new {D : va_G} {cA : Nat → ClassId} {b base t n : Nat} {s : State} {H H1 : Heap} {locs : List Loc} (H0 : am_H X D cA b base s M H locs) (hat : va_at D vwCl (base + mN M, am_ob b base cA (wN M t n) (mN M + 1)) H1) (z : H1.size = H.size + 1) (oq : ∀ q, q < H.size → H1[q]? = H[q]?) : am_H X D cA b base s (wN M t n) H1 locs := by
  obtain ⟨hK, hP, hsz, hX, hb, hle, hS⟩ := H0
  refine ⟨hK, ?_, by rw [z, hsz, mN_wN]; omega, hX, hb, hle, ⟨Nat.le_trans hS.1 (by omega), fun x h1 h2 => (oq x (Nat.lt_of_lt_of_le h1 hS.1)).trans (hS.2.1 x h1 h2), hS.2.2⟩⟩
  rw [am_ws_push]
  refine (hP.kept (fun k x hx => oq x.1 ((hP k x hx).lt))).app (fun k x hx => ?_)
  have hz : k < 1 := (List.getElem?_eq_some_iff.mp hx).1
  rw [show k = 0 by omega] at hx
  cases hx
  exact hat
theorem r_new {index ci : Nat} {C : String} {T : u_T} {N : Nat} {ty : Nat → FieldType} (hc : am_cls ci C T N ty) (hl : Cond.classLink y.cls index C ∈ am_gw) (hi : Cond.instantiable C N ∈ am_gw) (hini : Cond.initialized C ∈ am_gw) (hbc : 1 ≤ bc) (hbs : N ≤ bs) (hd : decode cc pc = .ok (.new index, 3))
    (kk : am_V l y cc nL rt R mc ms X Post (bc - 1) (bs - N) (pc + 3) ls (.ref (mN M + 1) :: st) (wN M ci 0)) : am_V l y cc nL rt R mc ms X Post bc bs pc ls st M := by
  intro p e s m args below meth c D cA b base H locs cells slots lsr E0 H0 L0 q1 q2
  obtain ⟨hx, hb, -, -, -, ho, hmn, ht, hRc, hRs⟩ := id E0
  obtain ⟨⟨hK, -⟩, hP, hsz, -⟩ := id H0
  obtain ⟨h10, hv, hN, hty0, hin, hty, hnm, hdf⟩ := hc
  have hKn := hK.1 ci _ hv
  refine W.newcK hx hb ho (ht _ hl) (ht _ hi) (ht _ hini) rfl hd (by omega) (by omega) hKn.2.1 hsz fun H1 kC hkC e1 z1 o1 => ?_
  refine kk p e s m args below meth c D cA b base H1 locs (cells + 1) (slots + N) lsr E0 (am_H_new H0 ?_ (by rw [z1, hsz]) (fun q hq => o1 q (by rw [← hsz]; exact hq))) L0 (by omega) (by omega)
  rw [am_ob_o h10 (mT_wN_s M ci 0)]
  refine ⟨_, hv, (u_born ty ht hin hKn hkC e1 hty).to (fun k hk => ?_)⟩
  show defaultValue (ty k) = (am_fs b base (wN M ci 0) (mN M + 1) ci).getD k .null
  rw [List.getD_eq_getElem?_getD, am_fs_get _ _ _ _ _ (by omega)]
  show defaultValue (ty k) = am_fv b base (wN M ci 0) (mN M + 1) ci k
  rw [hdf k hk]
  unfold am_fv
  rw [mI_wN_s, mR_wN_s]
  rfl
theorem r_newaI {n : Int32} (hn : ¬ n < 0) (hsm : n.toNatClampNeg ≤ 100000) (har : Cond.arrayClass .int ∈ am_gw) (hbc : 1 ≤ bc) (hbs : n.toNatClampNeg ≤ bs) (hd : decode cc pc = .ok (.newarray .int, 2))
    (kk : am_V l y cc nL rt R mc ms X Post (bc - 1) (bs - n.toNatClampNeg) (pc + 2) ls (.ref (mN M + 1) :: st) (wN M 10 n.toNatClampNeg)) : am_V l y cc nL rt R mc ms X Post bc bs pc ls (.int n :: st) M := by
  intro p e s m args below meth c D cA b base H locs cells slots lsr E0 H0 L0 q1 q2
  obtain ⟨hx, hb, -, -, -, ho, hmn, ht, hRc, hRs⟩ := id E0
  obtain ⟨⟨hK, -⟩, hP, hsz, -⟩ := id H0
  refine va_newaK hx hb (atype := .int) (ht _ har) rfl hd rfl hn rfl (by show _ * 4 ≤ _; omega) (by omega) (by omega) hsz fun H1 cB e1 z1 o1 hAr hNm => ?_
  have hcA : cB = cA 10 := Option.some.inj (hNm.symm.trans (hK.2 0 _ rfl).2)
  subst hcA
  refine kk p e s m args below meth c D cA b base H1 locs (cells + 1) (slots + n.toNatClampNeg) lsr E0 (am_H_new H0 ?_ (by rw [z1, hsz]) (fun q hq => o1 q (by rw [← hsz]; exact hq))) L0 (by omega) (by omega)
  rw [am_ob_i (mT_wN_s M 10 _), mI_wN_s]
  exact e1
theorem r_newaZ {n : Int32} (hn : ¬ n < 0) (hsm : n.toNatClampNeg ≤ 100000) (har : Cond.arrayClass .boolean ∈ am_gw) (hbc : 1 ≤ bc) (hbs : n.toNatClampNeg ≤ bs) (hd : decode cc pc = .ok (.newarray .boolean, 2))
    (kk : am_V l y cc nL rt R mc ms X Post (bc - 1) (bs - n.toNatClampNeg) (pc + 2) ls (.ref (mN M + 1) :: st) (wN M 11 n.toNatClampNeg)) : am_V l y cc nL rt R mc ms X Post bc bs pc ls (.int n :: st) M := by
  intro p e s m args below meth c D cA b base H locs cells slots lsr E0 H0 L0 q1 q2
  obtain ⟨hx, hb, -, -, -, ho, hmn, ht, hRc, hRs⟩ := id E0
  obtain ⟨⟨hK, -⟩, hP, hsz, -⟩ := id H0
  refine va_newaK hx hb (atype := .boolean) (ht _ har) rfl hd rfl hn rfl (by show _ * 1 ≤ _; omega) (by omega) (by omega) hsz fun H1 cB e1 z1 o1 hAr hNm => ?_
  have hcA : cB = cA 11 := Option.some.inj (hNm.symm.trans (hK.2 1 _ rfl).2)
  subst hcA
  refine kk p e s m args below meth c D cA b base H1 locs (cells + 1) (slots + n.toNatClampNeg) lsr E0 (am_H_new H0 ?_ (by rw [z1, hsz]) (fun q hq => o1 q (by rw [← hsz]; exact hq))) L0 (by omega) (by omega)
  rw [am_ob_z (mT_wN_s M 11 _), mI_wN_s]
  exact e1
theorem r_anew {index t : Nat} {n : Int32} {C : String} (hC : (t = 12 ∧ C = RX3) ∨ (t = 13 ∧ C = RX6)) (hl : Cond.classLink y.cls index C ∈ am_gw) (hn : ¬ n < 0) (hsm : n.toNatClampNeg ≤ 100000) (hbc : 1 ≤ bc) (hbs : n.toNatClampNeg ≤ bs) (hd : decode cc pc = .ok (.anewarray index, 3))
    (kk : am_V l y cc nL rt R mc ms X Post (bc - 1) (bs - n.toNatClampNeg) (pc + 3) ls (.ref (mN M + 1) :: st) (wN M t n.toNatClampNeg)) : am_V l y cc nL rt R mc ms X Post bc bs pc ls (.int n :: st) M := by
  intro p e s m args below meth c D cA b base H locs cells slots lsr E0 H0 L0 q1 q2
  obtain ⟨hx, hb, -, -, -, ho, hmn, ht, hRc, hRs⟩ := id E0
  obtain ⟨⟨hK, -, hA3, hA6, -⟩, hP, hsz, -⟩ := id H0
  have hover : va_AO C s := by rcases hC with ⟨-, rfl⟩ | ⟨-, rfl⟩ <;> assumption
  have hfc : s.vm.findClass ("[" ++ (FieldType.object C).toString) = some (cA t) := by
    rcases hC with ⟨rfl, rfl⟩ | ⟨rfl, rfl⟩
    · exact (hK.2 2 _ rfl).2.choose_spec.choose_spec.2.2.2
    · exact (hK.2 3 _ rfl).2.choose_spec.choose_spec.2.2.2
  have ht12 : ¬ t < 12 := by rcases hC with ⟨rfl, -⟩ | ⟨rfl, -⟩ <;> decide
  refine W.anew hx hb ho (ht _ hl) (va_AO.use hover) rfl hd rfl hn (by omega) (by omega) (by omega) fun cB kA comp f1 f2 f3 f4 => ?_
  have hcA : cB = cA t := Option.some.inj (f1.symm.trans hfc)
  subst hcA
  generalize hH1 : H.push ({ cls := cA t, slots := Array.replicate n.toNatClampNeg .null, vm := .none } : Cell) = H1
  have z1 : H1.size = H.size + 1 := by rw [← hH1, Array.size_push]
  have e1 : H1[H.size]? = some (arrV (cA t) n.toNatClampNeg (fun _ => .null)) := by rw [← hH1, Array.getElem?_push_size, ← arrV_new]
  have o1 : ∀ q : Nat, q < H.size → H1[q]? = H[q]? := fun q hq => by rw [← hH1, Array.getElem?_push, if_neg (Nat.ne_of_lt hq)]
  have hk := kk p e s m args below meth c D cA b base H1 locs (cells + 1) (slots + n.toNatClampNeg) lsr E0 (am_H_new H0 (by
    rw [am_ob_q ht12 (mT_wN_s M t _), mR_wN_s]
    show H1[base + mN M]? = some (vp_cell _ _)
    rw [← hsz]
    exact e1) z1 o1) L0 (by omega) (by omega)
  have hr : am_rho b base (mN M + 1) = H.size := by rw [hsz]; rfl
  rw [List.map_cons, show am_tv b base (.ref (mN M + 1)) = .ref H.size by rw [← hr]; rfl] at hk
  exact hk
/-- answers -/
theorem r_vret (hr : rt = none) (hd : decode cc pc = .ok (.return_, 1)) (hp : Post none M) : am_V l y cc nL rt R mc ms X Post bc bs pc ls [] M := by
  intro p e s m args below meth c D cA b base H locs cells slots lsr E0 H0 L0 q1 q2
  obtain ⟨hx, hb, hrt, hlk, -⟩ := id E0
  obtain ⟨-, hP, hsz, -, -, -, hS⟩ := id H0
  refine W.widen (k := mc) (n := ms) (by omega) (by omega) ?_
  exact W.vret hx hb (by rw [hrt]; exact hr) (fun t ht hW => ⟨none, M, rfl, hp, by rw [ht]; exact hP, by rw [ht]; exact hsz, hS.F ht⟩) hS.2.2 hd hlk
theorem r_iret {v : Int32} (hr : rt = some .int ∨ (rt = some .boolean ∧ (v = 0 ∨ v = 1))) (hd : decode cc pc = .ok (.ireturn, 1)) (hp : Post (some (.int v)) M) : am_V l y cc nL rt R mc ms X Post bc bs pc ls [.int v] M := by
  intro p e s m args below meth c D cA b base H locs cells slots lsr E0 H0 L0 q1 q2
  obtain ⟨hx, hb, hrt, hlk, -⟩ := id E0
  obtain ⟨-, hP, hsz, -, -, -, hS⟩ := id H0
  refine W.widen (k := mc) (n := ms) (by omega) (by omega) ?_
  rcases hr with hr | ⟨hr, h01⟩
  · exact W.iret hx hb (by rw [hrt]; exact hr) (fun t ht hW => ⟨some (.int v), M, rfl, hp, by rw [ht]; exact hP, by rw [ht]; exact hsz, hS.F ht⟩) hS.2.2 hd hlk
  · exact W.zret hx hb (by rw [hrt]; exact hr) (by rcases h01 with rfl | rfl <;> rfl) (fun t ht hW => ⟨some (.int v), M, rfl, hp, by rw [ht]; exact hP, by rw [ht]; exact hsz, hS.F ht⟩) hS.2.2 hd hlk
theorem r_lret {v : Int64} (hr : rt = some .long) (hd : decode cc pc = .ok (.lreturn, 1)) (hp : Post (some (.long v)) M) : am_V l y cc nL rt R mc ms X Post bc bs pc ls [.long v] M := by
  intro p e s m args below meth c D cA b base H locs cells slots lsr E0 H0 L0 q1 q2
  obtain ⟨hx, hb, hrt, hlk, -⟩ := id E0
  obtain ⟨-, hP, hsz, -, -, -, hS⟩ := id H0
  refine W.widen (k := mc) (n := ms) (by omega) (by omega) ?_
  exact W.lret hx hb (by rw [hrt]; exact hr) (fun t ht hW => ⟨some (.long v), M, rfl, hp, by rw [ht]; exact hP, by rw [ht]; exact hsz, hS.F ht⟩) hS.2.2 hd hlk
theorem r_aret {r : Option Nat} (hr : (∃ n, rt = some (.object n)) ∨ ∃ t, rt = some (.array t)) (hd : decode cc pc = .ok (.areturn, 1)) (hp : Post (some (va_rf r)) M) : am_V l y cc nL rt R mc ms X Post bc bs pc ls [va_rf r] M := by
  intro p e s m args below meth c D cA b base H locs cells slots lsr E0 H0 L0 q1 q2
  obtain ⟨hx, hb, hrt, hlk, -⟩ := id E0
  obtain ⟨-, hP, hsz, -, -, -, hS⟩ := id H0
  refine W.widen (k := mc) (n := ms) (by omega) (by omega) ?_
  have hv : am_tv b base (va_rf r) = .null ∨ ∃ a, am_tv b base (va_rf r) = .ref a := by rw [am_tv_rf]; exact va_rf_or _
  rcases hr with ⟨n, hr⟩ | ⟨n, hr⟩
  · exact W.aret hx hb (by rw [hrt]; exact hr) (Or.inl ⟨n, rfl⟩) hv (fun t ht hW => ⟨some (va_rf r), M, rfl, hp, by rw [ht]; exact hP, by rw [ht]; exact hsz, hS.F ht⟩) hS.2.2 hd hlk
  · exact W.aret hx hb (by rw [hrt]; exact hr) (Or.inr ⟨n, rfl⟩) hv (fun t ht hW => ⟨some (va_rf r), M, rfl, hp, by rw [ht]; exact hP, by rw [ht]; exact hsz, hS.F ht⟩) hS.2.2 hd hlk
end AmArr
end
section
/-! ROWS OF CALLS -/
section AmCall
variable {l : Launch} {y : MethodName} {cc : ByteArray} {nL : Nat} {rt : Option FieldType} {R : Room} {mc ms : Nat} {X : Nat × (Nat → Int32)} {Post : Option Value → am_M → Prop} {bc bs pc : Nat} {ls : List (Option Value)} {st : List Value} {M : am_M}
/-- what the caller goes on with, behind any call -/
theorem am_after {p : Program} {e : Env} {s : State} {m : MethodId} {args : Array Value} {below : List Frame} {meth : Method} {c : Code} {D : va_G} {cA : Nat → ClassId} {b base : Nat} {H : Heap} {locs : List Loc} {cells slots mc' ms' : Nat} {lsr : Array Slot} {st0 rest : List Value} {Post' : Option Value → am_M → Prop} {a : Array Value}
    (E0 : am_E y cc nL rt R mc ms p s m args meth c) (H0 : am_H X D cA b base s M H locs) (L0 : am_L b base nL lsr ls) (q1 : cells + bc ≤ mc) (q2 : slots + bs ≤ ms) (hbc : mc' ≤ bc) (hbs : ms' ≤ bs)
    (hr : va_Run p l e R s m args below meth c H locs cells slots mc' ms' (F0 m pc lsr st0) (rest.map (am_tv b base)) (am_Q D cA b base Post' a) (fun q => base ≤ q))
    (kk : ∀ v M', Post' v M' → am_V l y cc nL rt R mc ms X Post (bc - mc') (bs - ms') (pc + 3) ls (v.toList ++ rest) M') : W p l e R s m args below meth c H locs cells slots (MQ below (am_Q D cA b base Post) args s mc ms (fun q => base ≤ q)) (F0 m pc lsr st0) := by
  intro T hT Y
  obtain ⟨v, st₀, t, T', L, hst, Y', hL, e1, e2, ⟨w, M', ho, hp, hP', hsz', hF⟩, go⟩ := hr T hT Y
  obtain ⟨hK, hP, hsz, hX, hb, hle, hS⟩ := H0
  have hv : v = w.map (am_tv b base) := by simpa using ho
  subst hv
  have H1 : am_H X D cA b base s M' T'.heap (locs ++ L) := by
    refine ⟨hK, by rw [e1]; exact hP', by rw [e1]; exact hsz', hX, hb, hle, ?_, ?_, ?_⟩
    · rw [e1]
      have := hF.1
      rw [hst] at this
      exact Nat.le_trans hS.1 this
    · intro q hq hA
      rw [e1]
      have h2 := hF.2 q (by rw [hst]; exact Nat.lt_of_lt_of_le hq hS.1) hA
      rw [hst] at h2
      exact h2.trans (hS.2.1 q hq hA)
    · intro q hq
      rcases List.mem_append.mp hq with h | h
      · exact hS.2.2 q h
      · exact hL q h
  obtain ⟨t2, a1, b1⟩ := kk w M' hp p e s m args below meth c D cA b base T'.heap (locs ++ L) (cells + mc') (slots + ms') lsr E0 H1 L0 (by omega) (by omega) T' rfl Y'
  refine ⟨t2, go t2 ?_, b1⟩
  have e3 : (w.map (am_tv b base)).toList ++ rest.map (am_tv b base) = (w.toList ++ rest).map (am_tv b base) := by cases w <;> simp
  rw [e3]
  exact a1
theorem am_Pc_blind {D : va_G} {cA : Nat → ClassId} {b base : Nat} {As : List Value} : FrameBlind (va_Pc (As.map (am_tv b base)) (fun U => am_K D cA U ∧ va_P D vwCl (am_ws b base cA M) U.heap ∧ U.heap.size = base + mN M ∧ va_X b X.1 X.2 U U.heap ∧ b < base)) := by
  intro a U g mk ⟨h0, hK, hP, hsz, hX, hb⟩
  exact ⟨h0, hK.same rfl, hP, hsz, hX, hb⟩
theorem am_Pc_in {D : va_G} {cA : Nat → ClassId} {b base : Nat} {s U : State} {H : Heap} {locs : List Loc} {As : List Value} (H0 : am_H X D cA b base s M H locs) (hU : U.heap = H) (hW : s.WarmedH U.vm) : va_Pc (As.map (am_tv b base)) (fun U => am_K D cA U ∧ va_P D vwCl (am_ws b base cA M) U.heap ∧ U.heap.size = base + mN M ∧ va_X b X.1 X.2 U U.heap ∧ b < base) (As.map (am_tv b base)).toArray U := by
  obtain ⟨hK, hP, hsz, hX, hb, hle, hS⟩ := H0
  refine ⟨rfl, hK.warm hW, by rw [hU]; exact hP, by rw [hU]; exact hsz, ?_, hb⟩
  have h1 : va_X b X.1 X.2 s U.heap := hX.kept (by rw [hU]; exact hS.2.1 b (Nat.lt_of_lt_of_le hb hle) (Nat.not_le.mpr hb))
  exact h1.moved hW.alike
theorem am_rev {b base : Nat} (As : List Value) (rest : List Value) : (As.reverse ++ rest).map (am_tv b base) = (As.map (am_tv b base)).reverse ++ rest.map (am_tv b base) := by simp
theorem am_rm {b base : Nat} {m : MethodId} {lsr : Array Slot} {st0 : List Value} (rest : List Value) (h : (rest.map fun v => v.category).sum ≤ 8) : 2 * (F0 m pc lsr st0).monitorRoom + ((rest.map (am_tv b base)).map fun v => v.category).sum ≤ 8 := by
  have e : ((rest.map (am_tv b base)).map fun v => v.category) = rest.map fun v => v.category := by
    rw [List.map_map]
    exact List.map_congr_left (fun v _ => am_tv_cat b base v)
  rw [e]
  exact lv_room h
/-- the words of a callee -/
def am_cal (y' : MethodName) (cc' : ByteArray) (nL' : Nat) (rt' : Option FieldType) (n : Nat) : Prop := Cond.code y' cc' nL' rt' ∈ am_gw ∧ Cond.initialized y'.cls ∈ am_gw ∧ (y'.cls ≠ "java/lang/invoke/MethodHandle" ∧ y'.cls ≠ "java/lang/invoke/VarHandle" ∧ (parseMethodDescriptor y'.desc).map (fun d => d.parameters.length) = some n)
theorem am_good {y' : MethodName} {cc' : ByteArray} {nL' : Nat} {rt' : Option FieldType} {n : Nat} (h : am_cal y' cc' nL' rt' n) : GoodIn am_gw (Cond.code y' cc' nL' rt' :: am_gw) := by
  intro w hw
  rcases List.mem_cons.mp hw with rfl | hw
  · exact am_gw_good _ h.1
  · exact am_gw_good _ hw
theorem r_callV {y' : MethodName} {cc' : ByteArray} {nL' index d' mc' ms' a ci n0 : Nat} {rt' : Option FieldType} {As rest : List Value} {Post' : Option Value → am_M → Prop} {T : u_T} {N : Nat} (hcal : am_cal y' cc' nL' rt' As.length) (hl : Cond.methodLink y.cls index y' ∈ am_gw) (hi : Cond.instanceMethod y' ∈ am_gw) (hs : Cond.selects y'.cls y' y' ∈ am_gw) (hci : ci < 10) (hvw : vwCl[ci]? = some (y'.cls, T, N))
    (hok : am_ok M a ci n0) (hC : am_C l y' cc' nL' rt' d' mc' ms' X (.ref a :: As) M Post') (hR : d' + 1 ≤ R.frames ∧ 8 + (nL' + 11) + 38 * d' ≤ R.locals) (hbc : mc' ≤ bc) (hbs : ms' ≤ bs) (hst : As.reverse ++ .ref a :: rest = st) (hW : (rest.map fun v => v.category).sum ≤ 8) (hd : decode cc pc = .ok (.invokevirtual index, 3))
    (kk : ∀ v M', Post' v M' → am_V l y cc nL rt R mc ms X Post (bc - mc') (bs - ms') (pc + 3) ls (v.toList ++ rest) M') : am_V l y cc nL rt R mc ms X Post bc bs pc ls st M := by
  intro p e s m args below meth c D cA b base H locs cells slots lsr E0 H0 L0 q1 q2
  obtain ⟨hx, hb, -, -, hml, ho, hmn, ht, hRc, hRs⟩ := id E0
  obtain ⟨⟨hK, -⟩, hP, -⟩ := id H0
  subst hst
  refine am_after (rest := rest) (a := (Value.ref (am_rho b base a) :: As.map (am_tv b base)).toArray) E0 H0 L0 q1 q2 hbc hbs ?_ kk
  refine va_runV (As := As.map (am_tv b base)) (b := am_rho b base a) (C := y'.cls) (n := As.length) ⟨hx, hb, hml, ho, ht⟩ (hC D cA b base) ⟨callB_of _ ht (am_good hcal) rfl rfl rfl (ht _ hcal.2.1) (ht _ hl) hcal.2.2 hR, ht _ hi, ht _ hs⟩ ⟨am_Pc_blind, va_recv hK hP hvw (am_P_ob hP hok hci), fun U hU hW => am_Pc_in (As := .ref a :: As) H0 hU hW⟩ rfl (by simp) L0.1 ?_ (am_rm rest hW) hd ⟨by omega, by omega⟩
  simp [am_tv]
theorem r_callS {y' : MethodName} {cc' : ByteArray} {nL' index d' mc' ms' : Nat} {rt' : Option FieldType} {As rest : List Value} {Post' : Option Value → am_M → Prop} (hcal : am_cal y' cc' nL' rt' As.length) (hl : Cond.methodLink y.cls index y' ∈ am_gw) (hi : Cond.static y' ∈ am_gw)
    (hC : am_C l y' cc' nL' rt' d' mc' ms' X As M Post') (hR : d' + 1 ≤ R.frames ∧ 8 + (nL' + 11) + 38 * d' ≤ R.locals) (hbc : mc' ≤ bc) (hbs : ms' ≤ bs) (hst : As.reverse ++ rest = st) (hW : (rest.map fun v => v.category).sum ≤ 8) (hd : decode cc pc = .ok (.invokestatic index, 3))
    (kk : ∀ v M', Post' v M' → am_V l y cc nL rt R mc ms X Post (bc - mc') (bs - ms') (pc + 3) ls (v.toList ++ rest) M') : am_V l y cc nL rt R mc ms X Post bc bs pc ls st M := by
  intro p e s m args below meth c D cA b base H locs cells slots lsr E0 H0 L0 q1 q2
  obtain ⟨hx, hb, -, -, hml, ho, hmn, ht, hRc, hRs⟩ := id E0
  subst hst
  refine am_after (rest := rest) (a := (As.map (am_tv b base)).toArray) E0 H0 L0 q1 q2 hbc hbs ?_ kk
  refine va_runS (As := As.map (am_tv b base)) (n := As.length) ⟨hx, hb, hml, ho, ht⟩ (hC D cA b base) ⟨callB_of _ ht (am_good hcal) rfl rfl rfl (ht _ hcal.2.1) (ht _ hl) hcal.2.2 hR, ht _ hi⟩ ⟨am_Pc_blind, fun U hU hW => am_Pc_in (As := As) H0 hU hW⟩ rfl (by simp) L0.1 ?_ (am_rm rest hW) hd ⟨by omega, by omega⟩
  simp
theorem r_callSN {y' : MethodName} {cc' : ByteArray} {nL' index d' mc' ms' : Nat} {host : String} {rt' : Option FieldType} {As rest : List Value} {Post' : Option Value → am_M → Prop} (hcal : am_cal y' cc' nL' rt' As.length) (hl : (y.cls, index, y', host) ∈ am_nk) (hi : Cond.static y' ∈ am_gw)
    (hC : am_C l y' cc' nL' rt' d' mc' ms' X As M Post') (hR : d' + 1 ≤ R.frames ∧ 8 + (nL' + 11) + 38 * d' ≤ R.locals) (hbc : mc' ≤ bc) (hbs : ms' ≤ bs) (hst : As.reverse ++ rest = st) (hW : (rest.map fun v => v.category).sum ≤ 8) (hd : decode cc pc = .ok (.invokestatic index, 3))
    (kk : ∀ v M', Post' v M' → am_V l y cc nL rt R mc ms X Post (bc - mc') (bs - ms') (pc + 3) ls (v.toList ++ rest) M') : am_V l y cc nL rt R mc ms X Post bc bs pc ls st M := by
  intro p e s m args below meth c D cA b base H locs cells slots lsr E0 H0 L0 q1 q2
  obtain ⟨hx, hb, -, -, hml, ho, hmn, ht, hRc, hRs⟩ := id E0
  obtain ⟨⟨-, hNk, -⟩, -⟩ := id H0
  subst hst
  refine am_after (rest := rest) (a := (As.map (am_tv b base)).toArray) E0 H0 L0 q1 q2 hbc hbs ?_ kk
  refine va_runSN (As := As.map (am_tv b base)) (n := As.length) ⟨hx, hb, hml, ho, ht⟩ (hC D cA b base) ⟨va_cnB _ ht (am_good hcal) rfl rfl rfl (hNk _ hl) (ht _ hcal.2.1) hcal.2.2 hR, ht _ hi, trivial⟩ ⟨am_Pc_blind, fun U hU hW => am_Pc_in (As := As) H0 hU hW⟩ rfl (by simp) L0.1 ?_ (am_rm rest hW) hd ⟨by omega, by omega⟩
  simp
theorem r_callI {y' : MethodName} {cc' : ByteArray} {nL' index d' mc' ms' a : Nat} {As rest : List Value} {Post' : Option Value → am_M → Prop} (hcal : am_cal y' cc' nL' none As.length) (hl : Cond.methodLink y.cls index y' ∈ am_gw) (hi : Cond.instanceMethod y' ∈ am_gw) (hn : y'.name = "<init>")
    (hC : am_C l y' cc' nL' none d' mc' ms' X (.ref a :: As) M Post') (hR : d' + 1 ≤ R.frames ∧ 8 + (nL' + 11) + 38 * d' ≤ R.locals) (hbc : mc' ≤ bc) (hbs : ms' ≤ bs) (hst : As.reverse ++ .ref a :: rest = st) (hW : (rest.map fun v => v.category).sum ≤ 8) (hd : decode cc pc = .ok (.invokespecial index, 3))
    (kk : ∀ v M', Post' v M' → am_V l y cc nL rt R mc ms X Post (bc - mc') (bs - ms') (pc + 3) ls (v.toList ++ rest) M') : am_V l y cc nL rt R mc ms X Post bc bs pc ls st M := by
  intro p e s m args below meth c D cA b base H locs cells slots lsr E0 H0 L0 q1 q2
  obtain ⟨hx, hb, -, -, hml, ho, hmn, ht, hRc, hRs⟩ := id E0
  subst hst
  refine am_after (rest := rest) (a := (Value.ref (am_rho b base a) :: As.map (am_tv b base)).toArray) E0 H0 L0 q1 q2 hbc hbs ?_ kk
  refine va_runI (As := As.map (am_tv b base)) (b := am_rho b base a) (n := As.length) ⟨hx, hb, hml, ho, ht⟩ (hC D cA b base) ⟨callB_of _ ht (am_good hcal) rfl rfl rfl (ht _ hcal.2.1) (ht _ hl) hcal.2.2 hR, hn, ht _ hi⟩ ⟨am_Pc_blind, fun U hU hW => am_Pc_in (As := .ref a :: As) H0 hU hW⟩ rfl (by simp) L0.1 ?_ (am_rm rest hW) hd ⟨by omega, by omega⟩
  simp [am_tv]
theorem r_callIN {y' : MethodName} {cc' : ByteArray} {nL' index d' mc' ms' a : Nat} {host : String} {As rest : List Value} {Post' : Option Value → am_M → Prop} (hcal : am_cal y' cc' nL' none As.length) (hl : (y.cls, index, y', host) ∈ am_nk) (hi : Cond.instanceMethod y' ∈ am_gw) (hn : y'.name = "<init>")
    (hC : am_C l y' cc' nL' none d' mc' ms' X (.ref a :: As) M Post') (hR : d' + 1 ≤ R.frames ∧ 8 + (nL' + 11) + 38 * d' ≤ R.locals) (hbc : mc' ≤ bc) (hbs : ms' ≤ bs) (hst : As.reverse ++ .ref a :: rest = st) (hW : (rest.map fun v => v.category).sum ≤ 8) (hd : decode cc pc = .ok (.invokespecial index, 3))
    (kk : ∀ v M', Post' v M' → am_V l y cc nL rt R mc ms X Post (bc - mc') (bs - ms') (pc + 3) ls (v.toList ++ rest) M') : am_V l y cc nL rt R mc ms X Post bc bs pc ls st M := by
  intro p e s m args below meth c D cA b base H locs cells slots lsr E0 H0 L0 q1 q2
  obtain ⟨hx, hb, -, -, hml, ho, hmn, ht, hRc, hRs⟩ := id E0
  obtain ⟨⟨-, hNk, -⟩, -⟩ := id H0
  subst hst
  refine am_after (rest := rest) (a := (Value.ref (am_rho b base a) :: As.map (am_tv b base)).toArray) E0 H0 L0 q1 q2 hbc hbs ?_ kk
  refine va_runIN (As := As.map (am_tv b base)) (b := am_rho b base a) (n := As.length) ⟨hx, hb, hml, ho, ht⟩ (hC D cA b base) ⟨va_cnB _ ht (am_good hcal) rfl rfl rfl (hNk _ hl) (ht _ hcal.2.1) hcal.2.2 hR, hn, ht _ hi⟩ ⟨am_Pc_blind, fun U hU hW => am_Pc_in (As := .ref a :: As) H0 hU hW⟩ rfl (by simp) L0.1 ?_ (am_rm rest hW) hd ⟨by omega, by omega⟩
  simp [am_tv]
theorem am_cats {b base : Nat} (rest : List Value) : ((rest.map (am_tv b base)).map fun v => v.category).sum = (rest.map fun v => v.category).sum := by
  rw [List.map_map]
  exact congrArg List.sum (List.map_congr_left (fun v _ => am_tv_cat b base v))
theorem r_objInit {idx a : Nat} (hl : Cond.methodLink y.cls idx Lib.objectInit ∈ am_gw) (hi : Cond.instanceMethod Lib.objectInit ∈ am_gw) (hc : Cond.code Lib.objectInit ⟨#[0xb1]⟩ 1 none ∈ am_gw) (hR : 1 ≤ R.frames ∧ (st.map fun v => v.category).sum + 12 ≤ R.locals) (hd : decode cc pc = .ok (.invokespecial idx, 3))
    (kk : am_V l y cc nL rt R mc ms X Post bc bs (pc + 3) ls st M) : am_V l y cc nL rt R mc ms X Post bc bs pc ls (.ref a :: st) M := by
  intro p e s m args below meth c D cA b base H locs cells slots lsr E0 H0 L0 q1 q2
  obtain ⟨hx, hb, -, -, hml, ho, hmn, ht, hRc, hRs⟩ := id E0
  exact W.objInit hx hb ho (ht _ hl) (ht _ hi) (ht _ hc) rfl (by rw [hml]; exact L0.1) rfl hd hR.1 (by show 2 * 0 + _ + 12 ≤ _; rw [am_cats]; omega) (kk p e s m args below meth c D cA b base H locs cells slots lsr E0 H0 L0 q1 q2)
theorem r_mmax {index : Nat} {a z : Int32} (hl : Cond.methodLink y.cls index Lib.Math.max.name ∈ am_gw) (hs : Cond.static Lib.Math.max.name ∈ am_gw) (hi : Cond.initialized "java/lang/Math" ∈ am_gw) (hc : Cond.code Lib.Math.max.name Lib.Math.max.code 2 (some .int) ∈ am_gw) (hR : 1 ≤ R.frames ∧ (st.map fun v => v.category).sum + 13 ≤ R.locals) (hd : decode cc pc = .ok (.invokestatic index, 3))
    (kk : am_V l y cc nL rt R mc ms X Post bc bs (pc + 3) ls (.int (if a < z then z else a) :: st) M) : am_V l y cc nL rt R mc ms X Post bc bs pc ls (.int z :: .int a :: st) M := by
  intro p e s m args below meth c D cA b base H locs cells slots lsr E0 H0 L0 q1 q2
  obtain ⟨hx, hb, -, -, hml, ho, hmn, ht, hRc, hRs⟩ := id E0
  exact va_mmax hx hb (by rw [hml]; exact L0.1.symm) ho (ht _ hl) (ht _ hs) (ht _ hi) (ht _ hc) hR.1 (by rw [am_cats]; exact hR.2) (by omega) (by omega) hd (kk p e s m args below meth c D cA b base H locs cells slots lsr E0 H0 L0 q1 q2)
theorem r_mmin {index : Nat} {a z : Int32} (hl : Cond.methodLink y.cls index Lib.Math.min.name ∈ am_gw) (hs : Cond.static Lib.Math.min.name ∈ am_gw) (hi : Cond.initialized "java/lang/Math" ∈ am_gw) (hc : Cond.code Lib.Math.min.name Lib.Math.min.code 2 (some .int) ∈ am_gw) (hR : 1 ≤ R.frames ∧ (st.map fun v => v.category).sum + 13 ≤ R.locals) (hd : decode cc pc = .ok (.invokestatic index, 3))
    (kk : am_V l y cc nL rt R mc ms X Post bc bs (pc + 3) ls (.int (if z < a then z else a) :: st) M) : am_V l y cc nL rt R mc ms X Post bc bs pc ls (.int z :: .int a :: st) M := by
  intro p e s m args below meth c D cA b base H locs cells slots lsr E0 H0 L0 q1 q2
  obtain ⟨hx, hb, -, -, hml, ho, hmn, ht, hRc, hRs⟩ := id E0
  exact va_mmin hx hb (by rw [hml]; exact L0.1.symm) ho (ht _ hl) (ht _ hs) (ht _ hi) (ht _ hc) hR.1 (by rw [am_cats]; exact hR.2) (by omega) (by omega) hd (kk p e s m args below meth c D cA b base H locs cells slots lsr E0 H0 L0 q1 q2)
end AmCall
end
section
/-! ROWS OF THE JDK's NATIVES: arraycopy and clone of ints -/
section AmJdk
variable {l : Launch} {y : MethodName} {cc : ByteArray} {nL : Nat} {rt : Option FieldType} {R : Room} {mc ms : Nat} {X : Nat × (Nat → Int32)} {Post : Option Value → am_M → Prop} {bc bs pc : Nat} {ls : List (Option Value)} {st : List Value} {M : am_M}
theorem r_castA {index a n : Nat} (hok : am_ok M a 10 n) (hl : Cond.classLink y.cls index "[I" ∈ am_gw) (hd : decode cc pc = .ok (.checkcast index, 3)) (kk : am_V l y cc nL rt R mc ms X Post bc bs (pc + 3) ls (.ref a :: st) M) : am_V l y cc nL rt R mc ms X Post bc bs pc ls (.ref a :: st) M := by
  intro p e s m args below meth c D cA b base H locs cells slots lsr E0 H0 L0 q1 q2
  obtain ⟨hx, hb, -, -, hml, ho, hmn, ht, hRc, hRs⟩ := id E0
  obtain ⟨⟨hK, -⟩, hP, -⟩ := id H0
  exact va_castA hx hb ho (ht _ hl) hP (a - 1) ((am_ws_at hok.1 hok.2.1).trans (by rw [am_ob_i hok.2.2])) (va_nm_int (hK.2 0 _ rfl).2) hd (kk p e s m args below meth c D cA b base H locs cells slots lsr E0 H0 L0 q1 q2)
/-- a copy of an array of ints as a new cell -/
def wC (M : am_M) (a n : Nat) : am_M := wF (wN M 10 n) (mN M + 1) (mI M a)
theorem am_ob_wC {b base : Nat} {cA : Nat → ClassId} (M : am_M) (a n : Nat) : am_ws b base cA (wC M a n) = am_ws b base cA M ++ [(base + mN M, .inl (cA 10, n, .inl (mI M a)))] := by
  apply List.ext_getElem?
  intro k
  by_cases hk : k < mN M
  · rw [List.getElem?_append_left (by rw [am_ws_len]; exact hk), am_ws_get b base cA M hk, am_ws_get b base cA (wC M a n) (by show k < mN M + 1; omega)]
    have hne : k + 1 ≠ mN M + 1 := by omega
    rw [am_ob_congr (M := M) (M' := wC M a n) (mT_wN_n M 10 n hne) ((mI_wF_n _ _ hne).trans (mI_wN_n M 10 n hne)) (mR_wN_n M 10 n hne)]
  · by_cases e : k = mN M
    · subst e
      rw [am_ws_get b base cA (wC M a n) (by show mN M < mN M + 1; omega), List.getElem?_append_right (by rw [am_ws_len]; exact Nat.le_refl _), am_ws_len, Nat.sub_self, am_ob_i (show mT (wC M a n) (mN M + 1) = (10, n) from mT_wN_s M 10 n), show mI (wC M a n) (mN M + 1) = mI M a from mI_wF_s _ _ _]
      rfl
    · rw [List.getElem?_eq_none (by rw [am_ws_len]; show mN M + 1 ≤ k; omega), List.getElem?_eq_none (by rw [List.length_append, am_ws_len]; simp; omega)]
theorem r_clone {index a n : Nat} (hok : am_ok M a 10 n) (hl : Cond.methodLink y.cls index ⟨"[I", "clone", "()Ljava/lang/Object;"⟩ ∈ am_gw) (hsm : Cond.sameMethod "[I" "java/lang/Object" "clone" "()Ljava/lang/Object;" ∈ am_gw) (hnt : Cond.native ⟨"java/lang/Object", "clone", "()Ljava/lang/Object;"⟩ ∈ am_gw) (hin : Cond.instanceMethod ⟨"java/lang/Object", "clone", "()Ljava/lang/Object;"⟩ ∈ am_gw) (hse : Cond.selects "[I" ⟨"[I", "clone", "()Ljava/lang/Object;"⟩ ⟨"java/lang/Object", "clone", "()Ljava/lang/Object;"⟩ ∈ am_gw)
    (hR : 1 ≤ R.frames ∧ (st.map fun v => v.category).sum + 14 ≤ R.locals) (hbc : 1 ≤ bc) (hbs : n ≤ bs) (hd : decode cc pc = .ok (.invokevirtual index, 3)) (kk : am_V l y cc nL rt R mc ms X Post (bc - 1) (bs - n) (pc + 3) ls (.ref (mN M + 1) :: st) (wC M a n)) : am_V l y cc nL rt R mc ms X Post bc bs pc ls (.ref a :: st) M := by
  intro p e s m args below meth c D cA b base H locs cells slots lsr E0 H0 L0 q1 q2
  obtain ⟨hx, hb, -, -, hml, ho, hmn, ht, hRc, hRs⟩ := id E0
  obtain ⟨⟨hK, -, -, -, hcl⟩, hP, hsz, hXX, hbb, hle, hS⟩ := id H0
  have hnm : s.vm.findClass "[I" = some (cA 10) := va_nm_int (hK.2 0 _ rfl).2
  have ha : (am_ws b base cA M)[a - 1]? = some (am_rho b base a, .inl (cA 10, n, .inl (mI M a))) := (am_ws_at hok.1 hok.2.1).trans (by rw [am_ob_i hok.2.2])
  obtain ⟨c0, t0', f1, f2, f3⟩ := Cond.castable_spec (va_Nw.use (A := args) rfl hcl)
  cases hnm.symm.trans f1
  intro T hT Y
  generalize hcell : vp_cell (cA 10) (n, .inl (mI M a)) = cell
  have hszc : cell.slots.size = n := by rw [← hcell]; exact arrV_size _ _ _
  have hvm0 : cell.vm = .none := by rw [← hcell]; rfl
  have hcl0 : cell.cls = cA 10 := by rw [← hcell]; rfl
  have hcellE : ({ cls := cell.cls, slots := cell.slots } : Cell) = cell := by rw [← hcell]; rfl
  have hcellT : T.heap[am_rho b base a]? = some cell := by rw [hT, ← hcell]; exact hP (a - 1) _ ha
  obtain ⟨-, kA, hkA, comp, hkind⟩ := State.isArrayOf_alike Y.warmed.alike ((hK.2 0 _ rfl).1 0 (fun _ => .null))
  obtain ⟨-, kS, hkS, compS, hkindS⟩ := (hK.2 0 _ rfl).1 0 (fun _ => .null)
  obtain ⟨vm', Y', stp⟩ := Y.cloneArray hx ho (ht _ hl) (ht _ hsm) (ht _ hnt) (ht _ hin) (ht _ hse) (a := am_rho b base a) (cell := cell) hcellT (fun k h => by rw [hvm0] at h; cases h) (by rw [hvm0]; exact fun h => by cases h) (by rw [hcl0]; exact hnm) f2 (by rw [hcl0]; exact f3)
    (fun i v hv => by
      rw [hcl0]
      have hk' : T.vm.classes[cA 10]? = some kA := hkA
      have hf : fits .int v = true := by
        rw [← hcell] at hv
        have hlt : i < n := by
          have := (Array.getElem?_eq_some_iff.mp hv).1
          rwa [vp_cell_i, arrV_size] at this
        rw [vp_cell_i, arrV_read _ _ hlt] at hv
        cases hv
        rfl
      simpa [State.fitsSlot, State.slotType?, hk', hkind] using hf)
    (g := F0 m pc lsr (.ref (am_rho b base a) :: st.map (am_tv b base))) rfl (by rw [hml]; exact L0.1) rfl (by rw [hb]; exact hd) hR.1 (by show 2 * 0 + _ + 14 ≤ _; rw [am_cats]; omega) (by omega) (by rw [hszc]; omega) (hloader := by rw [hcl0]; exact Vm.clonesLoader_of_array hkS hkindS)
  rw [hcellE, hszc] at Y'
  generalize hH1 : H.push cell = H1
  have z1 : H1.size = H.size + 1 := by rw [← hH1, Array.size_push]
  have e1 : H1[H.size]? = some cell := by rw [← hH1, Array.getElem?_push_size]
  have o1 : ∀ q : Nat, q < H.size → H1[q]? = H[q]? := fun q hq => by rw [← hH1, Array.getElem?_push, if_neg (Nat.ne_of_lt hq)]
  have H2 : am_H X D cA b base s (wC M a n) H1 locs := by
    refine ⟨H0.1, ?_, by rw [z1, hsz]; show _ = base + (mN M + 1); omega, hXX, hbb, hle, ⟨Nat.le_trans hS.1 (by omega), fun x h1 h2 => (o1 x (Nat.lt_of_lt_of_le h1 hS.1)).trans (hS.2.1 x h1 h2), hS.2.2⟩⟩
    rw [am_ob_wC]
    refine (hP.kept (fun k x hx => o1 x.1 ((hP k x hx).lt))).app (fun k x hx => ?_)
    have hz : k < 1 := (List.getElem?_eq_some_iff.mp hx).1
    rw [show k = 0 by omega] at hx
    cases hx
    show H1[base + mN M]? = some _
    rw [← hsz, e1, hcell]
  obtain ⟨t, b1, b2⟩ := kk p e s m args below meth c D cA b base H1 locs (cells + 1) (slots + n) lsr E0 H2 L0 (by omega) (by omega) ((T.setVm vm').pushCell cell) (by rw [← hH1, ← hT]; rfl) Y'
  refine ⟨t, stp t ?_, b2⟩
  rw [hcellE, hT]
  have hr : am_rho b base (mN M + 1) = H.size := by rw [hsz]; rfl
  rw [List.map_cons, show am_tv b base (.ref (mN M + 1)) = .ref H.size by rw [← hr]; rfl] at b1
  exact b1
theorem r_copyi {index a a0 n0 n1 : Nat} {sp dp n : Int32} (hok0 : am_ok M a0 10 n0) (hok : am_ok M a 10 n1) (hl : Cond.methodLink y.cls index arraycopyName ∈ am_gw) (hnt : Cond.native arraycopyName ∈ am_gw) (hs : Cond.static arraycopyName ∈ am_gw) (hi : Cond.initialized "java/lang/System" ∈ am_gw)
    (h1 : ¬ sp < 0) (h2 : ¬ dp < 0) (h3 : ¬ n < 0) (h4 : sp.toNatClampNeg + n.toNatClampNeg ≤ n0) (h5 : dp.toNatClampNeg + n.toNatClampNeg ≤ n1) (hR : 1 ≤ R.frames ∧ (st.map fun v => v.category).sum + 18 ≤ R.locals) (hd : decode cc pc = .ok (.invokestatic index, 3))
    (kk : am_V l y cc nL rt R mc ms X Post bc bs (pc + 3) ls st (wF M a (va_cpy (mI M a0) (mI M a) sp.toNatClampNeg dp.toNatClampNeg n.toNatClampNeg))) : am_V l y cc nL rt R mc ms X Post bc bs pc ls (.int n :: .int dp :: .ref a :: .int sp :: .ref a0 :: st) M := by
  intro p e s m args below meth c D cA b base H locs cells slots lsr E0 H0 L0 q1 q2
  obtain ⟨hx, hb, -, -, hml, ho, hmn, ht, hRc, hRs⟩ := id E0
  obtain ⟨⟨hK, -⟩, hP, hsz, hXX, hbb, hle, hS⟩ := id H0
  have nn : ∀ z : Int32, ¬ z < 0 → z.toInt = (z.toNatClampNeg : Int) := by
    intro z hz
    have hz0 : (0 : Int) ≤ z.toInt := by
      have := Int32.not_lt.mp hz
      simpa using Int32.le_iff_toInt_le.mp this
    show z.toInt = ((z.toInt.toNat : Nat) : Int)
    omega
  intro T hT Y
  have ha0 : (am_ws b base cA M)[a0 - 1]? = some (am_rho b base a0, .inl (cA 10, n0, .inl (mI M a0))) := (am_ws_at hok0.1 hok0.2.1).trans (by rw [am_ob_i hok0.2.2])
  have ha1 : (am_ws b base cA M)[a - 1]? = some (am_rho b base a, .inl (cA 10, n1, .inl (mI M a))) := (am_ws_at hok.1 hok.2.1).trans (by rw [am_ob_i hok.2.2])
  have hc0 : H[am_rho b base a0]? = some (vp_cell (cA 10) (n0, .inl (mI M a0))) := hP (a0 - 1) _ ha0
  have hc1 : H[am_rho b base a]? = some (vp_cell (cA 10) (n1, .inl (mI M a))) := hP (a - 1) _ ha1
  have hnw : nativeFrameWords "java/lang/System" "arraycopy" 5 = 7 := by decide
  obtain ⟨-, k0, hk0, cm0, hkk0⟩ := (hK.2 0 _ rfl).1 n0 (fun j => .int (mI M a0 j))
  obtain ⟨-, k1, hk1, cm1, hkk1⟩ := (hK.2 0 _ rfl).1 n1 (fun j => .int (mI M a j))
  obtain ⟨vm', Y', step⟩ := Y.arraycopy hx ho (ht _ hl) (ht _ hnt) (ht _ hs) (ht _ hi) (src := am_rho b base a0) (dst := am_rho b base a) (cs := vp_cell (cA 10) (n0, .inl (mI M a0))) (cd := vp_cell (cA 10) (n1, .inl (mI M a))) (srcPos := sp) (destPos := dp) (n := n) (by rw [hT]; exact hc0) (by rw [hT]; exact hc1)
    (fun _ h => by cases h) (fun _ h => by cases h) (fun h => by cases h) (fun h => by cases h) hk0 hk1 hkk0 hkk1 (by simp [refKind]) h1 h2 h3
    (by rw [nn sp h1, nn n h3]; show ¬ _ > ((arrV (cA 10) n0 (fun j => .int (mI M a0 j))).slots.size : Int); rw [arrV_size]; omega)
    (by rw [nn dp h2, nn n h3]; show ¬ _ > ((arrV (cA 10) n1 (fun j => .int (mI M a j))).slots.size : Int); rw [arrV_size]; omega)
    (fun vm₁ _ i hi => by
      have e : (vp_cell (cA 10) (n0, .inl (mI M a0))).slots.getD (sp.toNatClampNeg + i) .null = .int (mI M a0 (sp.toNatClampNeg + i)) := by
        show (arrV (cA 10) n0 (fun j => .int (mI M a0 j))).slots.getD _ _ = _
        rw [Array.getD_eq_getD_getElem?, arrV_read _ _ (by omega)]
        rfl
      refine ⟨?_, ?_⟩
      · rw [e]
        rfl
      · rw [e]
        exact trivial)
    (g := F0 m pc lsr (.int n :: .int dp :: .ref (am_rho b base a) :: .int sp :: .ref (am_rho b base a0) :: st.map (am_tv b base))) rfl (by rw [hml]; exact L0.1) (rest := st.map (am_tv b base)) rfl (by rw [hb]; exact hd) hR.1 (by show 2 * 0 + _ + (nativeFrameWords "java/lang/System" "arraycopy" 5 + 11) ≤ _; rw [am_cats, hnw]; omega)
  have e1 : copied (vp_cell (cA 10) (n0, .inl (mI M a0))) (vp_cell (cA 10) (n1, .inl (mI M a))) sp dp n = vp_cell (cA 10) (n1, .inl (va_cpy (mI M a0) (mI M a) sp.toNatClampNeg dp.toNatClampNeg n.toNatClampNeg)) := va_copied (fun z => .int z) (cA 10) (cA 10) (mI M a0) (mI M a) h4
  rw [e1] at Y' step
  generalize hf : va_cpy (mI M a0) (mI M a) sp.toNatClampNeg dp.toNatClampNeg n.toNatClampNeg = f at Y' step kk
  have hlt : am_rho b base a < H.size := (Array.getElem?_eq_some_iff.mp hc1).1
  have hheap : ((T.setVm vm').setCell (am_rho b base a) (vp_cell (cA 10) (n1, .inl f))).heap = H.setIfInBounds (am_rho b base a) (vp_cell (cA 10) (n1, .inl f)) := by rw [← hT]; rfl
  have oq : ∀ q : Nat, q ≠ am_rho b base a → (H.setIfInBounds (am_rho b base a) (vp_cell (cA 10) (n1, .inl f)))[q]? = H[q]? := fun q hq => by simp [Array.getElem?_setIfInBounds, Ne.symm hq]
  have hD := am_D b base cA M
  have hg : (am_ws b base cA M)[a - 1]? = some (am_rho b base a, am_ob b base cA M a) := am_ws_at hok.1 hok.2.1
  obtain ⟨t, a1, b1⟩ := kk p e s m args below meth c D cA b base _ _ cells slots lsr E0 ⟨H0.1, by
      rw [am_ws_set (M' := wF M a f) hok.1 hok.2.1 rfl (fun x hx => am_ob_congr rfl (mI_wF_n _ _ hx) rfl), am_ob_i (show mT (wF M a f) a = (10, n1) from hok.2.2), mI_wF_s]
      exact hP.set hD hg (show (H.setIfInBounds (am_rho b base a) _)[am_rho b base a]? = some _ by simp [Array.getElem?_setIfInBounds, hlt]) oq, by simp; exact hsz, hXX, hbb, hle, ⟨by simp; exact hS.1, fun q g1 g2 => by
      rw [oq q (fun e => g2 (by rw [e]; exact hD.2 (a - 1) _ hg))]
      exact hS.2.1 q g1 g2, fun q hq => by
      rcases List.mem_append.mp hq with h | h
      · exact hS.2.2 q h
      · obtain ⟨z, -, hz⟩ := List.mem_map.mp h
        rw [← hz]
        exact hD.2 (a - 1) _ hg⟩⟩ L0 q1 q2 _ hheap Y'
  exact ⟨t, step t a1, b1⟩
end AmJdk
end
section
/-! THE LINKS: what the tables say, a row each -/
theorem kX0 : am_cls 0 RX0 TX0 4 tyX0 := ⟨by decide, rfl, rfl, rfl, by decide +kernel, tyX0_ok, nmX0, by decide +kernel⟩
theorem kX1 : am_cls 1 RX1 TX1 8 tyX1 := ⟨by decide, rfl, rfl, rfl, by decide +kernel, tyX1_ok, nmX1, by decide +kernel⟩
theorem kX2 : am_cls 2 RX2 TX2 3 tyX2 := ⟨by decide, rfl, rfl, rfl, by decide +kernel, tyX2_ok, nmX2, by decide +kernel⟩
theorem kX3 : am_cls 3 RX3 TX3 8 tyX3 := ⟨by decide, rfl, rfl, rfl, by decide +kernel, tyX3_ok, nmX3, by decide +kernel⟩
theorem kX4 : am_cls 4 RX4 TX4 2 tyX4 := ⟨by decide, rfl, rfl, rfl, by decide +kernel, tyX4_ok, nmX4, by decide +kernel⟩
theorem kX5 : am_cls 5 RX5 TX5 2 tyX5 := ⟨by decide, rfl, rfl, rfl, by decide +kernel, tyX5_ok, nmX5, by decide +kernel⟩
theorem kX6 : am_cls 6 RX6 TX6 7 tyX6 := ⟨by decide, rfl, rfl, rfl, by decide +kernel, tyX6_ok, nmX6, by decide +kernel⟩
theorem kX7 : am_cls 7 RX7 TX7 3 tyX7 := ⟨by decide, rfl, rfl, rfl, by decide +kernel, tyX7_ok, nmX7, by decide +kernel⟩
theorem kX8 : am_cls 8 RX8 TX8 14 tyX8 := ⟨by decide, rfl, rfl, rfl, by decide +kernel, tyX8_ok, nmX8, by decide +kernel⟩
theorem kX9 : am_cls 9 RX9 TX9 42 tyX9 := ⟨by decide, rfl, rfl, rfl, by decide +kernel, tyX9_ok, nmX9, by decide +kernel⟩
theorem ini_L : Cond.initialized "SplitNodesLaw" ∈ am_gw := am_gw_lw (List.mem_append_right _ (List.mem_of_getElem? (i := 0) (by decide +kernel))) (by decide +kernel)
theorem ini_X8 : Cond.initialized "SplitNodes" ∈ am_gw := am_gw_lw (List.mem_append_right _ (List.mem_of_getElem? (i := 1) (by decide +kernel))) (by decide +kernel)
theorem ini_X1 : Cond.initialized "SplitNodes$Graph" ∈ am_gw := am_gw_lw (List.mem_append_right _ (List.mem_of_getElem? (i := 2) (by decide +kernel))) (by decide +kernel)
theorem ini_X7 : Cond.initialized "SplitNodes$Values" ∈ am_gw := am_gw_lw (List.mem_append_right _ (List.mem_of_getElem? (i := 3) (by decide +kernel))) (by decide +kernel)
theorem ini_X2 : Cond.initialized "SplitNodes$Inbox" ∈ am_gw := am_gw_lw (List.mem_append_right _ (List.mem_of_getElem? (i := 4) (by decide +kernel))) (by decide +kernel)
theorem ini_X0 : Cond.initialized "SplitNodes$Desk" ∈ am_gw := am_gw_lw (List.mem_append_right _ (List.mem_of_getElem? (i := 5) (by decide +kernel))) (by decide +kernel)
theorem ini_X5 : Cond.initialized "SplitNodes$Net" ∈ am_gw := am_gw_lw (List.mem_append_right _ (List.mem_of_getElem? (i := 6) (by decide +kernel))) (by decide +kernel)
theorem ini_X6 : Cond.initialized "SplitNodes$Node" ∈ am_gw := am_gw_lw (List.mem_append_right _ (List.mem_of_getElem? (i := 7) (by decide +kernel))) (by decide +kernel)
theorem ini_X4 : Cond.initialized "SplitNodes$Mark" ∈ am_gw := am_gw_lw (List.mem_append_right _ (List.mem_of_getElem? (i := 8) (by decide +kernel))) (by decide +kernel)
theorem ini_X9 : Cond.initialized "SplitNodesModel" ∈ am_gw := am_gw_lw (List.mem_append_right _ (List.mem_of_getElem? (i := 9) (by decide +kernel))) (by decide +kernel)
theorem ini_J7 : Cond.initialized "java/util/Arrays" ∈ am_gw := am_gw_lw (List.mem_append_right _ (List.mem_of_getElem? (i := 10) (by decide +kernel))) (by decide +kernel)
theorem ini_J9 : Cond.initialized "java/lang/Math" ∈ am_gw := am_gw_lw (List.mem_append_right _ (List.mem_of_getElem? (i := 11) (by decide +kernel))) (by decide +kernel)
theorem ini_X3 : Cond.initialized "SplitNodes$Letter" ∈ am_gw := am_gw_lw (List.mem_append_right _ (List.mem_of_getElem? (i := 12) (by decide +kernel))) (by decide +kernel)
theorem ini_J10 : Cond.initialized "java/lang/System" ∈ am_gw := am_gw_lw (List.mem_append_right _ (List.mem_of_getElem? (i := 13) (by decide +kernel))) (by decide +kernel)
theorem cl_L_7 : Cond.classLink RL 7 RX8 ∈ am_gw := am_gw_lw (List.mem_append_right _ (List.mem_of_getElem? (i := 14) (by decide +kernel))) (by decide +kernel)
theorem ins_X8 : Cond.instantiable RX8 14 ∈ am_gw := am_gw_lw (List.mem_append_right _ (List.mem_of_getElem? (i := 15) (by decide +kernel))) (by decide +kernel)
theorem ml_L_9 : Cond.methodLink RL 9 yX8_init ∈ am_gw := am_gw_lw (List.mem_append_right _ (List.mem_of_getElem? (i := 16) (by decide +kernel))) (by decide +kernel)
theorem im_yX8_init : Cond.instanceMethod yX8_init ∈ am_gw := am_gw_lw (List.mem_append_right _ (List.mem_of_getElem? (i := 17) (by decide +kernel))) (by decide +kernel)
theorem ca_yX8_init : am_cal yX8_init cX8_init 2 (none) 0 := ⟨am_gw_lw (List.mem_append_right _ (List.mem_of_getElem? (i := 18) (by decide +kernel))) (by decide +kernel), am_gw_lw (List.mem_append_right _ (List.mem_of_getElem? (i := 1) (by decide +kernel))) (by decide +kernel), by decide +kernel⟩
theorem ml_X8_3 : Cond.methodLink RX8 3 Lib.objectInit ∈ am_gw := am_gw_lw (List.mem_append_right _ (List.mem_of_getElem? (i := 19) (by decide +kernel))) (by decide +kernel)
theorem im_JobjectInit : Cond.instanceMethod Lib.objectInit ∈ am_gw := am_gw_lw (List.mem_append_right _ (List.mem_of_getElem? (i := 20) (by decide +kernel))) (by decide +kernel)
theorem co_objectInit : Cond.code Lib.objectInit ⟨#[0xb1]⟩ 1 none ∈ am_gw := am_gw_lw (List.mem_append_right _ (List.mem_of_getElem? (i := 21) (by decide +kernel))) (by decide +kernel)
theorem cl_X8_9 : Cond.classLink RX8 9 RX1 ∈ am_gw := am_gw_lw (List.mem_append_right _ (List.mem_of_getElem? (i := 22) (by decide +kernel))) (by decide +kernel)
theorem ins_X1 : Cond.instantiable RX1 8 ∈ am_gw := am_gw_lw (List.mem_append_right _ (List.mem_of_getElem? (i := 23) (by decide +kernel))) (by decide +kernel)
theorem nl_X8_11 : (RX8, 11, yX1_init, RX8) ∈ am_nk := by decide +kernel
theorem im_yX1_init : Cond.instanceMethod yX1_init ∈ am_gw := am_gw_lw (List.mem_append_right _ (List.mem_of_getElem? (i := 25) (by decide +kernel))) (by decide +kernel)
theorem ca_yX1_init : am_cal yX1_init cX1_init 1 (none) 0 := ⟨am_gw_lw (List.mem_append_right _ (List.mem_of_getElem? (i := 26) (by decide +kernel))) (by decide +kernel), am_gw_lw (List.mem_append_right _ (List.mem_of_getElem? (i := 2) (by decide +kernel))) (by decide +kernel), by decide +kernel⟩
theorem ml_X1_3 : Cond.methodLink RX1 3 Lib.objectInit ∈ am_gw := am_gw_lw (List.mem_append_right _ (List.mem_of_getElem? (i := 27) (by decide +kernel))) (by decide +kernel)
theorem fl_X1_9 : Cond.fieldLink RX1 9 (TX1 0).1 (TX1 0).2.1 (TX1 0).2.2.1 ∈ am_gw := am_gw_lw (List.mem_append_right _ (List.mem_of_getElem? (i := 28) (by decide +kernel))) (by decide +kernel)
theorem fl_X0_30 : Cond.fieldLink RX0 30 (TX1 0).1 (TX1 0).2.1 (TX1 0).2.2.1 ∈ am_gw := am_gw_lw (List.mem_append_right _ (List.mem_of_getElem? (i := 29) (by decide +kernel))) (by decide +kernel)
theorem fl_X8_214 : Cond.fieldLink RX8 214 (TX1 0).1 (TX1 0).2.1 (TX1 0).2.2.1 ∈ am_gw := am_gw_lw (List.mem_append_right _ (List.mem_of_getElem? (i := 30) (by decide +kernel))) (by decide +kernel)
theorem fl_X1_15 : Cond.fieldLink RX1 15 (TX1 1).1 (TX1 1).2.1 (TX1 1).2.2.1 ∈ am_gw := am_gw_lw (List.mem_append_right _ (List.mem_of_getElem? (i := 31) (by decide +kernel))) (by decide +kernel)
theorem fl_X8_230 : Cond.fieldLink RX8 230 (TX1 1).1 (TX1 1).2.1 (TX1 1).2.2.1 ∈ am_gw := am_gw_lw (List.mem_append_right _ (List.mem_of_getElem? (i := 32) (by decide +kernel))) (by decide +kernel)
theorem fl_X1_18 : Cond.fieldLink RX1 18 (TX1 2).1 (TX1 2).2.1 (TX1 2).2.2.1 ∈ am_gw := am_gw_lw (List.mem_append_right _ (List.mem_of_getElem? (i := 33) (by decide +kernel))) (by decide +kernel)
theorem fl_X0_48 : Cond.fieldLink RX0 48 (TX1 2).1 (TX1 2).2.1 (TX1 2).2.2.1 ∈ am_gw := am_gw_lw (List.mem_append_right _ (List.mem_of_getElem? (i := 34) (by decide +kernel))) (by decide +kernel)
theorem fl_X8_268 : Cond.fieldLink RX8 268 (TX1 2).1 (TX1 2).2.1 (TX1 2).2.2.1 ∈ am_gw := am_gw_lw (List.mem_append_right _ (List.mem_of_getElem? (i := 35) (by decide +kernel))) (by decide +kernel)
theorem fl_X1_21 : Cond.fieldLink RX1 21 (TX1 3).1 (TX1 3).2.1 (TX1 3).2.2.1 ∈ am_gw := am_gw_lw (List.mem_append_right _ (List.mem_of_getElem? (i := 36) (by decide +kernel))) (by decide +kernel)
theorem fl_X0_45 : Cond.fieldLink RX0 45 (TX1 3).1 (TX1 3).2.1 (TX1 3).2.2.1 ∈ am_gw := am_gw_lw (List.mem_append_right _ (List.mem_of_getElem? (i := 37) (by decide +kernel))) (by decide +kernel)
theorem fl_X8_271 : Cond.fieldLink RX8 271 (TX1 3).1 (TX1 3).2.1 (TX1 3).2.2.1 ∈ am_gw := am_gw_lw (List.mem_append_right _ (List.mem_of_getElem? (i := 38) (by decide +kernel))) (by decide +kernel)
theorem fl_X1_24 : Cond.fieldLink RX1 24 (TX1 4).1 (TX1 4).2.1 (TX1 4).2.2.1 ∈ am_gw := am_gw_lw (List.mem_append_right _ (List.mem_of_getElem? (i := 39) (by decide +kernel))) (by decide +kernel)
theorem fl_X1_27 : Cond.fieldLink RX1 27 (TX1 5).1 (TX1 5).2.1 (TX1 5).2.2.1 ∈ am_gw := am_gw_lw (List.mem_append_right _ (List.mem_of_getElem? (i := 40) (by decide +kernel))) (by decide +kernel)
theorem fl_X0_25 : Cond.fieldLink RX0 25 (TX1 5).1 (TX1 5).2.1 (TX1 5).2.2.1 ∈ am_gw := am_gw_lw (List.mem_append_right _ (List.mem_of_getElem? (i := 41) (by decide +kernel))) (by decide +kernel)
theorem fl_X8_64 : Cond.fieldLink RX8 64 (TX1 5).1 (TX1 5).2.1 (TX1 5).2.2.1 ∈ am_gw := am_gw_lw (List.mem_append_right _ (List.mem_of_getElem? (i := 42) (by decide +kernel))) (by decide +kernel)
theorem fl_X1_31 : Cond.fieldLink RX1 31 (TX1 6).1 (TX1 6).2.1 (TX1 6).2.2.1 ∈ am_gw := am_gw_lw (List.mem_append_right _ (List.mem_of_getElem? (i := 43) (by decide +kernel))) (by decide +kernel)
theorem fl_X0_43 : Cond.fieldLink RX0 43 (TX1 6).1 (TX1 6).2.1 (TX1 6).2.2.1 ∈ am_gw := am_gw_lw (List.mem_append_right _ (List.mem_of_getElem? (i := 44) (by decide +kernel))) (by decide +kernel)
theorem fl_X8_109 : Cond.fieldLink RX8 109 (TX1 6).1 (TX1 6).2.1 (TX1 6).2.2.1 ∈ am_gw := am_gw_lw (List.mem_append_right _ (List.mem_of_getElem? (i := 45) (by decide +kernel))) (by decide +kernel)
theorem fl_X1_34 : Cond.fieldLink RX1 34 (TX1 7).1 (TX1 7).2.1 (TX1 7).2.2.1 ∈ am_gw := am_gw_lw (List.mem_append_right _ (List.mem_of_getElem? (i := 46) (by decide +kernel))) (by decide +kernel)
theorem fl_X0_59 : Cond.fieldLink RX0 59 (TX1 7).1 (TX1 7).2.1 (TX1 7).2.2.1 ∈ am_gw := am_gw_lw (List.mem_append_right _ (List.mem_of_getElem? (i := 47) (by decide +kernel))) (by decide +kernel)
theorem fl_X8_116 : Cond.fieldLink RX8 116 (TX1 7).1 (TX1 7).2.1 (TX1 7).2.2.1 ∈ am_gw := am_gw_lw (List.mem_append_right _ (List.mem_of_getElem? (i := 48) (by decide +kernel))) (by decide +kernel)
theorem ac_int : Cond.arrayClass .int ∈ am_gw := am_gw_lw (List.mem_append_right _ (List.mem_of_getElem? (i := 66) (by decide +kernel))) (by decide +kernel)
theorem cl_X8_18 : Cond.classLink RX8 18 RX7 ∈ am_gw := am_gw_lw (List.mem_append_right _ (List.mem_of_getElem? (i := 67) (by decide +kernel))) (by decide +kernel)
theorem ins_X7 : Cond.instantiable RX7 3 ∈ am_gw := am_gw_lw (List.mem_append_right _ (List.mem_of_getElem? (i := 68) (by decide +kernel))) (by decide +kernel)
theorem nl_X8_20 : (RX8, 20, yX7_init, RX8) ∈ am_nk := by decide +kernel
theorem im_yX7_init : Cond.instanceMethod yX7_init ∈ am_gw := am_gw_lw (List.mem_append_right _ (List.mem_of_getElem? (i := 70) (by decide +kernel))) (by decide +kernel)
theorem ca_yX7_init : am_cal yX7_init cX7_init 1 (none) 0 := ⟨am_gw_lw (List.mem_append_right _ (List.mem_of_getElem? (i := 71) (by decide +kernel))) (by decide +kernel), am_gw_lw (List.mem_append_right _ (List.mem_of_getElem? (i := 3) (by decide +kernel))) (by decide +kernel), by decide +kernel⟩
theorem ml_X7_3 : Cond.methodLink RX7 3 Lib.objectInit ∈ am_gw := am_gw_lw (List.mem_append_right _ (List.mem_of_getElem? (i := 72) (by decide +kernel))) (by decide +kernel)
theorem fl_X7_9 : Cond.fieldLink RX7 9 (TX7 0).1 (TX7 0).2.1 (TX7 0).2.2.1 ∈ am_gw := am_gw_lw (List.mem_append_right _ (List.mem_of_getElem? (i := 73) (by decide +kernel))) (by decide +kernel)
theorem fl_X2_41 : Cond.fieldLink RX2 41 (TX7 0).1 (TX7 0).2.1 (TX7 0).2.2.1 ∈ am_gw := am_gw_lw (List.mem_append_right _ (List.mem_of_getElem? (i := 74) (by decide +kernel))) (by decide +kernel)
theorem fl_X1_37 : Cond.fieldLink RX1 37 (TX7 0).1 (TX7 0).2.1 (TX7 0).2.2.1 ∈ am_gw := am_gw_lw (List.mem_append_right _ (List.mem_of_getElem? (i := 75) (by decide +kernel))) (by decide +kernel)
theorem fl_X7_15 : Cond.fieldLink RX7 15 (TX7 1).1 (TX7 1).2.1 (TX7 1).2.2.1 ∈ am_gw := am_gw_lw (List.mem_append_right _ (List.mem_of_getElem? (i := 76) (by decide +kernel))) (by decide +kernel)
theorem fl_X2_49 : Cond.fieldLink RX2 49 (TX7 1).1 (TX7 1).2.1 (TX7 1).2.2.1 ∈ am_gw := am_gw_lw (List.mem_append_right _ (List.mem_of_getElem? (i := 77) (by decide +kernel))) (by decide +kernel)
theorem fl_X7_18 : Cond.fieldLink RX7 18 (TX7 2).1 (TX7 2).2.1 (TX7 2).2.2.1 ∈ am_gw := am_gw_lw (List.mem_append_right _ (List.mem_of_getElem? (i := 78) (by decide +kernel))) (by decide +kernel)
theorem fl_X0_33 : Cond.fieldLink RX0 33 (TX7 2).1 (TX7 2).2.1 (TX7 2).2.2.1 ∈ am_gw := am_gw_lw (List.mem_append_right _ (List.mem_of_getElem? (i := 79) (by decide +kernel))) (by decide +kernel)
theorem fl_X2_52 : Cond.fieldLink RX2 52 (TX7 2).1 (TX7 2).2.1 (TX7 2).2.2.1 ∈ am_gw := am_gw_lw (List.mem_append_right _ (List.mem_of_getElem? (i := 80) (by decide +kernel))) (by decide +kernel)
theorem fl_X1_48 : Cond.fieldLink RX1 48 (TX7 2).1 (TX7 2).2.1 (TX7 2).2.2.1 ∈ am_gw := am_gw_lw (List.mem_append_right _ (List.mem_of_getElem? (i := 81) (by decide +kernel))) (by decide +kernel)
theorem fl_X8_265 : Cond.fieldLink RX8 265 (TX7 2).1 (TX7 2).2.1 (TX7 2).2.2.1 ∈ am_gw := am_gw_lw (List.mem_append_right _ (List.mem_of_getElem? (i := 82) (by decide +kernel))) (by decide +kernel)
theorem ac_boolean : Cond.arrayClass .boolean ∈ am_gw := am_gw_lw (List.mem_append_right _ (List.mem_of_getElem? (i := 90) (by decide +kernel))) (by decide +kernel)
theorem cl_X8_28 : Cond.classLink RX8 28 RX2 ∈ am_gw := am_gw_lw (List.mem_append_right _ (List.mem_of_getElem? (i := 91) (by decide +kernel))) (by decide +kernel)
theorem ins_X2 : Cond.instantiable RX2 3 ∈ am_gw := am_gw_lw (List.mem_append_right _ (List.mem_of_getElem? (i := 92) (by decide +kernel))) (by decide +kernel)
theorem nl_X8_30 : (RX8, 30, yX2_init, RX8) ∈ am_nk := by decide +kernel
theorem im_yX2_init : Cond.instanceMethod yX2_init ∈ am_gw := am_gw_lw (List.mem_append_right _ (List.mem_of_getElem? (i := 94) (by decide +kernel))) (by decide +kernel)
theorem ca_yX2_init : am_cal yX2_init cX2_init 1 (none) 0 := ⟨am_gw_lw (List.mem_append_right _ (List.mem_of_getElem? (i := 95) (by decide +kernel))) (by decide +kernel), am_gw_lw (List.mem_append_right _ (List.mem_of_getElem? (i := 4) (by decide +kernel))) (by decide +kernel), by decide +kernel⟩
theorem ml_X2_3 : Cond.methodLink RX2 3 Lib.objectInit ∈ am_gw := am_gw_lw (List.mem_append_right _ (List.mem_of_getElem? (i := 96) (by decide +kernel))) (by decide +kernel)
theorem fl_X2_9 : Cond.fieldLink RX2 9 (TX2 0).1 (TX2 0).2.1 (TX2 0).2.2.1 ∈ am_gw := am_gw_lw (List.mem_append_right _ (List.mem_of_getElem? (i := 97) (by decide +kernel))) (by decide +kernel)
theorem fl_X2_15 : Cond.fieldLink RX2 15 (TX2 1).1 (TX2 1).2.1 (TX2 1).2.2.1 ∈ am_gw := am_gw_lw (List.mem_append_right _ (List.mem_of_getElem? (i := 98) (by decide +kernel))) (by decide +kernel)
theorem fl_X2_19 : Cond.fieldLink RX2 19 (TX2 2).1 (TX2 2).2.1 (TX2 2).2.2.1 ∈ am_gw := am_gw_lw (List.mem_append_right _ (List.mem_of_getElem? (i := 99) (by decide +kernel))) (by decide +kernel)
theorem cl_X8_35 : Cond.classLink RX8 35 RX0 ∈ am_gw := am_gw_lw (List.mem_append_right _ (List.mem_of_getElem? (i := 107) (by decide +kernel))) (by decide +kernel)
theorem ins_X0 : Cond.instantiable RX0 4 ∈ am_gw := am_gw_lw (List.mem_append_right _ (List.mem_of_getElem? (i := 108) (by decide +kernel))) (by decide +kernel)
theorem nl_X8_37 : (RX8, 37, yX0_init, RX8) ∈ am_nk := by decide +kernel
theorem im_yX0_init : Cond.instanceMethod yX0_init ∈ am_gw := am_gw_lw (List.mem_append_right _ (List.mem_of_getElem? (i := 110) (by decide +kernel))) (by decide +kernel)
theorem ca_yX0_init : am_cal yX0_init cX0_init 1 (none) 0 := ⟨am_gw_lw (List.mem_append_right _ (List.mem_of_getElem? (i := 111) (by decide +kernel))) (by decide +kernel), am_gw_lw (List.mem_append_right _ (List.mem_of_getElem? (i := 5) (by decide +kernel))) (by decide +kernel), by decide +kernel⟩
theorem ml_X0_3 : Cond.methodLink RX0 3 Lib.objectInit ∈ am_gw := am_gw_lw (List.mem_append_right _ (List.mem_of_getElem? (i := 112) (by decide +kernel))) (by decide +kernel)
theorem fl_X0_9 : Cond.fieldLink RX0 9 (TX0 0).1 (TX0 0).2.1 (TX0 0).2.2.1 ∈ am_gw := am_gw_lw (List.mem_append_right _ (List.mem_of_getElem? (i := 113) (by decide +kernel))) (by decide +kernel)
theorem fl_X3_25 : Cond.fieldLink RX3 25 (TX0 0).1 (TX0 0).2.1 (TX0 0).2.2.1 ∈ am_gw := am_gw_lw (List.mem_append_right _ (List.mem_of_getElem? (i := 114) (by decide +kernel))) (by decide +kernel)
theorem fl_X0_15 : Cond.fieldLink RX0 15 (TX0 1).1 (TX0 1).2.1 (TX0 1).2.2.1 ∈ am_gw := am_gw_lw (List.mem_append_right _ (List.mem_of_getElem? (i := 115) (by decide +kernel))) (by decide +kernel)
theorem fl_X3_41 : Cond.fieldLink RX3 41 (TX0 1).1 (TX0 1).2.1 (TX0 1).2.2.1 ∈ am_gw := am_gw_lw (List.mem_append_right _ (List.mem_of_getElem? (i := 116) (by decide +kernel))) (by decide +kernel)
theorem fl_X0_18 : Cond.fieldLink RX0 18 (TX0 2).1 (TX0 2).2.1 (TX0 2).2.2.1 ∈ am_gw := am_gw_lw (List.mem_append_right _ (List.mem_of_getElem? (i := 117) (by decide +kernel))) (by decide +kernel)
theorem fl_X3_45 : Cond.fieldLink RX3 45 (TX0 2).1 (TX0 2).2.1 (TX0 2).2.2.1 ∈ am_gw := am_gw_lw (List.mem_append_right _ (List.mem_of_getElem? (i := 118) (by decide +kernel))) (by decide +kernel)
theorem fl_X3_31 : Cond.fieldLink RX3 31 (TX0 3).1 (TX0 3).2.1 (TX0 3).2.2.1 ∈ am_gw := am_gw_lw (List.mem_append_right _ (List.mem_of_getElem? (i := 119) (by decide +kernel))) (by decide +kernel)
theorem fl_X0_21 : Cond.fieldLink RX0 21 (TX0 3).1 (TX0 3).2.1 (TX0 3).2.2.1 ∈ am_gw := am_gw_lw (List.mem_append_right _ (List.mem_of_getElem? (i := 120) (by decide +kernel))) (by decide +kernel)
theorem cl_X8_42 : Cond.classLink RX8 42 RX5 ∈ am_gw := am_gw_lw (List.mem_append_right _ (List.mem_of_getElem? (i := 130) (by decide +kernel))) (by decide +kernel)
theorem ins_X5 : Cond.instantiable RX5 2 ∈ am_gw := am_gw_lw (List.mem_append_right _ (List.mem_of_getElem? (i := 131) (by decide +kernel))) (by decide +kernel)
theorem nl_X8_44 : (RX8, 44, yX5_init, RX8) ∈ am_nk := by decide +kernel
theorem im_yX5_init : Cond.instanceMethod yX5_init ∈ am_gw := am_gw_lw (List.mem_append_right _ (List.mem_of_getElem? (i := 133) (by decide +kernel))) (by decide +kernel)
theorem ca_yX5_init : am_cal yX5_init cX5_init 1 (none) 0 := ⟨am_gw_lw (List.mem_append_right _ (List.mem_of_getElem? (i := 134) (by decide +kernel))) (by decide +kernel), am_gw_lw (List.mem_append_right _ (List.mem_of_getElem? (i := 6) (by decide +kernel))) (by decide +kernel), by decide +kernel⟩
theorem ml_X5_3 : Cond.methodLink RX5 3 Lib.objectInit ∈ am_gw := am_gw_lw (List.mem_append_right _ (List.mem_of_getElem? (i := 135) (by decide +kernel))) (by decide +kernel)
theorem cl_X5_9 : Cond.classLink RX5 9 RX3 ∈ am_gw := am_gw_lw (List.mem_append_right _ (List.mem_of_getElem? (i := 136) (by decide +kernel))) (by decide +kernel)
theorem ao_X3 : Cond.arrayOver (.object RX3) ∈ lw_tbl := List.mem_append_right _ (List.mem_of_getElem? (i := 137) (by decide +kernel))
theorem fl_X5_11 : Cond.fieldLink RX5 11 (TX5 0).1 (TX5 0).2.1 (TX5 0).2.2.1 ∈ am_gw := am_gw_lw (List.mem_append_right _ (List.mem_of_getElem? (i := 138) (by decide +kernel))) (by decide +kernel)
theorem fl_X5_17 : Cond.fieldLink RX5 17 (TX5 1).1 (TX5 1).2.1 (TX5 1).2.2.1 ∈ am_gw := am_gw_lw (List.mem_append_right _ (List.mem_of_getElem? (i := 139) (by decide +kernel))) (by decide +kernel)
theorem fl_X8_122 : Cond.fieldLink RX8 122 (TX5 1).1 (TX5 1).2.1 (TX5 1).2.2.1 ∈ am_gw := am_gw_lw (List.mem_append_right _ (List.mem_of_getElem? (i := 140) (by decide +kernel))) (by decide +kernel)
theorem cl_X8_49 : Cond.classLink RX8 49 RX6 ∈ am_gw := am_gw_lw (List.mem_append_right _ (List.mem_of_getElem? (i := 146) (by decide +kernel))) (by decide +kernel)
theorem ao_X6 : Cond.arrayOver (.object RX6) ∈ lw_tbl := List.mem_append_right _ (List.mem_of_getElem? (i := 147) (by decide +kernel))
theorem ins_X6 : Cond.instantiable RX6 7 ∈ am_gw := am_gw_lw (List.mem_append_right _ (List.mem_of_getElem? (i := 148) (by decide +kernel))) (by decide +kernel)
theorem nl_X8_59 : (RX8, 59, yX6_init, RX8) ∈ am_nk := by decide +kernel
theorem im_yX6_init : Cond.instanceMethod yX6_init ∈ am_gw := am_gw_lw (List.mem_append_right _ (List.mem_of_getElem? (i := 150) (by decide +kernel))) (by decide +kernel)
theorem ca_yX6_init : am_cal yX6_init cX6_init 1 (none) 0 := ⟨am_gw_lw (List.mem_append_right _ (List.mem_of_getElem? (i := 151) (by decide +kernel))) (by decide +kernel), am_gw_lw (List.mem_append_right _ (List.mem_of_getElem? (i := 7) (by decide +kernel))) (by decide +kernel), by decide +kernel⟩
theorem ml_X6_3 : Cond.methodLink RX6 3 Lib.objectInit ∈ am_gw := am_gw_lw (List.mem_append_right _ (List.mem_of_getElem? (i := 152) (by decide +kernel))) (by decide +kernel)
theorem cl_X6_9 : Cond.classLink RX6 9 RX3 ∈ am_gw := am_gw_lw (List.mem_append_right _ (List.mem_of_getElem? (i := 153) (by decide +kernel))) (by decide +kernel)
theorem cl_X6_20 : Cond.classLink RX6 20 RX4 ∈ am_gw := am_gw_lw (List.mem_append_right _ (List.mem_of_getElem? (i := 154) (by decide +kernel))) (by decide +kernel)
theorem ins_X4 : Cond.instantiable RX4 2 ∈ am_gw := am_gw_lw (List.mem_append_right _ (List.mem_of_getElem? (i := 155) (by decide +kernel))) (by decide +kernel)
theorem nl_X6_22 : (RX6, 22, yX4_init, RX8) ∈ am_nk := by decide +kernel
theorem im_yX4_init : Cond.instanceMethod yX4_init ∈ am_gw := am_gw_lw (List.mem_append_right _ (List.mem_of_getElem? (i := 157) (by decide +kernel))) (by decide +kernel)
theorem ca_yX4_init : am_cal yX4_init cX4_init 1 (none) 0 := ⟨am_gw_lw (List.mem_append_right _ (List.mem_of_getElem? (i := 158) (by decide +kernel))) (by decide +kernel), am_gw_lw (List.mem_append_right _ (List.mem_of_getElem? (i := 8) (by decide +kernel))) (by decide +kernel), by decide +kernel⟩
theorem ml_X4_3 : Cond.methodLink RX4 3 Lib.objectInit ∈ am_gw := am_gw_lw (List.mem_append_right _ (List.mem_of_getElem? (i := 159) (by decide +kernel))) (by decide +kernel)
theorem cl_X4_9 : Cond.classLink RX4 9 RX7 ∈ am_gw := am_gw_lw (List.mem_append_right _ (List.mem_of_getElem? (i := 160) (by decide +kernel))) (by decide +kernel)
theorem nl_X4_11 : (RX4, 11, yX7_init, RX8) ∈ am_nk := by decide +kernel
theorem fl_X4_12 : Cond.fieldLink RX4 12 (TX4 0).1 (TX4 0).2.1 (TX4 0).2.2.1 ∈ am_gw := am_gw_lw (List.mem_append_right _ (List.mem_of_getElem? (i := 162) (by decide +kernel))) (by decide +kernel)
theorem fl_X8_201 : Cond.fieldLink RX8 201 (TX4 0).1 (TX4 0).2.1 (TX4 0).2.2.1 ∈ am_gw := am_gw_lw (List.mem_append_right _ (List.mem_of_getElem? (i := 163) (by decide +kernel))) (by decide +kernel)
theorem fl_X4_18 : Cond.fieldLink RX4 18 (TX4 1).1 (TX4 1).2.1 (TX4 1).2.2.1 ∈ am_gw := am_gw_lw (List.mem_append_right _ (List.mem_of_getElem? (i := 164) (by decide +kernel))) (by decide +kernel)
theorem fl_X6_47 : Cond.fieldLink RX6 47 (TX4 1).1 (TX4 1).2.1 (TX4 1).2.2.1 ∈ am_gw := am_gw_lw (List.mem_append_right _ (List.mem_of_getElem? (i := 165) (by decide +kernel))) (by decide +kernel)
theorem fl_X8_246 : Cond.fieldLink RX8 246 (TX4 1).1 (TX4 1).2.1 (TX4 1).2.2.1 ∈ am_gw := am_gw_lw (List.mem_append_right _ (List.mem_of_getElem? (i := 166) (by decide +kernel))) (by decide +kernel)
theorem fl_X6_11 : Cond.fieldLink RX6 11 (TX6 0).1 (TX6 0).2.1 (TX6 0).2.2.1 ∈ am_gw := am_gw_lw (List.mem_append_right _ (List.mem_of_getElem? (i := 172) (by decide +kernel))) (by decide +kernel)
theorem fl_X6_17 : Cond.fieldLink RX6 17 (TX6 1).1 (TX6 1).2.1 (TX6 1).2.2.1 ∈ am_gw := am_gw_lw (List.mem_append_right _ (List.mem_of_getElem? (i := 173) (by decide +kernel))) (by decide +kernel)
theorem fl_X6_23 : Cond.fieldLink RX6 23 (TX6 2).1 (TX6 2).2.1 (TX6 2).2.2.1 ∈ am_gw := am_gw_lw (List.mem_append_right _ (List.mem_of_getElem? (i := 174) (by decide +kernel))) (by decide +kernel)
theorem fl_X8_197 : Cond.fieldLink RX8 197 (TX6 2).1 (TX6 2).2.1 (TX6 2).2.2.1 ∈ am_gw := am_gw_lw (List.mem_append_right _ (List.mem_of_getElem? (i := 175) (by decide +kernel))) (by decide +kernel)
theorem fl_X6_27 : Cond.fieldLink RX6 27 (TX6 3).1 (TX6 3).2.1 (TX6 3).2.2.1 ∈ am_gw := am_gw_lw (List.mem_append_right _ (List.mem_of_getElem? (i := 176) (by decide +kernel))) (by decide +kernel)
theorem fl_X8_319 : Cond.fieldLink RX8 319 (TX6 3).1 (TX6 3).2.1 (TX6 3).2.2.1 ∈ am_gw := am_gw_lw (List.mem_append_right _ (List.mem_of_getElem? (i := 177) (by decide +kernel))) (by decide +kernel)
theorem fl_X6_36 : Cond.fieldLink RX6 36 (TX6 4).1 (TX6 4).2.1 (TX6 4).2.2.1 ∈ am_gw := am_gw_lw (List.mem_append_right _ (List.mem_of_getElem? (i := 178) (by decide +kernel))) (by decide +kernel)
theorem fl_X8_178 : Cond.fieldLink RX8 178 (TX6 4).1 (TX6 4).2.1 (TX6 4).2.2.1 ∈ am_gw := am_gw_lw (List.mem_append_right _ (List.mem_of_getElem? (i := 179) (by decide +kernel))) (by decide +kernel)
theorem fl_X6_40 : Cond.fieldLink RX6 40 (TX6 5).1 (TX6 5).2.1 (TX6 5).2.2.1 ∈ am_gw := am_gw_lw (List.mem_append_right _ (List.mem_of_getElem? (i := 180) (by decide +kernel))) (by decide +kernel)
theorem fl_X8_236 : Cond.fieldLink RX8 236 (TX6 5).1 (TX6 5).2.1 (TX6 5).2.2.1 ∈ am_gw := am_gw_lw (List.mem_append_right _ (List.mem_of_getElem? (i := 181) (by decide +kernel))) (by decide +kernel)
theorem fl_X6_44 : Cond.fieldLink RX6 44 (TX6 6).1 (TX6 6).2.1 (TX6 6).2.2.1 ∈ am_gw := am_gw_lw (List.mem_append_right _ (List.mem_of_getElem? (i := 182) (by decide +kernel))) (by decide +kernel)
theorem fl_X8_175 : Cond.fieldLink RX8 175 (TX6 6).1 (TX6 6).2.1 (TX6 6).2.2.1 ∈ am_gw := am_gw_lw (List.mem_append_right _ (List.mem_of_getElem? (i := 183) (by decide +kernel))) (by decide +kernel)
theorem fl_X8_12 : Cond.fieldLink RX8 12 (TX8 0).1 (TX8 0).2.1 (TX8 0).2.2.1 ∈ am_gw := am_gw_lw (List.mem_append_right _ (List.mem_of_getElem? (i := 199) (by decide +kernel))) (by decide +kernel)
theorem fl_X8_21 : Cond.fieldLink RX8 21 (TX8 1).1 (TX8 1).2.1 (TX8 1).2.2.1 ∈ am_gw := am_gw_lw (List.mem_append_right _ (List.mem_of_getElem? (i := 200) (by decide +kernel))) (by decide +kernel)
theorem fl_X8_25 : Cond.fieldLink RX8 25 (TX8 2).1 (TX8 2).2.1 (TX8 2).2.2.1 ∈ am_gw := am_gw_lw (List.mem_append_right _ (List.mem_of_getElem? (i := 201) (by decide +kernel))) (by decide +kernel)
theorem fl_X8_31 : Cond.fieldLink RX8 31 (TX8 3).1 (TX8 3).2.1 (TX8 3).2.2.1 ∈ am_gw := am_gw_lw (List.mem_append_right _ (List.mem_of_getElem? (i := 202) (by decide +kernel))) (by decide +kernel)
theorem fl_X8_38 : Cond.fieldLink RX8 38 (TX8 4).1 (TX8 4).2.1 (TX8 4).2.2.1 ∈ am_gw := am_gw_lw (List.mem_append_right _ (List.mem_of_getElem? (i := 203) (by decide +kernel))) (by decide +kernel)
theorem fl_X8_45 : Cond.fieldLink RX8 45 (TX8 5).1 (TX8 5).2.1 (TX8 5).2.2.1 ∈ am_gw := am_gw_lw (List.mem_append_right _ (List.mem_of_getElem? (i := 204) (by decide +kernel))) (by decide +kernel)
theorem fl_X8_51 : Cond.fieldLink RX8 51 (TX8 6).1 (TX8 6).2.1 (TX8 6).2.2.1 ∈ am_gw := am_gw_lw (List.mem_append_right _ (List.mem_of_getElem? (i := 205) (by decide +kernel))) (by decide +kernel)
theorem fl_X8_55 : Cond.fieldLink RX8 55 (TX8 7).1 (TX8 7).2.1 (TX8 7).2.2.1 ∈ am_gw := am_gw_lw (List.mem_append_right _ (List.mem_of_getElem? (i := 206) (by decide +kernel))) (by decide +kernel)
theorem fl_X8_60 : Cond.fieldLink RX8 60 (TX8 8).1 (TX8 8).2.1 (TX8 8).2.2.1 ∈ am_gw := am_gw_lw (List.mem_append_right _ (List.mem_of_getElem? (i := 207) (by decide +kernel))) (by decide +kernel)
theorem fl_X8_78 : Cond.fieldLink RX8 78 (TX8 9).1 (TX8 9).2.1 (TX8 9).2.2.1 ∈ am_gw := am_gw_lw (List.mem_append_right _ (List.mem_of_getElem? (i := 208) (by decide +kernel))) (by decide +kernel)
theorem fl_X8_81 : Cond.fieldLink RX8 81 (TX8 10).1 (TX8 10).2.1 (TX8 10).2.2.1 ∈ am_gw := am_gw_lw (List.mem_append_right _ (List.mem_of_getElem? (i := 209) (by decide +kernel))) (by decide +kernel)
theorem fl_X8_85 : Cond.fieldLink RX8 85 (TX8 11).1 (TX8 11).2.1 (TX8 11).2.2.1 ∈ am_gw := am_gw_lw (List.mem_append_right _ (List.mem_of_getElem? (i := 210) (by decide +kernel))) (by decide +kernel)
theorem fl_X8_88 : Cond.fieldLink RX8 88 (TX8 12).1 (TX8 12).2.1 (TX8 12).2.2.1 ∈ am_gw := am_gw_lw (List.mem_append_right _ (List.mem_of_getElem? (i := 211) (by decide +kernel))) (by decide +kernel)
theorem fl_X8_91 : Cond.fieldLink RX8 91 (TX8 13).1 (TX8 13).2.1 (TX8 13).2.2.1 ∈ am_gw := am_gw_lw (List.mem_append_right _ (List.mem_of_getElem? (i := 212) (by decide +kernel))) (by decide +kernel)
theorem ml_L_13 : Cond.methodLink RL 13 yX8_nodes ∈ am_gw := am_gw_lw (List.mem_append_right _ (List.mem_of_getElem? (i := 242) (by decide +kernel))) (by decide +kernel)
theorem im_yX8_nodes : Cond.instanceMethod yX8_nodes ∈ am_gw := am_gw_lw (List.mem_append_right _ (List.mem_of_getElem? (i := 243) (by decide +kernel))) (by decide +kernel)
theorem se_yX8_nodes : Cond.selects RX8 yX8_nodes yX8_nodes ∈ am_gw := am_gw_lw (List.mem_append_right _ (List.mem_of_getElem? (i := 244) (by decide +kernel))) (by decide +kernel)
theorem ca_yX8_nodes : am_cal yX8_nodes cX8_nodes 4 (some .int) 1 := ⟨am_gw_lw (List.mem_append_right _ (List.mem_of_getElem? (i := 245) (by decide +kernel))) (by decide +kernel), am_gw_lw (List.mem_append_right _ (List.mem_of_getElem? (i := 1) (by decide +kernel))) (by decide +kernel), by decide +kernel⟩
theorem ml_X8_67 : Cond.methodLink RX8 67 yX1_clear ∈ am_gw := am_gw_lw (List.mem_append_right _ (List.mem_of_getElem? (i := 246) (by decide +kernel))) (by decide +kernel)
theorem im_yX1_clear : Cond.instanceMethod yX1_clear ∈ am_gw := am_gw_lw (List.mem_append_right _ (List.mem_of_getElem? (i := 247) (by decide +kernel))) (by decide +kernel)
theorem se_yX1_clear : Cond.selects RX1 yX1_clear yX1_clear ∈ am_gw := am_gw_lw (List.mem_append_right _ (List.mem_of_getElem? (i := 248) (by decide +kernel))) (by decide +kernel)
theorem ca_yX1_clear : am_cal yX1_clear cX1_clear 1 (none) 0 := ⟨am_gw_lw (List.mem_append_right _ (List.mem_of_getElem? (i := 249) (by decide +kernel))) (by decide +kernel), am_gw_lw (List.mem_append_right _ (List.mem_of_getElem? (i := 2) (by decide +kernel))) (by decide +kernel), by decide +kernel⟩
theorem ml_X8_70 : Cond.methodLink RX8 70 yX5_clear ∈ am_gw := am_gw_lw (List.mem_append_right _ (List.mem_of_getElem? (i := 250) (by decide +kernel))) (by decide +kernel)
theorem im_yX5_clear : Cond.instanceMethod yX5_clear ∈ am_gw := am_gw_lw (List.mem_append_right _ (List.mem_of_getElem? (i := 251) (by decide +kernel))) (by decide +kernel)
theorem se_yX5_clear : Cond.selects RX5 yX5_clear yX5_clear ∈ am_gw := am_gw_lw (List.mem_append_right _ (List.mem_of_getElem? (i := 252) (by decide +kernel))) (by decide +kernel)
theorem ca_yX5_clear : am_cal yX5_clear cX5_clear 2 (none) 0 := ⟨am_gw_lw (List.mem_append_right _ (List.mem_of_getElem? (i := 253) (by decide +kernel))) (by decide +kernel), am_gw_lw (List.mem_append_right _ (List.mem_of_getElem? (i := 6) (by decide +kernel))) (by decide +kernel), by decide +kernel⟩
theorem ml_X8_71 : Cond.methodLink RX8 71 yX6_clear ∈ am_gw := am_gw_lw (List.mem_append_right _ (List.mem_of_getElem? (i := 254) (by decide +kernel))) (by decide +kernel)
theorem im_yX6_clear : Cond.instanceMethod yX6_clear ∈ am_gw := am_gw_lw (List.mem_append_right _ (List.mem_of_getElem? (i := 255) (by decide +kernel))) (by decide +kernel)
theorem se_yX6_clear : Cond.selects RX6 yX6_clear yX6_clear ∈ am_gw := am_gw_lw (List.mem_append_right _ (List.mem_of_getElem? (i := 256) (by decide +kernel))) (by decide +kernel)
theorem ca_yX6_clear : am_cal yX6_clear cX6_clear 1 (none) 0 := ⟨am_gw_lw (List.mem_append_right _ (List.mem_of_getElem? (i := 257) (by decide +kernel))) (by decide +kernel), am_gw_lw (List.mem_append_right _ (List.mem_of_getElem? (i := 7) (by decide +kernel))) (by decide +kernel), by decide +kernel⟩
theorem ml_X6_30 : Cond.methodLink RX6 30 yX6_forgetLetters ∈ am_gw := am_gw_lw (List.mem_append_right _ (List.mem_of_getElem? (i := 258) (by decide +kernel))) (by decide +kernel)
theorem im_yX6_forgetLetters : Cond.instanceMethod yX6_forgetLetters ∈ am_gw := am_gw_lw (List.mem_append_right _ (List.mem_of_getElem? (i := 259) (by decide +kernel))) (by decide +kernel)
theorem se_yX6_forgetLetters : Cond.selects RX6 yX6_forgetLetters yX6_forgetLetters ∈ am_gw := am_gw_lw (List.mem_append_right _ (List.mem_of_getElem? (i := 260) (by decide +kernel))) (by decide +kernel)
theorem ca_yX6_forgetLetters : am_cal yX6_forgetLetters cX6_forgetLetters 2 (none) 0 := ⟨am_gw_lw (List.mem_append_right _ (List.mem_of_getElem? (i := 261) (by decide +kernel))) (by decide +kernel), am_gw_lw (List.mem_append_right _ (List.mem_of_getElem? (i := 7) (by decide +kernel))) (by decide +kernel), by decide +kernel⟩
theorem ml_X6_33 : Cond.methodLink RX6 33 yX6_forgetMarks ∈ am_gw := am_gw_lw (List.mem_append_right _ (List.mem_of_getElem? (i := 262) (by decide +kernel))) (by decide +kernel)
theorem im_yX6_forgetMarks : Cond.instanceMethod yX6_forgetMarks ∈ am_gw := am_gw_lw (List.mem_append_right _ (List.mem_of_getElem? (i := 263) (by decide +kernel))) (by decide +kernel)
theorem se_yX6_forgetMarks : Cond.selects RX6 yX6_forgetMarks yX6_forgetMarks ∈ am_gw := am_gw_lw (List.mem_append_right _ (List.mem_of_getElem? (i := 264) (by decide +kernel))) (by decide +kernel)
theorem ca_yX6_forgetMarks : am_cal yX6_forgetMarks cX6_forgetMarks 1 (none) 0 := ⟨am_gw_lw (List.mem_append_right _ (List.mem_of_getElem? (i := 265) (by decide +kernel))) (by decide +kernel), am_gw_lw (List.mem_append_right _ (List.mem_of_getElem? (i := 7) (by decide +kernel))) (by decide +kernel), by decide +kernel⟩
theorem ml_X8_72 : Cond.methodLink RX8 72 yJ7_fill_53178 ∈ am_gw := am_gw_lw (List.mem_append_right _ (List.mem_of_getElem? (i := 266) (by decide +kernel))) (by decide +kernel)
theorem sm_yJ7_fill_53178 : Cond.static yJ7_fill_53178 ∈ am_gw := am_gw_lw (List.mem_append_right _ (List.mem_of_getElem? (i := 267) (by decide +kernel))) (by decide +kernel)
theorem ca_yJ7_fill_53178 : am_cal yJ7_fill_53178 cJ7_fill_53178 4 (none) 2 := ⟨am_gw_lw (List.mem_append_right _ (List.mem_of_getElem? (i := 268) (by decide +kernel))) (by decide +kernel), am_gw_lw (List.mem_append_right _ (List.mem_of_getElem? (i := 10) (by decide +kernel))) (by decide +kernel), by decide +kernel⟩
theorem ml_L_18 : Cond.methodLink RL 18 yX8_vertex ∈ am_gw := am_gw_lw (List.mem_append_right _ (List.mem_of_getElem? (i := 269) (by decide +kernel))) (by decide +kernel)
theorem im_yX8_vertex : Cond.instanceMethod yX8_vertex ∈ am_gw := am_gw_lw (List.mem_append_right _ (List.mem_of_getElem? (i := 270) (by decide +kernel))) (by decide +kernel)
theorem se_yX8_vertex : Cond.selects RX8 yX8_vertex yX8_vertex ∈ am_gw := am_gw_lw (List.mem_append_right _ (List.mem_of_getElem? (i := 271) (by decide +kernel))) (by decide +kernel)
theorem ca_yX8_vertex : am_cal yX8_vertex cX8_vertex 4 (some .int) 2 := ⟨am_gw_lw (List.mem_append_right _ (List.mem_of_getElem? (i := 272) (by decide +kernel))) (by decide +kernel), am_gw_lw (List.mem_append_right _ (List.mem_of_getElem? (i := 1) (by decide +kernel))) (by decide +kernel), by decide +kernel⟩
theorem ml_X8_94 : Cond.methodLink RX8 94 yX8_isNode ∈ am_gw := am_gw_lw (List.mem_append_right _ (List.mem_of_getElem? (i := 273) (by decide +kernel))) (by decide +kernel)
theorem im_yX8_isNode : Cond.instanceMethod yX8_isNode ∈ am_gw := am_gw_lw (List.mem_append_right _ (List.mem_of_getElem? (i := 275) (by decide +kernel))) (by decide +kernel)
theorem ca_yX8_isNode : am_cal yX8_isNode cX8_isNode 2 (some .boolean) 1 := ⟨am_gw_lw (List.mem_append_right _ (List.mem_of_getElem? (i := 276) (by decide +kernel))) (by decide +kernel), am_gw_lw (List.mem_append_right _ (List.mem_of_getElem? (i := 1) (by decide +kernel))) (by decide +kernel), by decide +kernel⟩
theorem ml_X8_98 : Cond.methodLink RX8 98 yX1_addVertex ∈ am_gw := am_gw_lw (List.mem_append_right _ (List.mem_of_getElem? (i := 277) (by decide +kernel))) (by decide +kernel)
theorem im_yX1_addVertex : Cond.instanceMethod yX1_addVertex ∈ am_gw := am_gw_lw (List.mem_append_right _ (List.mem_of_getElem? (i := 278) (by decide +kernel))) (by decide +kernel)
theorem se_yX1_addVertex : Cond.selects RX1 yX1_addVertex yX1_addVertex ∈ am_gw := am_gw_lw (List.mem_append_right _ (List.mem_of_getElem? (i := 279) (by decide +kernel))) (by decide +kernel)
theorem ca_yX1_addVertex : am_cal yX1_addVertex cX1_addVertex 3 (some .int) 2 := ⟨am_gw_lw (List.mem_append_right _ (List.mem_of_getElem? (i := 280) (by decide +kernel))) (by decide +kernel), am_gw_lw (List.mem_append_right _ (List.mem_of_getElem? (i := 2) (by decide +kernel))) (by decide +kernel), by decide +kernel⟩
theorem ml_X8_102 : Cond.methodLink RX8 102 yX7_begin ∈ am_gw := am_gw_lw (List.mem_append_right _ (List.mem_of_getElem? (i := 281) (by decide +kernel))) (by decide +kernel)
theorem im_yX7_begin : Cond.instanceMethod yX7_begin ∈ am_gw := am_gw_lw (List.mem_append_right _ (List.mem_of_getElem? (i := 282) (by decide +kernel))) (by decide +kernel)
theorem se_yX7_begin : Cond.selects RX7 yX7_begin yX7_begin ∈ am_gw := am_gw_lw (List.mem_append_right _ (List.mem_of_getElem? (i := 283) (by decide +kernel))) (by decide +kernel)
theorem ca_yX7_begin : am_cal yX7_begin cX7_begin 3 (none) 2 := ⟨am_gw_lw (List.mem_append_right _ (List.mem_of_getElem? (i := 284) (by decide +kernel))) (by decide +kernel), am_gw_lw (List.mem_append_right _ (List.mem_of_getElem? (i := 3) (by decide +kernel))) (by decide +kernel), by decide +kernel⟩
theorem ml_L_23 : Cond.methodLink RL 23 yX8_arc ∈ am_gw := am_gw_lw (List.mem_append_right _ (List.mem_of_getElem? (i := 285) (by decide +kernel))) (by decide +kernel)
theorem im_yX8_arc : Cond.instanceMethod yX8_arc ∈ am_gw := am_gw_lw (List.mem_append_right _ (List.mem_of_getElem? (i := 286) (by decide +kernel))) (by decide +kernel)
theorem se_yX8_arc : Cond.selects RX8 yX8_arc yX8_arc ∈ am_gw := am_gw_lw (List.mem_append_right _ (List.mem_of_getElem? (i := 287) (by decide +kernel))) (by decide +kernel)
theorem ca_yX8_arc : am_cal yX8_arc cX8_arc 4 (some .int) 3 := ⟨am_gw_lw (List.mem_append_right _ (List.mem_of_getElem? (i := 288) (by decide +kernel))) (by decide +kernel), am_gw_lw (List.mem_append_right _ (List.mem_of_getElem? (i := 1) (by decide +kernel))) (by decide +kernel), by decide +kernel⟩
theorem ml_X8_106 : Cond.methodLink RX8 106 yX8_isVertex ∈ am_gw := am_gw_lw (List.mem_append_right _ (List.mem_of_getElem? (i := 289) (by decide +kernel))) (by decide +kernel)
theorem im_yX8_isVertex : Cond.instanceMethod yX8_isVertex ∈ am_gw := am_gw_lw (List.mem_append_right _ (List.mem_of_getElem? (i := 291) (by decide +kernel))) (by decide +kernel)
theorem ca_yX8_isVertex : am_cal yX8_isVertex cX8_isVertex 2 (some .boolean) 1 := ⟨am_gw_lw (List.mem_append_right _ (List.mem_of_getElem? (i := 292) (by decide +kernel))) (by decide +kernel), am_gw_lw (List.mem_append_right _ (List.mem_of_getElem? (i := 1) (by decide +kernel))) (by decide +kernel), by decide +kernel⟩
theorem ml_X8_112 : Cond.methodLink RX8 112 yX1_addArc ∈ am_gw := am_gw_lw (List.mem_append_right _ (List.mem_of_getElem? (i := 293) (by decide +kernel))) (by decide +kernel)
theorem im_yX1_addArc : Cond.instanceMethod yX1_addArc ∈ am_gw := am_gw_lw (List.mem_append_right _ (List.mem_of_getElem? (i := 294) (by decide +kernel))) (by decide +kernel)
theorem se_yX1_addArc : Cond.selects RX1 yX1_addArc yX1_addArc ∈ am_gw := am_gw_lw (List.mem_append_right _ (List.mem_of_getElem? (i := 295) (by decide +kernel))) (by decide +kernel)
theorem ca_yX1_addArc : am_cal yX1_addArc cX1_addArc 4 (some .int) 3 := ⟨am_gw_lw (List.mem_append_right _ (List.mem_of_getElem? (i := 296) (by decide +kernel))) (by decide +kernel), am_gw_lw (List.mem_append_right _ (List.mem_of_getElem? (i := 2) (by decide +kernel))) (by decide +kernel), by decide +kernel⟩
theorem ml_L_28 : Cond.methodLink RL 28 yX8_kind ∈ am_gw := am_gw_lw (List.mem_append_right _ (List.mem_of_getElem? (i := 297) (by decide +kernel))) (by decide +kernel)
theorem im_yX8_kind : Cond.instanceMethod yX8_kind ∈ am_gw := am_gw_lw (List.mem_append_right _ (List.mem_of_getElem? (i := 298) (by decide +kernel))) (by decide +kernel)
theorem se_yX8_kind : Cond.selects RX8 yX8_kind yX8_kind ∈ am_gw := am_gw_lw (List.mem_append_right _ (List.mem_of_getElem? (i := 299) (by decide +kernel))) (by decide +kernel)
theorem ca_yX8_kind : am_cal yX8_kind cX8_kind 3 (some .int) 1 := ⟨am_gw_lw (List.mem_append_right _ (List.mem_of_getElem? (i := 300) (by decide +kernel))) (by decide +kernel), am_gw_lw (List.mem_append_right _ (List.mem_of_getElem? (i := 1) (by decide +kernel))) (by decide +kernel), by decide +kernel⟩
theorem ml_L_32 : Cond.methodLink RL 32 yX8_joined ∈ am_gw := am_gw_lw (List.mem_append_right _ (List.mem_of_getElem? (i := 301) (by decide +kernel))) (by decide +kernel)
theorem im_yX8_joined : Cond.instanceMethod yX8_joined ∈ am_gw := am_gw_lw (List.mem_append_right _ (List.mem_of_getElem? (i := 302) (by decide +kernel))) (by decide +kernel)
theorem se_yX8_joined : Cond.selects RX8 yX8_joined yX8_joined ∈ am_gw := am_gw_lw (List.mem_append_right _ (List.mem_of_getElem? (i := 303) (by decide +kernel))) (by decide +kernel)
theorem ca_yX8_joined : am_cal yX8_joined cX8_joined 3 (some .int) 1 := ⟨am_gw_lw (List.mem_append_right _ (List.mem_of_getElem? (i := 304) (by decide +kernel))) (by decide +kernel), am_gw_lw (List.mem_append_right _ (List.mem_of_getElem? (i := 1) (by decide +kernel))) (by decide +kernel), by decide +kernel⟩
theorem ml_L_37 : Cond.methodLink RL 37 yX8_every ∈ am_gw := am_gw_lw (List.mem_append_right _ (List.mem_of_getElem? (i := 305) (by decide +kernel))) (by decide +kernel)
theorem im_yX8_every : Cond.instanceMethod yX8_every ∈ am_gw := am_gw_lw (List.mem_append_right _ (List.mem_of_getElem? (i := 306) (by decide +kernel))) (by decide +kernel)
theorem se_yX8_every : Cond.selects RX8 yX8_every yX8_every ∈ am_gw := am_gw_lw (List.mem_append_right _ (List.mem_of_getElem? (i := 307) (by decide +kernel))) (by decide +kernel)
theorem ca_yX8_every : am_cal yX8_every cX8_every 3 (some .int) 1 := ⟨am_gw_lw (List.mem_append_right _ (List.mem_of_getElem? (i := 308) (by decide +kernel))) (by decide +kernel), am_gw_lw (List.mem_append_right _ (List.mem_of_getElem? (i := 1) (by decide +kernel))) (by decide +kernel), by decide +kernel⟩
theorem ml_L_41 : Cond.methodLink RL 41 yX8_start ∈ am_gw := am_gw_lw (List.mem_append_right _ (List.mem_of_getElem? (i := 309) (by decide +kernel))) (by decide +kernel)
theorem im_yX8_start : Cond.instanceMethod yX8_start ∈ am_gw := am_gw_lw (List.mem_append_right _ (List.mem_of_getElem? (i := 310) (by decide +kernel))) (by decide +kernel)
theorem se_yX8_start : Cond.selects RX8 yX8_start yX8_start ∈ am_gw := am_gw_lw (List.mem_append_right _ (List.mem_of_getElem? (i := 311) (by decide +kernel))) (by decide +kernel)
theorem ca_yX8_start : am_cal yX8_start cX8_start 2 (some .int) 0 := ⟨am_gw_lw (List.mem_append_right _ (List.mem_of_getElem? (i := 312) (by decide +kernel))) (by decide +kernel), am_gw_lw (List.mem_append_right _ (List.mem_of_getElem? (i := 1) (by decide +kernel))) (by decide +kernel), by decide +kernel⟩
theorem ml_X8_119 : Cond.methodLink RX8 119 yX8_comeInto ∈ am_gw := am_gw_lw (List.mem_append_right _ (List.mem_of_getElem? (i := 313) (by decide +kernel))) (by decide +kernel)
theorem im_yX8_comeInto : Cond.instanceMethod yX8_comeInto ∈ am_gw := am_gw_lw (List.mem_append_right _ (List.mem_of_getElem? (i := 315) (by decide +kernel))) (by decide +kernel)
theorem ca_yX8_comeInto : am_cal yX8_comeInto cX8_comeInto 4 (none) 2 := ⟨am_gw_lw (List.mem_append_right _ (List.mem_of_getElem? (i := 316) (by decide +kernel))) (by decide +kernel), am_gw_lw (List.mem_append_right _ (List.mem_of_getElem? (i := 1) (by decide +kernel))) (by decide +kernel), by decide +kernel⟩
theorem ml_X8_292 : Cond.methodLink RX8 292 yX6_enter ∈ am_gw := am_gw_lw (List.mem_append_right _ (List.mem_of_getElem? (i := 317) (by decide +kernel))) (by decide +kernel)
theorem im_yX6_enter : Cond.instanceMethod yX6_enter ∈ am_gw := am_gw_lw (List.mem_append_right _ (List.mem_of_getElem? (i := 318) (by decide +kernel))) (by decide +kernel)
theorem se_yX6_enter : Cond.selects RX6 yX6_enter yX6_enter ∈ am_gw := am_gw_lw (List.mem_append_right _ (List.mem_of_getElem? (i := 319) (by decide +kernel))) (by decide +kernel)
theorem ca_yX6_enter : am_cal yX6_enter cX6_enter 3 (none) 1 := ⟨am_gw_lw (List.mem_append_right _ (List.mem_of_getElem? (i := 320) (by decide +kernel))) (by decide +kernel), am_gw_lw (List.mem_append_right _ (List.mem_of_getElem? (i := 7) (by decide +kernel))) (by decide +kernel), by decide +kernel⟩
theorem ml_X6_48 : Cond.methodLink RX6 48 yX6_slot ∈ am_gw := am_gw_lw (List.mem_append_right _ (List.mem_of_getElem? (i := 321) (by decide +kernel))) (by decide +kernel)
theorem sm_yX6_slot : Cond.static yX6_slot ∈ am_gw := am_gw_lw (List.mem_append_right _ (List.mem_of_getElem? (i := 322) (by decide +kernel))) (by decide +kernel)
theorem ca_yX6_slot : am_cal yX6_slot cX6_slot 2 (some .int) 2 := ⟨am_gw_lw (List.mem_append_right _ (List.mem_of_getElem? (i := 323) (by decide +kernel))) (by decide +kernel), am_gw_lw (List.mem_append_right _ (List.mem_of_getElem? (i := 7) (by decide +kernel))) (by decide +kernel), by decide +kernel⟩
theorem ml_X8_295 : Cond.methodLink RX8 295 yX8_isMarkRound ∈ am_gw := am_gw_lw (List.mem_append_right _ (List.mem_of_getElem? (i := 324) (by decide +kernel))) (by decide +kernel)
theorem im_yX8_isMarkRound : Cond.instanceMethod yX8_isMarkRound ∈ am_gw := am_gw_lw (List.mem_append_right _ (List.mem_of_getElem? (i := 326) (by decide +kernel))) (by decide +kernel)
theorem ca_yX8_isMarkRound : am_cal yX8_isMarkRound cX8_isMarkRound 2 (some .boolean) 1 := ⟨am_gw_lw (List.mem_append_right _ (List.mem_of_getElem? (i := 327) (by decide +kernel))) (by decide +kernel), am_gw_lw (List.mem_append_right _ (List.mem_of_getElem? (i := 1) (by decide +kernel))) (by decide +kernel), by decide +kernel⟩
theorem ml_X8_223 : Cond.methodLink RX8 223 yX8_keepMark ∈ am_gw := am_gw_lw (List.mem_append_right _ (List.mem_of_getElem? (i := 328) (by decide +kernel))) (by decide +kernel)
theorem im_yX8_keepMark : Cond.instanceMethod yX8_keepMark ∈ am_gw := am_gw_lw (List.mem_append_right _ (List.mem_of_getElem? (i := 330) (by decide +kernel))) (by decide +kernel)
theorem ca_yX8_keepMark : am_cal yX8_keepMark cX8_keepMark 3 (none) 1 := ⟨am_gw_lw (List.mem_append_right _ (List.mem_of_getElem? (i := 331) (by decide +kernel))) (by decide +kernel), am_gw_lw (List.mem_append_right _ (List.mem_of_getElem? (i := 1) (by decide +kernel))) (by decide +kernel), by decide +kernel⟩
theorem ml_X8_298 : Cond.methodLink RX8 298 yX6_nextMark ∈ am_gw := am_gw_lw (List.mem_append_right _ (List.mem_of_getElem? (i := 332) (by decide +kernel))) (by decide +kernel)
theorem im_yX6_nextMark : Cond.instanceMethod yX6_nextMark ∈ am_gw := am_gw_lw (List.mem_append_right _ (List.mem_of_getElem? (i := 333) (by decide +kernel))) (by decide +kernel)
theorem se_yX6_nextMark : Cond.selects RX6 yX6_nextMark yX6_nextMark ∈ am_gw := am_gw_lw (List.mem_append_right _ (List.mem_of_getElem? (i := 334) (by decide +kernel))) (by decide +kernel)
theorem ca_yX6_nextMark : am_cal yX6_nextMark cX6_nextMark 1 (some (.object "SplitNodes$Mark")) 0 := ⟨am_gw_lw (List.mem_append_right _ (List.mem_of_getElem? (i := 335) (by decide +kernel))) (by decide +kernel), am_gw_lw (List.mem_append_right _ (List.mem_of_getElem? (i := 7) (by decide +kernel))) (by decide +kernel), by decide +kernel⟩
theorem ml_X6_66 : Cond.methodLink RX6 66 yX6_swapMarks ∈ am_gw := am_gw_lw (List.mem_append_right _ (List.mem_of_getElem? (i := 336) (by decide +kernel))) (by decide +kernel)
theorem im_yX6_swapMarks : Cond.instanceMethod yX6_swapMarks ∈ am_gw := am_gw_lw (List.mem_append_right _ (List.mem_of_getElem? (i := 338) (by decide +kernel))) (by decide +kernel)
theorem ca_yX6_swapMarks : am_cal yX6_swapMarks cX6_swapMarks 2 (none) 0 := ⟨am_gw_lw (List.mem_append_right _ (List.mem_of_getElem? (i := 339) (by decide +kernel))) (by decide +kernel), am_gw_lw (List.mem_append_right _ (List.mem_of_getElem? (i := 7) (by decide +kernel))) (by decide +kernel), by decide +kernel⟩
theorem ml_X8_204 : Cond.methodLink RX8 204 yX8_copyVertices ∈ am_gw := am_gw_lw (List.mem_append_right _ (List.mem_of_getElem? (i := 340) (by decide +kernel))) (by decide +kernel)
theorem im_yX8_copyVertices : Cond.instanceMethod yX8_copyVertices ∈ am_gw := am_gw_lw (List.mem_append_right _ (List.mem_of_getElem? (i := 342) (by decide +kernel))) (by decide +kernel)
theorem ca_yX8_copyVertices : am_cal yX8_copyVertices cX8_copyVertices 5 (none) 3 := ⟨am_gw_lw (List.mem_append_right _ (List.mem_of_getElem? (i := 343) (by decide +kernel))) (by decide +kernel), am_gw_lw (List.mem_append_right _ (List.mem_of_getElem? (i := 1) (by decide +kernel))) (by decide +kernel), by decide +kernel⟩
theorem ml_X8_302 : Cond.methodLink RX8 302 yX7_copyVertex ∈ am_gw := am_gw_lw (List.mem_append_right _ (List.mem_of_getElem? (i := 344) (by decide +kernel))) (by decide +kernel)
theorem im_yX7_copyVertex : Cond.instanceMethod yX7_copyVertex ∈ am_gw := am_gw_lw (List.mem_append_right _ (List.mem_of_getElem? (i := 345) (by decide +kernel))) (by decide +kernel)
theorem se_yX7_copyVertex : Cond.selects RX7 yX7_copyVertex yX7_copyVertex ∈ am_gw := am_gw_lw (List.mem_append_right _ (List.mem_of_getElem? (i := 346) (by decide +kernel))) (by decide +kernel)
theorem ca_yX7_copyVertex : am_cal yX7_copyVertex cX7_copyVertex 3 (none) 2 := ⟨am_gw_lw (List.mem_append_right _ (List.mem_of_getElem? (i := 347) (by decide +kernel))) (by decide +kernel), am_gw_lw (List.mem_append_right _ (List.mem_of_getElem? (i := 3) (by decide +kernel))) (by decide +kernel), by decide +kernel⟩
theorem ml_X8_208 : Cond.methodLink RX8 208 yX8_writeLetters ∈ am_gw := am_gw_lw (List.mem_append_right _ (List.mem_of_getElem? (i := 348) (by decide +kernel))) (by decide +kernel)
theorem im_yX8_writeLetters : Cond.instanceMethod yX8_writeLetters ∈ am_gw := am_gw_lw (List.mem_append_right _ (List.mem_of_getElem? (i := 350) (by decide +kernel))) (by decide +kernel)
theorem ca_yX8_writeLetters : am_cal yX8_writeLetters cX8_writeLetters 6 (none) 1 := ⟨am_gw_lw (List.mem_append_right _ (List.mem_of_getElem? (i := 351) (by decide +kernel))) (by decide +kernel), am_gw_lw (List.mem_append_right _ (List.mem_of_getElem? (i := 1) (by decide +kernel))) (by decide +kernel), by decide +kernel⟩
theorem ml_X8_250 : Cond.methodLink RX8 250 yX1_activeAt ∈ am_gw := am_gw_lw (List.mem_append_right _ (List.mem_of_getElem? (i := 352) (by decide +kernel))) (by decide +kernel)
theorem im_yX1_activeAt : Cond.instanceMethod yX1_activeAt ∈ am_gw := am_gw_lw (List.mem_append_right _ (List.mem_of_getElem? (i := 353) (by decide +kernel))) (by decide +kernel)
theorem se_yX1_activeAt : Cond.selects RX1 yX1_activeAt yX1_activeAt ∈ am_gw := am_gw_lw (List.mem_append_right _ (List.mem_of_getElem? (i := 354) (by decide +kernel))) (by decide +kernel)
theorem ca_yX1_activeAt : am_cal yX1_activeAt cX1_activeAt 5 (some .int) 2 := ⟨am_gw_lw (List.mem_append_right _ (List.mem_of_getElem? (i := 355) (by decide +kernel))) (by decide +kernel), am_gw_lw (List.mem_append_right _ (List.mem_of_getElem? (i := 2) (by decide +kernel))) (by decide +kernel), by decide +kernel⟩
theorem ml_X8_306 : Cond.methodLink RX8 306 yX0_gather ∈ am_gw := am_gw_lw (List.mem_append_right _ (List.mem_of_getElem? (i := 356) (by decide +kernel))) (by decide +kernel)
theorem im_yX0_gather : Cond.instanceMethod yX0_gather ∈ am_gw := am_gw_lw (List.mem_append_right _ (List.mem_of_getElem? (i := 357) (by decide +kernel))) (by decide +kernel)
theorem se_yX0_gather : Cond.selects RX0 yX0_gather yX0_gather ∈ am_gw := am_gw_lw (List.mem_append_right _ (List.mem_of_getElem? (i := 358) (by decide +kernel))) (by decide +kernel)
theorem ca_yX0_gather : am_cal yX0_gather cX0_gather 7 (none) 5 := ⟨am_gw_lw (List.mem_append_right _ (List.mem_of_getElem? (i := 359) (by decide +kernel))) (by decide +kernel), am_gw_lw (List.mem_append_right _ (List.mem_of_getElem? (i := 5) (by decide +kernel))) (by decide +kernel), by decide +kernel⟩
theorem ml_X0_39 : Cond.methodLink RX0 39 yX0_gatherOf ∈ am_gw := am_gw_lw (List.mem_append_right _ (List.mem_of_getElem? (i := 360) (by decide +kernel))) (by decide +kernel)
theorem im_yX0_gatherOf : Cond.instanceMethod yX0_gatherOf ∈ am_gw := am_gw_lw (List.mem_append_right _ (List.mem_of_getElem? (i := 362) (by decide +kernel))) (by decide +kernel)
theorem ca_yX0_gatherOf : am_cal yX0_gatherOf cX0_gatherOf 10 (none) 5 := ⟨am_gw_lw (List.mem_append_right _ (List.mem_of_getElem? (i := 363) (by decide +kernel))) (by decide +kernel), am_gw_lw (List.mem_append_right _ (List.mem_of_getElem? (i := 5) (by decide +kernel))) (by decide +kernel), by decide +kernel⟩
theorem ml_X0_51 : Cond.methodLink RX0 51 yX1_message ∈ am_gw := am_gw_lw (List.mem_append_right _ (List.mem_of_getElem? (i := 364) (by decide +kernel))) (by decide +kernel)
theorem im_yX1_message : Cond.instanceMethod yX1_message ∈ am_gw := am_gw_lw (List.mem_append_right _ (List.mem_of_getElem? (i := 365) (by decide +kernel))) (by decide +kernel)
theorem se_yX1_message : Cond.selects RX1 yX1_message yX1_message ∈ am_gw := am_gw_lw (List.mem_append_right _ (List.mem_of_getElem? (i := 366) (by decide +kernel))) (by decide +kernel)
theorem ca_yX1_message : am_cal yX1_message cX1_message 5 (some .int) 2 := ⟨am_gw_lw (List.mem_append_right _ (List.mem_of_getElem? (i := 367) (by decide +kernel))) (by decide +kernel), am_gw_lw (List.mem_append_right _ (List.mem_of_getElem? (i := 2) (by decide +kernel))) (by decide +kernel), by decide +kernel⟩
theorem ml_X1_42 : Cond.methodLink RX1 42 yJ9_min_7cf53 ∈ am_gw := am_gw_lw (List.mem_append_right _ (List.mem_of_getElem? (i := 368) (by decide +kernel))) (by decide +kernel)
theorem sm_yJ9_min_7cf53 : Cond.static yJ9_min_7cf53 ∈ am_gw := am_gw_lw (List.mem_append_right _ (List.mem_of_getElem? (i := 369) (by decide +kernel))) (by decide +kernel)
theorem ca_yJ9_min_7cf53 : am_cal yJ9_min_7cf53 cJ9_min_7cf53 2 (some .int) 2 := ⟨am_gw_lw (List.mem_append_right _ (List.mem_of_getElem? (i := 370) (by decide +kernel))) (by decide +kernel), am_gw_lw (List.mem_append_right _ (List.mem_of_getElem? (i := 11) (by decide +kernel))) (by decide +kernel), by decide +kernel⟩
theorem ml_X0_55 : Cond.methodLink RX0 55 yX0_placeOf ∈ am_gw := am_gw_lw (List.mem_append_right _ (List.mem_of_getElem? (i := 371) (by decide +kernel))) (by decide +kernel)
theorem im_yX0_placeOf : Cond.instanceMethod yX0_placeOf ∈ am_gw := am_gw_lw (List.mem_append_right _ (List.mem_of_getElem? (i := 373) (by decide +kernel))) (by decide +kernel)
theorem ca_yX0_placeOf : am_cal yX0_placeOf cX0_placeOf 3 (some .int) 1 := ⟨am_gw_lw (List.mem_append_right _ (List.mem_of_getElem? (i := 374) (by decide +kernel))) (by decide +kernel), am_gw_lw (List.mem_append_right _ (List.mem_of_getElem? (i := 5) (by decide +kernel))) (by decide +kernel), by decide +kernel⟩
theorem nl_X0_62 : (RX0, 62, yX8_fold, RX8) ∈ am_nk := by decide +kernel
theorem sm_yX8_fold : Cond.static yX8_fold ∈ am_gw := am_gw_lw (List.mem_append_right _ (List.mem_of_getElem? (i := 376) (by decide +kernel))) (by decide +kernel)
theorem ca_yX8_fold : am_cal yX8_fold cX8_fold 3 (some .int) 3 := ⟨am_gw_lw (List.mem_append_right _ (List.mem_of_getElem? (i := 377) (by decide +kernel))) (by decide +kernel), am_gw_lw (List.mem_append_right _ (List.mem_of_getElem? (i := 1) (by decide +kernel))) (by decide +kernel), by decide +kernel⟩
theorem ml_X8_322 : Cond.methodLink RX8 322 yJ9_min_7cf53 ∈ am_gw := am_gw_lw (List.mem_append_right _ (List.mem_of_getElem? (i := 378) (by decide +kernel))) (by decide +kernel)
theorem ml_X8_327 : Cond.methodLink RX8 327 yJ9_max_7cf53 ∈ am_gw := am_gw_lw (List.mem_append_right _ (List.mem_of_getElem? (i := 379) (by decide +kernel))) (by decide +kernel)
theorem sm_yJ9_max_7cf53 : Cond.static yJ9_max_7cf53 ∈ am_gw := am_gw_lw (List.mem_append_right _ (List.mem_of_getElem? (i := 380) (by decide +kernel))) (by decide +kernel)
theorem ca_yJ9_max_7cf53 : am_cal yJ9_max_7cf53 cJ9_max_7cf53 2 (some .int) 2 := ⟨am_gw_lw (List.mem_append_right _ (List.mem_of_getElem? (i := 381) (by decide +kernel))) (by decide +kernel), am_gw_lw (List.mem_append_right _ (List.mem_of_getElem? (i := 11) (by decide +kernel))) (by decide +kernel), by decide +kernel⟩
theorem ml_X0_66 : Cond.methodLink RX0 66 yX0_append ∈ am_gw := am_gw_lw (List.mem_append_right _ (List.mem_of_getElem? (i := 382) (by decide +kernel))) (by decide +kernel)
theorem im_yX0_append : Cond.instanceMethod yX0_append ∈ am_gw := am_gw_lw (List.mem_append_right _ (List.mem_of_getElem? (i := 384) (by decide +kernel))) (by decide +kernel)
theorem ca_yX0_append : am_cal yX0_append cX0_append 4 (none) 3 := ⟨am_gw_lw (List.mem_append_right _ (List.mem_of_getElem? (i := 385) (by decide +kernel))) (by decide +kernel), am_gw_lw (List.mem_append_right _ (List.mem_of_getElem? (i := 5) (by decide +kernel))) (by decide +kernel), by decide +kernel⟩
theorem cl_X8_130 : Cond.classLink RX8 130 RX3 ∈ am_gw := am_gw_lw (List.mem_append_right _ (List.mem_of_getElem? (i := 386) (by decide +kernel))) (by decide +kernel)
theorem ins_X3 : Cond.instantiable RX3 8 ∈ am_gw := am_gw_lw (List.mem_append_right _ (List.mem_of_getElem? (i := 387) (by decide +kernel))) (by decide +kernel)
theorem ml_X8_310 : Cond.methodLink RX8 310 yX3_init ∈ am_gw := am_gw_lw (List.mem_append_right _ (List.mem_of_getElem? (i := 388) (by decide +kernel))) (by decide +kernel)
theorem im_yX3_init : Cond.instanceMethod yX3_init ∈ am_gw := am_gw_lw (List.mem_append_right _ (List.mem_of_getElem? (i := 389) (by decide +kernel))) (by decide +kernel)
theorem ca_yX3_init : am_cal yX3_init cX3_init 7 (none) 6 := ⟨am_gw_lw (List.mem_append_right _ (List.mem_of_getElem? (i := 390) (by decide +kernel))) (by decide +kernel), am_gw_lw (List.mem_append_right _ (List.mem_of_getElem? (i := 12) (by decide +kernel))) (by decide +kernel), by decide +kernel⟩
theorem ml_X3_1 : Cond.methodLink RX3 1 Lib.objectInit ∈ am_gw := am_gw_lw (List.mem_append_right _ (List.mem_of_getElem? (i := 391) (by decide +kernel))) (by decide +kernel)
theorem ml_X3_34 : Cond.methodLink RX3 34 yJ7_copyOf_59c91 ∈ am_gw := am_gw_lw (List.mem_append_right _ (List.mem_of_getElem? (i := 392) (by decide +kernel))) (by decide +kernel)
theorem sm_yJ7_copyOf_59c91 : Cond.static yJ7_copyOf_59c91 ∈ am_gw := am_gw_lw (List.mem_append_right _ (List.mem_of_getElem? (i := 393) (by decide +kernel))) (by decide +kernel)
theorem ca_yJ7_copyOf_59c91 : am_cal yJ7_copyOf_59c91 cJ7_copyOf_59c91 3 (some (.array .int)) 2 := ⟨am_gw_lw (List.mem_append_right _ (List.mem_of_getElem? (i := 394) (by decide +kernel))) (by decide +kernel), am_gw_lw (List.mem_append_right _ (List.mem_of_getElem? (i := 10) (by decide +kernel))) (by decide +kernel), by decide +kernel⟩
theorem ml_J7_316 : Cond.methodLink RJ7 316 ⟨"[I", "clone", "()Ljava/lang/Object;"⟩ ∈ am_gw := am_gw_lw (List.mem_append_right _ (List.mem_of_getElem? (i := 395) (by decide +kernel))) (by decide +kernel)
theorem sam_clone : Cond.sameMethod "[I" "java/lang/Object" "clone" "()Ljava/lang/Object;" ∈ am_gw := am_gw_lw (List.mem_append_right _ (List.mem_of_getElem? (i := 396) (by decide +kernel))) (by decide +kernel)
theorem nt_javalangObjectcloneLjavalangObject : Cond.native ⟨"java/lang/Object", "clone", "()Ljava/lang/Object;"⟩ ∈ am_gw := am_gw_lw (List.mem_append_right _ (List.mem_of_getElem? (i := 397) (by decide +kernel))) (by decide +kernel)
theorem im_javalangObjectcloneLjavalangObject : Cond.instanceMethod ⟨"java/lang/Object", "clone", "()Ljava/lang/Object;"⟩ ∈ am_gw := am_gw_lw (List.mem_append_right _ (List.mem_of_getElem? (i := 398) (by decide +kernel))) (by decide +kernel)
theorem se_IcloneLjavalangObject : Cond.selects "[I" ⟨"[I", "clone", "()Ljava/lang/Object;"⟩ ⟨"java/lang/Object", "clone", "()Ljava/lang/Object;"⟩ ∈ am_gw := am_gw_lw (List.mem_append_right _ (List.mem_of_getElem? (i := 399) (by decide +kernel))) (by decide +kernel)
theorem cast_lw : Cond.castable "[I" "java/lang/Cloneable" ∈ lw_tbl := List.mem_append_right _ (List.mem_of_getElem? (i := 400) (by decide +kernel))
theorem cl_J7_317 : Cond.classLink RJ7 317 "[I" ∈ am_gw := am_gw_lw (List.mem_append_right _ (List.mem_of_getElem? (i := 401) (by decide +kernel))) (by decide +kernel)
theorem ml_J7_304 : Cond.methodLink RJ7 304 yJ9_min_7cf53 ∈ am_gw := am_gw_lw (List.mem_append_right _ (List.mem_of_getElem? (i := 402) (by decide +kernel))) (by decide +kernel)
theorem ml_J7_150 : Cond.methodLink RJ7 150 arraycopyName ∈ am_gw := am_gw_lw (List.mem_append_right _ (List.mem_of_getElem? (i := 403) (by decide +kernel))) (by decide +kernel)
theorem sm_arraycopyName : Cond.static arraycopyName ∈ am_gw := am_gw_lw (List.mem_append_right _ (List.mem_of_getElem? (i := 404) (by decide +kernel))) (by decide +kernel)
theorem nt_arraycopyName : Cond.native arraycopyName ∈ am_gw := am_gw_lw (List.mem_append_right _ (List.mem_of_getElem? (i := 405) (by decide +kernel))) (by decide +kernel)
theorem fl_X3_7 : Cond.fieldLink RX3 7 (TX3 0).1 (TX3 0).2.1 (TX3 0).2.2.1 ∈ am_gw := am_gw_lw (List.mem_append_right _ (List.mem_of_getElem? (i := 406) (by decide +kernel))) (by decide +kernel)
theorem fl_X8_140 : Cond.fieldLink RX8 140 (TX3 0).1 (TX3 0).2.1 (TX3 0).2.2.1 ∈ am_gw := am_gw_lw (List.mem_append_right _ (List.mem_of_getElem? (i := 407) (by decide +kernel))) (by decide +kernel)
theorem fl_X3_13 : Cond.fieldLink RX3 13 (TX3 1).1 (TX3 1).2.1 (TX3 1).2.2.1 ∈ am_gw := am_gw_lw (List.mem_append_right _ (List.mem_of_getElem? (i := 408) (by decide +kernel))) (by decide +kernel)
theorem fl_X6_52 : Cond.fieldLink RX6 52 (TX3 1).1 (TX3 1).2.1 (TX3 1).2.2.1 ∈ am_gw := am_gw_lw (List.mem_append_right _ (List.mem_of_getElem? (i := 409) (by decide +kernel))) (by decide +kernel)
theorem fl_X8_137 : Cond.fieldLink RX8 137 (TX3 1).1 (TX3 1).2.1 (TX3 1).2.2.1 ∈ am_gw := am_gw_lw (List.mem_append_right _ (List.mem_of_getElem? (i := 410) (by decide +kernel))) (by decide +kernel)
theorem fl_X3_16 : Cond.fieldLink RX3 16 (TX3 2).1 (TX3 2).2.1 (TX3 2).2.2.1 ∈ am_gw := am_gw_lw (List.mem_append_right _ (List.mem_of_getElem? (i := 411) (by decide +kernel))) (by decide +kernel)
theorem fl_X6_53 : Cond.fieldLink RX6 53 (TX3 2).1 (TX3 2).2.1 (TX3 2).2.2.1 ∈ am_gw := am_gw_lw (List.mem_append_right _ (List.mem_of_getElem? (i := 412) (by decide +kernel))) (by decide +kernel)
theorem fl_X8_129 : Cond.fieldLink RX8 129 (TX3 2).1 (TX3 2).2.1 (TX3 2).2.2.1 ∈ am_gw := am_gw_lw (List.mem_append_right _ (List.mem_of_getElem? (i := 413) (by decide +kernel))) (by decide +kernel)
theorem fl_X3_19 : Cond.fieldLink RX3 19 (TX3 3).1 (TX3 3).2.1 (TX3 3).2.2.1 ∈ am_gw := am_gw_lw (List.mem_append_right _ (List.mem_of_getElem? (i := 414) (by decide +kernel))) (by decide +kernel)
theorem fl_X8_134 : Cond.fieldLink RX8 134 (TX3 3).1 (TX3 3).2.1 (TX3 3).2.2.1 ∈ am_gw := am_gw_lw (List.mem_append_right _ (List.mem_of_getElem? (i := 415) (by decide +kernel))) (by decide +kernel)
theorem fl_X6_63 : Cond.fieldLink RX6 63 (TX3 3).1 (TX3 3).2.1 (TX3 3).2.2.1 ∈ am_gw := am_gw_lw (List.mem_append_right _ (List.mem_of_getElem? (i := 416) (by decide +kernel))) (by decide +kernel)
theorem fl_X3_22 : Cond.fieldLink RX3 22 (TX3 4).1 (TX3 4).2.1 (TX3 4).2.2.1 ∈ am_gw := am_gw_lw (List.mem_append_right _ (List.mem_of_getElem? (i := 417) (by decide +kernel))) (by decide +kernel)
theorem fl_X8_144 : Cond.fieldLink RX8 144 (TX3 4).1 (TX3 4).2.1 (TX3 4).2.2.1 ∈ am_gw := am_gw_lw (List.mem_append_right _ (List.mem_of_getElem? (i := 418) (by decide +kernel))) (by decide +kernel)
theorem fl_X6_60 : Cond.fieldLink RX6 60 (TX3 4).1 (TX3 4).2.1 (TX3 4).2.2.1 ∈ am_gw := am_gw_lw (List.mem_append_right _ (List.mem_of_getElem? (i := 419) (by decide +kernel))) (by decide +kernel)
theorem fl_X3_40 : Cond.fieldLink RX3 40 (TX3 5).1 (TX3 5).2.1 (TX3 5).2.2.1 ∈ am_gw := am_gw_lw (List.mem_append_right _ (List.mem_of_getElem? (i := 420) (by decide +kernel))) (by decide +kernel)
theorem fl_X2_26 : Cond.fieldLink RX2 26 (TX3 5).1 (TX3 5).2.1 (TX3 5).2.2.1 ∈ am_gw := am_gw_lw (List.mem_append_right _ (List.mem_of_getElem? (i := 421) (by decide +kernel))) (by decide +kernel)
theorem fl_X8_141 : Cond.fieldLink RX8 141 (TX3 5).1 (TX3 5).2.1 (TX3 5).2.2.1 ∈ am_gw := am_gw_lw (List.mem_append_right _ (List.mem_of_getElem? (i := 422) (by decide +kernel))) (by decide +kernel)
theorem fl_X3_44 : Cond.fieldLink RX3 44 (TX3 6).1 (TX3 6).2.1 (TX3 6).2.2.1 ∈ am_gw := am_gw_lw (List.mem_append_right _ (List.mem_of_getElem? (i := 423) (by decide +kernel))) (by decide +kernel)
theorem fl_X2_31 : Cond.fieldLink RX2 31 (TX3 6).1 (TX3 6).2.1 (TX3 6).2.2.1 ∈ am_gw := am_gw_lw (List.mem_append_right _ (List.mem_of_getElem? (i := 424) (by decide +kernel))) (by decide +kernel)
theorem fl_X8_149 : Cond.fieldLink RX8 149 (TX3 6).1 (TX3 6).2.1 (TX3 6).2.2.1 ∈ am_gw := am_gw_lw (List.mem_append_right _ (List.mem_of_getElem? (i := 425) (by decide +kernel))) (by decide +kernel)
theorem fl_X3_48 : Cond.fieldLink RX3 48 (TX3 7).1 (TX3 7).2.1 (TX3 7).2.2.1 ∈ am_gw := am_gw_lw (List.mem_append_right _ (List.mem_of_getElem? (i := 426) (by decide +kernel))) (by decide +kernel)
theorem fl_X2_34 : Cond.fieldLink RX2 34 (TX3 7).1 (TX3 7).2.1 (TX3 7).2.2.1 ∈ am_gw := am_gw_lw (List.mem_append_right _ (List.mem_of_getElem? (i := 427) (by decide +kernel))) (by decide +kernel)
theorem ml_X8_313 : Cond.methodLink RX8 313 yX6_keep ∈ am_gw := am_gw_lw (List.mem_append_right _ (List.mem_of_getElem? (i := 445) (by decide +kernel))) (by decide +kernel)
theorem im_yX6_keep : Cond.instanceMethod yX6_keep ∈ am_gw := am_gw_lw (List.mem_append_right _ (List.mem_of_getElem? (i := 446) (by decide +kernel))) (by decide +kernel)
theorem se_yX6_keep : Cond.selects RX6 yX6_keep yX6_keep ∈ am_gw := am_gw_lw (List.mem_append_right _ (List.mem_of_getElem? (i := 447) (by decide +kernel))) (by decide +kernel)
theorem ca_yX6_keep : am_cal yX6_keep cX6_keep 2 (none) 1 := ⟨am_gw_lw (List.mem_append_right _ (List.mem_of_getElem? (i := 448) (by decide +kernel))) (by decide +kernel), am_gw_lw (List.mem_append_right _ (List.mem_of_getElem? (i := 7) (by decide +kernel))) (by decide +kernel), by decide +kernel⟩
theorem ml_X8_171 : Cond.methodLink RX8 171 yX5_add ∈ am_gw := am_gw_lw (List.mem_append_right _ (List.mem_of_getElem? (i := 449) (by decide +kernel))) (by decide +kernel)
theorem im_yX5_add : Cond.instanceMethod yX5_add ∈ am_gw := am_gw_lw (List.mem_append_right _ (List.mem_of_getElem? (i := 450) (by decide +kernel))) (by decide +kernel)
theorem se_yX5_add : Cond.selects RX5 yX5_add yX5_add ∈ am_gw := am_gw_lw (List.mem_append_right _ (List.mem_of_getElem? (i := 451) (by decide +kernel))) (by decide +kernel)
theorem ca_yX5_add : am_cal yX5_add cX5_add 2 (some .boolean) 1 := ⟨am_gw_lw (List.mem_append_right _ (List.mem_of_getElem? (i := 452) (by decide +kernel))) (by decide +kernel), am_gw_lw (List.mem_append_right _ (List.mem_of_getElem? (i := 6) (by decide +kernel))) (by decide +kernel), by decide +kernel⟩
theorem ml_L_46 : Cond.methodLink RL 46 yX8_letter ∈ am_gw := am_gw_lw (List.mem_append_right _ (List.mem_of_getElem? (i := 453) (by decide +kernel))) (by decide +kernel)
theorem im_yX8_letter : Cond.instanceMethod yX8_letter ∈ am_gw := am_gw_lw (List.mem_append_right _ (List.mem_of_getElem? (i := 454) (by decide +kernel))) (by decide +kernel)
theorem se_yX8_letter : Cond.selects RX8 yX8_letter yX8_letter ∈ am_gw := am_gw_lw (List.mem_append_right _ (List.mem_of_getElem? (i := 455) (by decide +kernel))) (by decide +kernel)
theorem ca_yX8_letter : am_cal yX8_letter cX8_letter 4 (some .int) 2 := ⟨am_gw_lw (List.mem_append_right _ (List.mem_of_getElem? (i := 456) (by decide +kernel))) (by decide +kernel), am_gw_lw (List.mem_append_right _ (List.mem_of_getElem? (i := 1) (by decide +kernel))) (by decide +kernel), by decide +kernel⟩
theorem ml_X8_125 : Cond.methodLink RX8 125 yX5_at ∈ am_gw := am_gw_lw (List.mem_append_right _ (List.mem_of_getElem? (i := 457) (by decide +kernel))) (by decide +kernel)
theorem im_yX5_at : Cond.instanceMethod yX5_at ∈ am_gw := am_gw_lw (List.mem_append_right _ (List.mem_of_getElem? (i := 458) (by decide +kernel))) (by decide +kernel)
theorem se_yX5_at : Cond.selects RX5 yX5_at yX5_at ∈ am_gw := am_gw_lw (List.mem_append_right _ (List.mem_of_getElem? (i := 459) (by decide +kernel))) (by decide +kernel)
theorem ca_yX5_at : am_cal yX5_at cX5_at 2 (some (.object "SplitNodes$Letter")) 1 := ⟨am_gw_lw (List.mem_append_right _ (List.mem_of_getElem? (i := 460) (by decide +kernel))) (by decide +kernel), am_gw_lw (List.mem_append_right _ (List.mem_of_getElem? (i := 6) (by decide +kernel))) (by decide +kernel), by decide +kernel⟩
theorem ml_L_50 : Cond.methodLink RL 50 yX8_entry ∈ am_gw := am_gw_lw (List.mem_append_right _ (List.mem_of_getElem? (i := 461) (by decide +kernel))) (by decide +kernel)
theorem im_yX8_entry : Cond.instanceMethod yX8_entry ∈ am_gw := am_gw_lw (List.mem_append_right _ (List.mem_of_getElem? (i := 462) (by decide +kernel))) (by decide +kernel)
theorem se_yX8_entry : Cond.selects RX8 yX8_entry yX8_entry ∈ am_gw := am_gw_lw (List.mem_append_right _ (List.mem_of_getElem? (i := 463) (by decide +kernel))) (by decide +kernel)
theorem ca_yX8_entry : am_cal yX8_entry cX8_entry 5 (some .long) 3 := ⟨am_gw_lw (List.mem_append_right _ (List.mem_of_getElem? (i := 464) (by decide +kernel))) (by decide +kernel), am_gw_lw (List.mem_append_right _ (List.mem_of_getElem? (i := 1) (by decide +kernel))) (by decide +kernel), by decide +kernel⟩
theorem kl_X8_147 : Cond.constantLong RX8 147 (-9223372036854775808) ∈ am_gw := am_gw_lw (List.mem_append_right _ (List.mem_of_getElem? (i := 465) (by decide +kernel))) (by decide +kernel)
theorem ml_L_55 : Cond.methodLink RL 55 yX8_deliver ∈ am_gw := am_gw_lw (List.mem_append_right _ (List.mem_of_getElem? (i := 466) (by decide +kernel))) (by decide +kernel)
theorem im_yX8_deliver : Cond.instanceMethod yX8_deliver ∈ am_gw := am_gw_lw (List.mem_append_right _ (List.mem_of_getElem? (i := 467) (by decide +kernel))) (by decide +kernel)
theorem se_yX8_deliver : Cond.selects RX8 yX8_deliver yX8_deliver ∈ am_gw := am_gw_lw (List.mem_append_right _ (List.mem_of_getElem? (i := 468) (by decide +kernel))) (by decide +kernel)
theorem ca_yX8_deliver : am_cal yX8_deliver cX8_deliver 6 (some .int) 1 := ⟨am_gw_lw (List.mem_append_right _ (List.mem_of_getElem? (i := 469) (by decide +kernel))) (by decide +kernel), am_gw_lw (List.mem_append_right _ (List.mem_of_getElem? (i := 1) (by decide +kernel))) (by decide +kernel), by decide +kernel⟩
theorem ml_X8_152 : Cond.methodLink RX8 152 yX5_remove ∈ am_gw := am_gw_lw (List.mem_append_right _ (List.mem_of_getElem? (i := 470) (by decide +kernel))) (by decide +kernel)
theorem im_yX5_remove : Cond.instanceMethod yX5_remove ∈ am_gw := am_gw_lw (List.mem_append_right _ (List.mem_of_getElem? (i := 471) (by decide +kernel))) (by decide +kernel)
theorem se_yX5_remove : Cond.selects RX5 yX5_remove yX5_remove ∈ am_gw := am_gw_lw (List.mem_append_right _ (List.mem_of_getElem? (i := 472) (by decide +kernel))) (by decide +kernel)
theorem ca_yX5_remove : am_cal yX5_remove cX5_remove 3 (none) 1 := ⟨am_gw_lw (List.mem_append_right _ (List.mem_of_getElem? (i := 473) (by decide +kernel))) (by decide +kernel), am_gw_lw (List.mem_append_right _ (List.mem_of_getElem? (i := 6) (by decide +kernel))) (by decide +kernel), by decide +kernel⟩
theorem ml_X8_156 : Cond.methodLink RX8 156 yX8_outcomeOf ∈ am_gw := am_gw_lw (List.mem_append_right _ (List.mem_of_getElem? (i := 474) (by decide +kernel))) (by decide +kernel)
theorem im_yX8_outcomeOf : Cond.instanceMethod yX8_outcomeOf ∈ am_gw := am_gw_lw (List.mem_append_right _ (List.mem_of_getElem? (i := 476) (by decide +kernel))) (by decide +kernel)
theorem ca_yX8_outcomeOf : am_cal yX8_outcomeOf cX8_outcomeOf 3 (some .int) 1 := ⟨am_gw_lw (List.mem_append_right _ (List.mem_of_getElem? (i := 477) (by decide +kernel))) (by decide +kernel), am_gw_lw (List.mem_append_right _ (List.mem_of_getElem? (i := 1) (by decide +kernel))) (by decide +kernel), by decide +kernel⟩
theorem ml_X8_247 : Cond.methodLink RX8 247 yX6_holds ∈ am_gw := am_gw_lw (List.mem_append_right _ (List.mem_of_getElem? (i := 478) (by decide +kernel))) (by decide +kernel)
theorem im_yX6_holds : Cond.instanceMethod yX6_holds ∈ am_gw := am_gw_lw (List.mem_append_right _ (List.mem_of_getElem? (i := 479) (by decide +kernel))) (by decide +kernel)
theorem se_yX6_holds : Cond.selects RX6 yX6_holds yX6_holds ∈ am_gw := am_gw_lw (List.mem_append_right _ (List.mem_of_getElem? (i := 480) (by decide +kernel))) (by decide +kernel)
theorem ca_yX6_holds : am_cal yX6_holds cX6_holds 2 (some .boolean) 1 := ⟨am_gw_lw (List.mem_append_right _ (List.mem_of_getElem? (i := 481) (by decide +kernel))) (by decide +kernel), am_gw_lw (List.mem_append_right _ (List.mem_of_getElem? (i := 7) (by decide +kernel))) (by decide +kernel), by decide +kernel⟩
theorem ml_X8_160 : Cond.methodLink RX8 160 yX6_hold ∈ am_gw := am_gw_lw (List.mem_append_right _ (List.mem_of_getElem? (i := 482) (by decide +kernel))) (by decide +kernel)
theorem im_yX6_hold : Cond.instanceMethod yX6_hold ∈ am_gw := am_gw_lw (List.mem_append_right _ (List.mem_of_getElem? (i := 483) (by decide +kernel))) (by decide +kernel)
theorem se_yX6_hold : Cond.selects RX6 yX6_hold yX6_hold ∈ am_gw := am_gw_lw (List.mem_append_right _ (List.mem_of_getElem? (i := 484) (by decide +kernel))) (by decide +kernel)
theorem ca_yX6_hold : am_cal yX6_hold cX6_hold 2 (none) 1 := ⟨am_gw_lw (List.mem_append_right _ (List.mem_of_getElem? (i := 485) (by decide +kernel))) (by decide +kernel), am_gw_lw (List.mem_append_right _ (List.mem_of_getElem? (i := 7) (by decide +kernel))) (by decide +kernel), by decide +kernel⟩
theorem ml_X8_164 : Cond.methodLink RX8 164 yX8_isComplete ∈ am_gw := am_gw_lw (List.mem_append_right _ (List.mem_of_getElem? (i := 486) (by decide +kernel))) (by decide +kernel)
theorem im_yX8_isComplete : Cond.instanceMethod yX8_isComplete ∈ am_gw := am_gw_lw (List.mem_append_right _ (List.mem_of_getElem? (i := 488) (by decide +kernel))) (by decide +kernel)
theorem ca_yX8_isComplete : am_cal yX8_isComplete cX8_isComplete 2 (some .boolean) 1 := ⟨am_gw_lw (List.mem_append_right _ (List.mem_of_getElem? (i := 489) (by decide +kernel))) (by decide +kernel), am_gw_lw (List.mem_append_right _ (List.mem_of_getElem? (i := 1) (by decide +kernel))) (by decide +kernel), by decide +kernel⟩
theorem ml_X8_239 : Cond.methodLink RX8 239 yX6_lettersHeld ∈ am_gw := am_gw_lw (List.mem_append_right _ (List.mem_of_getElem? (i := 490) (by decide +kernel))) (by decide +kernel)
theorem im_yX6_lettersHeld : Cond.instanceMethod yX6_lettersHeld ∈ am_gw := am_gw_lw (List.mem_append_right _ (List.mem_of_getElem? (i := 491) (by decide +kernel))) (by decide +kernel)
theorem se_yX6_lettersHeld : Cond.selects RX6 yX6_lettersHeld yX6_lettersHeld ∈ am_gw := am_gw_lw (List.mem_append_right _ (List.mem_of_getElem? (i := 492) (by decide +kernel))) (by decide +kernel)
theorem ca_yX6_lettersHeld : am_cal yX6_lettersHeld cX6_lettersHeld 3 (some .int) 0 := ⟨am_gw_lw (List.mem_append_right _ (List.mem_of_getElem? (i := 493) (by decide +kernel))) (by decide +kernel), am_gw_lw (List.mem_append_right _ (List.mem_of_getElem? (i := 7) (by decide +kernel))) (by decide +kernel), by decide +kernel⟩
theorem ml_X6_56 : Cond.methodLink RX6 56 yX6_heldFrom ∈ am_gw := am_gw_lw (List.mem_append_right _ (List.mem_of_getElem? (i := 494) (by decide +kernel))) (by decide +kernel)
theorem im_yX6_heldFrom : Cond.instanceMethod yX6_heldFrom ∈ am_gw := am_gw_lw (List.mem_append_right _ (List.mem_of_getElem? (i := 495) (by decide +kernel))) (by decide +kernel)
theorem se_yX6_heldFrom : Cond.selects RX6 yX6_heldFrom yX6_heldFrom ∈ am_gw := am_gw_lw (List.mem_append_right _ (List.mem_of_getElem? (i := 496) (by decide +kernel))) (by decide +kernel)
theorem ca_yX6_heldFrom : am_cal yX6_heldFrom cX6_heldFrom 2 (some (.object "SplitNodes$Letter")) 1 := ⟨am_gw_lw (List.mem_append_right _ (List.mem_of_getElem? (i := 497) (by decide +kernel))) (by decide +kernel), am_gw_lw (List.mem_append_right _ (List.mem_of_getElem? (i := 7) (by decide +kernel))) (by decide +kernel), by decide +kernel⟩
theorem ml_X8_168 : Cond.methodLink RX8 168 yX8_finishRound ∈ am_gw := am_gw_lw (List.mem_append_right _ (List.mem_of_getElem? (i := 498) (by decide +kernel))) (by decide +kernel)
theorem im_yX8_finishRound : Cond.instanceMethod yX8_finishRound ∈ am_gw := am_gw_lw (List.mem_append_right _ (List.mem_of_getElem? (i := 500) (by decide +kernel))) (by decide +kernel)
theorem ca_yX8_finishRound : am_cal yX8_finishRound cX8_finishRound 3 (none) 1 := ⟨am_gw_lw (List.mem_append_right _ (List.mem_of_getElem? (i := 501) (by decide +kernel))) (by decide +kernel), am_gw_lw (List.mem_append_right _ (List.mem_of_getElem? (i := 1) (by decide +kernel))) (by decide +kernel), by decide +kernel⟩
theorem ml_X8_254 : Cond.methodLink RX8 254 yX6_isToldActive ∈ am_gw := am_gw_lw (List.mem_append_right _ (List.mem_of_getElem? (i := 502) (by decide +kernel))) (by decide +kernel)
theorem im_yX6_isToldActive : Cond.instanceMethod yX6_isToldActive ∈ am_gw := am_gw_lw (List.mem_append_right _ (List.mem_of_getElem? (i := 503) (by decide +kernel))) (by decide +kernel)
theorem se_yX6_isToldActive : Cond.selects RX6 yX6_isToldActive yX6_isToldActive ∈ am_gw := am_gw_lw (List.mem_append_right _ (List.mem_of_getElem? (i := 504) (by decide +kernel))) (by decide +kernel)
theorem ca_yX6_isToldActive : am_cal yX6_isToldActive cX6_isToldActive 3 (some .boolean) 0 := ⟨am_gw_lw (List.mem_append_right _ (List.mem_of_getElem? (i := 505) (by decide +kernel))) (by decide +kernel), am_gw_lw (List.mem_append_right _ (List.mem_of_getElem? (i := 7) (by decide +kernel))) (by decide +kernel), by decide +kernel⟩
theorem ml_X8_257 : Cond.methodLink RX8 257 yX8_takeMessages ∈ am_gw := am_gw_lw (List.mem_append_right _ (List.mem_of_getElem? (i := 506) (by decide +kernel))) (by decide +kernel)
theorem im_yX8_takeMessages : Cond.instanceMethod yX8_takeMessages ∈ am_gw := am_gw_lw (List.mem_append_right _ (List.mem_of_getElem? (i := 508) (by decide +kernel))) (by decide +kernel)
theorem ca_yX8_takeMessages : am_cal yX8_takeMessages cX8_takeMessages 4 (none) 1 := ⟨am_gw_lw (List.mem_append_right _ (List.mem_of_getElem? (i := 509) (by decide +kernel))) (by decide +kernel), am_gw_lw (List.mem_append_right _ (List.mem_of_getElem? (i := 1) (by decide +kernel))) (by decide +kernel), by decide +kernel⟩
theorem ml_X8_260 : Cond.methodLink RX8 260 yX2_clear ∈ am_gw := am_gw_lw (List.mem_append_right _ (List.mem_of_getElem? (i := 510) (by decide +kernel))) (by decide +kernel)
theorem im_yX2_clear : Cond.instanceMethod yX2_clear ∈ am_gw := am_gw_lw (List.mem_append_right _ (List.mem_of_getElem? (i := 511) (by decide +kernel))) (by decide +kernel)
theorem se_yX2_clear : Cond.selects RX2 yX2_clear yX2_clear ∈ am_gw := am_gw_lw (List.mem_append_right _ (List.mem_of_getElem? (i := 512) (by decide +kernel))) (by decide +kernel)
theorem ca_yX2_clear : am_cal yX2_clear cX2_clear 2 (none) 0 := ⟨am_gw_lw (List.mem_append_right _ (List.mem_of_getElem? (i := 513) (by decide +kernel))) (by decide +kernel), am_gw_lw (List.mem_append_right _ (List.mem_of_getElem? (i := 4) (by decide +kernel))) (by decide +kernel), by decide +kernel⟩
theorem ml_X8_261 : Cond.methodLink RX8 261 yX1_leads ∈ am_gw := am_gw_lw (List.mem_append_right _ (List.mem_of_getElem? (i := 514) (by decide +kernel))) (by decide +kernel)
theorem im_yX1_leads : Cond.instanceMethod yX1_leads ∈ am_gw := am_gw_lw (List.mem_append_right _ (List.mem_of_getElem? (i := 515) (by decide +kernel))) (by decide +kernel)
theorem se_yX1_leads : Cond.selects RX1 yX1_leads yX1_leads ∈ am_gw := am_gw_lw (List.mem_append_right _ (List.mem_of_getElem? (i := 516) (by decide +kernel))) (by decide +kernel)
theorem ca_yX1_leads : am_cal yX1_leads cX1_leads 4 (some .boolean) 3 := ⟨am_gw_lw (List.mem_append_right _ (List.mem_of_getElem? (i := 517) (by decide +kernel))) (by decide +kernel), am_gw_lw (List.mem_append_right _ (List.mem_of_getElem? (i := 2) (by decide +kernel))) (by decide +kernel), by decide +kernel⟩
theorem ml_X8_274 : Cond.methodLink RX8 274 yX1_message ∈ am_gw := am_gw_lw (List.mem_append_right _ (List.mem_of_getElem? (i := 518) (by decide +kernel))) (by decide +kernel)
theorem ml_X8_277 : Cond.methodLink RX8 277 yX2_put ∈ am_gw := am_gw_lw (List.mem_append_right _ (List.mem_of_getElem? (i := 519) (by decide +kernel))) (by decide +kernel)
theorem im_yX2_put : Cond.instanceMethod yX2_put ∈ am_gw := am_gw_lw (List.mem_append_right _ (List.mem_of_getElem? (i := 520) (by decide +kernel))) (by decide +kernel)
theorem se_yX2_put : Cond.selects RX2 yX2_put yX2_put ∈ am_gw := am_gw_lw (List.mem_append_right _ (List.mem_of_getElem? (i := 521) (by decide +kernel))) (by decide +kernel)
theorem ca_yX2_put : am_cal yX2_put cX2_put 5 (none) 4 := ⟨am_gw_lw (List.mem_append_right _ (List.mem_of_getElem? (i := 522) (by decide +kernel))) (by decide +kernel), am_gw_lw (List.mem_append_right _ (List.mem_of_getElem? (i := 4) (by decide +kernel))) (by decide +kernel), by decide +kernel⟩
theorem nl_X2_22 : (RX2, 22, yX8_fold, RX8) ∈ am_nk := by decide +kernel
theorem ml_X8_281 : Cond.methodLink RX8 281 yX6_heldFrom ∈ am_gw := am_gw_lw (List.mem_append_right _ (List.mem_of_getElem? (i := 524) (by decide +kernel))) (by decide +kernel)
theorem ml_X8_284 : Cond.methodLink RX8 284 yX2_putAll ∈ am_gw := am_gw_lw (List.mem_append_right _ (List.mem_of_getElem? (i := 525) (by decide +kernel))) (by decide +kernel)
theorem im_yX2_putAll : Cond.instanceMethod yX2_putAll ∈ am_gw := am_gw_lw (List.mem_append_right _ (List.mem_of_getElem? (i := 526) (by decide +kernel))) (by decide +kernel)
theorem se_yX2_putAll : Cond.selects RX2 yX2_putAll yX2_putAll ∈ am_gw := am_gw_lw (List.mem_append_right _ (List.mem_of_getElem? (i := 527) (by decide +kernel))) (by decide +kernel)
theorem ca_yX2_putAll : am_cal yX2_putAll cX2_putAll 4 (none) 2 := ⟨am_gw_lw (List.mem_append_right _ (List.mem_of_getElem? (i := 528) (by decide +kernel))) (by decide +kernel), am_gw_lw (List.mem_append_right _ (List.mem_of_getElem? (i := 4) (by decide +kernel))) (by decide +kernel), by decide +kernel⟩
theorem ml_X2_37 : Cond.methodLink RX2 37 yX2_put ∈ am_gw := am_gw_lw (List.mem_append_right _ (List.mem_of_getElem? (i := 529) (by decide +kernel))) (by decide +kernel)
theorem ml_X8_288 : Cond.methodLink RX8 288 yX2_settle ∈ am_gw := am_gw_lw (List.mem_append_right _ (List.mem_of_getElem? (i := 530) (by decide +kernel))) (by decide +kernel)
theorem im_yX2_settle : Cond.instanceMethod yX2_settle ∈ am_gw := am_gw_lw (List.mem_append_right _ (List.mem_of_getElem? (i := 531) (by decide +kernel))) (by decide +kernel)
theorem se_yX2_settle : Cond.selects RX2 yX2_settle yX2_settle ∈ am_gw := am_gw_lw (List.mem_append_right _ (List.mem_of_getElem? (i := 532) (by decide +kernel))) (by decide +kernel)
theorem ca_yX2_settle : am_cal yX2_settle cX2_settle 6 (none) 3 := ⟨am_gw_lw (List.mem_append_right _ (List.mem_of_getElem? (i := 533) (by decide +kernel))) (by decide +kernel), am_gw_lw (List.mem_append_right _ (List.mem_of_getElem? (i := 4) (by decide +kernel))) (by decide +kernel), by decide +kernel⟩
theorem ml_X2_46 : Cond.methodLink RX2 46 yX2_valueAfter ∈ am_gw := am_gw_lw (List.mem_append_right _ (List.mem_of_getElem? (i := 534) (by decide +kernel))) (by decide +kernel)
theorem im_yX2_valueAfter : Cond.instanceMethod yX2_valueAfter ∈ am_gw := am_gw_lw (List.mem_append_right _ (List.mem_of_getElem? (i := 536) (by decide +kernel))) (by decide +kernel)
theorem ca_yX2_valueAfter : am_cal yX2_valueAfter cX2_valueAfter 5 (some .int) 3 := ⟨am_gw_lw (List.mem_append_right _ (List.mem_of_getElem? (i := 537) (by decide +kernel))) (by decide +kernel), am_gw_lw (List.mem_append_right _ (List.mem_of_getElem? (i := 4) (by decide +kernel))) (by decide +kernel), by decide +kernel⟩
theorem ml_L_59 : Cond.methodLink RL 59 yX8_lose ∈ am_gw := am_gw_lw (List.mem_append_right _ (List.mem_of_getElem? (i := 538) (by decide +kernel))) (by decide +kernel)
theorem im_yX8_lose : Cond.instanceMethod yX8_lose ∈ am_gw := am_gw_lw (List.mem_append_right _ (List.mem_of_getElem? (i := 539) (by decide +kernel))) (by decide +kernel)
theorem se_yX8_lose : Cond.selects RX8 yX8_lose yX8_lose ∈ am_gw := am_gw_lw (List.mem_append_right _ (List.mem_of_getElem? (i := 540) (by decide +kernel))) (by decide +kernel)
theorem ca_yX8_lose : am_cal yX8_lose cX8_lose 2 (some .int) 1 := ⟨am_gw_lw (List.mem_append_right _ (List.mem_of_getElem? (i := 541) (by decide +kernel))) (by decide +kernel), am_gw_lw (List.mem_append_right _ (List.mem_of_getElem? (i := 1) (by decide +kernel))) (by decide +kernel), by decide +kernel⟩
theorem ml_L_63 : Cond.methodLink RL 63 yX8_copy ∈ am_gw := am_gw_lw (List.mem_append_right _ (List.mem_of_getElem? (i := 542) (by decide +kernel))) (by decide +kernel)
theorem im_yX8_copy : Cond.instanceMethod yX8_copy ∈ am_gw := am_gw_lw (List.mem_append_right _ (List.mem_of_getElem? (i := 543) (by decide +kernel))) (by decide +kernel)
theorem se_yX8_copy : Cond.selects RX8 yX8_copy yX8_copy ∈ am_gw := am_gw_lw (List.mem_append_right _ (List.mem_of_getElem? (i := 544) (by decide +kernel))) (by decide +kernel)
theorem ca_yX8_copy : am_cal yX8_copy cX8_copy 3 (some .int) 1 := ⟨am_gw_lw (List.mem_append_right _ (List.mem_of_getElem? (i := 545) (by decide +kernel))) (by decide +kernel), am_gw_lw (List.mem_append_right _ (List.mem_of_getElem? (i := 1) (by decide +kernel))) (by decide +kernel), by decide +kernel⟩
theorem ml_L_67 : Cond.methodLink RL 67 yX8_resend ∈ am_gw := am_gw_lw (List.mem_append_right _ (List.mem_of_getElem? (i := 546) (by decide +kernel))) (by decide +kernel)
theorem im_yX8_resend : Cond.instanceMethod yX8_resend ∈ am_gw := am_gw_lw (List.mem_append_right _ (List.mem_of_getElem? (i := 547) (by decide +kernel))) (by decide +kernel)
theorem se_yX8_resend : Cond.selects RX8 yX8_resend yX8_resend ∈ am_gw := am_gw_lw (List.mem_append_right _ (List.mem_of_getElem? (i := 548) (by decide +kernel))) (by decide +kernel)
theorem ca_yX8_resend : am_cal yX8_resend cX8_resend 7 (some .int) 2 := ⟨am_gw_lw (List.mem_append_right _ (List.mem_of_getElem? (i := 549) (by decide +kernel))) (by decide +kernel), am_gw_lw (List.mem_append_right _ (List.mem_of_getElem? (i := 1) (by decide +kernel))) (by decide +kernel), by decide +kernel⟩
theorem ml_X8_179 : Cond.methodLink RX8 179 yX6_keptFor ∈ am_gw := am_gw_lw (List.mem_append_right _ (List.mem_of_getElem? (i := 550) (by decide +kernel))) (by decide +kernel)
theorem im_yX6_keptFor : Cond.instanceMethod yX6_keptFor ∈ am_gw := am_gw_lw (List.mem_append_right _ (List.mem_of_getElem? (i := 551) (by decide +kernel))) (by decide +kernel)
theorem se_yX6_keptFor : Cond.selects RX6 yX6_keptFor yX6_keptFor ∈ am_gw := am_gw_lw (List.mem_append_right _ (List.mem_of_getElem? (i := 552) (by decide +kernel))) (by decide +kernel)
theorem ca_yX6_keptFor : am_cal yX6_keptFor cX6_keptFor 3 (some (.object "SplitNodes$Letter")) 2 := ⟨am_gw_lw (List.mem_append_right _ (List.mem_of_getElem? (i := 553) (by decide +kernel))) (by decide +kernel), am_gw_lw (List.mem_append_right _ (List.mem_of_getElem? (i := 7) (by decide +kernel))) (by decide +kernel), by decide +kernel⟩
theorem ml_L_71 : Cond.methodLink RL 71 yX8_crash ∈ am_gw := am_gw_lw (List.mem_append_right _ (List.mem_of_getElem? (i := 554) (by decide +kernel))) (by decide +kernel)
theorem im_yX8_crash : Cond.instanceMethod yX8_crash ∈ am_gw := am_gw_lw (List.mem_append_right _ (List.mem_of_getElem? (i := 555) (by decide +kernel))) (by decide +kernel)
theorem se_yX8_crash : Cond.selects RX8 yX8_crash yX8_crash ∈ am_gw := am_gw_lw (List.mem_append_right _ (List.mem_of_getElem? (i := 556) (by decide +kernel))) (by decide +kernel)
theorem ca_yX8_crash : am_cal yX8_crash cX8_crash 2 (some .int) 1 := ⟨am_gw_lw (List.mem_append_right _ (List.mem_of_getElem? (i := 557) (by decide +kernel))) (by decide +kernel), am_gw_lw (List.mem_append_right _ (List.mem_of_getElem? (i := 1) (by decide +kernel))) (by decide +kernel), by decide +kernel⟩
theorem ml_X8_183 : Cond.methodLink RX8 183 yX6_fail ∈ am_gw := am_gw_lw (List.mem_append_right _ (List.mem_of_getElem? (i := 558) (by decide +kernel))) (by decide +kernel)
theorem im_yX6_fail : Cond.instanceMethod yX6_fail ∈ am_gw := am_gw_lw (List.mem_append_right _ (List.mem_of_getElem? (i := 559) (by decide +kernel))) (by decide +kernel)
theorem se_yX6_fail : Cond.selects RX6 yX6_fail yX6_fail ∈ am_gw := am_gw_lw (List.mem_append_right _ (List.mem_of_getElem? (i := 560) (by decide +kernel))) (by decide +kernel)
theorem ca_yX6_fail : am_cal yX6_fail cX6_fail 1 (none) 0 := ⟨am_gw_lw (List.mem_append_right _ (List.mem_of_getElem? (i := 561) (by decide +kernel))) (by decide +kernel), am_gw_lw (List.mem_append_right _ (List.mem_of_getElem? (i := 7) (by decide +kernel))) (by decide +kernel), by decide +kernel⟩
theorem ml_L_75 : Cond.methodLink RL 75 yX8_back ∈ am_gw := am_gw_lw (List.mem_append_right _ (List.mem_of_getElem? (i := 562) (by decide +kernel))) (by decide +kernel)
theorem im_yX8_back : Cond.instanceMethod yX8_back ∈ am_gw := am_gw_lw (List.mem_append_right _ (List.mem_of_getElem? (i := 563) (by decide +kernel))) (by decide +kernel)
theorem se_yX8_back : Cond.selects RX8 yX8_back yX8_back ∈ am_gw := am_gw_lw (List.mem_append_right _ (List.mem_of_getElem? (i := 564) (by decide +kernel))) (by decide +kernel)
theorem ca_yX8_back : am_cal yX8_back cX8_back 4 (some .int) 0 := ⟨am_gw_lw (List.mem_append_right _ (List.mem_of_getElem? (i := 565) (by decide +kernel))) (by decide +kernel), am_gw_lw (List.mem_append_right _ (List.mem_of_getElem? (i := 1) (by decide +kernel))) (by decide +kernel), by decide +kernel⟩
theorem ml_X8_186 : Cond.methodLink RX8 186 yX8_isAnyDown ∈ am_gw := am_gw_lw (List.mem_append_right _ (List.mem_of_getElem? (i := 566) (by decide +kernel))) (by decide +kernel)
theorem im_yX8_isAnyDown : Cond.instanceMethod yX8_isAnyDown ∈ am_gw := am_gw_lw (List.mem_append_right _ (List.mem_of_getElem? (i := 568) (by decide +kernel))) (by decide +kernel)
theorem ca_yX8_isAnyDown : am_cal yX8_isAnyDown cX8_isAnyDown 2 (some .boolean) 0 := ⟨am_gw_lw (List.mem_append_right _ (List.mem_of_getElem? (i := 569) (by decide +kernel))) (by decide +kernel), am_gw_lw (List.mem_append_right _ (List.mem_of_getElem? (i := 1) (by decide +kernel))) (by decide +kernel), by decide +kernel⟩
theorem ml_X8_190 : Cond.methodLink RX8 190 yX8_wholeMark ∈ am_gw := am_gw_lw (List.mem_append_right _ (List.mem_of_getElem? (i := 570) (by decide +kernel))) (by decide +kernel)
theorem im_yX8_wholeMark : Cond.instanceMethod yX8_wholeMark ∈ am_gw := am_gw_lw (List.mem_append_right _ (List.mem_of_getElem? (i := 572) (by decide +kernel))) (by decide +kernel)
theorem ca_yX8_wholeMark : am_cal yX8_wholeMark cX8_wholeMark 2 (some .int) 0 := ⟨am_gw_lw (List.mem_append_right _ (List.mem_of_getElem? (i := 573) (by decide +kernel))) (by decide +kernel), am_gw_lw (List.mem_append_right _ (List.mem_of_getElem? (i := 1) (by decide +kernel))) (by decide +kernel), by decide +kernel⟩
theorem ml_X8_316 : Cond.methodLink RX8 316 yX8_isMarkedByAll ∈ am_gw := am_gw_lw (List.mem_append_right _ (List.mem_of_getElem? (i := 574) (by decide +kernel))) (by decide +kernel)
theorem im_yX8_isMarkedByAll : Cond.instanceMethod yX8_isMarkedByAll ∈ am_gw := am_gw_lw (List.mem_append_right _ (List.mem_of_getElem? (i := 576) (by decide +kernel))) (by decide +kernel)
theorem ca_yX8_isMarkedByAll : am_cal yX8_isMarkedByAll cX8_isMarkedByAll 3 (some .boolean) 1 := ⟨am_gw_lw (List.mem_append_right _ (List.mem_of_getElem? (i := 577) (by decide +kernel))) (by decide +kernel), am_gw_lw (List.mem_append_right _ (List.mem_of_getElem? (i := 1) (by decide +kernel))) (by decide +kernel), by decide +kernel⟩
theorem ml_X8_194 : Cond.methodLink RX8 194 yX6_goBack ∈ am_gw := am_gw_lw (List.mem_append_right _ (List.mem_of_getElem? (i := 578) (by decide +kernel))) (by decide +kernel)
theorem im_yX6_goBack : Cond.instanceMethod yX6_goBack ∈ am_gw := am_gw_lw (List.mem_append_right _ (List.mem_of_getElem? (i := 579) (by decide +kernel))) (by decide +kernel)
theorem se_yX6_goBack : Cond.selects RX6 yX6_goBack yX6_goBack ∈ am_gw := am_gw_lw (List.mem_append_right _ (List.mem_of_getElem? (i := 580) (by decide +kernel))) (by decide +kernel)
theorem ca_yX6_goBack : am_cal yX6_goBack cX6_goBack 2 (none) 1 := ⟨am_gw_lw (List.mem_append_right _ (List.mem_of_getElem? (i := 581) (by decide +kernel))) (by decide +kernel), am_gw_lw (List.mem_append_right _ (List.mem_of_getElem? (i := 7) (by decide +kernel))) (by decide +kernel), by decide +kernel⟩
theorem ml_L_79 : Cond.methodLink RL 79 yX8_move ∈ am_gw := am_gw_lw (List.mem_append_right _ (List.mem_of_getElem? (i := 582) (by decide +kernel))) (by decide +kernel)
theorem im_yX8_move : Cond.instanceMethod yX8_move ∈ am_gw := am_gw_lw (List.mem_append_right _ (List.mem_of_getElem? (i := 583) (by decide +kernel))) (by decide +kernel)
theorem se_yX8_move : Cond.selects RX8 yX8_move yX8_move ∈ am_gw := am_gw_lw (List.mem_append_right _ (List.mem_of_getElem? (i := 584) (by decide +kernel))) (by decide +kernel)
theorem ca_yX8_move : am_cal yX8_move cX8_move 5 (some .int) 2 := ⟨am_gw_lw (List.mem_append_right _ (List.mem_of_getElem? (i := 585) (by decide +kernel))) (by decide +kernel), am_gw_lw (List.mem_append_right _ (List.mem_of_getElem? (i := 1) (by decide +kernel))) (by decide +kernel), by decide +kernel⟩
theorem ml_X8_211 : Cond.methodLink RX8 211 yX8_isLevel ∈ am_gw := am_gw_lw (List.mem_append_right _ (List.mem_of_getElem? (i := 586) (by decide +kernel))) (by decide +kernel)
theorem im_yX8_isLevel : Cond.instanceMethod yX8_isLevel ∈ am_gw := am_gw_lw (List.mem_append_right _ (List.mem_of_getElem? (i := 588) (by decide +kernel))) (by decide +kernel)
theorem ca_yX8_isLevel : am_cal yX8_isLevel cX8_isLevel 3 (some .boolean) 0 := ⟨am_gw_lw (List.mem_append_right _ (List.mem_of_getElem? (i := 589) (by decide +kernel))) (by decide +kernel), am_gw_lw (List.mem_append_right _ (List.mem_of_getElem? (i := 1) (by decide +kernel))) (by decide +kernel), by decide +kernel⟩
theorem ml_X8_217 : Cond.methodLink RX8 217 yX6_forgetLetters ∈ am_gw := am_gw_lw (List.mem_append_right _ (List.mem_of_getElem? (i := 590) (by decide +kernel))) (by decide +kernel)
theorem ml_X8_220 : Cond.methodLink RX8 220 yX6_forgetMarks ∈ am_gw := am_gw_lw (List.mem_append_right _ (List.mem_of_getElem? (i := 591) (by decide +kernel))) (by decide +kernel)
theorem ml_L_83 : Cond.methodLink RL 83 yX8_of ∈ am_gw := am_gw_lw (List.mem_append_right _ (List.mem_of_getElem? (i := 592) (by decide +kernel))) (by decide +kernel)
theorem im_yX8_of : Cond.instanceMethod yX8_of ∈ am_gw := am_gw_lw (List.mem_append_right _ (List.mem_of_getElem? (i := 593) (by decide +kernel))) (by decide +kernel)
theorem se_yX8_of : Cond.selects RX8 yX8_of yX8_of ∈ am_gw := am_gw_lw (List.mem_append_right _ (List.mem_of_getElem? (i := 594) (by decide +kernel))) (by decide +kernel)
theorem ca_yX8_of : am_cal yX8_of cX8_of 4 (some .long) 2 := ⟨am_gw_lw (List.mem_append_right _ (List.mem_of_getElem? (i := 595) (by decide +kernel))) (by decide +kernel), am_gw_lw (List.mem_append_right _ (List.mem_of_getElem? (i := 1) (by decide +kernel))) (by decide +kernel), by decide +kernel⟩
theorem ml_X8_226 : Cond.methodLink RX8 226 yX7_tell ∈ am_gw := am_gw_lw (List.mem_append_right _ (List.mem_of_getElem? (i := 596) (by decide +kernel))) (by decide +kernel)
theorem im_yX7_tell : Cond.instanceMethod yX7_tell ∈ am_gw := am_gw_lw (List.mem_append_right _ (List.mem_of_getElem? (i := 597) (by decide +kernel))) (by decide +kernel)
theorem se_yX7_tell : Cond.selects RX7 yX7_tell yX7_tell ∈ am_gw := am_gw_lw (List.mem_append_right _ (List.mem_of_getElem? (i := 598) (by decide +kernel))) (by decide +kernel)
theorem ca_yX7_tell : am_cal yX7_tell cX7_tell 3 (some .long) 2 := ⟨am_gw_lw (List.mem_append_right _ (List.mem_of_getElem? (i := 599) (by decide +kernel))) (by decide +kernel), am_gw_lw (List.mem_append_right _ (List.mem_of_getElem? (i := 3) (by decide +kernel))) (by decide +kernel), by decide +kernel⟩
theorem kl_X7_22 : Cond.constantLong RX7 22 (-9223372036854775808) ∈ am_gw := am_gw_lw (List.mem_append_right _ (List.mem_of_getElem? (i := 600) (by decide +kernel))) (by decide +kernel)
theorem ml_L_88 : Cond.methodLink RL 88 yX8_alone ∈ am_gw := am_gw_lw (List.mem_append_right _ (List.mem_of_getElem? (i := 601) (by decide +kernel))) (by decide +kernel)
theorem im_yX8_alone : Cond.instanceMethod yX8_alone ∈ am_gw := am_gw_lw (List.mem_append_right _ (List.mem_of_getElem? (i := 602) (by decide +kernel))) (by decide +kernel)
theorem se_yX8_alone : Cond.selects RX8 yX8_alone yX8_alone ∈ am_gw := am_gw_lw (List.mem_append_right _ (List.mem_of_getElem? (i := 603) (by decide +kernel))) (by decide +kernel)
theorem ca_yX8_alone : am_cal yX8_alone cX8_alone 5 (some .long) 3 := ⟨am_gw_lw (List.mem_append_right _ (List.mem_of_getElem? (i := 604) (by decide +kernel))) (by decide +kernel), am_gw_lw (List.mem_append_right _ (List.mem_of_getElem? (i := 1) (by decide +kernel))) (by decide +kernel), by decide +kernel⟩
theorem ml_X8_233 : Cond.methodLink RX8 233 yX8_workAlone ∈ am_gw := am_gw_lw (List.mem_append_right _ (List.mem_of_getElem? (i := 605) (by decide +kernel))) (by decide +kernel)
theorem im_yX8_workAlone : Cond.instanceMethod yX8_workAlone ∈ am_gw := am_gw_lw (List.mem_append_right _ (List.mem_of_getElem? (i := 607) (by decide +kernel))) (by decide +kernel)
theorem ca_yX8_workAlone : am_cal yX8_workAlone cX8_workAlone 2 (none) 0 := ⟨am_gw_lw (List.mem_append_right _ (List.mem_of_getElem? (i := 608) (by decide +kernel))) (by decide +kernel), am_gw_lw (List.mem_append_right _ (List.mem_of_getElem? (i := 1) (by decide +kernel))) (by decide +kernel), by decide +kernel⟩
theorem ml_L_92 : Cond.methodLink RL 92 yX8_node ∈ am_gw := am_gw_lw (List.mem_append_right _ (List.mem_of_getElem? (i := 609) (by decide +kernel))) (by decide +kernel)
theorem im_yX8_node : Cond.instanceMethod yX8_node ∈ am_gw := am_gw_lw (List.mem_append_right _ (List.mem_of_getElem? (i := 610) (by decide +kernel))) (by decide +kernel)
theorem se_yX8_node : Cond.selects RX8 yX8_node yX8_node ∈ am_gw := am_gw_lw (List.mem_append_right _ (List.mem_of_getElem? (i := 611) (by decide +kernel))) (by decide +kernel)
theorem ca_yX8_node : am_cal yX8_node cX8_node 4 (some .int) 2 := ⟨am_gw_lw (List.mem_append_right _ (List.mem_of_getElem? (i := 612) (by decide +kernel))) (by decide +kernel), am_gw_lw (List.mem_append_right _ (List.mem_of_getElem? (i := 1) (by decide +kernel))) (by decide +kernel), by decide +kernel⟩
theorem ml_X8_242 : Cond.methodLink RX8 242 yX1_verticesAt ∈ am_gw := am_gw_lw (List.mem_append_right _ (List.mem_of_getElem? (i := 613) (by decide +kernel))) (by decide +kernel)
theorem im_yX1_verticesAt : Cond.instanceMethod yX1_verticesAt ∈ am_gw := am_gw_lw (List.mem_append_right _ (List.mem_of_getElem? (i := 614) (by decide +kernel))) (by decide +kernel)
theorem se_yX1_verticesAt : Cond.selects RX1 yX1_verticesAt yX1_verticesAt ∈ am_gw := am_gw_lw (List.mem_append_right _ (List.mem_of_getElem? (i := 615) (by decide +kernel))) (by decide +kernel)
theorem ca_yX1_verticesAt : am_cal yX1_verticesAt cX1_verticesAt 4 (some .int) 1 := ⟨am_gw_lw (List.mem_append_right _ (List.mem_of_getElem? (i := 616) (by decide +kernel))) (by decide +kernel), am_gw_lw (List.mem_append_right _ (List.mem_of_getElem? (i := 2) (by decide +kernel))) (by decide +kernel), by decide +kernel⟩
theorem ml_L_96 : Cond.methodLink RL 96 yX8_told ∈ am_gw := am_gw_lw (List.mem_append_right _ (List.mem_of_getElem? (i := 617) (by decide +kernel))) (by decide +kernel)
theorem im_yX8_told : Cond.instanceMethod yX8_told ∈ am_gw := am_gw_lw (List.mem_append_right _ (List.mem_of_getElem? (i := 618) (by decide +kernel))) (by decide +kernel)
theorem se_yX8_told : Cond.selects RX8 yX8_told yX8_told ∈ am_gw := am_gw_lw (List.mem_append_right _ (List.mem_of_getElem? (i := 619) (by decide +kernel))) (by decide +kernel)
theorem ca_yX8_told : am_cal yX8_told cX8_told 2 (some .int) 1 := ⟨am_gw_lw (List.mem_append_right _ (List.mem_of_getElem? (i := 620) (by decide +kernel))) (by decide +kernel), am_gw_lw (List.mem_append_right _ (List.mem_of_getElem? (i := 1) (by decide +kernel))) (by decide +kernel), by decide +kernel⟩
theorem cl_L_10 : Cond.classLink RL 10 RX9 ∈ am_gw := am_gw_lw (List.mem_append_right _ (List.mem_of_getElem? (i := 621) (by decide +kernel))) (by decide +kernel)
theorem ins_X9 : Cond.instantiable RX9 42 ∈ am_gw := am_gw_lw (List.mem_append_right _ (List.mem_of_getElem? (i := 622) (by decide +kernel))) (by decide +kernel)
theorem ml_L_12 : Cond.methodLink RL 12 yX9_init ∈ am_gw := am_gw_lw (List.mem_append_right _ (List.mem_of_getElem? (i := 623) (by decide +kernel))) (by decide +kernel)
theorem im_yX9_init : Cond.instanceMethod yX9_init ∈ am_gw := am_gw_lw (List.mem_append_right _ (List.mem_of_getElem? (i := 624) (by decide +kernel))) (by decide +kernel)
theorem ca_yX9_init : am_cal yX9_init cX9_init 1 (none) 0 := ⟨am_gw_lw (List.mem_append_right _ (List.mem_of_getElem? (i := 625) (by decide +kernel))) (by decide +kernel), am_gw_lw (List.mem_append_right _ (List.mem_of_getElem? (i := 9) (by decide +kernel))) (by decide +kernel), by decide +kernel⟩
theorem ml_X9_1 : Cond.methodLink RX9 1 Lib.objectInit ∈ am_gw := am_gw_lw (List.mem_append_right _ (List.mem_of_getElem? (i := 626) (by decide +kernel))) (by decide +kernel)
theorem ml_X9_111 : Cond.methodLink RX9 111 yX9_wipe ∈ am_gw := am_gw_lw (List.mem_append_right _ (List.mem_of_getElem? (i := 627) (by decide +kernel))) (by decide +kernel)
theorem im_yX9_wipe : Cond.instanceMethod yX9_wipe ∈ am_gw := am_gw_lw (List.mem_append_right _ (List.mem_of_getElem? (i := 629) (by decide +kernel))) (by decide +kernel)
theorem ca_yX9_wipe : am_cal yX9_wipe cX9_wipe 3 (none) 1 := ⟨am_gw_lw (List.mem_append_right _ (List.mem_of_getElem? (i := 630) (by decide +kernel))) (by decide +kernel), am_gw_lw (List.mem_append_right _ (List.mem_of_getElem? (i := 9) (by decide +kernel))) (by decide +kernel), by decide +kernel⟩
theorem fl_X9_7 : Cond.fieldLink RX9 7 (TX9 0).1 (TX9 0).2.1 (TX9 0).2.2.1 ∈ am_gw := am_gw_lw (List.mem_append_right _ (List.mem_of_getElem? (i := 631) (by decide +kernel))) (by decide +kernel)
theorem fl_X9_115 : Cond.fieldLink RX9 115 (TX9 1).1 (TX9 1).2.1 (TX9 1).2.2.1 ∈ am_gw := am_gw_lw (List.mem_append_right _ (List.mem_of_getElem? (i := 632) (by decide +kernel))) (by decide +kernel)
theorem fl_X9_118 : Cond.fieldLink RX9 118 (TX9 2).1 (TX9 2).2.1 (TX9 2).2.2.1 ∈ am_gw := am_gw_lw (List.mem_append_right _ (List.mem_of_getElem? (i := 633) (by decide +kernel))) (by decide +kernel)
theorem fl_X9_121 : Cond.fieldLink RX9 121 (TX9 3).1 (TX9 3).2.1 (TX9 3).2.2.1 ∈ am_gw := am_gw_lw (List.mem_append_right _ (List.mem_of_getElem? (i := 634) (by decide +kernel))) (by decide +kernel)
theorem fl_X9_124 : Cond.fieldLink RX9 124 (TX9 4).1 (TX9 4).2.1 (TX9 4).2.2.1 ∈ am_gw := am_gw_lw (List.mem_append_right _ (List.mem_of_getElem? (i := 635) (by decide +kernel))) (by decide +kernel)
theorem fl_X9_128 : Cond.fieldLink RX9 128 (TX9 5).1 (TX9 5).2.1 (TX9 5).2.2.1 ∈ am_gw := am_gw_lw (List.mem_append_right _ (List.mem_of_getElem? (i := 636) (by decide +kernel))) (by decide +kernel)
theorem fl_X9_131 : Cond.fieldLink RX9 131 (TX9 6).1 (TX9 6).2.1 (TX9 6).2.2.1 ∈ am_gw := am_gw_lw (List.mem_append_right _ (List.mem_of_getElem? (i := 637) (by decide +kernel))) (by decide +kernel)
theorem fl_X9_13 : Cond.fieldLink RX9 13 (TX9 7).1 (TX9 7).2.1 (TX9 7).2.2.1 ∈ am_gw := am_gw_lw (List.mem_append_right _ (List.mem_of_getElem? (i := 638) (by decide +kernel))) (by decide +kernel)
theorem fl_X9_17 : Cond.fieldLink RX9 17 (TX9 8).1 (TX9 8).2.1 (TX9 8).2.2.1 ∈ am_gw := am_gw_lw (List.mem_append_right _ (List.mem_of_getElem? (i := 639) (by decide +kernel))) (by decide +kernel)
theorem fl_X9_20 : Cond.fieldLink RX9 20 (TX9 9).1 (TX9 9).2.1 (TX9 9).2.2.1 ∈ am_gw := am_gw_lw (List.mem_append_right _ (List.mem_of_getElem? (i := 640) (by decide +kernel))) (by decide +kernel)
theorem fl_X9_23 : Cond.fieldLink RX9 23 (TX9 10).1 (TX9 10).2.1 (TX9 10).2.2.1 ∈ am_gw := am_gw_lw (List.mem_append_right _ (List.mem_of_getElem? (i := 641) (by decide +kernel))) (by decide +kernel)
theorem fl_X9_27 : Cond.fieldLink RX9 27 (TX9 11).1 (TX9 11).2.1 (TX9 11).2.2.1 ∈ am_gw := am_gw_lw (List.mem_append_right _ (List.mem_of_getElem? (i := 642) (by decide +kernel))) (by decide +kernel)
theorem fl_X9_30 : Cond.fieldLink RX9 30 (TX9 12).1 (TX9 12).2.1 (TX9 12).2.2.1 ∈ am_gw := am_gw_lw (List.mem_append_right _ (List.mem_of_getElem? (i := 643) (by decide +kernel))) (by decide +kernel)
theorem fl_X9_33 : Cond.fieldLink RX9 33 (TX9 13).1 (TX9 13).2.1 (TX9 13).2.2.1 ∈ am_gw := am_gw_lw (List.mem_append_right _ (List.mem_of_getElem? (i := 644) (by decide +kernel))) (by decide +kernel)
theorem fl_X9_36 : Cond.fieldLink RX9 36 (TX9 14).1 (TX9 14).2.1 (TX9 14).2.2.1 ∈ am_gw := am_gw_lw (List.mem_append_right _ (List.mem_of_getElem? (i := 645) (by decide +kernel))) (by decide +kernel)
theorem fl_X9_39 : Cond.fieldLink RX9 39 (TX9 15).1 (TX9 15).2.1 (TX9 15).2.2.1 ∈ am_gw := am_gw_lw (List.mem_append_right _ (List.mem_of_getElem? (i := 646) (by decide +kernel))) (by decide +kernel)
theorem fl_X9_42 : Cond.fieldLink RX9 42 (TX9 16).1 (TX9 16).2.1 (TX9 16).2.2.1 ∈ am_gw := am_gw_lw (List.mem_append_right _ (List.mem_of_getElem? (i := 647) (by decide +kernel))) (by decide +kernel)
theorem fl_X9_45 : Cond.fieldLink RX9 45 (TX9 17).1 (TX9 17).2.1 (TX9 17).2.2.1 ∈ am_gw := am_gw_lw (List.mem_append_right _ (List.mem_of_getElem? (i := 648) (by decide +kernel))) (by decide +kernel)
theorem fl_X9_134 : Cond.fieldLink RX9 134 (TX9 18).1 (TX9 18).2.1 (TX9 18).2.2.1 ∈ am_gw := am_gw_lw (List.mem_append_right _ (List.mem_of_getElem? (i := 649) (by decide +kernel))) (by decide +kernel)
theorem fl_X9_48 : Cond.fieldLink RX9 48 (TX9 19).1 (TX9 19).2.1 (TX9 19).2.2.1 ∈ am_gw := am_gw_lw (List.mem_append_right _ (List.mem_of_getElem? (i := 650) (by decide +kernel))) (by decide +kernel)
theorem fl_X9_51 : Cond.fieldLink RX9 51 (TX9 20).1 (TX9 20).2.1 (TX9 20).2.2.1 ∈ am_gw := am_gw_lw (List.mem_append_right _ (List.mem_of_getElem? (i := 651) (by decide +kernel))) (by decide +kernel)
theorem fl_X9_54 : Cond.fieldLink RX9 54 (TX9 21).1 (TX9 21).2.1 (TX9 21).2.2.1 ∈ am_gw := am_gw_lw (List.mem_append_right _ (List.mem_of_getElem? (i := 652) (by decide +kernel))) (by decide +kernel)
theorem fl_X9_57 : Cond.fieldLink RX9 57 (TX9 22).1 (TX9 22).2.1 (TX9 22).2.2.1 ∈ am_gw := am_gw_lw (List.mem_append_right _ (List.mem_of_getElem? (i := 653) (by decide +kernel))) (by decide +kernel)
theorem fl_X9_60 : Cond.fieldLink RX9 60 (TX9 23).1 (TX9 23).2.1 (TX9 23).2.2.1 ∈ am_gw := am_gw_lw (List.mem_append_right _ (List.mem_of_getElem? (i := 654) (by decide +kernel))) (by decide +kernel)
theorem fl_X9_63 : Cond.fieldLink RX9 63 (TX9 24).1 (TX9 24).2.1 (TX9 24).2.2.1 ∈ am_gw := am_gw_lw (List.mem_append_right _ (List.mem_of_getElem? (i := 655) (by decide +kernel))) (by decide +kernel)
theorem fl_X9_66 : Cond.fieldLink RX9 66 (TX9 25).1 (TX9 25).2.1 (TX9 25).2.2.1 ∈ am_gw := am_gw_lw (List.mem_append_right _ (List.mem_of_getElem? (i := 656) (by decide +kernel))) (by decide +kernel)
theorem fl_X9_69 : Cond.fieldLink RX9 69 (TX9 26).1 (TX9 26).2.1 (TX9 26).2.2.1 ∈ am_gw := am_gw_lw (List.mem_append_right _ (List.mem_of_getElem? (i := 657) (by decide +kernel))) (by decide +kernel)
theorem fl_X9_72 : Cond.fieldLink RX9 72 (TX9 27).1 (TX9 27).2.1 (TX9 27).2.2.1 ∈ am_gw := am_gw_lw (List.mem_append_right _ (List.mem_of_getElem? (i := 658) (by decide +kernel))) (by decide +kernel)
theorem fl_X9_75 : Cond.fieldLink RX9 75 (TX9 28).1 (TX9 28).2.1 (TX9 28).2.2.1 ∈ am_gw := am_gw_lw (List.mem_append_right _ (List.mem_of_getElem? (i := 659) (by decide +kernel))) (by decide +kernel)
theorem fl_X9_78 : Cond.fieldLink RX9 78 (TX9 29).1 (TX9 29).2.1 (TX9 29).2.2.1 ∈ am_gw := am_gw_lw (List.mem_append_right _ (List.mem_of_getElem? (i := 660) (by decide +kernel))) (by decide +kernel)
theorem fl_X9_81 : Cond.fieldLink RX9 81 (TX9 30).1 (TX9 30).2.1 (TX9 30).2.2.1 ∈ am_gw := am_gw_lw (List.mem_append_right _ (List.mem_of_getElem? (i := 661) (by decide +kernel))) (by decide +kernel)
theorem fl_X9_84 : Cond.fieldLink RX9 84 (TX9 31).1 (TX9 31).2.1 (TX9 31).2.2.1 ∈ am_gw := am_gw_lw (List.mem_append_right _ (List.mem_of_getElem? (i := 662) (by decide +kernel))) (by decide +kernel)
theorem fl_X9_87 : Cond.fieldLink RX9 87 (TX9 32).1 (TX9 32).2.1 (TX9 32).2.2.1 ∈ am_gw := am_gw_lw (List.mem_append_right _ (List.mem_of_getElem? (i := 663) (by decide +kernel))) (by decide +kernel)
theorem fl_X9_137 : Cond.fieldLink RX9 137 (TX9 33).1 (TX9 33).2.1 (TX9 33).2.2.1 ∈ am_gw := am_gw_lw (List.mem_append_right _ (List.mem_of_getElem? (i := 664) (by decide +kernel))) (by decide +kernel)
theorem fl_X9_140 : Cond.fieldLink RX9 140 (TX9 34).1 (TX9 34).2.1 (TX9 34).2.2.1 ∈ am_gw := am_gw_lw (List.mem_append_right _ (List.mem_of_getElem? (i := 665) (by decide +kernel))) (by decide +kernel)
theorem fl_X9_90 : Cond.fieldLink RX9 90 (TX9 35).1 (TX9 35).2.1 (TX9 35).2.2.1 ∈ am_gw := am_gw_lw (List.mem_append_right _ (List.mem_of_getElem? (i := 666) (by decide +kernel))) (by decide +kernel)
theorem fl_X9_93 : Cond.fieldLink RX9 93 (TX9 36).1 (TX9 36).2.1 (TX9 36).2.2.1 ∈ am_gw := am_gw_lw (List.mem_append_right _ (List.mem_of_getElem? (i := 667) (by decide +kernel))) (by decide +kernel)
theorem fl_X9_96 : Cond.fieldLink RX9 96 (TX9 37).1 (TX9 37).2.1 (TX9 37).2.2.1 ∈ am_gw := am_gw_lw (List.mem_append_right _ (List.mem_of_getElem? (i := 668) (by decide +kernel))) (by decide +kernel)
theorem fl_X9_99 : Cond.fieldLink RX9 99 (TX9 38).1 (TX9 38).2.1 (TX9 38).2.2.1 ∈ am_gw := am_gw_lw (List.mem_append_right _ (List.mem_of_getElem? (i := 669) (by decide +kernel))) (by decide +kernel)
theorem fl_X9_102 : Cond.fieldLink RX9 102 (TX9 39).1 (TX9 39).2.1 (TX9 39).2.2.1 ∈ am_gw := am_gw_lw (List.mem_append_right _ (List.mem_of_getElem? (i := 670) (by decide +kernel))) (by decide +kernel)
theorem fl_X9_105 : Cond.fieldLink RX9 105 (TX9 40).1 (TX9 40).2.1 (TX9 40).2.2.1 ∈ am_gw := am_gw_lw (List.mem_append_right _ (List.mem_of_getElem? (i := 671) (by decide +kernel))) (by decide +kernel)
theorem fl_X9_108 : Cond.fieldLink RX9 108 (TX9 41).1 (TX9 41).2.1 (TX9 41).2.2.1 ∈ am_gw := am_gw_lw (List.mem_append_right _ (List.mem_of_getElem? (i := 672) (by decide +kernel))) (by decide +kernel)
theorem ml_L_17 : Cond.methodLink RL 17 yX9_nodes ∈ am_gw := am_gw_lw (List.mem_append_right _ (List.mem_of_getElem? (i := 758) (by decide +kernel))) (by decide +kernel)
theorem im_yX9_nodes : Cond.instanceMethod yX9_nodes ∈ am_gw := am_gw_lw (List.mem_append_right _ (List.mem_of_getElem? (i := 759) (by decide +kernel))) (by decide +kernel)
theorem se_yX9_nodes : Cond.selects RX9 yX9_nodes yX9_nodes ∈ am_gw := am_gw_lw (List.mem_append_right _ (List.mem_of_getElem? (i := 760) (by decide +kernel))) (by decide +kernel)
theorem ca_yX9_nodes : am_cal yX9_nodes cX9_nodes 3 (some .int) 1 := ⟨am_gw_lw (List.mem_append_right _ (List.mem_of_getElem? (i := 761) (by decide +kernel))) (by decide +kernel), am_gw_lw (List.mem_append_right _ (List.mem_of_getElem? (i := 9) (by decide +kernel))) (by decide +kernel), by decide +kernel⟩
theorem ml_X9_143 : Cond.methodLink RX9 143 yX9_in ∈ am_gw := am_gw_lw (List.mem_append_right _ (List.mem_of_getElem? (i := 762) (by decide +kernel))) (by decide +kernel)
theorem sm_yX9_in : Cond.static yX9_in ∈ am_gw := am_gw_lw (List.mem_append_right _ (List.mem_of_getElem? (i := 763) (by decide +kernel))) (by decide +kernel)
theorem ca_yX9_in : am_cal yX9_in cX9_in 3 (some .boolean) 3 := ⟨am_gw_lw (List.mem_append_right _ (List.mem_of_getElem? (i := 764) (by decide +kernel))) (by decide +kernel), am_gw_lw (List.mem_append_right _ (List.mem_of_getElem? (i := 9) (by decide +kernel))) (by decide +kernel), by decide +kernel⟩
theorem ml_L_22 : Cond.methodLink RL 22 yX9_vertex ∈ am_gw := am_gw_lw (List.mem_append_right _ (List.mem_of_getElem? (i := 765) (by decide +kernel))) (by decide +kernel)
theorem im_yX9_vertex : Cond.instanceMethod yX9_vertex ∈ am_gw := am_gw_lw (List.mem_append_right _ (List.mem_of_getElem? (i := 766) (by decide +kernel))) (by decide +kernel)
theorem se_yX9_vertex : Cond.selects RX9 yX9_vertex yX9_vertex ∈ am_gw := am_gw_lw (List.mem_append_right _ (List.mem_of_getElem? (i := 767) (by decide +kernel))) (by decide +kernel)
theorem ca_yX9_vertex : am_cal yX9_vertex cX9_vertex 3 (some .int) 2 := ⟨am_gw_lw (List.mem_append_right _ (List.mem_of_getElem? (i := 768) (by decide +kernel))) (by decide +kernel), am_gw_lw (List.mem_append_right _ (List.mem_of_getElem? (i := 9) (by decide +kernel))) (by decide +kernel), by decide +kernel⟩
theorem ml_X9_147 : Cond.methodLink RX9 147 yX9_isNode ∈ am_gw := am_gw_lw (List.mem_append_right _ (List.mem_of_getElem? (i := 769) (by decide +kernel))) (by decide +kernel)
theorem im_yX9_isNode : Cond.instanceMethod yX9_isNode ∈ am_gw := am_gw_lw (List.mem_append_right _ (List.mem_of_getElem? (i := 771) (by decide +kernel))) (by decide +kernel)
theorem ca_yX9_isNode : am_cal yX9_isNode cX9_isNode 2 (some .boolean) 1 := ⟨am_gw_lw (List.mem_append_right _ (List.mem_of_getElem? (i := 772) (by decide +kernel))) (by decide +kernel), am_gw_lw (List.mem_append_right _ (List.mem_of_getElem? (i := 9) (by decide +kernel))) (by decide +kernel), by decide +kernel⟩
theorem ml_L_27 : Cond.methodLink RL 27 yX9_arc ∈ am_gw := am_gw_lw (List.mem_append_right _ (List.mem_of_getElem? (i := 773) (by decide +kernel))) (by decide +kernel)
theorem im_yX9_arc : Cond.instanceMethod yX9_arc ∈ am_gw := am_gw_lw (List.mem_append_right _ (List.mem_of_getElem? (i := 774) (by decide +kernel))) (by decide +kernel)
theorem se_yX9_arc : Cond.selects RX9 yX9_arc yX9_arc ∈ am_gw := am_gw_lw (List.mem_append_right _ (List.mem_of_getElem? (i := 775) (by decide +kernel))) (by decide +kernel)
theorem ca_yX9_arc : am_cal yX9_arc cX9_arc 4 (some .int) 3 := ⟨am_gw_lw (List.mem_append_right _ (List.mem_of_getElem? (i := 776) (by decide +kernel))) (by decide +kernel), am_gw_lw (List.mem_append_right _ (List.mem_of_getElem? (i := 9) (by decide +kernel))) (by decide +kernel), by decide +kernel⟩
theorem ml_X9_151 : Cond.methodLink RX9 151 yX9_isVertex ∈ am_gw := am_gw_lw (List.mem_append_right _ (List.mem_of_getElem? (i := 777) (by decide +kernel))) (by decide +kernel)
theorem im_yX9_isVertex : Cond.instanceMethod yX9_isVertex ∈ am_gw := am_gw_lw (List.mem_append_right _ (List.mem_of_getElem? (i := 779) (by decide +kernel))) (by decide +kernel)
theorem ca_yX9_isVertex : am_cal yX9_isVertex cX9_isVertex 2 (some .boolean) 1 := ⟨am_gw_lw (List.mem_append_right _ (List.mem_of_getElem? (i := 780) (by decide +kernel))) (by decide +kernel), am_gw_lw (List.mem_append_right _ (List.mem_of_getElem? (i := 9) (by decide +kernel))) (by decide +kernel), by decide +kernel⟩
theorem ml_L_31 : Cond.methodLink RL 31 yX9_kind ∈ am_gw := am_gw_lw (List.mem_append_right _ (List.mem_of_getElem? (i := 781) (by decide +kernel))) (by decide +kernel)
theorem im_yX9_kind : Cond.instanceMethod yX9_kind ∈ am_gw := am_gw_lw (List.mem_append_right _ (List.mem_of_getElem? (i := 782) (by decide +kernel))) (by decide +kernel)
theorem se_yX9_kind : Cond.selects RX9 yX9_kind yX9_kind ∈ am_gw := am_gw_lw (List.mem_append_right _ (List.mem_of_getElem? (i := 783) (by decide +kernel))) (by decide +kernel)
theorem ca_yX9_kind : am_cal yX9_kind cX9_kind 3 (some .int) 1 := ⟨am_gw_lw (List.mem_append_right _ (List.mem_of_getElem? (i := 784) (by decide +kernel))) (by decide +kernel), am_gw_lw (List.mem_append_right _ (List.mem_of_getElem? (i := 9) (by decide +kernel))) (by decide +kernel), by decide +kernel⟩
theorem ml_L_36 : Cond.methodLink RL 36 yX9_joined ∈ am_gw := am_gw_lw (List.mem_append_right _ (List.mem_of_getElem? (i := 785) (by decide +kernel))) (by decide +kernel)
theorem im_yX9_joined : Cond.instanceMethod yX9_joined ∈ am_gw := am_gw_lw (List.mem_append_right _ (List.mem_of_getElem? (i := 786) (by decide +kernel))) (by decide +kernel)
theorem se_yX9_joined : Cond.selects RX9 yX9_joined yX9_joined ∈ am_gw := am_gw_lw (List.mem_append_right _ (List.mem_of_getElem? (i := 787) (by decide +kernel))) (by decide +kernel)
theorem ca_yX9_joined : am_cal yX9_joined cX9_joined 3 (some .int) 1 := ⟨am_gw_lw (List.mem_append_right _ (List.mem_of_getElem? (i := 788) (by decide +kernel))) (by decide +kernel), am_gw_lw (List.mem_append_right _ (List.mem_of_getElem? (i := 9) (by decide +kernel))) (by decide +kernel), by decide +kernel⟩
theorem ml_L_40 : Cond.methodLink RL 40 yX9_every ∈ am_gw := am_gw_lw (List.mem_append_right _ (List.mem_of_getElem? (i := 789) (by decide +kernel))) (by decide +kernel)
theorem im_yX9_every : Cond.instanceMethod yX9_every ∈ am_gw := am_gw_lw (List.mem_append_right _ (List.mem_of_getElem? (i := 790) (by decide +kernel))) (by decide +kernel)
theorem se_yX9_every : Cond.selects RX9 yX9_every yX9_every ∈ am_gw := am_gw_lw (List.mem_append_right _ (List.mem_of_getElem? (i := 791) (by decide +kernel))) (by decide +kernel)
theorem ca_yX9_every : am_cal yX9_every cX9_every 3 (some .int) 1 := ⟨am_gw_lw (List.mem_append_right _ (List.mem_of_getElem? (i := 792) (by decide +kernel))) (by decide +kernel), am_gw_lw (List.mem_append_right _ (List.mem_of_getElem? (i := 9) (by decide +kernel))) (by decide +kernel), by decide +kernel⟩
theorem ml_L_45 : Cond.methodLink RL 45 yX9_start ∈ am_gw := am_gw_lw (List.mem_append_right _ (List.mem_of_getElem? (i := 793) (by decide +kernel))) (by decide +kernel)
theorem im_yX9_start : Cond.instanceMethod yX9_start ∈ am_gw := am_gw_lw (List.mem_append_right _ (List.mem_of_getElem? (i := 794) (by decide +kernel))) (by decide +kernel)
theorem se_yX9_start : Cond.selects RX9 yX9_start yX9_start ∈ am_gw := am_gw_lw (List.mem_append_right _ (List.mem_of_getElem? (i := 795) (by decide +kernel))) (by decide +kernel)
theorem ca_yX9_start : am_cal yX9_start cX9_start 2 (some .int) 0 := ⟨am_gw_lw (List.mem_append_right _ (List.mem_of_getElem? (i := 796) (by decide +kernel))) (by decide +kernel), am_gw_lw (List.mem_append_right _ (List.mem_of_getElem? (i := 9) (by decide +kernel))) (by decide +kernel), by decide +kernel⟩
theorem ml_X9_205 : Cond.methodLink RX9 205 yX9_come ∈ am_gw := am_gw_lw (List.mem_append_right _ (List.mem_of_getElem? (i := 797) (by decide +kernel))) (by decide +kernel)
theorem im_yX9_come : Cond.instanceMethod yX9_come ∈ am_gw := am_gw_lw (List.mem_append_right _ (List.mem_of_getElem? (i := 799) (by decide +kernel))) (by decide +kernel)
theorem ca_yX9_come : am_cal yX9_come cX9_come 4 (none) 2 := ⟨am_gw_lw (List.mem_append_right _ (List.mem_of_getElem? (i := 800) (by decide +kernel))) (by decide +kernel), am_gw_lw (List.mem_append_right _ (List.mem_of_getElem? (i := 9) (by decide +kernel))) (by decide +kernel), by decide +kernel⟩
theorem ml_X9_181 : Cond.methodLink RX9 181 yX9_has ∈ am_gw := am_gw_lw (List.mem_append_right _ (List.mem_of_getElem? (i := 801) (by decide +kernel))) (by decide +kernel)
theorem im_yX9_has : Cond.instanceMethod yX9_has ∈ am_gw := am_gw_lw (List.mem_append_right _ (List.mem_of_getElem? (i := 803) (by decide +kernel))) (by decide +kernel)
theorem ca_yX9_has : am_cal yX9_has cX9_has 4 (some .int) 3 := ⟨am_gw_lw (List.mem_append_right _ (List.mem_of_getElem? (i := 804) (by decide +kernel))) (by decide +kernel), am_gw_lw (List.mem_append_right _ (List.mem_of_getElem? (i := 9) (by decide +kernel))) (by decide +kernel), by decide +kernel⟩
theorem ml_X9_173 : Cond.methodLink RX9 173 yX9_lay ∈ am_gw := am_gw_lw (List.mem_append_right _ (List.mem_of_getElem? (i := 805) (by decide +kernel))) (by decide +kernel)
theorem im_yX9_lay : Cond.instanceMethod yX9_lay ∈ am_gw := am_gw_lw (List.mem_append_right _ (List.mem_of_getElem? (i := 807) (by decide +kernel))) (by decide +kernel)
theorem ca_yX9_lay : am_cal yX9_lay cX9_lay 4 (none) 2 := ⟨am_gw_lw (List.mem_append_right _ (List.mem_of_getElem? (i := 808) (by decide +kernel))) (by decide +kernel), am_gw_lw (List.mem_append_right _ (List.mem_of_getElem? (i := 9) (by decide +kernel))) (by decide +kernel), by decide +kernel⟩
theorem ml_X9_158 : Cond.methodLink RX9 158 yX9_keeps ∈ am_gw := am_gw_lw (List.mem_append_right _ (List.mem_of_getElem? (i := 809) (by decide +kernel))) (by decide +kernel)
theorem im_yX9_keeps : Cond.instanceMethod yX9_keeps ∈ am_gw := am_gw_lw (List.mem_append_right _ (List.mem_of_getElem? (i := 811) (by decide +kernel))) (by decide +kernel)
theorem ca_yX9_keeps : am_cal yX9_keeps cX9_keeps 4 (some .int) 3 := ⟨am_gw_lw (List.mem_append_right _ (List.mem_of_getElem? (i := 812) (by decide +kernel))) (by decide +kernel), am_gw_lw (List.mem_append_right _ (List.mem_of_getElem? (i := 9) (by decide +kernel))) (by decide +kernel), by decide +kernel⟩
theorem ml_X9_184 : Cond.methodLink RX9 184 yX9_mark ∈ am_gw := am_gw_lw (List.mem_append_right _ (List.mem_of_getElem? (i := 813) (by decide +kernel))) (by decide +kernel)
theorem im_yX9_mark : Cond.instanceMethod yX9_mark ∈ am_gw := am_gw_lw (List.mem_append_right _ (List.mem_of_getElem? (i := 815) (by decide +kernel))) (by decide +kernel)
theorem ca_yX9_mark : am_cal yX9_mark cX9_mark 4 (none) 1 := ⟨am_gw_lw (List.mem_append_right _ (List.mem_of_getElem? (i := 816) (by decide +kernel))) (by decide +kernel), am_gw_lw (List.mem_append_right _ (List.mem_of_getElem? (i := 9) (by decide +kernel))) (by decide +kernel), by decide +kernel⟩
theorem ml_X9_177 : Cond.methodLink RX9 177 yX9_layMark ∈ am_gw := am_gw_lw (List.mem_append_right _ (List.mem_of_getElem? (i := 817) (by decide +kernel))) (by decide +kernel)
theorem im_yX9_layMark : Cond.instanceMethod yX9_layMark ∈ am_gw := am_gw_lw (List.mem_append_right _ (List.mem_of_getElem? (i := 819) (by decide +kernel))) (by decide +kernel)
theorem ca_yX9_layMark : am_cal yX9_layMark cX9_layMark 4 (none) 3 := ⟨am_gw_lw (List.mem_append_right _ (List.mem_of_getElem? (i := 820) (by decide +kernel))) (by decide +kernel), am_gw_lw (List.mem_append_right _ (List.mem_of_getElem? (i := 9) (by decide +kernel))) (by decide +kernel), by decide +kernel⟩
theorem ml_X9_187 : Cond.methodLink RX9 187 yX9_write ∈ am_gw := am_gw_lw (List.mem_append_right _ (List.mem_of_getElem? (i := 821) (by decide +kernel))) (by decide +kernel)
theorem im_yX9_write : Cond.instanceMethod yX9_write ∈ am_gw := am_gw_lw (List.mem_append_right _ (List.mem_of_getElem? (i := 823) (by decide +kernel))) (by decide +kernel)
theorem ca_yX9_write : am_cal yX9_write cX9_write 6 (none) 1 := ⟨am_gw_lw (List.mem_append_right _ (List.mem_of_getElem? (i := 824) (by decide +kernel))) (by decide +kernel), am_gw_lw (List.mem_append_right _ (List.mem_of_getElem? (i := 9) (by decide +kernel))) (by decide +kernel), by decide +kernel⟩
theorem ml_X9_162 : Cond.methodLink RX9 162 yX9_activeAt ∈ am_gw := am_gw_lw (List.mem_append_right _ (List.mem_of_getElem? (i := 825) (by decide +kernel))) (by decide +kernel)
theorem im_yX9_activeAt : Cond.instanceMethod yX9_activeAt ∈ am_gw := am_gw_lw (List.mem_append_right _ (List.mem_of_getElem? (i := 827) (by decide +kernel))) (by decide +kernel)
theorem ca_yX9_activeAt : am_cal yX9_activeAt cX9_activeAt 4 (some .int) 1 := ⟨am_gw_lw (List.mem_append_right _ (List.mem_of_getElem? (i := 828) (by decide +kernel))) (by decide +kernel), am_gw_lw (List.mem_append_right _ (List.mem_of_getElem? (i := 9) (by decide +kernel))) (by decide +kernel), by decide +kernel⟩
theorem ml_X9_166 : Cond.methodLink RX9 166 yX9_message ∈ am_gw := am_gw_lw (List.mem_append_right _ (List.mem_of_getElem? (i := 829) (by decide +kernel))) (by decide +kernel)
theorem im_yX9_message : Cond.instanceMethod yX9_message ∈ am_gw := am_gw_lw (List.mem_append_right _ (List.mem_of_getElem? (i := 831) (by decide +kernel))) (by decide +kernel)
theorem ca_yX9_message : am_cal yX9_message cX9_message 3 (some .int) 2 := ⟨am_gw_lw (List.mem_append_right _ (List.mem_of_getElem? (i := 832) (by decide +kernel))) (by decide +kernel), am_gw_lw (List.mem_append_right _ (List.mem_of_getElem? (i := 9) (by decide +kernel))) (by decide +kernel), by decide +kernel⟩
theorem ml_X9_169 : Cond.methodLink RX9 169 yX9_addEntry ∈ am_gw := am_gw_lw (List.mem_append_right _ (List.mem_of_getElem? (i := 833) (by decide +kernel))) (by decide +kernel)
theorem im_yX9_addEntry : Cond.instanceMethod yX9_addEntry ∈ am_gw := am_gw_lw (List.mem_append_right _ (List.mem_of_getElem? (i := 835) (by decide +kernel))) (by decide +kernel)
theorem ca_yX9_addEntry : am_cal yX9_addEntry cX9_addEntry 6 (none) 4 := ⟨am_gw_lw (List.mem_append_right _ (List.mem_of_getElem? (i := 836) (by decide +kernel))) (by decide +kernel), am_gw_lw (List.mem_append_right _ (List.mem_of_getElem? (i := 9) (by decide +kernel))) (by decide +kernel), by decide +kernel⟩
theorem ml_X9_154 : Cond.methodLink RX9 154 yX9_folded ∈ am_gw := am_gw_lw (List.mem_append_right _ (List.mem_of_getElem? (i := 837) (by decide +kernel))) (by decide +kernel)
theorem im_yX9_folded : Cond.instanceMethod yX9_folded ∈ am_gw := am_gw_lw (List.mem_append_right _ (List.mem_of_getElem? (i := 839) (by decide +kernel))) (by decide +kernel)
theorem ca_yX9_folded : am_cal yX9_folded cX9_folded 3 (some .int) 2 := ⟨am_gw_lw (List.mem_append_right _ (List.mem_of_getElem? (i := 840) (by decide +kernel))) (by decide +kernel), am_gw_lw (List.mem_append_right _ (List.mem_of_getElem? (i := 9) (by decide +kernel))) (by decide +kernel), by decide +kernel⟩
theorem ml_L_49 : Cond.methodLink RL 49 yX9_letter ∈ am_gw := am_gw_lw (List.mem_append_right _ (List.mem_of_getElem? (i := 841) (by decide +kernel))) (by decide +kernel)
theorem im_yX9_letter : Cond.instanceMethod yX9_letter ∈ am_gw := am_gw_lw (List.mem_append_right _ (List.mem_of_getElem? (i := 842) (by decide +kernel))) (by decide +kernel)
theorem se_yX9_letter : Cond.selects RX9 yX9_letter yX9_letter ∈ am_gw := am_gw_lw (List.mem_append_right _ (List.mem_of_getElem? (i := 843) (by decide +kernel))) (by decide +kernel)
theorem ca_yX9_letter : am_cal yX9_letter cX9_letter 3 (some .int) 2 := ⟨am_gw_lw (List.mem_append_right _ (List.mem_of_getElem? (i := 844) (by decide +kernel))) (by decide +kernel), am_gw_lw (List.mem_append_right _ (List.mem_of_getElem? (i := 9) (by decide +kernel))) (by decide +kernel), by decide +kernel⟩
theorem ml_X9_208 : Cond.methodLink RX9 208 yX9_isLetter ∈ am_gw := am_gw_lw (List.mem_append_right _ (List.mem_of_getElem? (i := 845) (by decide +kernel))) (by decide +kernel)
theorem im_yX9_isLetter : Cond.instanceMethod yX9_isLetter ∈ am_gw := am_gw_lw (List.mem_append_right _ (List.mem_of_getElem? (i := 847) (by decide +kernel))) (by decide +kernel)
theorem ca_yX9_isLetter : am_cal yX9_isLetter cX9_isLetter 2 (some .boolean) 1 := ⟨am_gw_lw (List.mem_append_right _ (List.mem_of_getElem? (i := 848) (by decide +kernel))) (by decide +kernel), am_gw_lw (List.mem_append_right _ (List.mem_of_getElem? (i := 9) (by decide +kernel))) (by decide +kernel), by decide +kernel⟩
theorem ml_L_54 : Cond.methodLink RL 54 yX9_entry ∈ am_gw := am_gw_lw (List.mem_append_right _ (List.mem_of_getElem? (i := 849) (by decide +kernel))) (by decide +kernel)
theorem im_yX9_entry : Cond.instanceMethod yX9_entry ∈ am_gw := am_gw_lw (List.mem_append_right _ (List.mem_of_getElem? (i := 850) (by decide +kernel))) (by decide +kernel)
theorem se_yX9_entry : Cond.selects RX9 yX9_entry yX9_entry ∈ am_gw := am_gw_lw (List.mem_append_right _ (List.mem_of_getElem? (i := 851) (by decide +kernel))) (by decide +kernel)
theorem ca_yX9_entry : am_cal yX9_entry cX9_entry 4 (some .long) 3 := ⟨am_gw_lw (List.mem_append_right _ (List.mem_of_getElem? (i := 852) (by decide +kernel))) (by decide +kernel), am_gw_lw (List.mem_append_right _ (List.mem_of_getElem? (i := 9) (by decide +kernel))) (by decide +kernel), by decide +kernel⟩
theorem kl_X9_211 : Cond.constantLong RX9 211 (-9223372036854775808) ∈ am_gw := am_gw_lw (List.mem_append_right _ (List.mem_of_getElem? (i := 853) (by decide +kernel))) (by decide +kernel)
theorem ml_L_58 : Cond.methodLink RL 58 yX9_deliver ∈ am_gw := am_gw_lw (List.mem_append_right _ (List.mem_of_getElem? (i := 854) (by decide +kernel))) (by decide +kernel)
theorem im_yX9_deliver : Cond.instanceMethod yX9_deliver ∈ am_gw := am_gw_lw (List.mem_append_right _ (List.mem_of_getElem? (i := 855) (by decide +kernel))) (by decide +kernel)
theorem se_yX9_deliver : Cond.selects RX9 yX9_deliver yX9_deliver ∈ am_gw := am_gw_lw (List.mem_append_right _ (List.mem_of_getElem? (i := 856) (by decide +kernel))) (by decide +kernel)
theorem ca_yX9_deliver : am_cal yX9_deliver cX9_deliver 4 (some .int) 1 := ⟨am_gw_lw (List.mem_append_right _ (List.mem_of_getElem? (i := 857) (by decide +kernel))) (by decide +kernel), am_gw_lw (List.mem_append_right _ (List.mem_of_getElem? (i := 9) (by decide +kernel))) (by decide +kernel), by decide +kernel⟩
theorem ml_X9_213 : Cond.methodLink RX9 213 yX9_coming ∈ am_gw := am_gw_lw (List.mem_append_right _ (List.mem_of_getElem? (i := 858) (by decide +kernel))) (by decide +kernel)
theorem im_yX9_coming : Cond.instanceMethod yX9_coming ∈ am_gw := am_gw_lw (List.mem_append_right _ (List.mem_of_getElem? (i := 860) (by decide +kernel))) (by decide +kernel)
theorem ca_yX9_coming : am_cal yX9_coming cX9_coming 3 (some .int) 1 := ⟨am_gw_lw (List.mem_append_right _ (List.mem_of_getElem? (i := 861) (by decide +kernel))) (by decide +kernel), am_gw_lw (List.mem_append_right _ (List.mem_of_getElem? (i := 9) (by decide +kernel))) (by decide +kernel), by decide +kernel⟩
theorem ml_X9_216 : Cond.methodLink RX9 216 yX9_takeOut ∈ am_gw := am_gw_lw (List.mem_append_right _ (List.mem_of_getElem? (i := 862) (by decide +kernel))) (by decide +kernel)
theorem im_yX9_takeOut : Cond.instanceMethod yX9_takeOut ∈ am_gw := am_gw_lw (List.mem_append_right _ (List.mem_of_getElem? (i := 864) (by decide +kernel))) (by decide +kernel)
theorem ca_yX9_takeOut : am_cal yX9_takeOut cX9_takeOut 3 (none) 1 := ⟨am_gw_lw (List.mem_append_right _ (List.mem_of_getElem? (i := 865) (by decide +kernel))) (by decide +kernel), am_gw_lw (List.mem_append_right _ (List.mem_of_getElem? (i := 9) (by decide +kernel))) (by decide +kernel), by decide +kernel⟩
theorem ml_X9_219 : Cond.methodLink RX9 219 yX9_goOn ∈ am_gw := am_gw_lw (List.mem_append_right _ (List.mem_of_getElem? (i := 866) (by decide +kernel))) (by decide +kernel)
theorem im_yX9_goOn : Cond.instanceMethod yX9_goOn ∈ am_gw := am_gw_lw (List.mem_append_right _ (List.mem_of_getElem? (i := 868) (by decide +kernel))) (by decide +kernel)
theorem ca_yX9_goOn : am_cal yX9_goOn cX9_goOn 4 (none) 1 := ⟨am_gw_lw (List.mem_append_right _ (List.mem_of_getElem? (i := 869) (by decide +kernel))) (by decide +kernel), am_gw_lw (List.mem_append_right _ (List.mem_of_getElem? (i := 9) (by decide +kernel))) (by decide +kernel), by decide +kernel⟩
theorem ml_X9_199 : Cond.methodLink RX9 199 yX9_letters ∈ am_gw := am_gw_lw (List.mem_append_right _ (List.mem_of_getElem? (i := 870) (by decide +kernel))) (by decide +kernel)
theorem im_yX9_letters : Cond.instanceMethod yX9_letters ∈ am_gw := am_gw_lw (List.mem_append_right _ (List.mem_of_getElem? (i := 872) (by decide +kernel))) (by decide +kernel)
theorem ca_yX9_letters : am_cal yX9_letters cX9_letters 4 (some .int) 1 := ⟨am_gw_lw (List.mem_append_right _ (List.mem_of_getElem? (i := 873) (by decide +kernel))) (by decide +kernel), am_gw_lw (List.mem_append_right _ (List.mem_of_getElem? (i := 9) (by decide +kernel))) (by decide +kernel), by decide +kernel⟩
theorem ml_X9_202 : Cond.methodLink RX9 202 yX9_take ∈ am_gw := am_gw_lw (List.mem_append_right _ (List.mem_of_getElem? (i := 874) (by decide +kernel))) (by decide +kernel)
theorem im_yX9_take : Cond.instanceMethod yX9_take ∈ am_gw := am_gw_lw (List.mem_append_right _ (List.mem_of_getElem? (i := 876) (by decide +kernel))) (by decide +kernel)
theorem ca_yX9_take : am_cal yX9_take cX9_take 6 (none) 1 := ⟨am_gw_lw (List.mem_append_right _ (List.mem_of_getElem? (i := 877) (by decide +kernel))) (by decide +kernel), am_gw_lw (List.mem_append_right _ (List.mem_of_getElem? (i := 9) (by decide +kernel))) (by decide +kernel), by decide +kernel⟩
theorem ml_X9_190 : Cond.methodLink RX9 190 yX9_begin ∈ am_gw := am_gw_lw (List.mem_append_right _ (List.mem_of_getElem? (i := 878) (by decide +kernel))) (by decide +kernel)
theorem im_yX9_begin : Cond.instanceMethod yX9_begin ∈ am_gw := am_gw_lw (List.mem_append_right _ (List.mem_of_getElem? (i := 880) (by decide +kernel))) (by decide +kernel)
theorem ca_yX9_begin : am_cal yX9_begin cX9_begin 2 (none) 0 := ⟨am_gw_lw (List.mem_append_right _ (List.mem_of_getElem? (i := 881) (by decide +kernel))) (by decide +kernel), am_gw_lw (List.mem_append_right _ (List.mem_of_getElem? (i := 9) (by decide +kernel))) (by decide +kernel), by decide +kernel⟩
theorem ml_X9_193 : Cond.methodLink RX9 193 yX9_hear ∈ am_gw := am_gw_lw (List.mem_append_right _ (List.mem_of_getElem? (i := 882) (by decide +kernel))) (by decide +kernel)
theorem im_yX9_hear : Cond.instanceMethod yX9_hear ∈ am_gw := am_gw_lw (List.mem_append_right _ (List.mem_of_getElem? (i := 884) (by decide +kernel))) (by decide +kernel)
theorem ca_yX9_hear : am_cal yX9_hear cX9_hear 4 (none) 3 := ⟨am_gw_lw (List.mem_append_right _ (List.mem_of_getElem? (i := 885) (by decide +kernel))) (by decide +kernel), am_gw_lw (List.mem_append_right _ (List.mem_of_getElem? (i := 9) (by decide +kernel))) (by decide +kernel), by decide +kernel⟩
theorem ml_X9_196 : Cond.methodLink RX9 196 yX9_behind ∈ am_gw := am_gw_lw (List.mem_append_right _ (List.mem_of_getElem? (i := 886) (by decide +kernel))) (by decide +kernel)
theorem im_yX9_behind : Cond.instanceMethod yX9_behind ∈ am_gw := am_gw_lw (List.mem_append_right _ (List.mem_of_getElem? (i := 888) (by decide +kernel))) (by decide +kernel)
theorem ca_yX9_behind : am_cal yX9_behind cX9_behind 3 (some .int) 2 := ⟨am_gw_lw (List.mem_append_right _ (List.mem_of_getElem? (i := 889) (by decide +kernel))) (by decide +kernel), am_gw_lw (List.mem_append_right _ (List.mem_of_getElem? (i := 9) (by decide +kernel))) (by decide +kernel), by decide +kernel⟩
theorem ml_L_62 : Cond.methodLink RL 62 yX9_lose ∈ am_gw := am_gw_lw (List.mem_append_right _ (List.mem_of_getElem? (i := 890) (by decide +kernel))) (by decide +kernel)
theorem im_yX9_lose : Cond.instanceMethod yX9_lose ∈ am_gw := am_gw_lw (List.mem_append_right _ (List.mem_of_getElem? (i := 891) (by decide +kernel))) (by decide +kernel)
theorem se_yX9_lose : Cond.selects RX9 yX9_lose yX9_lose ∈ am_gw := am_gw_lw (List.mem_append_right _ (List.mem_of_getElem? (i := 892) (by decide +kernel))) (by decide +kernel)
theorem ca_yX9_lose : am_cal yX9_lose cX9_lose 2 (some .int) 1 := ⟨am_gw_lw (List.mem_append_right _ (List.mem_of_getElem? (i := 893) (by decide +kernel))) (by decide +kernel), am_gw_lw (List.mem_append_right _ (List.mem_of_getElem? (i := 9) (by decide +kernel))) (by decide +kernel), by decide +kernel⟩
theorem ml_L_66 : Cond.methodLink RL 66 yX9_copy ∈ am_gw := am_gw_lw (List.mem_append_right _ (List.mem_of_getElem? (i := 894) (by decide +kernel))) (by decide +kernel)
theorem im_yX9_copy : Cond.instanceMethod yX9_copy ∈ am_gw := am_gw_lw (List.mem_append_right _ (List.mem_of_getElem? (i := 895) (by decide +kernel))) (by decide +kernel)
theorem se_yX9_copy : Cond.selects RX9 yX9_copy yX9_copy ∈ am_gw := am_gw_lw (List.mem_append_right _ (List.mem_of_getElem? (i := 896) (by decide +kernel))) (by decide +kernel)
theorem ca_yX9_copy : am_cal yX9_copy cX9_copy 2 (some .int) 1 := ⟨am_gw_lw (List.mem_append_right _ (List.mem_of_getElem? (i := 897) (by decide +kernel))) (by decide +kernel), am_gw_lw (List.mem_append_right _ (List.mem_of_getElem? (i := 9) (by decide +kernel))) (by decide +kernel), by decide +kernel⟩
theorem ml_L_70 : Cond.methodLink RL 70 yX9_resend ∈ am_gw := am_gw_lw (List.mem_append_right _ (List.mem_of_getElem? (i := 898) (by decide +kernel))) (by decide +kernel)
theorem im_yX9_resend : Cond.instanceMethod yX9_resend ∈ am_gw := am_gw_lw (List.mem_append_right _ (List.mem_of_getElem? (i := 899) (by decide +kernel))) (by decide +kernel)
theorem se_yX9_resend : Cond.selects RX9 yX9_resend yX9_resend ∈ am_gw := am_gw_lw (List.mem_append_right _ (List.mem_of_getElem? (i := 900) (by decide +kernel))) (by decide +kernel)
theorem ca_yX9_resend : am_cal yX9_resend cX9_resend 5 (some .int) 2 := ⟨am_gw_lw (List.mem_append_right _ (List.mem_of_getElem? (i := 901) (by decide +kernel))) (by decide +kernel), am_gw_lw (List.mem_append_right _ (List.mem_of_getElem? (i := 9) (by decide +kernel))) (by decide +kernel), by decide +kernel⟩
theorem ml_L_74 : Cond.methodLink RL 74 yX9_crash ∈ am_gw := am_gw_lw (List.mem_append_right _ (List.mem_of_getElem? (i := 902) (by decide +kernel))) (by decide +kernel)
theorem im_yX9_crash : Cond.instanceMethod yX9_crash ∈ am_gw := am_gw_lw (List.mem_append_right _ (List.mem_of_getElem? (i := 903) (by decide +kernel))) (by decide +kernel)
theorem se_yX9_crash : Cond.selects RX9 yX9_crash yX9_crash ∈ am_gw := am_gw_lw (List.mem_append_right _ (List.mem_of_getElem? (i := 904) (by decide +kernel))) (by decide +kernel)
theorem ca_yX9_crash : am_cal yX9_crash cX9_crash 2 (some .int) 1 := ⟨am_gw_lw (List.mem_append_right _ (List.mem_of_getElem? (i := 905) (by decide +kernel))) (by decide +kernel), am_gw_lw (List.mem_append_right _ (List.mem_of_getElem? (i := 9) (by decide +kernel))) (by decide +kernel), by decide +kernel⟩
theorem ml_X9_222 : Cond.methodLink RX9 222 yX9_forget ∈ am_gw := am_gw_lw (List.mem_append_right _ (List.mem_of_getElem? (i := 906) (by decide +kernel))) (by decide +kernel)
theorem im_yX9_forget : Cond.instanceMethod yX9_forget ∈ am_gw := am_gw_lw (List.mem_append_right _ (List.mem_of_getElem? (i := 908) (by decide +kernel))) (by decide +kernel)
theorem ca_yX9_forget : am_cal yX9_forget cX9_forget 3 (none) 1 := ⟨am_gw_lw (List.mem_append_right _ (List.mem_of_getElem? (i := 909) (by decide +kernel))) (by decide +kernel), am_gw_lw (List.mem_append_right _ (List.mem_of_getElem? (i := 9) (by decide +kernel))) (by decide +kernel), by decide +kernel⟩
theorem ml_L_78 : Cond.methodLink RL 78 yX9_back ∈ am_gw := am_gw_lw (List.mem_append_right _ (List.mem_of_getElem? (i := 910) (by decide +kernel))) (by decide +kernel)
theorem im_yX9_back : Cond.instanceMethod yX9_back ∈ am_gw := am_gw_lw (List.mem_append_right _ (List.mem_of_getElem? (i := 911) (by decide +kernel))) (by decide +kernel)
theorem se_yX9_back : Cond.selects RX9 yX9_back yX9_back ∈ am_gw := am_gw_lw (List.mem_append_right _ (List.mem_of_getElem? (i := 912) (by decide +kernel))) (by decide +kernel)
theorem ca_yX9_back : am_cal yX9_back cX9_back 4 (some .int) 0 := ⟨am_gw_lw (List.mem_append_right _ (List.mem_of_getElem? (i := 913) (by decide +kernel))) (by decide +kernel), am_gw_lw (List.mem_append_right _ (List.mem_of_getElem? (i := 9) (by decide +kernel))) (by decide +kernel), by decide +kernel⟩
theorem ml_X9_229 : Cond.methodLink RX9 229 yX9_isMarked ∈ am_gw := am_gw_lw (List.mem_append_right _ (List.mem_of_getElem? (i := 914) (by decide +kernel))) (by decide +kernel)
theorem im_yX9_isMarked : Cond.instanceMethod yX9_isMarked ∈ am_gw := am_gw_lw (List.mem_append_right _ (List.mem_of_getElem? (i := 916) (by decide +kernel))) (by decide +kernel)
theorem ca_yX9_isMarked : am_cal yX9_isMarked cX9_isMarked 4 (some .boolean) 1 := ⟨am_gw_lw (List.mem_append_right _ (List.mem_of_getElem? (i := 917) (by decide +kernel))) (by decide +kernel), am_gw_lw (List.mem_append_right _ (List.mem_of_getElem? (i := 9) (by decide +kernel))) (by decide +kernel), by decide +kernel⟩
theorem ml_X9_225 : Cond.methodLink RX9 225 yX9_hasMark ∈ am_gw := am_gw_lw (List.mem_append_right _ (List.mem_of_getElem? (i := 918) (by decide +kernel))) (by decide +kernel)
theorem im_yX9_hasMark : Cond.instanceMethod yX9_hasMark ∈ am_gw := am_gw_lw (List.mem_append_right _ (List.mem_of_getElem? (i := 920) (by decide +kernel))) (by decide +kernel)
theorem ca_yX9_hasMark : am_cal yX9_hasMark cX9_hasMark 3 (some .boolean) 2 := ⟨am_gw_lw (List.mem_append_right _ (List.mem_of_getElem? (i := 921) (by decide +kernel))) (by decide +kernel), am_gw_lw (List.mem_append_right _ (List.mem_of_getElem? (i := 9) (by decide +kernel))) (by decide +kernel), by decide +kernel⟩
theorem ml_X9_232 : Cond.methodLink RX9 232 yX9_goBack ∈ am_gw := am_gw_lw (List.mem_append_right _ (List.mem_of_getElem? (i := 922) (by decide +kernel))) (by decide +kernel)
theorem im_yX9_goBack : Cond.instanceMethod yX9_goBack ∈ am_gw := am_gw_lw (List.mem_append_right _ (List.mem_of_getElem? (i := 924) (by decide +kernel))) (by decide +kernel)
theorem ca_yX9_goBack : am_cal yX9_goBack cX9_goBack 5 (none) 2 := ⟨am_gw_lw (List.mem_append_right _ (List.mem_of_getElem? (i := 925) (by decide +kernel))) (by decide +kernel), am_gw_lw (List.mem_append_right _ (List.mem_of_getElem? (i := 9) (by decide +kernel))) (by decide +kernel), by decide +kernel⟩
theorem ml_L_82 : Cond.methodLink RL 82 yX9_move ∈ am_gw := am_gw_lw (List.mem_append_right _ (List.mem_of_getElem? (i := 926) (by decide +kernel))) (by decide +kernel)
theorem im_yX9_move : Cond.instanceMethod yX9_move ∈ am_gw := am_gw_lw (List.mem_append_right _ (List.mem_of_getElem? (i := 927) (by decide +kernel))) (by decide +kernel)
theorem se_yX9_move : Cond.selects RX9 yX9_move yX9_move ∈ am_gw := am_gw_lw (List.mem_append_right _ (List.mem_of_getElem? (i := 928) (by decide +kernel))) (by decide +kernel)
theorem ca_yX9_move : am_cal yX9_move cX9_move 6 (some .int) 2 := ⟨am_gw_lw (List.mem_append_right _ (List.mem_of_getElem? (i := 929) (by decide +kernel))) (by decide +kernel), am_gw_lw (List.mem_append_right _ (List.mem_of_getElem? (i := 9) (by decide +kernel))) (by decide +kernel), by decide +kernel⟩
theorem ml_L_87 : Cond.methodLink RL 87 yX9_of ∈ am_gw := am_gw_lw (List.mem_append_right _ (List.mem_of_getElem? (i := 930) (by decide +kernel))) (by decide +kernel)
theorem im_yX9_of : Cond.instanceMethod yX9_of ∈ am_gw := am_gw_lw (List.mem_append_right _ (List.mem_of_getElem? (i := 931) (by decide +kernel))) (by decide +kernel)
theorem se_yX9_of : Cond.selects RX9 yX9_of yX9_of ∈ am_gw := am_gw_lw (List.mem_append_right _ (List.mem_of_getElem? (i := 932) (by decide +kernel))) (by decide +kernel)
theorem ca_yX9_of : am_cal yX9_of cX9_of 3 (some .long) 2 := ⟨am_gw_lw (List.mem_append_right _ (List.mem_of_getElem? (i := 933) (by decide +kernel))) (by decide +kernel), am_gw_lw (List.mem_append_right _ (List.mem_of_getElem? (i := 9) (by decide +kernel))) (by decide +kernel), by decide +kernel⟩
theorem ml_L_91 : Cond.methodLink RL 91 yX9_alone ∈ am_gw := am_gw_lw (List.mem_append_right _ (List.mem_of_getElem? (i := 934) (by decide +kernel))) (by decide +kernel)
theorem im_yX9_alone : Cond.instanceMethod yX9_alone ∈ am_gw := am_gw_lw (List.mem_append_right _ (List.mem_of_getElem? (i := 935) (by decide +kernel))) (by decide +kernel)
theorem se_yX9_alone : Cond.selects RX9 yX9_alone yX9_alone ∈ am_gw := am_gw_lw (List.mem_append_right _ (List.mem_of_getElem? (i := 936) (by decide +kernel))) (by decide +kernel)
theorem ca_yX9_alone : am_cal yX9_alone cX9_alone 5 (some .long) 3 := ⟨am_gw_lw (List.mem_append_right _ (List.mem_of_getElem? (i := 937) (by decide +kernel))) (by decide +kernel), am_gw_lw (List.mem_append_right _ (List.mem_of_getElem? (i := 9) (by decide +kernel))) (by decide +kernel), by decide +kernel⟩
theorem ml_X9_235 : Cond.methodLink RX9 235 yX9_oneRound ∈ am_gw := am_gw_lw (List.mem_append_right _ (List.mem_of_getElem? (i := 938) (by decide +kernel))) (by decide +kernel)
theorem im_yX9_oneRound : Cond.instanceMethod yX9_oneRound ∈ am_gw := am_gw_lw (List.mem_append_right _ (List.mem_of_getElem? (i := 940) (by decide +kernel))) (by decide +kernel)
theorem ca_yX9_oneRound : am_cal yX9_oneRound cX9_oneRound 3 (none) 0 := ⟨am_gw_lw (List.mem_append_right _ (List.mem_of_getElem? (i := 941) (by decide +kernel))) (by decide +kernel), am_gw_lw (List.mem_append_right _ (List.mem_of_getElem? (i := 9) (by decide +kernel))) (by decide +kernel), by decide +kernel⟩
theorem ml_L_95 : Cond.methodLink RL 95 yX9_node ∈ am_gw := am_gw_lw (List.mem_append_right _ (List.mem_of_getElem? (i := 942) (by decide +kernel))) (by decide +kernel)
theorem im_yX9_node : Cond.instanceMethod yX9_node ∈ am_gw := am_gw_lw (List.mem_append_right _ (List.mem_of_getElem? (i := 943) (by decide +kernel))) (by decide +kernel)
theorem se_yX9_node : Cond.selects RX9 yX9_node yX9_node ∈ am_gw := am_gw_lw (List.mem_append_right _ (List.mem_of_getElem? (i := 944) (by decide +kernel))) (by decide +kernel)
theorem ca_yX9_node : am_cal yX9_node cX9_node 5 (some .int) 2 := ⟨am_gw_lw (List.mem_append_right _ (List.mem_of_getElem? (i := 945) (by decide +kernel))) (by decide +kernel), am_gw_lw (List.mem_append_right _ (List.mem_of_getElem? (i := 9) (by decide +kernel))) (by decide +kernel), by decide +kernel⟩
theorem ml_L_99 : Cond.methodLink RL 99 yX9_told ∈ am_gw := am_gw_lw (List.mem_append_right _ (List.mem_of_getElem? (i := 946) (by decide +kernel))) (by decide +kernel)
theorem im_yX9_told : Cond.instanceMethod yX9_told ∈ am_gw := am_gw_lw (List.mem_append_right _ (List.mem_of_getElem? (i := 947) (by decide +kernel))) (by decide +kernel)
theorem se_yX9_told : Cond.selects RX9 yX9_told yX9_told ∈ am_gw := am_gw_lw (List.mem_append_right _ (List.mem_of_getElem? (i := 948) (by decide +kernel))) (by decide +kernel)
theorem ca_yX9_told : am_cal yX9_told cX9_told 2 (some .int) 1 := ⟨am_gw_lw (List.mem_append_right _ (List.mem_of_getElem? (i := 949) (by decide +kernel))) (by decide +kernel), am_gw_lw (List.mem_append_right _ (List.mem_of_getElem? (i := 9) (by decide +kernel))) (by decide +kernel), by decide +kernel⟩
theorem nk_lw : ∀ q ∈ am_nk, Cond.methodLinkNest q.1 q.2.1 q.2.2.1 q.2.2.2 ∈ lw_tbl := by decide +kernel
theorem se_yX8_isNode : Cond.selects RX8 yX8_isNode yX8_isNode ∈ am_gw := am_gw_lw (List.mem_append_left _ (List.mem_of_getElem? (i := 0) (by decide +kernel))) (by decide +kernel)
theorem se_yX8_isVertex : Cond.selects RX8 yX8_isVertex yX8_isVertex ∈ am_gw := am_gw_lw (List.mem_append_left _ (List.mem_of_getElem? (i := 1) (by decide +kernel))) (by decide +kernel)
theorem se_yX8_comeInto : Cond.selects RX8 yX8_comeInto yX8_comeInto ∈ am_gw := am_gw_lw (List.mem_append_left _ (List.mem_of_getElem? (i := 2) (by decide +kernel))) (by decide +kernel)
theorem se_yX8_isMarkRound : Cond.selects RX8 yX8_isMarkRound yX8_isMarkRound ∈ am_gw := am_gw_lw (List.mem_append_left _ (List.mem_of_getElem? (i := 3) (by decide +kernel))) (by decide +kernel)
theorem se_yX8_keepMark : Cond.selects RX8 yX8_keepMark yX8_keepMark ∈ am_gw := am_gw_lw (List.mem_append_left _ (List.mem_of_getElem? (i := 4) (by decide +kernel))) (by decide +kernel)
theorem se_yX6_swapMarks : Cond.selects RX6 yX6_swapMarks yX6_swapMarks ∈ am_gw := am_gw_lw (List.mem_append_left _ (List.mem_of_getElem? (i := 5) (by decide +kernel))) (by decide +kernel)
theorem se_yX8_copyVertices : Cond.selects RX8 yX8_copyVertices yX8_copyVertices ∈ am_gw := am_gw_lw (List.mem_append_left _ (List.mem_of_getElem? (i := 6) (by decide +kernel))) (by decide +kernel)
theorem se_yX8_writeLetters : Cond.selects RX8 yX8_writeLetters yX8_writeLetters ∈ am_gw := am_gw_lw (List.mem_append_left _ (List.mem_of_getElem? (i := 7) (by decide +kernel))) (by decide +kernel)
theorem se_yX0_gatherOf : Cond.selects RX0 yX0_gatherOf yX0_gatherOf ∈ am_gw := am_gw_lw (List.mem_append_left _ (List.mem_of_getElem? (i := 8) (by decide +kernel))) (by decide +kernel)
theorem se_yX0_placeOf : Cond.selects RX0 yX0_placeOf yX0_placeOf ∈ am_gw := am_gw_lw (List.mem_append_left _ (List.mem_of_getElem? (i := 9) (by decide +kernel))) (by decide +kernel)
theorem se_yX0_append : Cond.selects RX0 yX0_append yX0_append ∈ am_gw := am_gw_lw (List.mem_append_left _ (List.mem_of_getElem? (i := 10) (by decide +kernel))) (by decide +kernel)
theorem se_yX8_outcomeOf : Cond.selects RX8 yX8_outcomeOf yX8_outcomeOf ∈ am_gw := am_gw_lw (List.mem_append_left _ (List.mem_of_getElem? (i := 11) (by decide +kernel))) (by decide +kernel)
theorem se_yX8_isComplete : Cond.selects RX8 yX8_isComplete yX8_isComplete ∈ am_gw := am_gw_lw (List.mem_append_left _ (List.mem_of_getElem? (i := 12) (by decide +kernel))) (by decide +kernel)
theorem se_yX8_finishRound : Cond.selects RX8 yX8_finishRound yX8_finishRound ∈ am_gw := am_gw_lw (List.mem_append_left _ (List.mem_of_getElem? (i := 13) (by decide +kernel))) (by decide +kernel)
theorem se_yX8_takeMessages : Cond.selects RX8 yX8_takeMessages yX8_takeMessages ∈ am_gw := am_gw_lw (List.mem_append_left _ (List.mem_of_getElem? (i := 14) (by decide +kernel))) (by decide +kernel)
theorem se_yX2_valueAfter : Cond.selects RX2 yX2_valueAfter yX2_valueAfter ∈ am_gw := am_gw_lw (List.mem_append_left _ (List.mem_of_getElem? (i := 15) (by decide +kernel))) (by decide +kernel)
theorem se_yX8_isAnyDown : Cond.selects RX8 yX8_isAnyDown yX8_isAnyDown ∈ am_gw := am_gw_lw (List.mem_append_left _ (List.mem_of_getElem? (i := 16) (by decide +kernel))) (by decide +kernel)
theorem se_yX8_wholeMark : Cond.selects RX8 yX8_wholeMark yX8_wholeMark ∈ am_gw := am_gw_lw (List.mem_append_left _ (List.mem_of_getElem? (i := 17) (by decide +kernel))) (by decide +kernel)
theorem se_yX8_isMarkedByAll : Cond.selects RX8 yX8_isMarkedByAll yX8_isMarkedByAll ∈ am_gw := am_gw_lw (List.mem_append_left _ (List.mem_of_getElem? (i := 18) (by decide +kernel))) (by decide +kernel)
theorem se_yX8_isLevel : Cond.selects RX8 yX8_isLevel yX8_isLevel ∈ am_gw := am_gw_lw (List.mem_append_left _ (List.mem_of_getElem? (i := 19) (by decide +kernel))) (by decide +kernel)
theorem se_yX8_workAlone : Cond.selects RX8 yX8_workAlone yX8_workAlone ∈ am_gw := am_gw_lw (List.mem_append_left _ (List.mem_of_getElem? (i := 20) (by decide +kernel))) (by decide +kernel)
theorem se_yX9_wipe : Cond.selects RX9 yX9_wipe yX9_wipe ∈ am_gw := am_gw_lw (List.mem_append_left _ (List.mem_of_getElem? (i := 21) (by decide +kernel))) (by decide +kernel)
theorem se_yX9_isNode : Cond.selects RX9 yX9_isNode yX9_isNode ∈ am_gw := am_gw_lw (List.mem_append_left _ (List.mem_of_getElem? (i := 22) (by decide +kernel))) (by decide +kernel)
theorem se_yX9_isVertex : Cond.selects RX9 yX9_isVertex yX9_isVertex ∈ am_gw := am_gw_lw (List.mem_append_left _ (List.mem_of_getElem? (i := 23) (by decide +kernel))) (by decide +kernel)
theorem se_yX9_come : Cond.selects RX9 yX9_come yX9_come ∈ am_gw := am_gw_lw (List.mem_append_left _ (List.mem_of_getElem? (i := 24) (by decide +kernel))) (by decide +kernel)
theorem se_yX9_has : Cond.selects RX9 yX9_has yX9_has ∈ am_gw := am_gw_lw (List.mem_append_left _ (List.mem_of_getElem? (i := 25) (by decide +kernel))) (by decide +kernel)
theorem se_yX9_lay : Cond.selects RX9 yX9_lay yX9_lay ∈ am_gw := am_gw_lw (List.mem_append_left _ (List.mem_of_getElem? (i := 26) (by decide +kernel))) (by decide +kernel)
theorem se_yX9_keeps : Cond.selects RX9 yX9_keeps yX9_keeps ∈ am_gw := am_gw_lw (List.mem_append_left _ (List.mem_of_getElem? (i := 27) (by decide +kernel))) (by decide +kernel)
theorem se_yX9_mark : Cond.selects RX9 yX9_mark yX9_mark ∈ am_gw := am_gw_lw (List.mem_append_left _ (List.mem_of_getElem? (i := 28) (by decide +kernel))) (by decide +kernel)
theorem se_yX9_layMark : Cond.selects RX9 yX9_layMark yX9_layMark ∈ am_gw := am_gw_lw (List.mem_append_left _ (List.mem_of_getElem? (i := 29) (by decide +kernel))) (by decide +kernel)
theorem se_yX9_write : Cond.selects RX9 yX9_write yX9_write ∈ am_gw := am_gw_lw (List.mem_append_left _ (List.mem_of_getElem? (i := 30) (by decide +kernel))) (by decide +kernel)
theorem se_yX9_activeAt : Cond.selects RX9 yX9_activeAt yX9_activeAt ∈ am_gw := am_gw_lw (List.mem_append_left _ (List.mem_of_getElem? (i := 31) (by decide +kernel))) (by decide +kernel)
theorem se_yX9_message : Cond.selects RX9 yX9_message yX9_message ∈ am_gw := am_gw_lw (List.mem_append_left _ (List.mem_of_getElem? (i := 32) (by decide +kernel))) (by decide +kernel)
theorem se_yX9_addEntry : Cond.selects RX9 yX9_addEntry yX9_addEntry ∈ am_gw := am_gw_lw (List.mem_append_left _ (List.mem_of_getElem? (i := 33) (by decide +kernel))) (by decide +kernel)
theorem se_yX9_folded : Cond.selects RX9 yX9_folded yX9_folded ∈ am_gw := am_gw_lw (List.mem_append_left _ (List.mem_of_getElem? (i := 34) (by decide +kernel))) (by decide +kernel)
theorem se_yX9_isLetter : Cond.selects RX9 yX9_isLetter yX9_isLetter ∈ am_gw := am_gw_lw (List.mem_append_left _ (List.mem_of_getElem? (i := 35) (by decide +kernel))) (by decide +kernel)
theorem se_yX9_coming : Cond.selects RX9 yX9_coming yX9_coming ∈ am_gw := am_gw_lw (List.mem_append_left _ (List.mem_of_getElem? (i := 36) (by decide +kernel))) (by decide +kernel)
theorem se_yX9_takeOut : Cond.selects RX9 yX9_takeOut yX9_takeOut ∈ am_gw := am_gw_lw (List.mem_append_left _ (List.mem_of_getElem? (i := 37) (by decide +kernel))) (by decide +kernel)
theorem se_yX9_goOn : Cond.selects RX9 yX9_goOn yX9_goOn ∈ am_gw := am_gw_lw (List.mem_append_left _ (List.mem_of_getElem? (i := 38) (by decide +kernel))) (by decide +kernel)
theorem se_yX9_letters : Cond.selects RX9 yX9_letters yX9_letters ∈ am_gw := am_gw_lw (List.mem_append_left _ (List.mem_of_getElem? (i := 39) (by decide +kernel))) (by decide +kernel)
theorem se_yX9_take : Cond.selects RX9 yX9_take yX9_take ∈ am_gw := am_gw_lw (List.mem_append_left _ (List.mem_of_getElem? (i := 40) (by decide +kernel))) (by decide +kernel)
theorem se_yX9_begin : Cond.selects RX9 yX9_begin yX9_begin ∈ am_gw := am_gw_lw (List.mem_append_left _ (List.mem_of_getElem? (i := 41) (by decide +kernel))) (by decide +kernel)
theorem se_yX9_hear : Cond.selects RX9 yX9_hear yX9_hear ∈ am_gw := am_gw_lw (List.mem_append_left _ (List.mem_of_getElem? (i := 42) (by decide +kernel))) (by decide +kernel)
theorem se_yX9_behind : Cond.selects RX9 yX9_behind yX9_behind ∈ am_gw := am_gw_lw (List.mem_append_left _ (List.mem_of_getElem? (i := 43) (by decide +kernel))) (by decide +kernel)
theorem se_yX9_forget : Cond.selects RX9 yX9_forget yX9_forget ∈ am_gw := am_gw_lw (List.mem_append_left _ (List.mem_of_getElem? (i := 44) (by decide +kernel))) (by decide +kernel)
theorem se_yX9_isMarked : Cond.selects RX9 yX9_isMarked yX9_isMarked ∈ am_gw := am_gw_lw (List.mem_append_left _ (List.mem_of_getElem? (i := 45) (by decide +kernel))) (by decide +kernel)
theorem se_yX9_hasMark : Cond.selects RX9 yX9_hasMark yX9_hasMark ∈ am_gw := am_gw_lw (List.mem_append_left _ (List.mem_of_getElem? (i := 46) (by decide +kernel))) (by decide +kernel)
theorem se_yX9_goBack : Cond.selects RX9 yX9_goBack yX9_goBack ∈ am_gw := am_gw_lw (List.mem_append_left _ (List.mem_of_getElem? (i := 47) (by decide +kernel))) (by decide +kernel)
theorem se_yX9_oneRound : Cond.selects RX9 yX9_oneRound yX9_oneRound ∈ am_gw := am_gw_lw (List.mem_append_left _ (List.mem_of_getElem? (i := 48) (by decide +kernel))) (by decide +kernel)
end
section
/-! THE CLAIM OUT OF ONE WALK OF THE LAW'S BODY. Your part is whole_start (and what it stands on); all else here is the same for every law, but numbers. -/
def R_law : String := "SplitNodesLaw"
def lw_P (b : Addr) (xs : List Int32) (args : Array Value) (s : State) : Prop := args = #[.ref b] ∧ s.IntsAt b xs ∧ xs.length ≤ 2048 ∧ (Jvm.Cond.and given_1 narrow_1).before args s = true
def lw_Q (_ : Array Value) (s : State) (o : Outcome) (t : State) : Prop := o = .returned (some (.int 1)) ∧ Framed s o t [] 774159 6779771
def lw_Z (below : List Frame) (a : Array Value) (s : State) : State → Prop := fun t => ∃ o, t.status = .running ∧ Ended t below o ∧ lw_Q a s o t
/-- the law's own end, with 1 on the stack, nothing written that was there before, its room as the claim has it -/
theorem lw_ret {p : Program} {l : Launch} {e : Env} {s : State} {m : MethodId} {below : List Frame} {meth : Method} {c : Code} {b : Nat} (hx : p.tables.exec = Jvm.exec) (hb : c.code = code) (hr : meth.sig.returnType = ret) (hlocks : meth.locks = false) {pc : Nat} {H : Heap} {ls : Array Slot} (hdg : decode code pc = .ok (.ireturn, 1)) : W p l e room_1 s m #[Value.ref b] below meth c H [] 774159 6779771 (lw_Z below #[Value.ref b] s) (F0 m pc ls [.int 1]) := by
  intro T hT X
  obtain ⟨fs, hret, hrun, hended, hW, hframe⟩ := X.leave (v := some (.int 1)) (hlocks := hlocks) (fun h => by rw [hr] at h; cases h)
  have hmeth' : T.vm.method? m = some meth := X.method'
  refine ⟨T.setFrames fs, ?_, .returned (some (.int 1)), hrun, hended, rfl, ⟨_, rfl⟩, hW, hframe⟩
  jvm_step X.here [X.here.top, hx, hb, hdg, hmeth', hr, ret, narrow_b1]
  (try refine ⟨rfl, ?_⟩); (try refine ⟨rfl, ?_⟩)
  first | (intro acts; rw [hret _ acts rfl rfl rfl]) | rw [hret _ _ rfl rfl rfl]
  exact Steps.refl _
/-- what holds at the law's entry: the machine, the code, the tables' words (any of lw_tbl by 'hts w (by decide +kernel)'), the script of L ints xs at the cell b, what the Statement gives of the start (any of its parts by flat_of_before) -/
def lw_At (p : Program) (s : State) (m : MethodId) (meth : Method) (c : Code) (b L : Nat) (xs : Nat → Int32) : Prop :=
  p.tables.exec = Jvm.exec ∧ c.code = code ∧ meth.sig.returnType = ret ∧ c.maxLocals = 4 ∧ s.vm.findClass R_law = some m.cls ∧ (∀ w ∈ lw_tbl, w.before #[Value.ref b] s = true) ∧ va_X b L xs s s.heap ∧ b < s.heap.size ∧ meth.locks = false ∧ (Jvm.Cond.and given_1 narrow_1).before #[Value.ref b] s = true
end
section
/-! FROM THE JUDGEMENT TO THE LAW'S WALK -/
def am_M0 : am_M := (fun _ => (0, 0), fun _ _ => 0, fun _ _ => none, 0)
theorem am_K0 {args : Array Value} {s : State} (hts : ∀ w ∈ lw_tbl, w.before args s = true) : ∃ (D : va_G) (cA : Nat → ClassId), am_K D cA s := by
  have hgw : ∀ w ∈ am_gw, w.before args s = true := fun w h => hts w (List.mem_filter.mp h).1
  have kn : ∀ {ci : Nat} {C : String} {T : u_T} {N : Nat} {ty : Nat → FieldType}, am_cls ci C T N ty → Cond.instantiable C N ∈ am_gw → ∃ (cC : ClassId) (iS : Nat → Nat), u_Kn s C T N cC iS := fun hc hi => u_known hgw hc.2.2.2.2.1 (hgw _ hi)
  obtain ⟨c0, i0, h0⟩ := kn kX0 ins_X0
  obtain ⟨c1, i1, h1⟩ := kn kX1 ins_X1
  obtain ⟨c2, i2, h2⟩ := kn kX2 ins_X2
  obtain ⟨c3, i3, h3⟩ := kn kX3 ins_X3
  obtain ⟨c4, i4, h4⟩ := kn kX4 ins_X4
  obtain ⟨c5, i5, h5⟩ := kn kX5 ins_X5
  obtain ⟨c6, i6, h6⟩ := kn kX6 ins_X6
  obtain ⟨c7, i7, h7⟩ := kn kX7 ins_X7
  obtain ⟨c8, i8, h8⟩ := kn kX8 ins_X8
  obtain ⟨c9, i9, h9⟩ := kn kX9 ins_X9
  obtain ⟨cI, kI, compI, aI1, aI2, aI3⟩ := Cond.arrayClass_spec (hgw _ ac_int)
  obtain ⟨cZ, kZ, compZ, aZ1, aZ2, aZ3⟩ := Cond.arrayClass_spec (hgw _ ac_boolean)
  obtain ⟨compL, cL, kL, aL1, -, aL2, aL3, aL4⟩ := Cond.arrayOver_spec (hts _ ao_X3)
  obtain ⟨compN, cN, kN, aN1, -, aN2, aN3, aN4⟩ := Cond.arrayOver_spec (hts _ ao_X6)
  refine ⟨(fun k => match k with | 0 => c0 | 1 => c1 | 2 => c2 | 3 => c3 | 4 => c4 | 5 => c5 | 6 => c6 | 7 => c7 | 8 => c8 | _ => c9, fun k => match k with | 0 => i0 | 1 => i1 | 2 => i2 | 3 => i3 | 4 => i4 | 5 => i5 | 6 => i6 | 7 => i7 | 8 => i8 | _ => i9), fun k => match k with | 10 => cI | 11 => cZ | 12 => cL | _ => cN, ⟨⟨fun k q hq => ?_, fun k q hq => ?_⟩, fun q hq => va_Nw.of rfl (hts _ (nk_lw q hq)), va_AO.of (hts _ ao_X3), va_AO.of (hts _ ao_X6), va_Nw.of rfl (hts _ cast_lw)⟩⟩
  · match k, hq with
    | 0, hq => cases hq; exact h0
    | 1, hq => cases hq; exact h1
    | 2, hq => cases hq; exact h2
    | 3, hq => cases hq; exact h3
    | 4, hq => cases hq; exact h4
    | 5, hq => cases hq; exact h5
    | 6, hq => cases hq; exact h6
    | 7, hq => cases hq; exact h7
    | 8, hq => cases hq; exact h8
    | 9, hq => cases hq; exact h9
    | k + 10, hq => simp [vwCl] at hq
  · match k, hq with
    | 0, hq => cases hq; exact ⟨fun n z => ⟨fun k h => (by cases h), kI, aI2, compI, aI3⟩, aI1⟩
    | 1, hq => cases hq; exact ⟨fun n z => ⟨fun k h => (by cases h), kZ, aZ2, compZ, aZ3⟩, aZ1⟩
    | 2, hq => cases hq; exact ⟨fun n z => ⟨fun k h => (by cases h), kL, aL2, compL, aL3⟩, kL, compL, aL2, aL3, aL1, aL4⟩
    | 3, hq => cases hq; exact ⟨fun n z => ⟨fun k h => (by cases h), kN, aN2, compN, aN3⟩, kN, compN, aN2, aN3, aN1, aN4⟩
    | k + 4, hq => simp [am_tys] at hq
theorem am_top {p : Program} {e : Env} {s : State} {m : MethodId} {below : List Frame} {meth : Method} {c : Code} (l : Launch) {b L : Nat} {xs : Nat → Int32} (C0 : lw_At p s m meth c b L xs) (hV : am_V l yL_law code 4 ret room_1 774159 6779771 (L, xs) (fun v _ => v = some (.int 1)) 774159 6779771 0 [some (.ref 0)] [] am_M0) : W p l e room_1 s m #[Value.ref b] below meth c s.heap [] 0 0 (lw_Z below #[Value.ref b] s) (entryFrame m ([Value.ref b] : List Value).toArray 4) := by
  obtain ⟨hx, hb, hr, hml, hown, hts, hX, hbl, hlocks, hgv⟩ := id C0
  obtain ⟨D, cA, hK⟩ := am_K0 hts
  have hgw : ∀ w ∈ am_gw, w.before #[Value.ref b] s = true := fun w h => hts w (List.mem_filter.mp h).1
  have hent := am_entry (b := b) (base := s.heap.size) (nL := 4) (As := [.ref 0]) (by simp [Value.category]) (by decide)
  have H0 : am_H (L, xs) D cA b s.heap.size s am_M0 s.heap [] := ⟨hK, fun k q h => by simp [am_ws, am_M0, mN] at h, rfl, hX, hbl, Nat.le_refl _, va_S.rf⟩
  have k := hV p e s m #[Value.ref b] below meth c D cA b s.heap.size s.heap [] 0 0 _ ⟨hx, hb, hr, hlocks, hml, hown, fun h => absurd h (by decide), hgw, Nat.le_refl _, Nat.le_refl _⟩ H0 hent (Nat.le_refl _) (Nat.le_refl _)
  rw [lg_entry_eq]
  intro T hT Y
  obtain ⟨t, a1, o, b1, b2, ⟨v, M', ho, hp, -, -, -⟩, Lc, ⟨hv, hW, hsame⟩, hL⟩ := k T hT Y
  subst hp
  refine ⟨t, a1, o, b1, b2, ho, hv, hW, ?_⟩
  exact hsame.weaken (fun y hy hlt => absurd hlt (Nat.not_lt.mpr (hL y hy))) (Nat.le_refl _) (Nat.le_refl _)
end
section
/-! ROWS FOR USE: references that are known, places that are numbers, contracts with one end -/
section AmUse
variable {l : Launch} {y : MethodName} {cc : ByteArray} {nL : Nat} {rt : Option FieldType} {R : Room} {mc ms : Nat} {X : Nat × (Nat → Int32)} {Post : Option Value → am_M → Prop} {bc bs pc : Nat} {ls : List (Option Value)} {st : List Value} {M : am_M}
theorem r_getF {a n index ci k r : Nat} {C : String} {T : u_T} {N : Nat} {ty : Nat → FieldType} (hc : am_cls ci C T N ty) (hk : k < N) (hr : am_isR ci k = true) (hl : Cond.fieldLink y.cls index (T k).1 (T k).2.1 (T k).2.2.1 ∈ am_gw) (hok : am_ok M a ci n) (hv : mR M a k = some r) (hd : decode cc pc = .ok (.getfield index, 3))
    (kk : am_V l y cc nL rt R mc ms X Post bc bs (pc + 3) ls (.ref r :: st) M) : am_V l y cc nL rt R mc ms X Post bc bs pc ls (.ref a :: st) M := r_getR hc hk hr hl hok hd (by rw [hv]; exact kk)
theorem r_putF {a n index ci k r : Nat} {C : String} {T : u_T} {N : Nat} {ty : Nat → FieldType} (hc : am_cls ci C T N ty) (hk : k < N) (hr : am_isR ci k = true) (hfin : (T k).2.2.2 = false ∨ ((T k).2.2.2 = true ∧ y.name = "<init>" ∧ y.cls = C ∧ (T k).1 = C)) (hl : Cond.fieldLink y.cls index (T k).1 (T k).2.1 (T k).2.2.1 ∈ am_gw) (hok : am_ok M a ci n) (hd : decode cc pc = .ok (.putfield index, 3))
    (kk : am_V l y cc nL rt R mc ms X Post bc bs (pc + 3) ls st (wR M a k (some r))) : am_V l y cc nL rt R mc ms X Post bc bs pc ls (.ref r :: .ref a :: st) M := r_putR (r := some r) hc hk hr hfin hl hok hd kk
theorem r_ialdN {a n i : Nat} (hok : am_ok M a 10 n) (hi : i < n) (hn : n < 2 ^ 31) (hd : decode cc pc = .ok (.iaload, 1)) (kk : am_V l y cc nL rt R mc ms X Post bc bs (pc + 1) ls (.int (mI M a i) :: st) M) : am_V l y cc nL rt R mc ms X Post bc bs pc ls (.int (nI i) :: .ref a :: st) M := r_iald hok (vp_in_nI hi hn) hd (by rw [nI_clamp (by omega)]; exact kk)
theorem r_zaldN {a n i : Nat} (hok : am_ok M a 11 n) (hi : i < n) (hn : n < 2 ^ 31) (hd : decode cc pc = .ok (.baload, 1)) (kk : am_V l y cc nL rt R mc ms X Post bc bs (pc + 1) ls (.int (mI M a i) :: st) M) : am_V l y cc nL rt R mc ms X Post bc bs pc ls (.int (nI i) :: .ref a :: st) M := r_zald hok (vp_in_nI hi hn) hd (by rw [nI_clamp (by omega)]; exact kk)
theorem r_aaldN {a n t i : Nat} (ht : t = 12 ∨ t = 13) (hok : am_ok M a t n) (hi : i < n) (hn : n < 2 ^ 31) (hd : decode cc pc = .ok (.aaload, 1)) (kk : am_V l y cc nL rt R mc ms X Post bc bs (pc + 1) ls (va_rf (mR M a i) :: st) M) : am_V l y cc nL rt R mc ms X Post bc bs pc ls (.int (nI i) :: .ref a :: st) M := r_aald ht hok (vp_in_nI hi hn) hd (by rw [nI_clamp (by omega)]; exact kk)
theorem r_aaldF {a n t i r : Nat} (ht : t = 12 ∨ t = 13) (hok : am_ok M a t n) (hi : i < n) (hn : n < 2 ^ 31) (hv : mR M a i = some r) (hd : decode cc pc = .ok (.aaload, 1)) (kk : am_V l y cc nL rt R mc ms X Post bc bs (pc + 1) ls (.ref r :: st) M) : am_V l y cc nL rt R mc ms X Post bc bs pc ls (.int (nI i) :: .ref a :: st) M := r_aaldN ht hok hi hn hd (by rw [hv]; exact kk)
theorem r_iastN {a n i : Nat} {x : Int32} (hok : am_ok M a 10 n) (hi : i < n) (hn : n < 2 ^ 31) (hd : decode cc pc = .ok (.iastore, 1)) (kk : am_V l y cc nL rt R mc ms X Post bc bs (pc + 1) ls st (wI M a i x)) : am_V l y cc nL rt R mc ms X Post bc bs pc ls (.int x :: .int (nI i) :: .ref a :: st) M := r_iast hok (vp_in_nI hi hn) hd (by rw [nI_clamp (by omega)]; exact kk)
theorem r_zastN {a n i : Nat} {x : Int32} (hok : am_ok M a 11 n) (hi : i < n) (hn : n < 2 ^ 31) (h01 : x = 0 ∨ x = 1) (hd : decode cc pc = .ok (.bastore, 1)) (kk : am_V l y cc nL rt R mc ms X Post bc bs (pc + 1) ls st (wI M a i x)) : am_V l y cc nL rt R mc ms X Post bc bs pc ls (.int x :: .int (nI i) :: .ref a :: st) M := r_zast hok (vp_in_nI hi hn) h01 hd (by rw [nI_clamp (by omega)]; exact kk)
theorem r_aastO {a n t i i' ci n' : Nat} (ht : (t = 12 ∧ ci = 3) ∨ (t = 13 ∧ ci = 6)) (hok : am_ok M a t n) (hi : i < n) (hn : n < 2 ^ 31) (hv : am_ok M i' ci n') (hd : decode cc pc = .ok (.aastore, 1)) (kk : am_V l y cc nL rt R mc ms X Post bc bs (pc + 1) ls st (wR M a i (some i'))) : am_V l y cc nL rt R mc ms X Post bc bs pc ls (.ref i' :: .int (nI i) :: .ref a :: st) M := r_aast ht hok (vp_in_nI hi hn) hv hd (by rw [nI_clamp (by omega)]; exact kk)
theorem r_aastZ {a n t i : Nat} (ht : t = 12 ∨ t = 13) (hok : am_ok M a t n) (hi : i < n) (hn : n < 2 ^ 31) (hd : decode cc pc = .ok (.aastore, 1)) (kk : am_V l y cc nL rt R mc ms X Post bc bs (pc + 1) ls st (wR M a i none)) : am_V l y cc nL rt R mc ms X Post bc bs pc ls (.null :: .int (nI i) :: .ref a :: st) M := r_aastN ht hok (vp_in_nI hi hn) hd (by rw [nI_clamp (by omega)]; exact kk)
/-- a contract with one end -/
def am_F (l : Launch) (y : MethodName) (cc : ByteArray) (nL : Nat) (rt : Option FieldType) (d mc ms : Nat) (X : Nat × (Nat → Int32)) (As : List Value) (M : am_M) (w : Option Value) (M1 : am_M) : Prop := am_C l y cc nL rt d mc ms X As M (fun v M' => v = w ∧ M' = M1)
theorem r_cV {y' : MethodName} {cc' : ByteArray} {nL' index d' mc' ms' a ci n0 : Nat} {rt' : Option FieldType} {As rest : List Value} {w : Option Value} {M1 : am_M} {T : u_T} {N : Nat} (hcal : am_cal y' cc' nL' rt' As.length) (hl : Cond.methodLink y.cls index y' ∈ am_gw) (hi : Cond.instanceMethod y' ∈ am_gw) (hs : Cond.selects y'.cls y' y' ∈ am_gw) (hci : ci < 10) (hvw : vwCl[ci]? = some (y'.cls, T, N))
    (hok : am_ok M a ci n0) (hC : am_F l y' cc' nL' rt' d' mc' ms' X (.ref a :: As) M w M1) (hR : d' + 1 ≤ R.frames ∧ 8 + (nL' + 11) + 38 * d' ≤ R.locals) (hbc : mc' ≤ bc) (hbs : ms' ≤ bs) (hst : As.reverse ++ .ref a :: rest = st) (hW : (rest.map fun v => v.category).sum ≤ 8) (hd : decode cc pc = .ok (.invokevirtual index, 3))
    (kk : am_V l y cc nL rt R mc ms X Post (bc - mc') (bs - ms') (pc + 3) ls (w.toList ++ rest) M1) : am_V l y cc nL rt R mc ms X Post bc bs pc ls st M := r_callV hcal hl hi hs hci hvw hok hC hR hbc hbs hst hW hd (fun v M' h => by rw [h.1, h.2]; exact kk)
theorem r_cS {y' : MethodName} {cc' : ByteArray} {nL' index d' mc' ms' : Nat} {rt' : Option FieldType} {As rest : List Value} {w : Option Value} {M1 : am_M} (hcal : am_cal y' cc' nL' rt' As.length) (hl : Cond.methodLink y.cls index y' ∈ am_gw) (hi : Cond.static y' ∈ am_gw)
    (hC : am_F l y' cc' nL' rt' d' mc' ms' X As M w M1) (hR : d' + 1 ≤ R.frames ∧ 8 + (nL' + 11) + 38 * d' ≤ R.locals) (hbc : mc' ≤ bc) (hbs : ms' ≤ bs) (hst : As.reverse ++ rest = st) (hW : (rest.map fun v => v.category).sum ≤ 8) (hd : decode cc pc = .ok (.invokestatic index, 3))
    (kk : am_V l y cc nL rt R mc ms X Post (bc - mc') (bs - ms') (pc + 3) ls (w.toList ++ rest) M1) : am_V l y cc nL rt R mc ms X Post bc bs pc ls st M := r_callS hcal hl hi hC hR hbc hbs hst hW hd (fun v M' h => by rw [h.1, h.2]; exact kk)
theorem r_cSN {y' : MethodName} {cc' : ByteArray} {nL' index d' mc' ms' : Nat} {host : String} {rt' : Option FieldType} {As rest : List Value} {w : Option Value} {M1 : am_M} (hcal : am_cal y' cc' nL' rt' As.length) (hl : (y.cls, index, y', host) ∈ am_nk) (hi : Cond.static y' ∈ am_gw)
    (hC : am_F l y' cc' nL' rt' d' mc' ms' X As M w M1) (hR : d' + 1 ≤ R.frames ∧ 8 + (nL' + 11) + 38 * d' ≤ R.locals) (hbc : mc' ≤ bc) (hbs : ms' ≤ bs) (hst : As.reverse ++ rest = st) (hW : (rest.map fun v => v.category).sum ≤ 8) (hd : decode cc pc = .ok (.invokestatic index, 3))
    (kk : am_V l y cc nL rt R mc ms X Post (bc - mc') (bs - ms') (pc + 3) ls (w.toList ++ rest) M1) : am_V l y cc nL rt R mc ms X Post bc bs pc ls st M := r_callSN hcal hl hi hC hR hbc hbs hst hW hd (fun v M' h => by rw [h.1, h.2]; exact kk)
theorem r_cI {y' : MethodName} {cc' : ByteArray} {nL' index d' mc' ms' a : Nat} {As rest : List Value} {w : Option Value} {M1 : am_M} (hcal : am_cal y' cc' nL' none As.length) (hl : Cond.methodLink y.cls index y' ∈ am_gw) (hi : Cond.instanceMethod y' ∈ am_gw) (hn : y'.name = "<init>")
    (hC : am_F l y' cc' nL' none d' mc' ms' X (.ref a :: As) M w M1) (hR : d' + 1 ≤ R.frames ∧ 8 + (nL' + 11) + 38 * d' ≤ R.locals) (hbc : mc' ≤ bc) (hbs : ms' ≤ bs) (hst : As.reverse ++ .ref a :: rest = st) (hW : (rest.map fun v => v.category).sum ≤ 8) (hd : decode cc pc = .ok (.invokespecial index, 3))
    (kk : am_V l y cc nL rt R mc ms X Post (bc - mc') (bs - ms') (pc + 3) ls (w.toList ++ rest) M1) : am_V l y cc nL rt R mc ms X Post bc bs pc ls st M := r_callI hcal hl hi hn hC hR hbc hbs hst hW hd (fun v M' h => by rw [h.1, h.2]; exact kk)
theorem r_cIN {y' : MethodName} {cc' : ByteArray} {nL' index d' mc' ms' a : Nat} {host : String} {As rest : List Value} {w : Option Value} {M1 : am_M} (hcal : am_cal y' cc' nL' none As.length) (hl : (y.cls, index, y', host) ∈ am_nk) (hi : Cond.instanceMethod y' ∈ am_gw) (hn : y'.name = "<init>")
    (hC : am_F l y' cc' nL' none d' mc' ms' X (.ref a :: As) M w M1) (hR : d' + 1 ≤ R.frames ∧ 8 + (nL' + 11) + 38 * d' ≤ R.locals) (hbc : mc' ≤ bc) (hbs : ms' ≤ bs) (hst : As.reverse ++ .ref a :: rest = st) (hW : (rest.map fun v => v.category).sum ≤ 8) (hd : decode cc pc = .ok (.invokespecial index, 3))
    (kk : am_V l y cc nL rt R mc ms X Post (bc - mc') (bs - ms') (pc + 3) ls (w.toList ++ rest) M1) : am_V l y cc nL rt R mc ms X Post bc bs pc ls st M := r_callIN hcal hl hi hn hC hR hbc hbs hst hW hd (fun v M' h => by rw [h.1, h.2]; exact kk)
end AmUse
end
section
section AmUse2
variable {l : Launch} {y : MethodName} {cc : ByteArray} {nL : Nat} {rt : Option FieldType} {R : Room} {mc ms : Nat} {X : Nat × (Nat → Int32)} {Post : Option Value → am_M → Prop} {bc bs pc : Nat} {ls : List (Option Value)} {st : List Value} {M : am_M}
theorem r_getE {a n index ci k : Nat} {C : String} {T : u_T} {N : Nat} {ty : Nat → FieldType} (x : Int32) (hc : am_cls ci C T N ty) (hk : k < N) (hr : am_isR ci k = false) (hl : Cond.fieldLink y.cls index (T k).1 (T k).2.1 (T k).2.2.1 ∈ am_gw) (hok : am_ok M a ci n) (hd : decode cc pc = .ok (.getfield index, 3)) (hv : mI M a k = x)
    (kk : am_V l y cc nL rt R mc ms X Post bc bs (pc + 3) ls (.int x :: st) M) : am_V l y cc nL rt R mc ms X Post bc bs pc ls (.ref a :: st) M := r_getI hc hk hr hl hok hd (by rw [hv]; exact kk)
theorem r_ialdE {a n i : Nat} (x : Int32) (hok : am_ok M a 10 n) (hi : i < n) (hn : n < 2 ^ 31) (hd : decode cc pc = .ok (.iaload, 1)) (hv : mI M a i = x) (kk : am_V l y cc nL rt R mc ms X Post bc bs (pc + 1) ls (.int x :: st) M) : am_V l y cc nL rt R mc ms X Post bc bs pc ls (.int (nI i) :: .ref a :: st) M := r_ialdN hok hi hn hd (by rw [hv]; exact kk)
theorem r_zaldE {a n i : Nat} (x : Int32) (hok : am_ok M a 11 n) (hi : i < n) (hn : n < 2 ^ 31) (hd : decode cc pc = .ok (.baload, 1)) (hv : mI M a i = x) (kk : am_V l y cc nL rt R mc ms X Post bc bs (pc + 1) ls (.int x :: st) M) : am_V l y cc nL rt R mc ms X Post bc bs pc ls (.int (nI i) :: .ref a :: st) M := r_zaldN hok hi hn hd (by rw [hv]; exact kk)
theorem r_getRE {a n index ci k : Nat} {C : String} {T : u_T} {N : Nat} {ty : Nat → FieldType} (r : Option Nat) (hc : am_cls ci C T N ty) (hk : k < N) (hr : am_isR ci k = true) (hl : Cond.fieldLink y.cls index (T k).1 (T k).2.1 (T k).2.2.1 ∈ am_gw) (hok : am_ok M a ci n) (hd : decode cc pc = .ok (.getfield index, 3)) (hv : mR M a k = r)
    (kk : am_V l y cc nL rt R mc ms X Post bc bs (pc + 3) ls (va_rf r :: st) M) : am_V l y cc nL rt R mc ms X Post bc bs pc ls (.ref a :: st) M := r_getR hc hk hr hl hok hd (by rw [hv]; exact kk)
theorem r_aaldE {a n t i : Nat} (r : Option Nat) (ht : t = 12 ∨ t = 13) (hok : am_ok M a t n) (hi : i < n) (hn : n < 2 ^ 31) (hd : decode cc pc = .ok (.aaload, 1)) (hv : mR M a i = r) (kk : am_V l y cc nL rt R mc ms X Post bc bs (pc + 1) ls (va_rf r :: st) M) : am_V l y cc nL rt R mc ms X Post bc bs pc ls (.int (nI i) :: .ref a :: st) M := r_aaldN ht hok hi hn hd (by rw [hv]; exact kk)
/-- a number on the stack by another name -/
theorem r_top {x : Int32} (z : Int32) (hv : x = z) (kk : am_V l y cc nL rt R mc ms X Post bc bs pc ls (.int z :: st) M) : am_V l y cc nL rt R mc ms X Post bc bs pc ls (.int x :: st) M := by rw [hv]; exact kk
/-- the memory by another name -/
theorem r_mem (M2 : am_M) (hv : M = M2) (kk : am_V l y cc nL rt R mc ms X Post bc bs pc ls st M2) : am_V l y cc nL rt R mc ms X Post bc bs pc ls st M := by rw [hv]; exact kk
theorem r_post {Post' : Option Value → am_M → Prop} (h : am_V l y cc nL rt R mc ms X Post bc bs pc ls st M) (hp : ∀ v M', Post v M' → Post' v M') : am_V l y cc nL rt R mc ms X Post' bc bs pc ls st M := by
  intro p e s m args below meth c D cA b base H locs cells slots lsr E0 H0 L0 q1 q2 T hT Y
  obtain ⟨t, a1, o, b1, b2, ⟨v, M', e1, hq, r⟩, b4⟩ := h p e s m args below meth c D cA b base H locs cells slots lsr E0 H0 L0 q1 q2 T hT Y
  exact ⟨t, a1, o, b1, b2, ⟨v, M', e1, hp v M' hq, r⟩, b4⟩
/-- fewer locals are known -/
theorem r_take (n : Nat) (kk : am_V l y cc nL rt R mc ms X Post bc bs pc (ls.take n) st M) : am_V l y cc nL rt R mc ms X Post bc bs pc ls st M := by
  intro p e s m args below meth c D cA b base H locs cells slots lsr E0 H0 L0 q1 q2
  refine kk p e s m args below meth c D cA b base H locs cells slots lsr E0 H0 ⟨L0.1, L0.2.1, fun i v h => L0.2.2 i v ?_⟩ q1 q2
  rw [List.getElem?_take] at h
  split at h
  · exact h
  · cases h
end AmUse2
end
section
/-! THE FIXED CELLS: 1 .. 92 the class's object, 93 .. 125 the reference's -/
def sh (a : Nat) : Option (Nat × Nat) := match a with
  | 1 => some (8, 0)
  | 2 => some (1, 0)
  | 3 => some (10, 16)
  | 4 => some (10, 16)
  | 5 => some (10, 40)
  | 6 => some (10, 40)
  | 7 => some (10, 40)
  | 8 => some (7, 0)
  | 9 => some (10, 16)
  | 10 => some (10, 16)
  | 11 => some (11, 16)
  | 12 => some (7, 0)
  | 13 => some (10, 16)
  | 14 => some (10, 16)
  | 15 => some (11, 16)
  | 16 => some (2, 0)
  | 17 => some (11, 16)
  | 18 => some (10, 16)
  | 19 => some (10, 16)
  | 20 => some (0, 0)
  | 21 => some (10, 40)
  | 22 => some (10, 40)
  | 23 => some (10, 40)
  | 24 => some (5, 0)
  | 25 => some (12, 60)
  | 26 => some (13, 5)
  | 27 => some (10, 4)
  | 28 => some (6, 0)
  | 29 => some (12, 10)
  | 30 => some (12, 10)
  | 31 => some (4, 0)
  | 32 => some (7, 0)
  | 33 => some (10, 16)
  | 34 => some (10, 16)
  | 35 => some (11, 16)
  | 36 => some (4, 0)
  | 37 => some (7, 0)
  | 38 => some (10, 16)
  | 39 => some (10, 16)
  | 40 => some (11, 16)
  | 41 => some (6, 0)
  | 42 => some (12, 10)
  | 43 => some (12, 10)
  | 44 => some (4, 0)
  | 45 => some (7, 0)
  | 46 => some (10, 16)
  | 47 => some (10, 16)
  | 48 => some (11, 16)
  | 49 => some (4, 0)
  | 50 => some (7, 0)
  | 51 => some (10, 16)
  | 52 => some (10, 16)
  | 53 => some (11, 16)
  | 54 => some (6, 0)
  | 55 => some (12, 10)
  | 56 => some (12, 10)
  | 57 => some (4, 0)
  | 58 => some (7, 0)
  | 59 => some (10, 16)
  | 60 => some (10, 16)
  | 61 => some (11, 16)
  | 62 => some (4, 0)
  | 63 => some (7, 0)
  | 64 => some (10, 16)
  | 65 => some (10, 16)
  | 66 => some (11, 16)
  | 67 => some (6, 0)
  | 68 => some (12, 10)
  | 69 => some (12, 10)
  | 70 => some (4, 0)
  | 71 => some (7, 0)
  | 72 => some (10, 16)
  | 73 => some (10, 16)
  | 74 => some (11, 16)
  | 75 => some (4, 0)
  | 76 => some (7, 0)
  | 77 => some (10, 16)
  | 78 => some (10, 16)
  | 79 => some (11, 16)
  | 80 => some (6, 0)
  | 81 => some (12, 10)
  | 82 => some (12, 10)
  | 83 => some (4, 0)
  | 84 => some (7, 0)
  | 85 => some (10, 16)
  | 86 => some (10, 16)
  | 87 => some (11, 16)
  | 88 => some (4, 0)
  | 89 => some (7, 0)
  | 90 => some (10, 16)
  | 91 => some (10, 16)
  | 92 => some (11, 16)
  | 93 => some (9, 0)
  | 94 => some (10, 16)
  | 95 => some (10, 16)
  | 96 => some (10, 16)
  | 97 => some (11, 16)
  | 98 => some (10, 16)
  | 99 => some (10, 40)
  | 100 => some (10, 40)
  | 101 => some (10, 40)
  | 102 => some (10, 5)
  | 103 => some (11, 5)
  | 104 => some (11, 5)
  | 105 => some (11, 160)
  | 106 => some (10, 160)
  | 107 => some (10, 160)
  | 108 => some (10, 160)
  | 109 => some (10, 160)
  | 110 => some (10, 160)
  | 111 => some (10, 160)
  | 112 => some (10, 6400)
  | 113 => some (10, 6400)
  | 114 => some (10, 6400)
  | 115 => some (10, 10)
  | 116 => some (10, 160)
  | 117 => some (10, 160)
  | 118 => some (11, 160)
  | 119 => some (10, 4)
  | 120 => some (11, 16)
  | 121 => some (10, 16)
  | 122 => some (10, 16)
  | 123 => some (10, 16)
  | 124 => some (10, 16)
  | 125 => some (11, 16)
  | _ => none
def rf (a k : Nat) : Option Nat := match a with
  | 1 => match k with
    | 0 => some 2
    | 1 => some 8
    | 2 => some 12
    | 3 => some 16
    | 4 => some 20
    | 5 => some 24
    | 6 => some 26
    | 7 => some 27
    | _ => none
  | 2 => match k with
    | 0 => some 3
    | 1 => some 4
    | 2 => some 5
    | 3 => some 6
    | 4 => some 7
    | _ => none
  | 8 => match k with
    | 0 => some 9
    | 1 => some 10
    | 2 => some 11
    | _ => none
  | 12 => match k with
    | 0 => some 13
    | 1 => some 14
    | 2 => some 15
    | _ => none
  | 16 => match k with
    | 0 => some 17
    | 1 => some 18
    | 2 => some 19
    | _ => none
  | 20 => match k with
    | 0 => some 21
    | 1 => some 22
    | 2 => some 23
    | _ => none
  | 24 => match k with
    | 0 => some 25
    | _ => none
  | 26 => match k with
    | 0 => some 28
    | 1 => some 41
    | 2 => some 54
    | 3 => some 67
    | 4 => some 80
    | _ => none
  | 28 => match k with
    | 0 => some 29
    | 1 => some 30
    | _ => none
  | 31 => match k with
    | 0 => some 32
    | _ => none
  | 32 => match k with
    | 0 => some 33
    | 1 => some 34
    | 2 => some 35
    | _ => none
  | 36 => match k with
    | 0 => some 37
    | _ => none
  | 37 => match k with
    | 0 => some 38
    | 1 => some 39
    | 2 => some 40
    | _ => none
  | 41 => match k with
    | 0 => some 42
    | 1 => some 43
    | _ => none
  | 44 => match k with
    | 0 => some 45
    | _ => none
  | 45 => match k with
    | 0 => some 46
    | 1 => some 47
    | 2 => some 48
    | _ => none
  | 49 => match k with
    | 0 => some 50
    | _ => none
  | 50 => match k with
    | 0 => some 51
    | 1 => some 52
    | 2 => some 53
    | _ => none
  | 54 => match k with
    | 0 => some 55
    | 1 => some 56
    | _ => none
  | 57 => match k with
    | 0 => some 58
    | _ => none
  | 58 => match k with
    | 0 => some 59
    | 1 => some 60
    | 2 => some 61
    | _ => none
  | 62 => match k with
    | 0 => some 63
    | _ => none
  | 63 => match k with
    | 0 => some 64
    | 1 => some 65
    | 2 => some 66
    | _ => none
  | 67 => match k with
    | 0 => some 68
    | 1 => some 69
    | _ => none
  | 70 => match k with
    | 0 => some 71
    | _ => none
  | 71 => match k with
    | 0 => some 72
    | 1 => some 73
    | 2 => some 74
    | _ => none
  | 75 => match k with
    | 0 => some 76
    | _ => none
  | 76 => match k with
    | 0 => some 77
    | 1 => some 78
    | 2 => some 79
    | _ => none
  | 80 => match k with
    | 0 => some 81
    | 1 => some 82
    | _ => none
  | 83 => match k with
    | 0 => some 84
    | _ => none
  | 84 => match k with
    | 0 => some 85
    | 1 => some 86
    | 2 => some 87
    | _ => none
  | 88 => match k with
    | 0 => some 89
    | _ => none
  | 89 => match k with
    | 0 => some 90
    | 1 => some 91
    | 2 => some 92
    | _ => none
  | 93 => match k with
    | 7 => some 94
    | 8 => some 95
    | 9 => some 96
    | 10 => some 97
    | 11 => some 98
    | 12 => some 99
    | 13 => some 100
    | 14 => some 101
    | 15 => some 102
    | 16 => some 103
    | 17 => some 104
    | 19 => some 105
    | 20 => some 106
    | 21 => some 107
    | 22 => some 108
    | 23 => some 109
    | 24 => some 110
    | 25 => some 111
    | 26 => some 112
    | 27 => some 113
    | 28 => some 114
    | 29 => some 115
    | 30 => some 116
    | 31 => some 117
    | 32 => some 118
    | 35 => some 119
    | 36 => some 120
    | 37 => some 121
    | 38 => some 122
    | 39 => some 123
    | 40 => some 124
    | 41 => some 125
    | _ => none
  | _ => none
def Lay (M : am_M) : Prop := 125 ≤ mN M ∧ (∀ a t n, sh a = some (t, n) → mT M a = (t, n)) ∧ ∀ a k r, rf a k = some r → mR M a k = some r
theorem sh_le {a t n : Nat} (h : sh a = some (t, n)) : 1 ≤ a ∧ a ≤ 125 := by
  rcases Nat.lt_or_ge a 126 with q | q
  · rcases Nat.eq_zero_or_pos a with e | e
    · subst e
      simp [sh] at h
    · exact ⟨e, by omega⟩
  · unfold sh at h
    split at h <;> first | omega | cases h
theorem lay_ok {M : am_M} (h : Lay M) {a t n : Nat} (e : sh a = some (t, n)) : am_ok M a t n := ⟨(sh_le e).1, Nat.le_trans (sh_le e).2 h.1, h.2.1 a t n e⟩
theorem lay_r {M : am_M} (h : Lay M) {a k r : Nat} (e : rf a k = some r) : mR M a k = some r := h.2.2 a k r e
theorem lay_wI {M : am_M} (h : Lay M) (a k : Nat) (v : Int32) : Lay (wI M a k v) := h
theorem lay_wF {M : am_M} (h : Lay M) (a : Nat) (f : Nat → Int32) : Lay (wF M a f) := h
theorem lay_wR {M : am_M} (h : Lay M) {a k : Nat} (v : Option Nat) (e : rf a k = none) : Lay (wR M a k v) := by
  refine ⟨h.1, h.2.1, fun x j r hr => ?_⟩
  rw [mR_wR]
  by_cases hx : x = a ∧ j = k
  · rw [hx.1, hx.2, e] at hr
    cases hr
  · rw [if_neg hx]
    exact h.2.2 x j r hr
theorem rf_le {a k r : Nat} (h : rf a k = some r) : a ≤ 125 := by
  rcases Nat.lt_or_ge a 126 with q | q
  · omega
  · unfold rf at h
    split at h <;> first | omega | cases h
theorem lay_wN {M : am_M} (h : Lay M) (t n : Nat) : Lay (wN M t n) := by
  refine ⟨Nat.le_trans h.1 (Nat.le_succ _), fun a t' n' e => ?_, fun a k r e => ?_⟩
  · rw [mT_wN_n M t n (by have := (sh_le e).2; have := h.1; omega)]
    exact h.2.1 a t' n' e
  · rw [mR_wN_n M t n (by have := rf_le e; have := h.1; omega)]
    exact h.2.2 a k r e
theorem lt5 {P : Nat → Prop} (h0 : P 0) (h1 : P 1) (h2 : P 2) (h3 : P 3) (h4 : P 4) {n : Nat} (h : n < 5) : P n := by
  match n, h with
  | 0, _ => exact h0
  | 1, _ => exact h1
  | 2, _ => exact h2
  | 3, _ => exact h3
  | 4, _ => exact h4
  | n + 5, h => omega
theorem sh_n0 {n : Nat} (hn : n < 5) : sh (28 + 13 * n) = some (6, 0) := lt5 (P := fun n => sh (28 + 13 * n) = some (6, 0)) rfl rfl rfl rfl rfl hn
theorem sh_n1 {n : Nat} (hn : n < 5) : sh (28 + 13 * n + 1) = some (12, 10) := lt5 (P := fun n => sh (28 + 13 * n + 1) = some (12, 10)) rfl rfl rfl rfl rfl hn
theorem sh_n2 {n : Nat} (hn : n < 5) : sh (28 + 13 * n + 2) = some (12, 10) := lt5 (P := fun n => sh (28 + 13 * n + 2) = some (12, 10)) rfl rfl rfl rfl rfl hn
theorem sh_n3 {n : Nat} (hn : n < 5) : sh (28 + 13 * n + 3) = some (4, 0) := lt5 (P := fun n => sh (28 + 13 * n + 3) = some (4, 0)) rfl rfl rfl rfl rfl hn
theorem sh_n4 {n : Nat} (hn : n < 5) : sh (28 + 13 * n + 4) = some (7, 0) := lt5 (P := fun n => sh (28 + 13 * n + 4) = some (7, 0)) rfl rfl rfl rfl rfl hn
theorem sh_n5 {n : Nat} (hn : n < 5) : sh (28 + 13 * n + 5) = some (10, 16) := lt5 (P := fun n => sh (28 + 13 * n + 5) = some (10, 16)) rfl rfl rfl rfl rfl hn
theorem sh_n6 {n : Nat} (hn : n < 5) : sh (28 + 13 * n + 6) = some (10, 16) := lt5 (P := fun n => sh (28 + 13 * n + 6) = some (10, 16)) rfl rfl rfl rfl rfl hn
theorem sh_n7 {n : Nat} (hn : n < 5) : sh (28 + 13 * n + 7) = some (11, 16) := lt5 (P := fun n => sh (28 + 13 * n + 7) = some (11, 16)) rfl rfl rfl rfl rfl hn
theorem sh_n8 {n : Nat} (hn : n < 5) : sh (28 + 13 * n + 8) = some (4, 0) := lt5 (P := fun n => sh (28 + 13 * n + 8) = some (4, 0)) rfl rfl rfl rfl rfl hn
theorem sh_n9 {n : Nat} (hn : n < 5) : sh (28 + 13 * n + 9) = some (7, 0) := lt5 (P := fun n => sh (28 + 13 * n + 9) = some (7, 0)) rfl rfl rfl rfl rfl hn
theorem sh_n10 {n : Nat} (hn : n < 5) : sh (28 + 13 * n + 10) = some (10, 16) := lt5 (P := fun n => sh (28 + 13 * n + 10) = some (10, 16)) rfl rfl rfl rfl rfl hn
theorem sh_n11 {n : Nat} (hn : n < 5) : sh (28 + 13 * n + 11) = some (10, 16) := lt5 (P := fun n => sh (28 + 13 * n + 11) = some (10, 16)) rfl rfl rfl rfl rfl hn
theorem sh_n12 {n : Nat} (hn : n < 5) : sh (28 + 13 * n + 12) = some (11, 16) := lt5 (P := fun n => sh (28 + 13 * n + 12) = some (11, 16)) rfl rfl rfl rfl rfl hn
theorem rf_row {n : Nat} (hn : n < 5) : rf 26 n = some (28 + 13 * n) := lt5 (P := fun n => rf 26 n = some (28 + 13 * n)) rfl rfl rfl rfl rfl hn
theorem rf_n0_0 {n : Nat} (hn : n < 5) : rf (28 + 13 * n) 0 = some (28 + 13 * n + 1) := lt5 (P := fun n => rf (28 + 13 * n) 0 = some (28 + 13 * n + 1)) rfl rfl rfl rfl rfl hn
theorem rf_n0_1 {n : Nat} (hn : n < 5) : rf (28 + 13 * n) 1 = some (28 + 13 * n + 2) := lt5 (P := fun n => rf (28 + 13 * n) 1 = some (28 + 13 * n + 2)) rfl rfl rfl rfl rfl hn
theorem rf_n3_0 {n : Nat} (hn : n < 5) : rf (28 + 13 * n + 3) 0 = some (28 + 13 * n + 4) := lt5 (P := fun n => rf (28 + 13 * n + 3) 0 = some (28 + 13 * n + 4)) rfl rfl rfl rfl rfl hn
theorem rf_n4_0 {n : Nat} (hn : n < 5) : rf (28 + 13 * n + 4) 0 = some (28 + 13 * n + 5) := lt5 (P := fun n => rf (28 + 13 * n + 4) 0 = some (28 + 13 * n + 5)) rfl rfl rfl rfl rfl hn
theorem rf_n4_1 {n : Nat} (hn : n < 5) : rf (28 + 13 * n + 4) 1 = some (28 + 13 * n + 6) := lt5 (P := fun n => rf (28 + 13 * n + 4) 1 = some (28 + 13 * n + 6)) rfl rfl rfl rfl rfl hn
theorem rf_n4_2 {n : Nat} (hn : n < 5) : rf (28 + 13 * n + 4) 2 = some (28 + 13 * n + 7) := lt5 (P := fun n => rf (28 + 13 * n + 4) 2 = some (28 + 13 * n + 7)) rfl rfl rfl rfl rfl hn
theorem rf_n8_0 {n : Nat} (hn : n < 5) : rf (28 + 13 * n + 8) 0 = some (28 + 13 * n + 9) := lt5 (P := fun n => rf (28 + 13 * n + 8) 0 = some (28 + 13 * n + 9)) rfl rfl rfl rfl rfl hn
theorem rf_n9_0 {n : Nat} (hn : n < 5) : rf (28 + 13 * n + 9) 0 = some (28 + 13 * n + 10) := lt5 (P := fun n => rf (28 + 13 * n + 9) 0 = some (28 + 13 * n + 10)) rfl rfl rfl rfl rfl hn
theorem rf_n9_1 {n : Nat} (hn : n < 5) : rf (28 + 13 * n + 9) 1 = some (28 + 13 * n + 11) := lt5 (P := fun n => rf (28 + 13 * n + 9) 1 = some (28 + 13 * n + 11)) rfl rfl rfl rfl rfl hn
theorem rf_n9_2 {n : Nat} (hn : n < 5) : rf (28 + 13 * n + 9) 2 = some (28 + 13 * n + 12) := lt5 (P := fun n => rf (28 + 13 * n + 9) 2 = some (28 + 13 * n + 12)) rfl rfl rfl rfl rfl hn
theorem rf_n0_2 {n : Nat} (hn : n < 5) : rf (28 + 13 * n) 2 = none := lt5 (P := fun n => rf (28 + 13 * n) 2 = none) rfl rfl rfl rfl rfl hn
theorem rf_n0_3 {n : Nat} (hn : n < 5) : rf (28 + 13 * n) 3 = none := lt5 (P := fun n => rf (28 + 13 * n) 3 = none) rfl rfl rfl rfl rfl hn
theorem rf_n1 {n k : Nat} (hn : n < 5) : rf (28 + 13 * n + 1) k = none := lt5 (P := fun n => rf (28 + 13 * n + 1) k = none) rfl rfl rfl rfl rfl hn
theorem rf_n2 {n k : Nat} (hn : n < 5) : rf (28 + 13 * n + 2) k = none := lt5 (P := fun n => rf (28 + 13 * n + 2) k = none) rfl rfl rfl rfl rfl hn
theorem r_lay {l : Launch} {y : MethodName} {cc : ByteArray} {nL : Nat} {rt : Option FieldType} {R : Room} {mc ms : Nat} {X : Nat × (Nat → Int32)} {Post : Option Value → am_M → Prop} {bc bs pc : Nat} {ls : List (Option Value)} {st : List Value} {M : am_M} (h : Lay M) (kk : Lay M → am_V l y cc nL rt R mc ms X Post bc bs pc ls st M) : am_V l y cc nL rt R mc ms X Post bc bs pc ls st M := kk h
end
section
/-! THE MATHEMATICAL STATE: numbers by their names, arrays of numbers, arrays of ints, THE NET, kept and held letters, marks -/
/-- a loop over 0 .. n - 1 -/
def itr {α : Type} (f : Nat → α → α) : Nat → α → α
  | 0, x => x
  | n + 1, x => f n (itr f n x)
abbrev tE : Type := Nat × Int32 × Nat
/-- epoch, round, from, to, active ones, entries -/
abbrev tL : Type := Nat × Nat × Nat × Nat × Nat × List tE
/-- numbers (0 nodes, 1 vertices, 2 arcs, 3 kind, 4 joined, 5 every, 6 started, 7 epoch, 8 written, 9 .. 12 came), arrays of numbers (0 home, 1 active, 2 from, 3 to, 4 round, 5 ended, 6 down), of ints (0 first, 1 value, 2 total, 3 weight), the net, letters (0 held of the round, 1 of the next, 2 kept of the round before, 3 of the round), marks' rounds, marks -/
abbrev tG : Type := (Nat → Nat) × (Nat → Nat → Nat) × (Nat → Nat → Int32) × List tL × (Nat → Nat → Nat → Option tL) × (Nat → Nat → Option Nat) × (Nat → Nat → Nat → Int32 × Int32 × Nat)
def gs (g : tG) : Nat → Nat := g.1
def ga (g : tG) : Nat → Nat → Nat := g.2.1
def gi (g : tG) : Nat → Nat → Int32 := g.2.2.1
def gn (g : tG) : List tL := g.2.2.2.1
def gl (g : tG) : Nat → Nat → Nat → Option tL := g.2.2.2.2.1
def gm (g : tG) : Nat → Nat → Option Nat := g.2.2.2.2.2.1
def gv (g : tG) : Nat → Nat → Nat → Int32 × Int32 × Nat := g.2.2.2.2.2.2
def us (g : tG) (k v : Nat) : tG := (va_up g.1 k v, g.2)
def ua (g : tG) (k i v : Nat) : tG := (g.1, am_u g.2.1 k i v, g.2.2)
def ui (g : tG) (k i : Nat) (v : Int32) : tG := (g.1, g.2.1, am_u g.2.2.1 k i v, g.2.2.2)
def un (g : tG) (x : List tL) : tG := (g.1, g.2.1, g.2.2.1, x, g.2.2.2.2)
def ul (g : tG) (f : Nat → Nat → Nat → Option tL) : tG := (g.1, g.2.1, g.2.2.1, g.2.2.2.1, f, g.2.2.2.2.2)
def um (g : tG) (f : Nat → Nat → Option Nat) : tG := (g.1, g.2.1, g.2.2.1, g.2.2.2.1, g.2.2.2.2.1, f, g.2.2.2.2.2.2)
def uv (g : tG) (f : Nat → Nat → Nat → Int32 × Int32 × Nat) : tG := (g.1, g.2.1, g.2.2.1, g.2.2.2.1, g.2.2.2.2.1, g.2.2.2.2.2.1, f)
/-- the fold of two messages, a message -/
def t_fold (k : Nat) (a b : Int32) : Int32 := if k = 0 then (if b < a then b else a) else if k = 1 then (if a < b then b else a) else a + b
def t_msg (k : Nat) (x w : Int32) : Int32 := if k = 1 then (if w < x then w else x) else if k = 2 then x * w else x + w
def t_addJ (k v : Nat) (m : Int32) (a : Nat) : List tE → List tE
  | [] => [(v, m, a)]
  | e :: es => if e.1 = v then (e.1, t_fold k e.2.1 m, e.2.2) :: es else e :: t_addJ k v m a es
def t_add (j k : Nat) (es : List tE) (v : Nat) (m : Int32) (a : Nat) : List tE := if j = 0 then es ++ [(v, m, a)] else t_addJ k v m a es
/-- the entries of the letter from n to o: of vertex v, of all -/
def t_entV (g : tG) (o v : Nat) : Nat → List tE → List tE := itr (fun a es => if ga g 2 a = v ∧ ga g 0 (ga g 3 a) = o then t_add (gs g 4) (gs g 3) es (ga g 3 a) (t_msg (gs g 3) (gi g 1 v) (gi g 3 a)) a else es)
def t_ent (g : tG) (n o : Nat) : List tE := itr (fun v es => if ga g 0 v = n ∧ ga g 1 v = 1 then t_entV g o v (gs g 2) es else es) (gs g 1) []
def t_act (g : tG) (n : Nat) : Nat := itr (fun v c => if ga g 0 v = n ∧ ga g 1 v = 1 then c + 1 else c) (gs g 1) 0
def t_let (g : tG) (n o : Nat) : tL := (gs g 7, ga g 4 n, n, o, t_act g n, t_ent g n o)
def t_push (x : List tL) (t : tL) : List tL := if x.length < 60 then x ++ [t] else x
def l_set (f : Nat → Nat → Nat → Option tL) (k n o : Nat) (t : Option tL) : Nat → Nat → Nat → Option tL := fun k' n' o' => if k' = k ∧ n' = n ∧ o' = o then t else f k' n' o'
def g_write1 (n o : Nat) (g : tG) : tG := if o = n then g else un (us (ul g (l_set (gl g) 3 n o (some (t_let g n o)))) 8 (gs g 8 + 1)) (t_push (gn g) (t_let g n o))
def g_write (n : Nat) (g : tG) : tG := itr (fun o => g_write1 n o) (gs g 0) g
def g_mark (n : Nat) (g : tG) : tG := uv (um g (fun n' i => if n' = n then (if i = 0 then gm g n 1 else some (ga g 4 n)) else gm g n' i)) (fun n' i v => if n' = n then (if i = 0 then gv g n 1 v else (gi g 1 v, gi g 2 v, ga g 1 v)) else gv g n' i v)
def g_shift (n : Nat) (g : tG) : tG := ul g (fun k n' o => if n' = n then (if k = 0 then gl g 1 n o else if k = 2 then gl g 3 n o else if k = 1 ∨ k = 3 then none else gl g k n o) else gl g k n' o)
def t_isM (g : tG) (r : Nat) : Prop := r = 0 ∨ (0 < gs g 5 ∧ r % gs g 5 = 0)
def g_come (n r : Nat) (g : tG) : tG := if r = 200 then ua (g_shift n (ua g 4 n r)) 5 n 1 else if r = 0 ∨ (0 < gs g 5 ∧ r % gs g 5 = 0) then g_write n (g_mark n (g_shift n (ua g 4 n r))) else g_write n (g_shift n (ua g 4 n r))
/-- what was heard by each vertex -/
abbrev tB : Type := Nat → Option (Int32 × Nat)
def t_hear (k : Nat) (B : tB) (v : Nat) (m : Int32) (a : Nat) : tB := va_up B v (match B v with
  | none => some (m, a)
  | some (x, b) => if k = 3 then (if b < a then some (m, a) else some (x, b)) else some (t_fold k x m, b))
def t_hearL (k : Nat) (B : tB) (es : List tE) : tB := es.foldl (fun B e => t_hear k B e.1 e.2.1 e.2.2) B
def t_behind (k : Nat) (B : tB) (v : Nat) (x : Int32) : Int32 := match B v with
  | none => if k = 2 then 0 else x
  | some (m, _) => if k = 0 ∨ k = 1 then t_fold k x m else m
def t_loc (g : tG) (n : Nat) : tB := itr (fun a B => if ga g 0 (ga g 2 a) = n ∧ ga g 0 (ga g 3 a) = n ∧ ga g 1 (ga g 2 a) = 1 then t_hear (gs g 3) B (ga g 3 a) (t_msg (gs g 3) (gi g 1 (ga g 2 a)) (gi g 3 a)) a else B) (gs g 2) (fun _ => none)
def t_box (g : tG) (n : Nat) : tB := itr (fun o B => match gl g 0 n o with
  | none => B
  | some t => t_hearL (gs g 3) B t.2.2.2.2.2) (gs g 0) (t_loc g n)
def g_settle (B : tB) (v : Nat) (g : tG) : tG := if gs g 3 = 2 then ua (ui (ui g 1 v (t_behind 2 B v (gi g 1 v))) 2 v (gi g 2 v + t_behind 2 B v (gi g 1 v))) 1 v (if t_behind 2 B v (gi g 1 v) = 0 then 0 else 1) else ua (ui g 1 v (t_behind (gs g 3) B v (gi g 1 v))) 1 v (if t_behind (gs g 3) B v (gi g 1 v) = gi g 1 v then 0 else 1)
def g_take (n : Nat) (g : tG) : tG := itr (fun v h => if ga g 0 v = n then g_settle (t_box g n) v h else h) (gs g 1) g
def t_held (g : tG) (n : Nat) : Nat := itr (fun o c => if (gl g 0 n o).isSome = true then c + 1 else c) (gs g 0) 0
def t_toldA (g : tG) (n : Nat) : Nat := itr (fun o c => match gl g 0 n o with
  | none => c
  | some t => c + t.2.2.2.2.1) (gs g 0) (t_act g n)
def t_full (g : tG) (n : Nat) : Prop := ga g 5 n = 0 ∧ t_held g n = gs g 0 - 1
def g_fin (n : Nat) (g : tG) : tG := if t_toldA g n = 0 then ua g 5 n 1 else g_come n (ga g 4 n + 1) (g_take n g)
def g_on (n : Nat) : Nat → tG → tG
  | 0, g => g
  | f + 1, g => if ga g 5 n = 0 ∧ t_held g n = gs g 0 - 1 then g_on n f (g_fin n g) else g
/-- what comes of a letter that is delivered: 0 taken, 1 old, 2 twice, 3 gone -/
def t_how (g : tG) (t : tL) : Nat := if ga g 6 t.2.2.2.1 = 1 then 3 else if t.1 ≠ gs g 7 ∨ t.2.1 < ga g 4 t.2.2.2.1 ∨ ga g 5 t.2.2.2.1 = 1 then 1 else if (gl g (t.2.1 - ga g 4 t.2.2.2.1) t.2.2.2.1 t.2.2.1).isSome = true then 2 else 0
def g_out (i : Nat) (g : tG) : tG := un g ((gn g).eraseIdx i)
def g_deliver (i : Nat) (t : tL) (g : tG) : tG := if t_how g t = 0 then g_on t.2.2.2.1 201 (us (g_out i (ul g (l_set (gl g) (t.2.1 - ga g 4 t.2.2.2.1) t.2.2.2.1 t.2.2.1 (some t)))) 9 (gs g 9 + 1)) else us (g_out i g) (9 + t_how g t) (gs g (9 + t_how g t) + 1)
def g_start (g : tG) : tG := itr (fun n => g_come n 0) (gs g 0) (us g 6 1)
def g_forget (n : Nat) (g : tG) : tG := ul g (fun k n' o => if n' = n then none else gl g k n' o)
def g_crash (n : Nat) (g : tG) : tG := g_forget n (ua (ua g 5 n 0) 6 n 1)
def t_has (g : tG) (n : Nat) (r : Option Nat) : Prop := gm g n 1 = r ∨ gm g n 0 = r
def t_mAll (g : tG) (r : Option Nat) : Nat := itr (fun n c => if gm g n 1 = r ∨ gm g n 0 = r then c else 0) (gs g 0) 1
def t_m (g : tG) : Option Nat := if t_mAll g (gm g 0 1) = 1 then gm g 0 1 else gm g 0 0
def g_backM (n : Nat) (m : Nat) (g : tG) : tG := if gm g n 1 = some m then g else uv (um g (fun n' i => if n' = n then (if i = 0 then none else some m) else gm g n' i)) (fun n' i v => if n' = n ∧ i ≠ 0 then gv g n 0 v else gv g n' i v)
def g_restore (n v : Nat) (g : tG) : tG := if ga g 0 v = n then ua (ui (ui g 1 v (gv g n 1 v).1) 2 v (gv g n 1 v).2.1) 1 v (gv g n 1 v).2.2 else g
def g_back1 (n m : Nat) (g : tG) : tG := g_forget n (ua (ua (ua (itr (fun v => g_restore n v) (gs g 1) (g_backM n m g)) 4 n m) 5 n 0) 6 n 0)
def g_back (m : Nat) (g : tG) : tG := itr (fun n h => g_write n (g_back1 n m h)) (gs g 0) (us g 7 (gs g 7 + 1))
def g_move1 (n : Nat) (g : tG) : tG := um (g_mark n (g_forget n g)) (fun n' i => if n' = n ∧ i = 0 then none else gm (g_mark n (g_forget n g)) n' i)
def g_move (v n : Nat) (g : tG) : tG := itr (fun k h => g_write k (g_move1 k h)) (gs g 0) (us (ua g 0 v n) 7 (gs g 7 + 1))
end
section
/-! WHAT OF THE MATHEMATICAL STATE THE CLASS'S CELLS HOLD (x_), AND THE REFERENCE'S (y_) -/
def xS (M : am_M) (g : tG) : Prop := mI M 1 8 = nI (gs g 0) ∧ mI M 2 5 = nI (gs g 1) ∧ mI M 2 6 = nI (gs g 2) ∧ mI M 2 7 = nI (gs g 3) ∧ mI M 1 10 = nI (gs g 4) ∧ mI M 1 9 = nI (gs g 5) ∧ mI M 1 11 = nI (gs g 6) ∧ mI M 1 12 = nI (gs g 7) ∧ mI M 1 13 = nI (gs g 8) ∧ ∀ k, k < 4 → mI M 27 k = nI (gs g (9 + k))
def xV (M : am_M) (g : tG) : Prop := ∀ v, v < gs g 1 → mI M 3 v = nI (ga g 0 v) ∧ mI M 4 v = gi g 0 v ∧ mI M 9 v = gi g 1 v ∧ mI M 10 v = gi g 2 v ∧ mI M 11 v = nI (ga g 1 v)
def xA (M : am_M) (g : tG) : Prop := ∀ a, a < gs g 2 → mI M 5 a = nI (ga g 2 a) ∧ mI M 6 a = nI (ga g 3 a) ∧ mI M 7 a = gi g 3 a
def xN (M : am_M) (g : tG) : Prop := ∀ n, n < 5 → mI M (28 + 13 * n) 4 = nI (ga g 4 n) ∧ mI M (28 + 13 * n) 5 = nI (ga g 5 n) ∧ mI M (28 + 13 * n) 6 = nI (ga g 6 n)
/-- the letter at the cell a is t -/
def isL (M : am_M) (a : Nat) (t : tL) : Prop := am_ok M a 3 0 ∧ 126 ≤ a ∧ mI M a 0 = nI t.1 ∧ mI M a 1 = nI t.2.1 ∧ mI M a 2 = nI t.2.2.1 ∧ mI M a 3 = nI t.2.2.2.1 ∧ mI M a 4 = nI t.2.2.2.2.1 ∧
  ∃ p q r, mR M a 5 = some p ∧ mR M a 6 = some q ∧ mR M a 7 = some r ∧ am_ok M p 10 t.2.2.2.2.2.length ∧ am_ok M q 10 t.2.2.2.2.2.length ∧ am_ok M r 10 t.2.2.2.2.2.length ∧ 126 ≤ p ∧ 126 ≤ q ∧ 126 ≤ r ∧
  ∀ j e, t.2.2.2.2.2[j]? = some e → mI M p j = nI e.1 ∧ mI M q j = e.2.1 ∧ mI M r j = nI e.2.2
def isO (M : am_M) (r : Option Nat) (t : Option tL) : Prop := match r, t with
  | none, none => True
  | some a, some t => isL M a t
  | _, _ => False
def xE (M : am_M) (g : tG) : Prop := mI M 24 1 = nI (gn g).length ∧ (gn g).length ≤ 60 ∧ ∀ i t, (gn g)[i]? = some t → ∃ a, mR M 25 i = some a ∧ isL M a t
def xH (M : am_M) (g : tG) : Prop := ∀ n o w, n < 5 → o < 5 → w < 2 → isO M (mR M (28 + 13 * n + 1) ((ga g 4 n + w) % 2 * 5 + o)) (gl g w n o) ∧ isO M (mR M (28 + 13 * n + 2) ((ga g 4 n + 1 + w) % 2 * 5 + o)) (gl g (2 + w) n o)
def mkI (r : Option Nat) : Int32 := match r with
  | none => -1
  | some k => nI k
def mkV (M : am_M) (g : tG) (n p i : Nat) : Prop := mI M p 1 = mkI (gm g n i) ∧ (gm g n i ≠ none → ∀ v, v < gs g 1 → ga g 0 v = n → mI M (p + 2) v = (gv g n i v).1 ∧ mI M (p + 3) v = (gv g n i v).2.1 ∧ mI M (p + 4) v = nI (gv g n i v).2.2)
def xM (M : am_M) (g : tG) : Prop := ∀ n, n < 5 → ∃ p q, mR M (28 + 13 * n) 2 = some p ∧ mR M (28 + 13 * n) 3 = some q ∧ ((p = 28 + 13 * n + 3 ∧ q = 28 + 13 * n + 8) ∨ (p = 28 + 13 * n + 8 ∧ q = 28 + 13 * n + 3)) ∧ mkV M g n p 1 ∧ mkV M g n q 0
/-- the booleans among the cells of marks are booleans -/
def xZ (M : am_M) : Prop := ∀ n, n < 5 → ∀ v, v < 16 → (mI M (28 + 13 * n + 7) v = 0 ∨ mI M (28 + 13 * n + 7) v = 1) ∧ (mI M (28 + 13 * n + 12) v = 0 ∨ mI M (28 + 13 * n + 12) v = 1)
def absX (M : am_M) (g : tG) : Prop := xS M g ∧ xV M g ∧ xA M g ∧ xN M g ∧ xE M g ∧ xH M g ∧ xM M g ∧ xZ M
/-- bounds -/
def okL (g : tG) (t : tL) : Prop := t.1 ≤ gs g 7 ∧ t.2.1 ≤ 199 ∧ t.2.2.1 < gs g 0 ∧ t.2.2.2.1 < gs g 0 ∧ t.2.2.1 ≠ t.2.2.2.1 ∧ t.2.2.2.2.1 ≤ 16 ∧ t.2.2.2.2.2.length ≤ 40 ∧ ∀ e ∈ t.2.2.2.2.2, e.1 < gs g 1 ∧ e.2.2 < 40
def gB (g : tG) : Prop := 2 ≤ gs g 0 ∧ gs g 0 ≤ 5 ∧ gs g 1 ≤ 16 ∧ gs g 2 ≤ 40 ∧ gs g 3 ≤ 3 ∧ gs g 4 ≤ 1 ∧ gs g 5 ≤ 50 ∧ gs g 6 ≤ 1 ∧ gs g 7 ≤ 1000 ∧ (gs g 3 = 3 → gs g 4 = 0) ∧ (∀ v, v < gs g 1 → ga g 0 v < gs g 0 ∧ ga g 1 v ≤ 1) ∧ (∀ a, a < gs g 2 → ga g 2 a < gs g 1 ∧ ga g 3 a < gs g 1) ∧ (∀ n, n < 5 → ga g 4 n ≤ 200 ∧ ga g 5 n ≤ 1 ∧ ga g 6 n ≤ 1) ∧ (gn g).length ≤ 60 ∧ (∀ t ∈ gn g, okL g t) ∧ ∀ k n o t, gl g k n o = some t → okL g t
/-- of the reference -/
def yL (M : am_M) (s : Nat) (t : tL) : Prop := mI M 106 s = nI t.1 ∧ mI M 107 s = nI t.2.1 ∧ mI M 108 s = nI t.2.2.1 ∧ mI M 109 s = nI t.2.2.2.1 ∧ mI M 110 s = nI t.2.2.2.2.1 ∧ mI M 111 s = nI t.2.2.2.2.2.length ∧ ∀ j e, t.2.2.2.2.2[j]? = some e → mI M 112 (40 * s + j) = nI e.1 ∧ mI M 113 (40 * s + j) = e.2.1 ∧ mI M 114 (40 * s + j) = nI e.2.2
def yO (M : am_M) (s : Nat) (t : Option tL) : Prop := match t with
  | none => mI M 105 s = 0
  | some t => mI M 105 s = 1 ∧ yL M s t
end
section
/-! WHOLE ARRAYS: filled, rewritten -/
def wQ (M : am_M) (a : Nat) (f : Nat → Option Nat) : am_M := (M.1, M.2.1, (fun x => if x = a then f else M.2.2.1 x), M.2.2.2)
theorem mR_wQ_s (M : am_M) (a : Nat) (f : Nat → Option Nat) : mR (wQ M a f) a = f := by simp [mR, wQ]
theorem mR_wQ_n (M : am_M) {a x : Nat} (f : Nat → Option Nat) (h : x ≠ a) : mR (wQ M a f) x = mR M x := by simp [mR, wQ, h]
theorem mR_wQ (M : am_M) (a : Nat) (f : Nat → Option Nat) (x : Nat) : mR (wQ M a f) x = if x = a then f else mR M x := rfl
theorem mI_wQ (M : am_M) (a : Nat) (f : Nat → Option Nat) : mI (wQ M a f) = mI M := rfl
theorem mT_wQ (M : am_M) (a : Nat) (f : Nat → Option Nat) : mT (wQ M a f) = mT M := rfl
theorem mN_wQ (M : am_M) (a : Nat) (f : Nat → Option Nat) : mN (wQ M a f) = mN M := rfl
theorem mI_wF (M : am_M) (a : Nat) (f : Nat → Int32) (x : Nat) : mI (wF M a f) x = if x = a then f else mI M x := rfl
theorem lay_wQ {M : am_M} (h : Lay M) {a : Nat} (f : Nat → Option Nat) (e : ∀ k, rf a k = none) : Lay (wQ M a f) := by
  refine ⟨h.1, h.2.1, fun x j r hr => ?_⟩
  rw [mR_wQ]
  by_cases hx : x = a
  · rw [hx, e j] at hr
    cases hr
  · rw [if_neg hx]
    exact h.2.2 x j r hr
theorem wF_id (M : am_M) (a : Nat) : wF M a (mI M a) = M := by
  have : (fun x => if x = a then mI M a else M.2.1 x) = M.2.1 := by
    funext x
    by_cases h : x = a
    · subst h; simp [mI]
    · simp [h]
  show (M.1, (fun x => if x = a then mI M a else M.2.1 x), M.2.2.1, M.2.2.2) = M
  rw [this]
theorem wQ_id (M : am_M) (a : Nat) : wQ M a (mR M a) = M := by
  have : (fun x => if x = a then mR M a else M.2.2.1 x) = M.2.2.1 := by
    funext x
    by_cases h : x = a
    · subst h; simp [mR]
    · simp [h]
  show (M.1, M.2.1, (fun x => if x = a then mR M a else M.2.2.1 x), M.2.2.2) = M
  rw [this]
theorem wI_wF (M : am_M) (a k : Nat) (f : Nat → Int32) (v : Int32) : wI (wF M a f) a k v = wF M a (va_up f k v) := by
  have : am_u (fun x => if x = a then f else M.2.1 x) a k v = fun x => if x = a then va_up f k v else M.2.1 x := by
    funext x
    by_cases h : x = a <;> simp [am_u, h]
  show (M.1, am_u (fun x => if x = a then f else M.2.1 x) a k v, M.2.2.1, M.2.2.2) = _
  rw [this]
  rfl
theorem wR_wQ (M : am_M) (a k : Nat) (f : Nat → Option Nat) (v : Option Nat) : wR (wQ M a f) a k v = wQ M a (va_up f k v) := by
  have : am_u (fun x => if x = a then f else M.2.2.1 x) a k v = fun x => if x = a then va_up f k v else M.2.2.1 x := by
    funext x
    by_cases h : x = a <;> simp [am_u, h]
  show (M.1, M.2.1, am_u (fun x => if x = a then f else M.2.2.1 x) a k v, M.2.2.2) = _
  rw [this]
  rfl
theorem wR_eq_wQ (M : am_M) (a k : Nat) (v : Option Nat) : wR M a k v = wQ M a (va_up (mR M a) k v) := by
  have := wR_wQ M a k (mR M a) v
  rwa [wQ_id] at this
theorem wI_eq_wF (M : am_M) (a k : Nat) (v : Int32) : wI M a k v = wF M a (va_up (mI M a) k v) := by
  have := wI_wF M a k (mI M a) v
  rwa [wF_id] at this
theorem wQ_wQ (M : am_M) (a : Nat) (f f' : Nat → Option Nat) : wQ (wQ M a f) a f' = wQ M a f' := by
  have : (fun x => if x = a then f' else if x = a then f else M.2.2.1 x) = fun x => if x = a then f' else M.2.2.1 x := by
    funext x
    by_cases h : x = a <;> simp [h]
  show (M.1, M.2.1, (fun x => if x = a then f' else if x = a then f else M.2.2.1 x), M.2.2.2) = _
  rw [this]
  rfl
theorem wQ_comm (M : am_M) {a b : Nat} (h : a ≠ b) (f f' : Nat → Option Nat) : wQ (wQ M a f) b f' = wQ (wQ M b f') a f := by
  have : (fun x => if x = b then f' else if x = a then f else M.2.2.1 x) = fun x => if x = a then f else if x = b then f' else M.2.2.1 x := by
    funext x
    by_cases h1 : x = a
    · subst h1; simp [h]
    · simp [h1]
  show (M.1, M.2.1, (fun x => if x = b then f' else if x = a then f else M.2.2.1 x), M.2.2.2) = _
  rw [this]
  rfl
/-- the first i places hold c -/
def fl {α : Type} (f : Nat → α) (i : Nat) (c : α) : Nat → α := fun j => if j < i then c else f j
theorem fl_0 {α : Type} (f : Nat → α) (c : α) : fl f 0 c = f := by funext j; simp [fl]
theorem fl_s {α : Type} (f : Nat → α) (i : Nat) (c : α) : va_up (fl f i c) i c = fl f (i + 1) c := by
  funext j
  by_cases h : j = i
  · subst h; simp [va_up, fl]
  · by_cases h2 : j < i
    · simp [va_up, fl, h, h2, Nat.lt_succ_of_lt h2]
    · have : ¬ j < i + 1 := by omega
      simp [va_up, fl, h, h2, this]
/-- of the places from p on the first i hold c -/
def fb {α : Type} (f : Nat → α) (p i : Nat) (c : α) : Nat → α := fun j => if p ≤ j ∧ j < p + i then c else f j
theorem fb_0 {α : Type} (f : Nat → α) (p : Nat) (c : α) : fb f p 0 c = f := by funext j; simp [fb]; omega
theorem fb_s {α : Type} (f : Nat → α) (p i : Nat) (c : α) : va_up (fb f p i c) (p + i) c = fb f p (i + 1) c := by
  funext j
  by_cases h : j = p + i
  · subst h; simp [va_up, fb]
  · by_cases h2 : p ≤ j ∧ j < p + i
    · have h3 : p ≤ j ∧ j < p + (i + 1) := by omega
      simp [va_up, fb, h, h2, h3]
    · have h3 : ¬ (p ≤ j ∧ j < p + (i + 1)) := by omega
      simp [va_up, fb, h, h2, h3]
theorem itr_s {α : Type} (f : Nat → α → α) (n : Nat) (x : α) : itr f (n + 1) x = f n (itr f n x) := rfl
theorem and1 {k : Nat} (h : k < 2 ^ 31) : nI k &&& 1 = nI (k % 2) := pk_andN (by omega) 1 rfl
theorem and1p {k : Nat} (h : k < 2 ^ 30) : (nI k - 1) &&& 1 = nI ((k + 1) % 2) := by
  rcases Nat.eq_zero_or_pos k with rfl | hk
  · rfl
  · obtain ⟨j, rfl⟩ : ∃ j, k = j + 1 := ⟨k - 1, by omega⟩
    rw [nI_pred, and1 (by omega)]
    congr 1
    omega
end
section
set_option maxHeartbeats 4000000 in
set_option maxRecDepth 100000 in
theorem c_X8_isNode {l : Launch} {X : Nat × (Nat → Int32)} {M : am_M} (hL : Lay M) {n : Int32}  : am_F l yX8_isNode cX8_isNode 2 (some .boolean) 0 0 0 X [.ref 1, .int n] M (some (.int (if n < 0 then 0 else if mI M 1 8 ≤ n then 0 else 1))) (M) := by
  refine am_C.of (by decide) (by simp [Value.category, va_rf]) (Nat.le_of_ble_eq_true rfl) ?_
  refine r_iload_n dX8_isNode_0 rfl ?_
  refine r_if_lt 16 dX8_isNode_1 (by decide) (fun c1 => ?_) (fun c1 => ?_)
  · refine r_iconst (0) dX8_isNode_16 (by decide) ?_
    exact r_iret (Or.inr ⟨rfl, by first | exact Or.inl rfl | exact Or.inr rfl⟩) dX8_isNode_17 ⟨by simp [*], rfl⟩
  · refine r_iload_n dX8_isNode_4 rfl ?_
    refine r_aload_n dX8_isNode_5 rfl ?_
    refine r_getI kX8 (k := 8) (by decide) rfl fl_X8_60 (lay_ok hL rfl) dX8_isNode_6 ?_
    refine r_icmp_ge 16 dX8_isNode_9 (by decide) (fun c9 => ?_) (fun c9 => ?_)
    · refine r_iconst (0) dX8_isNode_16 (by decide) ?_
      exact r_iret (Or.inr ⟨rfl, by first | exact Or.inl rfl | exact Or.inr rfl⟩) dX8_isNode_17 ⟨by simp [*], rfl⟩
    · refine r_iconst (1) dX8_isNode_12 (by decide) ?_
      refine r_goto 17 dX8_isNode_13 (by decide) ?_
      exact r_iret (Or.inr ⟨rfl, by first | exact Or.inl rfl | exact Or.inr rfl⟩) dX8_isNode_17 ⟨by simp [*], rfl⟩
set_option maxHeartbeats 4000000 in
set_option maxRecDepth 100000 in
theorem c_X8_isVertex {l : Launch} {X : Nat × (Nat → Int32)} {M : am_M} (hL : Lay M) {n : Int32}  : am_F l yX8_isVertex cX8_isVertex 2 (some .boolean) 0 0 0 X [.ref 1, .int n] M (some (.int (if n < 0 then 0 else if mI M 2 5 ≤ n then 0 else 1))) (M) := by
  refine am_C.of (by decide) (by simp [Value.category, va_rf]) (Nat.le_of_ble_eq_true rfl) ?_
  refine r_iload_n dX8_isVertex_0 rfl ?_
  refine r_if_lt 19 dX8_isVertex_1 (by decide) (fun c1 => ?_) (fun c1 => ?_)
  · refine r_iconst (0) dX8_isVertex_19 (by decide) ?_
    exact r_iret (Or.inr ⟨rfl, by first | exact Or.inl rfl | exact Or.inr rfl⟩) dX8_isVertex_20 ⟨by simp [*], rfl⟩
  · refine r_iload_n dX8_isVertex_4 rfl ?_
    refine r_aload_n dX8_isVertex_5 rfl ?_
    refine r_getF kX8 (k := 0) (by decide) rfl fl_X8_12 (lay_ok hL rfl) (lay_r hL rfl) dX8_isVertex_6 ?_
    refine r_getI kX1 (k := 5) (by decide) rfl fl_X8_64 (lay_ok hL rfl) dX8_isVertex_9 ?_
    refine r_icmp_ge 19 dX8_isVertex_12 (by decide) (fun c12 => ?_) (fun c12 => ?_)
    · refine r_iconst (0) dX8_isVertex_19 (by decide) ?_
      exact r_iret (Or.inr ⟨rfl, by first | exact Or.inl rfl | exact Or.inr rfl⟩) dX8_isVertex_20 ⟨by simp [*], rfl⟩
    · refine r_iconst (1) dX8_isVertex_15 (by decide) ?_
      refine r_goto 20 dX8_isVertex_16 (by decide) ?_
      exact r_iret (Or.inr ⟨rfl, by first | exact Or.inl rfl | exact Or.inr rfl⟩) dX8_isVertex_20 ⟨by simp [*], rfl⟩
set_option maxHeartbeats 4000000 in
set_option maxRecDepth 100000 in
theorem c_X1_clear {l : Launch} {X : Nat × (Nat → Int32)} {M : am_M} (hL : Lay M)  : am_F l yX1_clear cX1_clear 1 (none) 0 0 0 X [.ref 2] M (none) (wI (wI (wI M 2 5 0) 2 6 0) 2 7 0) := by
  refine am_C.of (by decide) (by simp [Value.category, va_rf]) (Nat.le_of_ble_eq_true rfl) ?_
  refine r_aload_n dX1_clear_0 rfl ?_
  refine r_iconst (0) dX1_clear_1 (by decide) ?_
  refine r_putI kX1 (k := 5) (by decide) rfl (Or.inl rfl) fl_X1_27 (lay_ok hL rfl) ⟨rfl, rfl⟩ dX1_clear_2 ?_
  refine r_lay (lay_wI hL _ _ _) (fun hL => ?_)
  refine r_aload_n dX1_clear_5 rfl ?_
  refine r_iconst (0) dX1_clear_6 (by decide) ?_
  refine r_putI kX1 (k := 6) (by decide) rfl (Or.inl rfl) fl_X1_31 (lay_ok hL rfl) ⟨rfl, rfl⟩ dX1_clear_7 ?_
  refine r_lay (lay_wI hL _ _ _) (fun hL => ?_)
  refine r_aload_n dX1_clear_10 rfl ?_
  refine r_iconst (0) dX1_clear_11 (by decide) ?_
  refine r_putI kX1 (k := 7) (by decide) rfl (Or.inl rfl) fl_X1_34 (lay_ok hL rfl) ⟨rfl, rfl⟩ dX1_clear_12 ?_
  refine r_lay (lay_wI hL _ _ _) (fun hL => ?_)
  exact r_vret rfl dX1_clear_15 ⟨rfl, rfl⟩
theorem co_min : Cond.code Lib.Math.min.name Lib.Math.min.code 2 (some .int) ∈ am_gw := (show Cond.code yJ9_min_7cf53 cJ9_min_7cf53 2 (some .int) = Cond.code Lib.Math.min.name Lib.Math.min.code 2 (some .int) by decide +kernel) ▸ ca_yJ9_min_7cf53.1
theorem co_max : Cond.code Lib.Math.max.name Lib.Math.max.code 2 (some .int) ∈ am_gw := (show Cond.code yJ9_max_7cf53 cJ9_max_7cf53 2 (some .int) = Cond.code Lib.Math.max.name Lib.Math.max.code 2 (some .int) by decide +kernel) ▸ ca_yJ9_max_7cf53.1
theorem lt4 {k : Nat} (h : k ≤ 3) : k = 0 ∨ k = 1 ∨ k = 2 ∨ k = 3 := by omega
set_option maxHeartbeats 4000000 in
set_option maxRecDepth 100000 in
theorem c_X8_fold {l : Launch} {X : Nat × (Nat → Int32)} {M : am_M} (hL : Lay M) {k : Nat} {a b : Int32} (hk : k ≤ 3) : am_F l yX8_fold cX8_fold 3 (some .int) 1 0 0 X [.int (nI k), .int a, .int b] M (some (.int (t_fold k a b))) (M) := by
  refine am_C.of (by decide) (by simp [Value.category, va_rf]) (Nat.le_of_ble_eq_true rfl) ?_
  refine r_iload_n dX8_fold_0 rfl ?_
  rcases (lt4 hk) with rfl | rfl | rfl | rfl
  · refine r_lookup 28 dX8_fold_1 (by decide) (off := 27) (by decide) (by decide) ?_
    refine r_iload_n dX8_fold_28 rfl ?_
    refine r_iload_n dX8_fold_29 rfl ?_
    refine r_mmin ml_X8_322 sm_yJ9_min_7cf53 ini_J9 co_min ⟨by decide, by decide⟩ dX8_fold_30 ?_
    exact r_iret (Or.inl rfl) dX8_fold_33 ⟨rfl, rfl⟩
  · refine r_lookup 34 dX8_fold_1 (by decide) (off := 33) (by decide) (by decide) ?_
    refine r_iload_n dX8_fold_34 rfl ?_
    refine r_iload_n dX8_fold_35 rfl ?_
    refine r_mmax ml_X8_327 sm_yJ9_max_7cf53 ini_J9 co_max ⟨by decide, by decide⟩ dX8_fold_36 ?_
    exact r_iret (Or.inl rfl) dX8_fold_39 ⟨rfl, rfl⟩
  · refine r_lookup 40 dX8_fold_1 (by decide) (off := 39) (by decide) (by decide) ?_
    refine r_iload_n dX8_fold_40 rfl ?_
    refine r_iload_n dX8_fold_41 rfl ?_
    refine r_iadd dX8_fold_42 ?_
    exact r_iret (Or.inl rfl) dX8_fold_43 ⟨rfl, rfl⟩
  · refine r_lookup 40 dX8_fold_1 (by decide) (off := 39) (by decide) (by decide) ?_
    refine r_iload_n dX8_fold_40 rfl ?_
    refine r_iload_n dX8_fold_41 rfl ?_
    refine r_iadd dX8_fold_42 ?_
    exact r_iret (Or.inl rfl) dX8_fold_43 ⟨rfl, rfl⟩
set_option maxHeartbeats 4000000 in
set_option maxRecDepth 100000 in
theorem c_X1_addVertex {l : Launch} {X : Nat × (Nat → Int32)} {M : am_M} (hL : Lay M) {nv : Nat} {a b : Int32} (hv : mI M 2 5 = nI nv) (h : nv < 16) : am_F l yX1_addVertex cX1_addVertex 3 (some .int) 0 0 0 X [.ref 2, .int a, .int b] M (some (.int (nI nv))) (wI (wI (wI M 3 nv a) 4 nv b) 2 5 (nI (nv + 1))) := by
  refine am_C.of (by decide) (by simp [Value.category, va_rf]) (Nat.le_of_ble_eq_true rfl) ?_
  refine r_aload_n dX1_addVertex_0 rfl ?_
  refine r_getF kX1 (k := 0) (by decide) rfl fl_X1_9 (lay_ok hL rfl) (lay_r hL rfl) dX1_addVertex_1 ?_
  refine r_aload_n dX1_addVertex_4 rfl ?_
  refine r_getE (nI nv) kX1 (k := 5) (by decide) rfl fl_X1_27 (lay_ok hL rfl) dX1_addVertex_5 (by simp [mI_wI, hv]) ?_
  refine r_iload_n dX1_addVertex_8 rfl ?_
  refine r_iastN (lay_ok hL rfl) (by omega) (by decide) dX1_addVertex_9 ?_
  refine r_lay (lay_wI hL _ _ _) (fun hL => ?_)
  refine r_aload_n dX1_addVertex_10 rfl ?_
  refine r_getF kX1 (k := 1) (by decide) rfl fl_X1_15 (lay_ok hL rfl) (lay_r hL rfl) dX1_addVertex_11 ?_
  refine r_aload_n dX1_addVertex_14 rfl ?_
  refine r_getE (nI nv) kX1 (k := 5) (by decide) rfl fl_X1_27 (lay_ok hL rfl) dX1_addVertex_15 (by simp [mI_wI, hv]) ?_
  refine r_iload_n dX1_addVertex_18 rfl ?_
  refine r_iastN (lay_ok hL rfl) (by omega) (by decide) dX1_addVertex_19 ?_
  refine r_lay (lay_wI hL _ _ _) (fun hL => ?_)
  refine r_aload_n dX1_addVertex_20 rfl ?_
  refine r_dup dX1_addVertex_21 rfl ?_
  refine r_getE (nI nv) kX1 (k := 5) (by decide) rfl fl_X1_27 (lay_ok hL rfl) dX1_addVertex_22 (by simp [mI_wI, hv]) ?_
  refine r_dup_x1 dX1_addVertex_25 rfl rfl ?_
  refine r_iconst (1) dX1_addVertex_26 (by decide) ?_
  refine r_iadd dX1_addVertex_27 ?_
  refine r_top (nI (nv + 1)) (nI_1 nv) ?_
  refine r_putI kX1 (k := 5) (by decide) rfl (Or.inl rfl) fl_X1_27 (lay_ok hL rfl) ⟨rfl, rfl⟩ dX1_addVertex_28 ?_
  refine r_lay (lay_wI hL _ _ _) (fun hL => ?_)
  exact r_iret (Or.inl rfl) dX1_addVertex_31 ⟨rfl, rfl⟩
set_option maxHeartbeats 4000000 in
set_option maxRecDepth 100000 in
theorem c_X1_addArc {l : Launch} {X : Nat × (Nat → Int32)} {M : am_M} (hL : Lay M) {na : Nat} {a b w : Int32} (hv : mI M 2 6 = nI na) (h : na < 40) : am_F l yX1_addArc cX1_addArc 4 (some .int) 0 0 0 X [.ref 2, .int a, .int b, .int w] M (some (.int (nI na))) (wI (wI (wI (wI M 5 na a) 6 na b) 7 na w) 2 6 (nI (na + 1))) := by
  refine am_C.of (by decide) (by simp [Value.category, va_rf]) (Nat.le_of_ble_eq_true rfl) ?_
  refine r_aload_n dX1_addArc_0 rfl ?_
  refine r_getF kX1 (k := 2) (by decide) rfl fl_X1_18 (lay_ok hL rfl) (lay_r hL rfl) dX1_addArc_1 ?_
  refine r_aload_n dX1_addArc_4 rfl ?_
  refine r_getE (nI na) kX1 (k := 6) (by decide) rfl fl_X1_31 (lay_ok hL rfl) dX1_addArc_5 (by simp [mI_wI, hv]) ?_
  refine r_iload_n dX1_addArc_8 rfl ?_
  refine r_iastN (lay_ok hL rfl) (by omega) (by decide) dX1_addArc_9 ?_
  refine r_lay (lay_wI hL _ _ _) (fun hL => ?_)
  refine r_aload_n dX1_addArc_10 rfl ?_
  refine r_getF kX1 (k := 3) (by decide) rfl fl_X1_21 (lay_ok hL rfl) (lay_r hL rfl) dX1_addArc_11 ?_
  refine r_aload_n dX1_addArc_14 rfl ?_
  refine r_getE (nI na) kX1 (k := 6) (by decide) rfl fl_X1_31 (lay_ok hL rfl) dX1_addArc_15 (by simp [mI_wI, hv]) ?_
  refine r_iload_n dX1_addArc_18 rfl ?_
  refine r_iastN (lay_ok hL rfl) (by omega) (by decide) dX1_addArc_19 ?_
  refine r_lay (lay_wI hL _ _ _) (fun hL => ?_)
  refine r_aload_n dX1_addArc_20 rfl ?_
  refine r_getF kX1 (k := 4) (by decide) rfl fl_X1_24 (lay_ok hL rfl) (lay_r hL rfl) dX1_addArc_21 ?_
  refine r_aload_n dX1_addArc_24 rfl ?_
  refine r_getE (nI na) kX1 (k := 6) (by decide) rfl fl_X1_31 (lay_ok hL rfl) dX1_addArc_25 (by simp [mI_wI, hv]) ?_
  refine r_iload_n dX1_addArc_28 rfl ?_
  refine r_iastN (lay_ok hL rfl) (by omega) (by decide) dX1_addArc_29 ?_
  refine r_lay (lay_wI hL _ _ _) (fun hL => ?_)
  refine r_aload_n dX1_addArc_30 rfl ?_
  refine r_dup dX1_addArc_31 rfl ?_
  refine r_getE (nI na) kX1 (k := 6) (by decide) rfl fl_X1_31 (lay_ok hL rfl) dX1_addArc_32 (by simp [mI_wI, hv]) ?_
  refine r_dup_x1 dX1_addArc_35 rfl rfl ?_
  refine r_iconst (1) dX1_addArc_36 (by decide) ?_
  refine r_iadd dX1_addArc_37 ?_
  refine r_top (nI (na + 1)) (nI_1 na) ?_
  refine r_putI kX1 (k := 6) (by decide) rfl (Or.inl rfl) fl_X1_31 (lay_ok hL rfl) ⟨rfl, rfl⟩ dX1_addArc_38 ?_
  refine r_lay (lay_wI hL _ _ _) (fun hL => ?_)
  exact r_iret (Or.inl rfl) dX1_addArc_41 ⟨rfl, rfl⟩
set_option maxHeartbeats 4000000 in
set_option maxRecDepth 100000 in
theorem c_X1_leads {l : Launch} {X : Nat × (Nat → Int32)} {M : am_M} (hL : Lay M) {a n o t h : Nat} (ha : a < 40) (ht : mI M 5 a = nI t) (ht2 : t < 16) (hh : mI M 6 a = nI h) (hh2 : h < 16) : am_F l yX1_leads cX1_leads 4 (some .boolean) 0 0 0 X [.ref 2, .int (nI a), .int (nI n), .int (nI o)] M (some (.int (if mI M 3 t ≠ nI n then 0 else if mI M 3 h ≠ nI o then 0 else 1))) (M) := by
  refine am_C.of (by decide) (by simp [Value.category, va_rf]) (Nat.le_of_ble_eq_true rfl) ?_
  refine r_aload_n dX1_leads_0 rfl ?_
  refine r_getF kX1 (k := 0) (by decide) rfl fl_X1_9 (lay_ok hL rfl) (lay_r hL rfl) dX1_leads_1 ?_
  refine r_aload_n dX1_leads_4 rfl ?_
  refine r_getF kX1 (k := 2) (by decide) rfl fl_X1_18 (lay_ok hL rfl) (lay_r hL rfl) dX1_leads_5 ?_
  refine r_iload_n dX1_leads_8 rfl ?_
  refine r_ialdE (nI t) (lay_ok hL rfl) (by omega) (by decide) dX1_leads_9 ht ?_
  refine r_ialdN (lay_ok hL rfl) (by omega) (by decide) dX1_leads_10 ?_
  refine r_iload_n dX1_leads_11 rfl ?_
  refine r_icmp_ne 34 dX1_leads_12 (by decide) (fun c12 => ?_) (fun c12 => ?_)
  · refine r_iconst (0) dX1_leads_34 (by decide) ?_
    exact r_iret (Or.inr ⟨rfl, by first | exact Or.inl rfl | exact Or.inr rfl⟩) dX1_leads_35 ⟨by simp [*], rfl⟩
  · refine r_aload_n dX1_leads_15 rfl ?_
    refine r_getF kX1 (k := 0) (by decide) rfl fl_X1_9 (lay_ok hL rfl) (lay_r hL rfl) dX1_leads_16 ?_
    refine r_aload_n dX1_leads_19 rfl ?_
    refine r_getF kX1 (k := 3) (by decide) rfl fl_X1_21 (lay_ok hL rfl) (lay_r hL rfl) dX1_leads_20 ?_
    refine r_iload_n dX1_leads_23 rfl ?_
    refine r_ialdE (nI h) (lay_ok hL rfl) (by omega) (by decide) dX1_leads_24 hh ?_
    refine r_ialdN (lay_ok hL rfl) (by omega) (by decide) dX1_leads_25 ?_
    refine r_iload_n dX1_leads_26 rfl ?_
    refine r_icmp_ne 34 dX1_leads_27 (by decide) (fun c27 => ?_) (fun c27 => ?_)
    · refine r_iconst (0) dX1_leads_34 (by decide) ?_
      exact r_iret (Or.inr ⟨rfl, by first | exact Or.inl rfl | exact Or.inr rfl⟩) dX1_leads_35 ⟨by simp [*], rfl⟩
    · refine r_iconst (1) dX1_leads_30 (by decide) ?_
      refine r_goto 35 dX1_leads_31 (by decide) ?_
      exact r_iret (Or.inr ⟨rfl, by first | exact Or.inl rfl | exact Or.inr rfl⟩) dX1_leads_35 ⟨by simp [*], rfl⟩
set_option maxHeartbeats 4000000 in
set_option maxRecDepth 100000 in
theorem c_X1_message {l : Launch} {X : Nat × (Nat → Int32)} {M : am_M} (hL : Lay M) {a t k va p q r : Nat} (hva : am_ok M va 7 0) (hp : mR M va 0 = some p) (hq : mR M va 1 = some q) (hr : mR M va 2 = some r) (hpo : am_ok M p 10 16) (hqo : am_ok M q 10 16) (hro : am_ok M r 11 16) (ha : a < 40) (ht : mI M 5 a = nI t) (ht2 : t < 16) (hk0 : mI M 2 7 = nI k) (hk : k ≤ 3) : am_F l yX1_message cX1_message 5 (some .int) 1 0 0 X [.ref 2, .int (nI a), .ref va] M (some (.int (t_msg k (mI M p t) (mI M 7 a)))) (M) := by
  refine am_C.of (by decide) (by simp [Value.category, va_rf]) (Nat.le_of_ble_eq_true rfl) ?_
  refine r_aload_n dX1_message_0 rfl ?_
  refine r_getF kX7 (k := 0) (by decide) rfl fl_X1_37 hva hp dX1_message_1 ?_
  refine r_aload_n dX1_message_4 rfl ?_
  refine r_getF kX1 (k := 2) (by decide) rfl fl_X1_18 (lay_ok hL rfl) (lay_r hL rfl) dX1_message_5 ?_
  refine r_iload_n dX1_message_8 rfl ?_
  refine r_ialdE (nI t) (lay_ok hL rfl) (by omega) (by decide) dX1_message_9 ht ?_
  refine r_ialdN hpo (by omega) (by decide) dX1_message_10 ?_
  refine r_istore_n _ dX1_message_11 (by decide) rfl ?_
  refine r_aload_n dX1_message_12 rfl ?_
  refine r_getF kX1 (k := 4) (by decide) rfl fl_X1_24 (lay_ok hL rfl) (lay_r hL rfl) dX1_message_13 ?_
  refine r_iload_n dX1_message_16 rfl ?_
  refine r_ialdN (lay_ok hL rfl) (by omega) (by decide) dX1_message_17 ?_
  refine r_istore _ dX1_message_18 (by decide) rfl ?_
  refine r_aload_n dX1_message_20 rfl ?_
  refine r_getE (nI k) kX1 (k := 7) (by decide) rfl fl_X1_34 (lay_ok hL rfl) dX1_message_21 hk0 ?_
  rcases (lt4 hk) with rfl | rfl | rfl | rfl
  · refine r_lookup 64 dX1_message_24 (by decide) (off := 40) (by decide) (by decide) ?_
    refine r_iload_n dX1_message_64 rfl ?_
    refine r_iload dX1_message_65 rfl ?_
    refine r_iadd dX1_message_67 ?_
    exact r_iret (Or.inl rfl) dX1_message_68 ⟨rfl, rfl⟩
  · refine r_lookup 52 dX1_message_24 (by decide) (off := 28) (by decide) (by decide) ?_
    refine r_iload_n dX1_message_52 rfl ?_
    refine r_iload dX1_message_53 rfl ?_
    refine r_mmin ml_X1_42 sm_yJ9_min_7cf53 ini_J9 co_min ⟨by decide, by decide⟩ dX1_message_55 ?_
    exact r_iret (Or.inl rfl) dX1_message_58 ⟨rfl, rfl⟩
  · refine r_lookup 59 dX1_message_24 (by decide) (off := 35) (by decide) (by decide) ?_
    refine r_iload_n dX1_message_59 rfl ?_
    refine r_iload dX1_message_60 rfl ?_
    refine r_imul dX1_message_62 ?_
    exact r_iret (Or.inl rfl) dX1_message_63 ⟨rfl, rfl⟩
  · refine r_lookup 64 dX1_message_24 (by decide) (off := 40) (by decide) (by decide) ?_
    refine r_iload_n dX1_message_64 rfl ?_
    refine r_iload dX1_message_65 rfl ?_
    refine r_iadd dX1_message_67 ?_
    exact r_iret (Or.inl rfl) dX1_message_68 ⟨rfl, rfl⟩
set_option maxHeartbeats 4000000 in
set_option maxRecDepth 100000 in
theorem c_X7_begin {l : Launch} {X : Nat × (Nat → Int32)} {M : am_M} (hL : Lay M) {va p q r v : Nat} {x : Int32} (hva : am_ok M va 7 0) (hp : mR M va 0 = some p) (hq : mR M va 1 = some q) (hr : mR M va 2 = some r) (hpo : am_ok M p 10 16) (hqo : am_ok M q 10 16) (hro : am_ok M r 11 16) (hv : v < 16) : am_F l yX7_begin cX7_begin 3 (none) 0 0 0 X [.ref va, .int (nI v), .int x] M (none) (wI (wI (wI M p v x) q v 0) r v 1) := by
  refine am_C.of (by decide) (by simp [Value.category, va_rf]) (Nat.le_of_ble_eq_true rfl) ?_
  refine r_aload_n dX7_begin_0 rfl ?_
  refine r_getF kX7 (k := 0) (by decide) rfl fl_X7_9 hva hp dX7_begin_1 ?_
  refine r_iload_n dX7_begin_4 rfl ?_
  refine r_iload_n dX7_begin_5 rfl ?_
  refine r_iastN hpo (by omega) (by decide) dX7_begin_6 ?_
  refine r_lay (lay_wI hL _ _ _) (fun hL => ?_)
  refine r_aload_n dX7_begin_7 rfl ?_
  refine r_getF kX7 (k := 1) (by decide) rfl fl_X7_15 hva hq dX7_begin_8 ?_
  refine r_iload_n dX7_begin_11 rfl ?_
  refine r_iconst (0) dX7_begin_12 (by decide) ?_
  refine r_iastN hqo (by omega) (by decide) dX7_begin_13 ?_
  refine r_lay (lay_wI hL _ _ _) (fun hL => ?_)
  refine r_aload_n dX7_begin_14 rfl ?_
  refine r_getF kX7 (k := 2) (by decide) rfl fl_X7_18 hva hr dX7_begin_15 ?_
  refine r_iload_n dX7_begin_18 rfl ?_
  refine r_iconst (1) dX7_begin_19 (by decide) ?_
  refine r_zastN hro (by omega) (by decide) (by decide) dX7_begin_20 ?_
  refine r_lay (lay_wI hL _ _ _) (fun hL => ?_)
  exact r_vret rfl dX7_begin_21 ⟨rfl, rfl⟩
set_option maxHeartbeats 4000000 in
set_option maxRecDepth 100000 in
theorem c_X7_copyVertex {l : Launch} {X : Nat × (Nat → Int32)} {M : am_M} (hL : Lay M) {va p q r vb p2 q2 r2 v : Nat} (hva : am_ok M va 7 0) (hp : mR M va 0 = some p) (hq : mR M va 1 = some q) (hr : mR M va 2 = some r) (hpo : am_ok M p 10 16) (hqo : am_ok M q 10 16) (hro : am_ok M r 11 16) (hvb : am_ok M vb 7 0) (hp2 : mR M vb 0 = some p2) (hq2 : mR M vb 1 = some q2) (hr2 : mR M vb 2 = some r2) (hpo2 : am_ok M p2 10 16) (hqo2 : am_ok M q2 10 16) (hro2 : am_ok M r2 11 16) (hv : v < 16) (h1 : q2 ≠ p) (h2 : r2 ≠ p) (h3 : r2 ≠ q) (h01 : mI M r2 v = 0 ∨ mI M r2 v = 1) : am_F l yX7_copyVertex cX7_copyVertex 3 (none) 0 0 0 X [.ref va, .int (nI v), .ref vb] M (none) (wI (wI (wI M p v (mI M p2 v)) q v (mI M q2 v)) r v (mI M r2 v)) := by
  refine am_C.of (by decide) (by simp [Value.category, va_rf]) (Nat.le_of_ble_eq_true rfl) ?_
  refine r_aload_n dX7_copyVertex_0 rfl ?_
  refine r_getF kX7 (k := 0) (by decide) rfl fl_X7_9 hva hp dX7_copyVertex_1 ?_
  refine r_iload_n dX7_copyVertex_4 rfl ?_
  refine r_aload_n dX7_copyVertex_5 rfl ?_
  refine r_getF kX7 (k := 0) (by decide) rfl fl_X7_9 hvb hp2 dX7_copyVertex_6 ?_
  refine r_iload_n dX7_copyVertex_9 rfl ?_
  refine r_ialdN hpo2 (by omega) (by decide) dX7_copyVertex_10 ?_
  refine r_iastN hpo (by omega) (by decide) dX7_copyVertex_11 ?_
  refine r_lay (lay_wI hL _ _ _) (fun hL => ?_)
  refine r_aload_n dX7_copyVertex_12 rfl ?_
  refine r_getF kX7 (k := 1) (by decide) rfl fl_X7_15 hva hq dX7_copyVertex_13 ?_
  refine r_iload_n dX7_copyVertex_16 rfl ?_
  refine r_aload_n dX7_copyVertex_17 rfl ?_
  refine r_getF kX7 (k := 1) (by decide) rfl fl_X7_15 hvb hq2 dX7_copyVertex_18 ?_
  refine r_iload_n dX7_copyVertex_21 rfl ?_
  refine r_ialdE (mI M q2 v) hqo2 (by omega) (by decide) dX7_copyVertex_22 (by rw [mI_wI_n _ _ _ h1]) ?_
  refine r_iastN hqo (by omega) (by decide) dX7_copyVertex_23 ?_
  refine r_lay (lay_wI hL _ _ _) (fun hL => ?_)
  refine r_aload_n dX7_copyVertex_24 rfl ?_
  refine r_getF kX7 (k := 2) (by decide) rfl fl_X7_18 hva hr dX7_copyVertex_25 ?_
  refine r_iload_n dX7_copyVertex_28 rfl ?_
  refine r_aload_n dX7_copyVertex_29 rfl ?_
  refine r_getF kX7 (k := 2) (by decide) rfl fl_X7_18 hvb hr2 dX7_copyVertex_30 ?_
  refine r_iload_n dX7_copyVertex_33 rfl ?_
  refine r_zaldE (mI M r2 v) hro2 (by omega) (by decide) dX7_copyVertex_34 (by rw [mI_wI_n _ _ _ h3, mI_wI_n _ _ _ h2]) ?_
  refine r_zastN hro (by omega) (by decide) h01 dX7_copyVertex_35 ?_
  refine r_lay (lay_wI hL _ _ _) (fun hL => ?_)
  exact r_vret rfl dX7_copyVertex_36 ⟨rfl, rfl⟩
set_option maxHeartbeats 4000000 in
set_option maxRecDepth 100000 in
theorem c_X7_tell {l : Launch} {X : Nat × (Nat → Int32)} {M : am_M} (hL : Lay M) {va p q r v : Nat} {what : Int32} (hva : am_ok M va 7 0) (hp : mR M va 0 = some p) (hq : mR M va 1 = some q) (hr : mR M va 2 = some r) (hpo : am_ok M p 10 16) (hqo : am_ok M q 10 16) (hro : am_ok M r 11 16) (hv : v < 16) : am_F l yX7_tell cX7_tell 3 (some .long) 0 0 0 X [.ref va, .int (nI v), .int what] M (some (.long (if what = 0 then (mI M p v).toInt64 else if what = 1 then (mI M q v).toInt64 else if what = 2 then (if mI M r v = 0 then 0 else 1) else (-9223372036854775808)))) (M) := by
  refine am_C.of (by decide) (by simp [Value.category, va_rf]) (Nat.le_of_ble_eq_true rfl) ?_
  refine r_iload_n dX7_tell_0 rfl ?_
  by_cases w0 : what = 0
  · subst w0
    refine r_tableIn 28 dX7_tell_1 (by decide) (by decide) (off := 27) (by decide) (by decide) ?_
    refine r_aload_n dX7_tell_28 rfl ?_
    refine r_getF kX7 (k := 0) (by decide) rfl fl_X7_9 hva hp dX7_tell_29 ?_
    refine r_iload_n dX7_tell_32 rfl ?_
    refine r_ialdN hpo (by omega) (by decide) dX7_tell_33 ?_
    refine r_i2l dX7_tell_34 ?_
    exact r_lret rfl dX7_tell_35 ⟨by simp [*], rfl⟩
  by_cases w1 : what = 1
  · subst w1
    refine r_tableIn 36 dX7_tell_1 (by decide) (by decide) (off := 35) (by decide) (by decide) ?_
    refine r_aload_n dX7_tell_36 rfl ?_
    refine r_getF kX7 (k := 1) (by decide) rfl fl_X7_15 hva hq dX7_tell_37 ?_
    refine r_iload_n dX7_tell_40 rfl ?_
    refine r_ialdN hqo (by omega) (by decide) dX7_tell_41 ?_
    refine r_i2l dX7_tell_42 ?_
    exact r_lret rfl dX7_tell_43 ⟨by simp [*], rfl⟩
  by_cases w2 : what = 2
  · subst w2
    refine r_tableIn 44 dX7_tell_1 (by decide) (by decide) (off := 43) (by decide) (by decide) ?_
    refine r_aload_n dX7_tell_44 rfl ?_
    refine r_getF kX7 (k := 2) (by decide) rfl fl_X7_18 hva hr dX7_tell_45 ?_
    refine r_iload_n dX7_tell_48 rfl ?_
    refine r_zaldN hro (by omega) (by decide) dX7_tell_49 ?_
    refine r_if_eq 57 dX7_tell_50 (by decide) (fun c50 => ?_) (fun c50 => ?_)
    · refine r_lconst (0) dX7_tell_57 (by decide) ?_
      exact r_lret rfl dX7_tell_58 ⟨by simp [*], rfl⟩
    · refine r_lconst (1) dX7_tell_53 (by decide) ?_
      refine r_goto 58 dX7_tell_54 (by decide) ?_
      exact r_lret rfl dX7_tell_58 ⟨by simp [*], rfl⟩
  refine r_tableOut 59 dX7_tell_1 (by have t0 := lv_neT (a := 0) w0 rfl; have t1 := lv_neT (a := 1) w1 rfl; have t2 := lv_neT (a := 2) w2 rfl; omega) (by decide) ?_
  refine r_ldc2 _ dX7_tell_59 kl_X7_22 ?_
  exact r_lret rfl dX7_tell_62 ⟨by simp [*], rfl⟩
end
section
set_option maxHeartbeats 4000000 in
set_option maxRecDepth 100000 in
theorem l_X1_verticesAt {l : Launch} {X : Nat × (Nat → Int32)} {M : am_M} (hL : Lay M) {nv n : Nat} {hm : Nat → Nat} (h5 : mI M 2 5 = nI nv) (hnv : nv ≤ 16) (hH : ∀ v, v < nv → mI M 3 v = nI (hm v) ∧ hm v < 5) (hn : n < 5) : ∀ k i : Nat, i + k = nv → am_V l yX1_verticesAt cX1_verticesAt 4 (some .int) (am_R 0 0 0) 0 0 X (fun v M' => v = some (.int (nI (itr (fun v c => if hm v = n then c + 1 else c) nv 0))) ∧ M' = M) 0 0 4 [some (.ref 2), some (.int (nI n)), some (.int (nI (itr (fun v c => if hm v = n then c + 1 else c) i 0))), some (.int (nI i))] [] (M) := by
  intro k
  induction k with
  | zero =>
    intro i hi
    obtain rfl : i = nv := by omega
    refine r_iload_n dX1_verticesAt_4 rfl ?_
    refine r_aload_n dX1_verticesAt_5 rfl ?_
    refine r_getE (nI i) kX1 (k := 5) (by decide) rfl fl_X1_27 (lay_ok hL rfl) dX1_verticesAt_6 h5 ?_
    refine r_icmp_ge 31 dX1_verticesAt_9 (by decide) (fun _ => ?_) (fun hq => absurd (nI_le (Nat.le_refl i) (by omega)) hq)
    refine r_iload_n dX1_verticesAt_31 rfl ?_
    exact r_iret (Or.inl rfl) dX1_verticesAt_32 ⟨rfl, rfl⟩
  | succ k ih =>
    intro i hi
    obtain ⟨e1, e2⟩ := hH i (by omega)
    refine r_iload_n dX1_verticesAt_4 rfl ?_
    refine r_aload_n dX1_verticesAt_5 rfl ?_
    refine r_getE (nI nv) kX1 (k := 5) (by decide) rfl fl_X1_27 (lay_ok hL rfl) dX1_verticesAt_6 h5 ?_
    refine r_icmp_ge 31 dX1_verticesAt_9 (by decide) (fun hq => absurd hq (nI_ge (by omega) (by omega))) (fun _ => ?_)
    refine r_aload_n dX1_verticesAt_12 rfl ?_
    refine r_getF kX1 (k := 0) (by decide) rfl fl_X1_9 (lay_ok hL rfl) (lay_r hL rfl) dX1_verticesAt_13 ?_
    refine r_iload_n dX1_verticesAt_16 rfl ?_
    refine r_ialdE (nI (hm i)) (lay_ok hL rfl) (by omega) (by omega) dX1_verticesAt_17 e1 ?_
    refine r_iload_n dX1_verticesAt_18 rfl ?_
    refine r_icmp_ne 25 dX1_verticesAt_19 (by decide) (fun c19 => ?_) (fun c19 => ?_)
    · refine r_iinc (nI (i + 1)) _ dX1_verticesAt_25 (by decide) rfl (nI_1 _) rfl ?_
      refine r_goto 4 dX1_verticesAt_28 (by decide) ?_
      first | (have q := ih (i + 1) (by omega); rw [itr_s, if_neg (fun h => c19 (by rw [h]))] at q; exact q) | (have q := ih (i + 1) (by omega); rw [itr_s, if_pos ((nI_eq (by omega) (by omega)).mp c19)] at q; exact q)
    · refine r_iinc (nI ((itr (fun v c => if hm v = n then c + 1 else c) i 0) + 1)) _ dX1_verticesAt_22 (by decide) rfl (nI_1 _) rfl ?_
      refine r_iinc (nI (i + 1)) _ dX1_verticesAt_25 (by decide) rfl (nI_1 _) rfl ?_
      refine r_goto 4 dX1_verticesAt_28 (by decide) ?_
      first | (have q := ih (i + 1) (by omega); rw [itr_s, if_neg (fun h => c19 (by rw [h]))] at q; exact q) | (have q := ih (i + 1) (by omega); rw [itr_s, if_pos ((nI_eq (by omega) (by omega)).mp c19)] at q; exact q)
set_option maxHeartbeats 4000000 in
set_option maxRecDepth 100000 in
theorem c_X1_verticesAt {l : Launch} {X : Nat × (Nat → Int32)} {M : am_M} (hL : Lay M) {nv n : Nat} {hm : Nat → Nat} (h5 : mI M 2 5 = nI nv) (hnv : nv ≤ 16) (hH : ∀ v, v < nv → mI M 3 v = nI (hm v) ∧ hm v < 5) (hn : n < 5) : am_F l yX1_verticesAt cX1_verticesAt 4 (some .int) 0 0 0 X [.ref 2, .int (nI n)] M (some (.int (nI (itr (fun v c => if hm v = n then c + 1 else c) nv 0)))) (M) := by
  refine am_C.of (by decide) (by simp [Value.category, va_rf]) (Nat.le_of_ble_eq_true rfl) ?_
  refine r_iconst (nI 0) dX1_verticesAt_0 (by decide) ?_
  refine r_istore_n _ dX1_verticesAt_1 (by decide) rfl ?_
  refine r_iconst (nI 0) dX1_verticesAt_2 (by decide) ?_
  refine r_istore_n _ dX1_verticesAt_3 (by decide) rfl ?_
  exact l_X1_verticesAt hL h5 hnv hH hn nv 0 (by omega)
set_option maxHeartbeats 4000000 in
set_option maxRecDepth 100000 in
theorem l_X1_activeAt {l : Launch} {X : Nat × (Nat → Int32)} {M : am_M} (hL : Lay M) {nv n va p q r : Nat} {hm ac : Nat → Nat} (hva : am_ok M va 7 0) (hp : mR M va 0 = some p) (hq : mR M va 1 = some q) (hr : mR M va 2 = some r) (hpo : am_ok M p 10 16) (hqo : am_ok M q 10 16) (hro : am_ok M r 11 16) (h5 : mI M 2 5 = nI nv) (hnv : nv ≤ 16) (hH : ∀ v, v < nv → mI M 3 v = nI (hm v) ∧ hm v < 5 ∧ mI M r v = nI (ac v) ∧ ac v ≤ 1) (hn : n < 5) : ∀ k i : Nat, i + k = nv → am_V l yX1_activeAt cX1_activeAt 5 (some .int) (am_R 0 0 0) 0 0 X (fun v M' => v = some (.int (nI (itr (fun v c => if hm v = n ∧ ac v = 1 then c + 1 else c) nv 0))) ∧ M' = M) 0 0 5 [some (.ref 2), some (.int (nI n)), some (.ref va), some (.int (nI (itr (fun v c => if hm v = n ∧ ac v = 1 then c + 1 else c) i 0))), some (.int (nI i))] [] (M) := by
  intro k
  induction k with
  | zero =>
    intro i hi
    obtain rfl : i = nv := by omega
    refine r_iload dX1_activeAt_5 rfl ?_
    refine r_aload_n dX1_activeAt_7 rfl ?_
    refine r_getE (nI i) kX1 (k := 5) (by decide) rfl fl_X1_27 (lay_ok hL rfl) dX1_activeAt_8 h5 ?_
    refine r_icmp_ge 44 dX1_activeAt_11 (by decide) (fun _ => ?_) (fun hq => absurd (nI_le (Nat.le_refl i) (by omega)) hq)
    refine r_iload_n dX1_activeAt_44 rfl ?_
    exact r_iret (Or.inl rfl) dX1_activeAt_45 ⟨rfl, rfl⟩
  | succ k ih =>
    intro i hi
    obtain ⟨e1, e2, e3, e4⟩ := hH i (by omega)
    refine r_iload dX1_activeAt_5 rfl ?_
    refine r_aload_n dX1_activeAt_7 rfl ?_
    refine r_getE (nI nv) kX1 (k := 5) (by decide) rfl fl_X1_27 (lay_ok hL rfl) dX1_activeAt_8 h5 ?_
    refine r_icmp_ge 44 dX1_activeAt_11 (by decide) (fun hq => absurd hq (nI_ge (by omega) (by omega))) (fun _ => ?_)
    refine r_aload_n dX1_activeAt_14 rfl ?_
    refine r_getF kX1 (k := 0) (by decide) rfl fl_X1_9 (lay_ok hL rfl) (lay_r hL rfl) dX1_activeAt_15 ?_
    refine r_iload dX1_activeAt_18 rfl ?_
    refine r_ialdE (nI (hm i)) (lay_ok hL rfl) (by omega) (by omega) dX1_activeAt_20 e1 ?_
    refine r_iload_n dX1_activeAt_21 rfl ?_
    refine r_icmp_ne 38 dX1_activeAt_22 (by decide) (fun c22 => ?_) (fun c22 => ?_)
    · refine r_iinc (nI (i + 1)) _ dX1_activeAt_38 (by decide) rfl (nI_1 _) rfl ?_
      refine r_goto 5 dX1_activeAt_41 (by decide) ?_
      first | (have q := ih (i + 1) (by omega); rw [itr_s, if_neg (fun h => c22 (by rw [h.1]))] at q; exact q) | (have q := ih (i + 1) (by omega); rw [itr_s, if_neg (fun h => absurd c32 (by rw [h.2]; decide))] at q; exact q) | (have q := ih (i + 1) (by omega); rw [itr_s, if_pos ⟨(nI_eq (by omega) (by omega)).mp c22, by rcases (show ac i = 0 ∨ ac i = 1 by omega) with z | z; exact absurd (by rw [z]; rfl) c32; exact z⟩] at q; exact q)
    · refine r_aload_n dX1_activeAt_25 rfl ?_
      refine r_getF kX7 (k := 2) (by decide) rfl fl_X1_48 hva hr dX1_activeAt_26 ?_
      refine r_iload dX1_activeAt_29 rfl ?_
      refine r_zaldE (nI (ac i)) hro (by omega) (by omega) dX1_activeAt_31 e3 ?_
      refine r_if_eq 38 dX1_activeAt_32 (by decide) (fun c32 => ?_) (fun c32 => ?_)
      · refine r_iinc (nI (i + 1)) _ dX1_activeAt_38 (by decide) rfl (nI_1 _) rfl ?_
        refine r_goto 5 dX1_activeAt_41 (by decide) ?_
        first | (have q := ih (i + 1) (by omega); rw [itr_s, if_neg (fun h => c22 (by rw [h.1]))] at q; exact q) | (have q := ih (i + 1) (by omega); rw [itr_s, if_neg (fun h => absurd c32 (by rw [h.2]; decide))] at q; exact q) | (have q := ih (i + 1) (by omega); rw [itr_s, if_pos ⟨(nI_eq (by omega) (by omega)).mp c22, by rcases (show ac i = 0 ∨ ac i = 1 by omega) with z | z; exact absurd (by rw [z]; rfl) c32; exact z⟩] at q; exact q)
      · refine r_iinc (nI ((itr (fun v c => if hm v = n ∧ ac v = 1 then c + 1 else c) i 0) + 1)) _ dX1_activeAt_35 (by decide) rfl (nI_1 _) rfl ?_
        refine r_iinc (nI (i + 1)) _ dX1_activeAt_38 (by decide) rfl (nI_1 _) rfl ?_
        refine r_goto 5 dX1_activeAt_41 (by decide) ?_
        first | (have q := ih (i + 1) (by omega); rw [itr_s, if_neg (fun h => c22 (by rw [h.1]))] at q; exact q) | (have q := ih (i + 1) (by omega); rw [itr_s, if_neg (fun h => absurd c32 (by rw [h.2]; decide))] at q; exact q) | (have q := ih (i + 1) (by omega); rw [itr_s, if_pos ⟨(nI_eq (by omega) (by omega)).mp c22, by rcases (show ac i = 0 ∨ ac i = 1 by omega) with z | z; exact absurd (by rw [z]; rfl) c32; exact z⟩] at q; exact q)
set_option maxHeartbeats 4000000 in
set_option maxRecDepth 100000 in
theorem c_X1_activeAt {l : Launch} {X : Nat × (Nat → Int32)} {M : am_M} (hL : Lay M) {nv n va p q r : Nat} {hm ac : Nat → Nat} (hva : am_ok M va 7 0) (hp : mR M va 0 = some p) (hq : mR M va 1 = some q) (hr : mR M va 2 = some r) (hpo : am_ok M p 10 16) (hqo : am_ok M q 10 16) (hro : am_ok M r 11 16) (h5 : mI M 2 5 = nI nv) (hnv : nv ≤ 16) (hH : ∀ v, v < nv → mI M 3 v = nI (hm v) ∧ hm v < 5 ∧ mI M r v = nI (ac v) ∧ ac v ≤ 1) (hn : n < 5) : am_F l yX1_activeAt cX1_activeAt 5 (some .int) 0 0 0 X [.ref 2, .int (nI n), .ref va] M (some (.int (nI (itr (fun v c => if hm v = n ∧ ac v = 1 then c + 1 else c) nv 0)))) (M) := by
  refine am_C.of (by decide) (by simp [Value.category, va_rf]) (Nat.le_of_ble_eq_true rfl) ?_
  refine r_iconst (nI 0) dX1_activeAt_0 (by decide) ?_
  refine r_istore_n _ dX1_activeAt_1 (by decide) rfl ?_
  refine r_iconst (nI 0) dX1_activeAt_2 (by decide) ?_
  refine r_istore _ dX1_activeAt_3 (by decide) rfl ?_
  exact l_X1_activeAt hL hva hp hq hr hpo hqo hro h5 hnv hH hn nv 0 (by omega)
set_option maxHeartbeats 4000000 in
set_option maxRecDepth 100000 in
theorem l_X2_clear {l : Launch} {X : Nat × (Nat → Int32)} {M : am_M} (hL : Lay M)  : ∀ k i : Nat, i + k = 16 → am_V l yX2_clear cX2_clear 2 (none) (am_R 0 0 0) 0 0 X (fun v M' => v = none ∧ M' = wF M 17 (fl (mI M 17) 16 0)) 0 0 2 [some (.ref 16), some (.int (nI i))] [] (wF M 17 (fl (mI M 17) i 0)) := by
  intro k
  induction k with
  | zero =>
    intro i hi
    obtain rfl : i = 16 := by omega
    refine r_iload_n dX2_clear_2 rfl ?_
    refine r_bipush (nI 16) dX2_clear_3 (by decide) ?_
    refine r_icmp_ge 21 dX2_clear_5 (by decide) (fun _ => ?_) (fun hq => absurd (nI_le (Nat.le_refl 16) (by decide)) hq)
    exact r_vret rfl dX2_clear_21 ⟨rfl, rfl⟩
  | succ k ih =>
    intro i hi
    have hL := lay_wF hL 17 (fl (mI M 17) i 0)
    refine r_iload_n dX2_clear_2 rfl ?_
    refine r_bipush (nI 16) dX2_clear_3 (by decide) ?_
    refine r_icmp_ge 21 dX2_clear_5 (by decide) (fun hq => absurd hq (nI_ge (by omega) (by decide))) (fun _ => ?_)
    refine r_aload_n dX2_clear_8 rfl ?_
    refine r_getF kX2 (k := 0) (by decide) rfl fl_X2_9 (lay_ok hL rfl) (lay_r hL rfl) dX2_clear_9 ?_
    refine r_iload_n dX2_clear_12 rfl ?_
    refine r_iconst (0) dX2_clear_13 (by decide) ?_
    refine r_zastN (lay_ok hL rfl) (by omega) (by decide) (by decide) dX2_clear_14 ?_
    refine r_lay (lay_wI hL _ _ _) (fun hL => ?_)
    refine r_iinc (nI (i + 1)) _ dX2_clear_15 (by decide) rfl (nI_1 _) rfl ?_
    refine r_goto 2 dX2_clear_18 (by decide) ?_
    have q := ih (i + 1) (by omega)
    rw [← fl_s (mI M 17) i 0, ← wI_wF] at q
    exact q
set_option maxHeartbeats 4000000 in
set_option maxRecDepth 100000 in
theorem c_X2_clear {l : Launch} {X : Nat × (Nat → Int32)} {M : am_M} (hL : Lay M)  : am_F l yX2_clear cX2_clear 2 (none) 0 0 0 X [.ref 16] M (none) (wF M 17 (fl (mI M 17) 16 0)) := by
  refine am_C.of (by decide) (by simp [Value.category, va_rf]) (Nat.le_of_ble_eq_true rfl) ?_
  refine r_iconst (nI 0) dX2_clear_0 (by decide) ?_
  refine r_istore_n _ dX2_clear_1 (by decide) rfl ?_
  have q := l_X2_clear (l := l) (X := X) hL 16 0 (by omega)
  rw [fl_0, wF_id] at q
  exact q
set_option maxHeartbeats 4000000 in
set_option maxRecDepth 100000 in
theorem l_X5_clear {l : Launch} {X : Nat × (Nat → Int32)} {M : am_M} (hL : Lay M)  : ∀ k i : Nat, i + k = 60 → am_V l yX5_clear cX5_clear 2 (none) (am_R 0 0 0) 0 0 X (fun v M' => v = none ∧ M' = wI (wQ M 25 (fl (mR M 25) 60 none)) 24 1 0) 0 0 2 [some (.ref 24), some (.int (nI i))] [] (wQ M 25 (fl (mR M 25) i none)) := by
  intro k
  induction k with
  | zero =>
    intro i hi
    obtain rfl : i = 60 := by omega
    have hL := lay_wQ hL (fl (mR M 25) 60 none) (a := 25) (fun _ => rfl)
    refine r_iload_n dX5_clear_2 rfl ?_
    refine r_bipush (nI 60) dX5_clear_3 (by decide) ?_
    refine r_icmp_ge 21 dX5_clear_5 (by decide) (fun _ => ?_) (fun hq => absurd (nI_le (Nat.le_refl 60) (by decide)) hq)
    refine r_aload_n dX5_clear_21 rfl ?_
    refine r_iconst (0) dX5_clear_22 (by decide) ?_
    refine r_putI kX5 (k := 1) (by decide) rfl (Or.inl rfl) fl_X5_17 (lay_ok hL rfl) ⟨rfl, rfl⟩ dX5_clear_23 ?_
    refine r_lay (lay_wI hL _ _ _) (fun hL => ?_)
    exact r_vret rfl dX5_clear_26 ⟨rfl, rfl⟩
  | succ k ih =>
    intro i hi
    have hL := lay_wQ hL (fl (mR M 25) i none) (a := 25) (fun _ => rfl)
    refine r_iload_n dX5_clear_2 rfl ?_
    refine r_bipush (nI 60) dX5_clear_3 (by decide) ?_
    refine r_icmp_ge 21 dX5_clear_5 (by decide) (fun hq => absurd hq (nI_ge (by omega) (by decide))) (fun _ => ?_)
    refine r_aload_n dX5_clear_8 rfl ?_
    refine r_getF kX5 (k := 0) (by decide) rfl fl_X5_11 (lay_ok hL rfl) (lay_r hL rfl) dX5_clear_9 ?_
    refine r_iload_n dX5_clear_12 rfl ?_
    refine r_null dX5_clear_13 ?_
    refine r_aastZ (Or.inl rfl) (lay_ok hL rfl) (by omega) (by decide) dX5_clear_14 ?_
    refine r_lay (lay_wR hL _ rfl) (fun hL => ?_)
    refine r_iinc (nI (i + 1)) _ dX5_clear_15 (by decide) rfl (nI_1 _) rfl ?_
    refine r_goto 2 dX5_clear_18 (by decide) ?_
    have q := ih (i + 1) (by omega)
    rw [← fl_s (mR M 25) i none, ← wR_wQ] at q
    exact q
set_option maxHeartbeats 4000000 in
set_option maxRecDepth 100000 in
theorem c_X5_clear {l : Launch} {X : Nat × (Nat → Int32)} {M : am_M} (hL : Lay M)  : am_F l yX5_clear cX5_clear 2 (none) 0 0 0 X [.ref 24] M (none) (wI (wQ M 25 (fl (mR M 25) 60 none)) 24 1 0) := by
  refine am_C.of (by decide) (by simp [Value.category, va_rf]) (Nat.le_of_ble_eq_true rfl) ?_
  refine r_iconst (nI 0) dX5_clear_0 (by decide) ?_
  refine r_istore_n _ dX5_clear_1 (by decide) rfl ?_
  have q := l_X5_clear (l := l) (X := X) hL 60 0 (by omega)
  rw [fl_0, wQ_id] at q
  exact q
set_option maxHeartbeats 4000000 in
set_option maxRecDepth 100000 in
theorem c_X5_at {l : Launch} {X : Nat × (Nat → Int32)} {M : am_M} (hL : Lay M) {x : Int32} {k : Nat} (hk : mI M 24 1 = nI k) (hk2 : k ≤ 60) : am_F l yX5_at cX5_at 2 (some (.object "SplitNodes$Letter")) 0 0 0 X [.ref 24, .int x] M (some (va_rf (if x < 0 then none else if nI k ≤ x then none else mR M 25 x.toNatClampNeg))) (M) := by
  refine am_C.of (by decide) (by simp [Value.category, va_rf]) (Nat.le_of_ble_eq_true rfl) ?_
  refine r_iload_n dX5_at_0 rfl ?_
  refine r_if_lt 21 dX5_at_1 (by decide) (fun c1 => ?_) (fun c1 => ?_)
  · refine r_null dX5_at_21 ?_
    first | exact r_aret (r := none) (Or.inl ⟨_, rfl⟩) dX5_at_22 ⟨by simp [*], rfl⟩ | exact r_aret (Or.inl ⟨_, rfl⟩) dX5_at_22 ⟨by simp [*], rfl⟩
  · refine r_iload_n dX5_at_4 rfl ?_
    refine r_aload_n dX5_at_5 rfl ?_
    refine r_getE (nI k) kX5 (k := 1) (by decide) rfl fl_X5_17 (lay_ok hL rfl) dX5_at_6 hk ?_
    refine r_icmp_ge 21 dX5_at_9 (by decide) (fun c9 => ?_) (fun c9 => ?_)
    · refine r_null dX5_at_21 ?_
      first | exact r_aret (r := none) (Or.inl ⟨_, rfl⟩) dX5_at_22 ⟨by simp [*], rfl⟩ | exact r_aret (Or.inl ⟨_, rfl⟩) dX5_at_22 ⟨by simp [*], rfl⟩
    · refine r_aload_n dX5_at_12 rfl ?_
      refine r_getF kX5 (k := 0) (by decide) rfl fl_X5_11 (lay_ok hL rfl) (lay_r hL rfl) dX5_at_13 ?_
      refine r_iload_n dX5_at_16 rfl ?_
      refine r_aald (Or.inl rfl) (lay_ok hL rfl) (vp_in_iff.mpr ⟨by have := Int32.not_lt.mp c1; simpa using Int32.le_iff_toInt_le.mp this, by have := Int32.lt_iff_toInt_lt.mp (Int32.not_le.mp c9); rw [nI_toInt (by omega)] at this; omega⟩) dX5_at_17 ?_
      refine r_goto 22 dX5_at_18 (by decide) ?_
      first | exact r_aret (r := none) (Or.inl ⟨_, rfl⟩) dX5_at_22 ⟨by simp [*], rfl⟩ | exact r_aret (Or.inl ⟨_, rfl⟩) dX5_at_22 ⟨by simp [*], rfl⟩
set_option maxHeartbeats 4000000 in
set_option maxRecDepth 100000 in
theorem c_X5_add {l : Launch} {X : Nat × (Nat → Int32)} {M : am_M} (hL : Lay M) {a k n0 : Nat} (hla : am_ok M a 3 n0) (hk : mI M 24 1 = nI k) (hk2 : k ≤ 60) : am_F l yX5_add cX5_add 2 (some .boolean) 0 0 0 X [.ref 24, .ref a] M (some (.int (if k < 60 then 1 else 0))) (if k < 60 then wI (wR M 25 k (some a)) 24 1 (nI (k + 1)) else M) := by
  refine am_C.of (by decide) (by simp [Value.category, va_rf]) (Nat.le_of_ble_eq_true rfl) ?_
  refine r_aload_n dX5_add_0 rfl ?_
  refine r_getE (nI k) kX5 (k := 1) (by decide) rfl fl_X5_17 (lay_ok hL rfl) dX5_add_1 hk ?_
  refine r_bipush (nI 60) dX5_add_4 (by decide) ?_
  refine r_icmp_lt 11 dX5_add_6 (by decide) (fun c6 => ?_) (fun c6 => ?_)
  · refine r_aload_n dX5_add_11 rfl ?_
    refine r_getF kX5 (k := 0) (by decide) rfl fl_X5_11 (lay_ok hL rfl) (lay_r hL rfl) dX5_add_12 ?_
    refine r_aload_n dX5_add_15 rfl ?_
    refine r_getE (nI k) kX5 (k := 1) (by decide) rfl fl_X5_17 (lay_ok hL rfl) dX5_add_16 hk ?_
    refine r_aload_n dX5_add_19 rfl ?_
    have c6 := (nI_ltI (by omega) (by decide)).mp c6
    refine r_aastO (Or.inl ⟨rfl, rfl⟩) (lay_ok hL rfl) (by omega) (by decide) hla dX5_add_20 ?_
    refine r_lay (lay_wR hL _ rfl) (fun hL => ?_)
    refine r_aload_n dX5_add_21 rfl ?_
    refine r_dup dX5_add_22 rfl ?_
    refine r_getE (nI k) kX5 (k := 1) (by decide) rfl fl_X5_17 (lay_ok hL rfl) dX5_add_23 hk ?_
    refine r_iconst (1) dX5_add_26 (by decide) ?_
    refine r_iadd dX5_add_27 ?_
    refine r_top (nI (k + 1)) (nI_1 k) ?_
    refine r_putI kX5 (k := 1) (by decide) rfl (Or.inl rfl) fl_X5_17 (lay_ok hL rfl) ⟨rfl, rfl⟩ dX5_add_28 ?_
    refine r_lay (lay_wI hL _ _ _) (fun hL => ?_)
    refine r_iconst (1) dX5_add_31 (by decide) ?_
    exact r_iret (Or.inr ⟨rfl, by first | exact Or.inl rfl | exact Or.inr rfl⟩) dX5_add_32 ⟨by rw [if_pos c6], by rw [if_pos c6]⟩
  · refine r_iconst (0) dX5_add_9 (by decide) ?_
    exact r_iret (Or.inr ⟨rfl, by first | exact Or.inl rfl | exact Or.inr rfl⟩) dX5_add_10 ⟨by rw [if_neg (fun h => c6 ((nI_ltI (by omega) (by decide)).mpr h))], by rw [if_neg (fun h => c6 ((nI_ltI (by omega) (by decide)).mpr h))]⟩
end
section
theorem nI_sub1 {m : Nat} (h : 0 < m) : nI m - 1 = nI (m - 1) := by
  obtain ⟨j, rfl⟩ : ∃ j, m = j + 1 := ⟨m - 1, by omega⟩
  exact nI_pred j
def sft {α : Type} (f : Nat → α) (j m : Nat) : Nat → α := fun t => if j ≤ t ∧ t + 1 < m then f (t + 1) else f t
theorem sft_0 {α : Type} (f : Nat → α) (j : Nat) : sft f j (j + 1) = f := by funext t; simp [sft]; omega
theorem sft_s {α : Type} (f : Nat → α) {j m : Nat} (h : j < m) : va_up (sft f j m) (m - 1) (f m) = sft f j (m + 1) := by
  funext t
  by_cases e : t = m - 1
  · subst e
    have h1 : j ≤ m - 1 ∧ m - 1 + 1 < m + 1 := by omega
    simp [va_up, sft, h1, show m - 1 + 1 = m by omega]
  · by_cases h2 : j ≤ t ∧ t + 1 < m
    · have h3 : j ≤ t ∧ t + 1 < m + 1 := by omega
      simp [va_up, sft, e, h2, h3]
    · have h3 : ¬ (j ≤ t ∧ t + 1 < m + 1) := by omega
      simp only [va_up, sft, if_neg e, if_neg h2, if_neg h3]
theorem wR_wQ2 (M : am_M) {a b : Nat} (h : a ≠ b) (k : Nat) (f f' : Nat → Option Nat) (v : Option Nat) : wR (wQ (wQ M a f) b f') a k v = wQ (wQ M a (va_up f k v)) b f' := by
  rw [wQ_comm M h, wR_wQ, wQ_comm M (Ne.symm h)]
set_option maxHeartbeats 4000000 in
set_option maxRecDepth 100000 in
theorem l_X5_remove {l : Launch} {X : Nat × (Nat → Int32)} {M : am_M} (hL : Lay M) {j k : Nat} (hk : mI M 24 1 = nI k) (hk2 : k ≤ 60) (hj : j < k) (hA : ∀ t, t < k → ∃ a, mR M 25 t = some a ∧ am_ok M a 3 0) : ∀ r m : Nat, m + r = k → j < m → am_V l yX5_remove cX5_remove 3 (none) (am_R 0 0 0) 0 0 X (fun v M1 => v = none ∧ M1 = wR (wI (wQ M 25 (sft (mR M 25) j k)) 24 1 (nI (k - 1))) 25 (k - 1) none) 0 0 4 [some (.ref 24), some (.int (nI j)), some (.int (nI m))] [] (wQ M 25 (sft (mR M 25) j m)) := by
  intro r
  induction r with
  | zero =>
    intro m hm hjm
    obtain rfl : m = k := by omega
    have hL := lay_wQ hL (sft (mR M 25) j m) (a := 25) (fun _ => rfl)
    refine r_iload_n dX5_remove_4 rfl ?_
    refine r_aload_n dX5_remove_5 rfl ?_
    refine r_getE (nI m) kX5 (k := 1) (by decide) rfl fl_X5_17 (lay_ok hL rfl) dX5_remove_6 hk ?_
    refine r_icmp_ge 32 dX5_remove_9 (by decide) (fun _ => ?_) (fun hq => absurd (nI_le (Nat.le_refl m) (by omega)) hq)
    refine r_aload_n dX5_remove_32 rfl ?_
    refine r_dup dX5_remove_33 rfl ?_
    refine r_getE (nI m) kX5 (k := 1) (by decide) rfl fl_X5_17 (lay_ok hL rfl) dX5_remove_34 hk ?_
    refine r_iconst (1) dX5_remove_37 (by decide) ?_
    refine r_isub dX5_remove_38 ?_
    refine r_top (nI (m - 1)) (nI_sub1 (by omega)) ?_
    refine r_putI kX5 (k := 1) (by decide) rfl (Or.inl rfl) fl_X5_17 (lay_ok hL rfl) ⟨rfl, rfl⟩ dX5_remove_39 ?_
    refine r_lay (lay_wI hL _ _ _) (fun hL => ?_)
    refine r_aload_n dX5_remove_42 rfl ?_
    refine r_getF kX5 (k := 0) (by decide) rfl fl_X5_11 (lay_ok hL rfl) (lay_r hL rfl) dX5_remove_43 ?_
    refine r_aload_n dX5_remove_46 rfl ?_
    refine r_getE (nI (m - 1)) kX5 (k := 1) (by decide) rfl fl_X5_17 (lay_ok hL rfl) dX5_remove_47 (by simp [mI_wI]) ?_
    refine r_null dX5_remove_50 ?_
    refine r_aastZ (Or.inl rfl) (lay_ok hL rfl) (by omega) (by decide) dX5_remove_51 ?_
    refine r_lay (lay_wR hL _ rfl) (fun hL => ?_)
    exact r_vret rfl dX5_remove_52 ⟨rfl, rfl⟩
  | succ r ih =>
    intro m hm hjm
    have hL := lay_wQ hL (sft (mR M 25) j m) (a := 25) (fun _ => rfl)
    obtain ⟨a, ha, hao⟩ := hA m (by omega)
    refine r_iload_n dX5_remove_4 rfl ?_
    refine r_aload_n dX5_remove_5 rfl ?_
    refine r_getE (nI k) kX5 (k := 1) (by decide) rfl fl_X5_17 (lay_ok hL rfl) dX5_remove_6 hk ?_
    refine r_icmp_ge 32 dX5_remove_9 (by decide) (fun hq => absurd hq (nI_ge (by omega) (by omega))) (fun _ => ?_)
    refine r_aload_n dX5_remove_12 rfl ?_
    refine r_getF kX5 (k := 0) (by decide) rfl fl_X5_11 (lay_ok hL rfl) (lay_r hL rfl) dX5_remove_13 ?_
    refine r_iload_n dX5_remove_16 rfl ?_
    refine r_iconst (1) dX5_remove_17 (by decide) ?_
    refine r_isub dX5_remove_18 ?_
    refine r_top (nI (m - 1)) (nI_sub1 (by omega)) ?_
    refine r_aload_n dX5_remove_19 rfl ?_
    refine r_getF kX5 (k := 0) (by decide) rfl fl_X5_11 (lay_ok hL rfl) (lay_r hL rfl) dX5_remove_20 ?_
    refine r_iload_n dX5_remove_23 rfl ?_
    refine r_aaldF (r := a) (Or.inl rfl) (lay_ok hL rfl) (by omega) (by decide) (by rw [mR_wQ_s]; simp only [sft]; rw [if_neg (by omega)]; exact ha) dX5_remove_24 ?_
    refine r_aastO (Or.inl ⟨rfl, rfl⟩) (lay_ok hL rfl) (by omega) (by decide) hao dX5_remove_25 ?_
    refine r_lay (lay_wR hL _ rfl) (fun hL => ?_)
    refine r_iinc (nI (m + 1)) _ dX5_remove_26 (by decide) rfl (nI_1 _) rfl ?_
    refine r_goto 4 dX5_remove_29 (by decide) ?_
    have q := ih (m + 1) (by omega) (by omega)
    rw [← sft_s (mR M 25) hjm, ha, ← wR_wQ] at q
    exact q
set_option maxHeartbeats 4000000 in
set_option maxRecDepth 100000 in
theorem c_X5_remove {l : Launch} {X : Nat × (Nat → Int32)} {M : am_M} (hL : Lay M) {j k : Nat} (hk : mI M 24 1 = nI k) (hk2 : k ≤ 60) (hj : j < k) (hA : ∀ t, t < k → ∃ a, mR M 25 t = some a ∧ am_ok M a 3 0) : am_F l yX5_remove cX5_remove 3 (none) 0 0 0 X [.ref 24, .int (nI j)] M (none) (wR (wI (wQ M 25 (sft (mR M 25) j k)) 24 1 (nI (k - 1))) 25 (k - 1) none) := by
  refine am_C.of (by decide) (by simp [Value.category, va_rf]) (Nat.le_of_ble_eq_true rfl) ?_
  refine r_iload_n dX5_remove_0 rfl ?_
  refine r_iconst (1) dX5_remove_1 (by decide) ?_
  refine r_iadd dX5_remove_2 ?_
  refine r_top (nI (j + 1)) (nI_1 j) ?_
  refine r_istore_n _ dX5_remove_3 (by decide) rfl ?_
  have q := l_X5_remove (l := l) (X := X) hL hk hk2 hj hA (k - (j + 1)) (j + 1) (by omega) (by omega)
  rw [sft_0, wQ_id] at q
  exact q
set_option maxHeartbeats 4000000 in
set_option maxRecDepth 100000 in
theorem c_X6_slot {l : Launch} {X : Nat × (Nat → Int32)} {M : am_M} (hL : Lay M) {r : Int32} {p q : Nat} (hr : r &&& 1 = nI p)  : am_F l yX6_slot cX6_slot 2 (some .int) 0 0 0 X [.int r, .int (nI q)] M (some (.int (nI (p * 5 + q)))) (M) := by
  refine am_C.of (by decide) (by simp [Value.category, va_rf]) (Nat.le_of_ble_eq_true rfl) ?_
  refine r_iload_n dX6_slot_0 rfl ?_
  refine r_iconst (1) dX6_slot_1 (by decide) ?_
  refine r_iand dX6_slot_2 ?_
  refine r_top (nI p) hr ?_
  refine r_iconst (nI 5) dX6_slot_3 (by decide) ?_
  refine r_imul dX6_slot_4 ?_
  refine r_top (nI (p * 5)) (pk_mul p 5) ?_
  refine r_iload_n dX6_slot_5 rfl ?_
  refine r_iadd dX6_slot_6 ?_
  refine r_top (nI (p * 5 + q)) (nI_add _ _) ?_
  exact r_iret (Or.inl rfl) dX6_slot_7 ⟨rfl, rfl⟩
set_option maxHeartbeats 4000000 in
set_option maxRecDepth 100000 in
theorem l_X6_forgetLetters {l : Launch} {X : Nat × (Nat → Int32)} {M : am_M} (hL : Lay M) {n : Nat} (hn : n < 5) : ∀ k i : Nat, i + k = 10 → am_V l yX6_forgetLetters cX6_forgetLetters 2 (none) (am_R 0 0 0) 0 0 X (fun v M1 => v = none ∧ M1 = wQ (wQ M (28 + 13 * n + 1) (fl (mR M (28 + 13 * n + 1)) 10 none)) (28 + 13 * n + 2) (fl (mR M (28 + 13 * n + 2)) 10 none)) 0 0 2 [some (.ref (28 + 13 * n)), some (.int (nI i))] [] (wQ (wQ M (28 + 13 * n + 1) (fl (mR M (28 + 13 * n + 1)) i none)) (28 + 13 * n + 2) (fl (mR M (28 + 13 * n + 2)) i none)) := by
  intro k
  induction k with
  | zero =>
    intro i hi
    obtain rfl : i = 10 := by omega
    refine r_iload_n dX6_forgetLetters_2 rfl ?_
    refine r_bipush (nI 10) dX6_forgetLetters_3 (by decide) ?_
    refine r_icmp_ge 28 dX6_forgetLetters_5 (by decide) (fun _ => ?_) (fun hq => absurd (nI_le (Nat.le_refl 10) (by decide)) hq)
    exact r_vret rfl dX6_forgetLetters_28 ⟨rfl, rfl⟩
  | succ k ih =>
    intro i hi
    have hL := lay_wQ (lay_wQ hL (fl (mR M (28 + 13 * n + 1)) i none) (a := (28 + 13 * n + 1)) (fun _ => rf_n1 hn)) (fl (mR M (28 + 13 * n + 2)) i none) (a := (28 + 13 * n + 2)) (fun _ => rf_n2 hn)
    refine r_iload_n dX6_forgetLetters_2 rfl ?_
    refine r_bipush (nI 10) dX6_forgetLetters_3 (by decide) ?_
    refine r_icmp_ge 28 dX6_forgetLetters_5 (by decide) (fun hq => absurd hq (nI_ge (by omega) (by decide))) (fun _ => ?_)
    refine r_aload_n dX6_forgetLetters_8 rfl ?_
    refine r_getF kX6 (k := 0) (by decide) rfl fl_X6_11 (lay_ok hL (sh_n0 hn)) (lay_r hL (rf_n0_0 hn)) dX6_forgetLetters_9 ?_
    refine r_iload_n dX6_forgetLetters_12 rfl ?_
    refine r_null dX6_forgetLetters_13 ?_
    refine r_aastZ (Or.inl rfl) (lay_ok hL (sh_n1 hn)) (by omega) (by decide) dX6_forgetLetters_14 ?_
    refine r_lay (lay_wR hL _ (rf_n1 hn)) (fun hL => ?_)
    refine r_aload_n dX6_forgetLetters_15 rfl ?_
    refine r_getF kX6 (k := 1) (by decide) rfl fl_X6_17 (lay_ok hL (sh_n0 hn)) (lay_r hL (rf_n0_1 hn)) dX6_forgetLetters_16 ?_
    refine r_iload_n dX6_forgetLetters_19 rfl ?_
    refine r_null dX6_forgetLetters_20 ?_
    refine r_aastZ (Or.inl rfl) (lay_ok hL (sh_n2 hn)) (by omega) (by decide) dX6_forgetLetters_21 ?_
    refine r_lay (lay_wR hL _ (rf_n2 hn)) (fun hL => ?_)
    refine r_iinc (nI (i + 1)) _ dX6_forgetLetters_22 (by decide) rfl (nI_1 _) rfl ?_
    refine r_goto 2 dX6_forgetLetters_25 (by decide) ?_
    have q := ih (i + 1) (by omega)
    rw [← fl_s (mR M (28 + 13 * n + 1)) i none, ← fl_s (mR M (28 + 13 * n + 2)) i none, ← wR_wQ, ← wR_wQ2 M (show (28 + 13 * n + 1) ≠ (28 + 13 * n + 2) by omega)] at q
    exact q
set_option maxHeartbeats 4000000 in
set_option maxRecDepth 100000 in
theorem c_X6_forgetLetters {l : Launch} {X : Nat × (Nat → Int32)} {M : am_M} (hL : Lay M) {n : Nat} (hn : n < 5)  : am_F l yX6_forgetLetters cX6_forgetLetters 2 (none) 0 0 0 X [.ref (28 + 13 * n)] M (none) (wQ (wQ M (28 + 13 * n + 1) (fl (mR M (28 + 13 * n + 1)) 10 none)) (28 + 13 * n + 2) (fl (mR M (28 + 13 * n + 2)) 10 none)) := by
  refine am_C.of (by decide) (by simp [Value.category, va_rf]) (Nat.le_of_ble_eq_true rfl) ?_
  refine r_iconst (nI 0) dX6_forgetLetters_0 (by decide) ?_
  refine r_istore_n _ dX6_forgetLetters_1 (by decide) rfl ?_
  have q := l_X6_forgetLetters (l := l) (X := X) hL hn 10 0 (by omega)
  rw [fl_0, fl_0, wQ_id, show mR M (28 + 13 * n + 2) = mR M (28 + 13 * n + 2) from rfl, wQ_id] at q
  exact q
set_option maxHeartbeats 4000000 in
set_option maxRecDepth 100000 in
theorem c_X6_forgetMarks {l : Launch} {X : Nat × (Nat → Int32)} {M : am_M} (hL : Lay M) {n : Nat} (hn : n < 5) {p q : Nat} (h2 : mR M (28 + 13 * n) 2 = some p) (h3 : mR M (28 + 13 * n) 3 = some q) (hpo : am_ok M p 4 0) (hqo : am_ok M q 4 0)  : am_F l yX6_forgetMarks cX6_forgetMarks 1 (none) 0 0 0 X [.ref (28 + 13 * n)] M (none) (wI (wI M p 1 (-1)) q 1 (-1)) := by
  refine am_C.of (by decide) (by simp [Value.category, va_rf]) (Nat.le_of_ble_eq_true rfl) ?_
  refine r_aload_n dX6_forgetMarks_0 rfl ?_
  refine r_getF kX6 (k := 2) (by decide) rfl fl_X6_23 (lay_ok hL (sh_n0 hn)) h2 dX6_forgetMarks_1 ?_
  refine r_iconst (-1) dX6_forgetMarks_4 (by decide) ?_
  refine r_putI kX4 (k := 1) (by decide) rfl (Or.inl rfl) fl_X6_47 hpo ⟨rfl, rfl⟩ dX6_forgetMarks_5 ?_
  refine r_lay (lay_wI hL _ _ _) (fun hL => ?_)
  refine r_aload_n dX6_forgetMarks_8 rfl ?_
  refine r_getF kX6 (k := 3) (by decide) rfl fl_X6_27 (lay_ok hL (sh_n0 hn)) h3 dX6_forgetMarks_9 ?_
  refine r_iconst (-1) dX6_forgetMarks_12 (by decide) ?_
  refine r_putI kX4 (k := 1) (by decide) rfl (Or.inl rfl) fl_X6_47 hqo ⟨rfl, rfl⟩ dX6_forgetMarks_13 ?_
  refine r_lay (lay_wI hL _ _ _) (fun hL => ?_)
  exact r_vret rfl dX6_forgetMarks_16 ⟨rfl, rfl⟩
set_option maxHeartbeats 4000000 in
set_option maxRecDepth 100000 in
theorem c_X6_swapMarks {l : Launch} {X : Nat × (Nat → Int32)} {M : am_M} (hL : Lay M) {n : Nat} (hn : n < 5) {p q : Nat} (h2 : mR M (28 + 13 * n) 2 = some p) (h3 : mR M (28 + 13 * n) 3 = some q) (hpo : am_ok M p 4 0) (hqo : am_ok M q 4 0)  : am_F l yX6_swapMarks cX6_swapMarks 2 (none) 0 0 0 X [.ref (28 + 13 * n)] M (none) (wR (wR M (28 + 13 * n) 3 (some p)) (28 + 13 * n) 2 (some q)) := by
  refine am_C.of (by decide) (by simp [Value.category, va_rf]) (Nat.le_of_ble_eq_true rfl) ?_
  refine r_aload_n dX6_swapMarks_0 rfl ?_
  refine r_getF kX6 (k := 3) (by decide) rfl fl_X6_27 (lay_ok hL (sh_n0 hn)) h3 dX6_swapMarks_1 ?_
  refine r_astore_n _ dX6_swapMarks_4 (by decide) rfl ?_
  refine r_aload_n dX6_swapMarks_5 rfl ?_
  refine r_aload_n dX6_swapMarks_6 rfl ?_
  refine r_getF kX6 (k := 2) (by decide) rfl fl_X6_23 (lay_ok hL (sh_n0 hn)) h2 dX6_swapMarks_7 ?_
  refine r_putF kX6 (k := 3) (by decide) rfl (Or.inl rfl) fl_X6_27 (lay_ok hL (sh_n0 hn)) dX6_swapMarks_10 ?_
  refine r_lay (lay_wR hL _ (rf_n0_3 hn)) (fun hL => ?_)
  refine r_aload_n dX6_swapMarks_13 rfl ?_
  refine r_aload_n dX6_swapMarks_14 rfl ?_
  refine r_putF kX6 (k := 2) (by decide) rfl (Or.inl rfl) fl_X6_23 (lay_ok hL (sh_n0 hn)) dX6_swapMarks_15 ?_
  refine r_lay (lay_wR hL _ (rf_n0_2 hn)) (fun hL => ?_)
  exact r_vret rfl dX6_swapMarks_18 ⟨rfl, rfl⟩
set_option maxHeartbeats 4000000 in
set_option maxRecDepth 100000 in
theorem c_X6_nextMark {l : Launch} {X : Nat × (Nat → Int32)} {M : am_M} (hL : Lay M) {n : Nat} (hn : n < 5) {p q : Nat} (h2 : mR M (28 + 13 * n) 2 = some p) (h3 : mR M (28 + 13 * n) 3 = some q) (hpo : am_ok M p 4 0) (hqo : am_ok M q 4 0)  : am_F l yX6_nextMark cX6_nextMark 1 (some (.object "SplitNodes$Mark")) 1 0 0 X [.ref (28 + 13 * n)] M (some (.ref q)) (wI (wR (wR M (28 + 13 * n) 3 (some p)) (28 + 13 * n) 2 (some q)) q 1 (mI M (28 + 13 * n) 4)) := by
  refine am_C.of (by decide) (by simp [Value.category, va_rf]) (Nat.le_of_ble_eq_true rfl) ?_
  refine r_aload_n dX6_nextMark_0 rfl ?_
  refine r_cV ca_yX6_swapMarks ml_X6_66 im_yX6_swapMarks se_yX6_swapMarks (by decide) rfl (lay_ok hL (sh_n0 hn)) (c_X6_swapMarks hL hn h2 h3 hpo hqo) ⟨by decide, by decide⟩ (by decide) (by decide) rfl (Nat.le_of_ble_eq_true rfl) dX6_nextMark_1 ?_
  refine r_lay (lay_wR (lay_wR hL _ (rf_n0_3 hn)) _ (rf_n0_2 hn)) (fun hL => ?_)
  refine r_aload_n dX6_nextMark_4 rfl ?_
  refine r_getF (r := q) kX6 (k := 2) (by decide) rfl fl_X6_23 (lay_ok hL (sh_n0 hn)) (by simp [mR_wR]) dX6_nextMark_5 ?_
  refine r_aload_n dX6_nextMark_8 rfl ?_
  refine r_getE (mI M (28 + 13 * n) 4) kX6 (k := 4) (by decide) rfl fl_X6_36 (lay_ok hL (sh_n0 hn)) dX6_nextMark_9 rfl ?_
  refine r_putI kX4 (k := 1) (by decide) rfl (Or.inl rfl) fl_X6_47 hqo ⟨rfl, rfl⟩ dX6_nextMark_12 ?_
  refine r_lay (lay_wI hL _ _ _) (fun hL => ?_)
  refine r_aload_n dX6_nextMark_15 rfl ?_
  refine r_getF (r := q) kX6 (k := 2) (by decide) rfl fl_X6_23 (lay_ok hL (sh_n0 hn)) (by simp [mR_wI, mR_wR]) dX6_nextMark_16 ?_
  exact r_aret (r := some q) (Or.inl ⟨_, rfl⟩) dX6_nextMark_19 ⟨rfl, rfl⟩
set_option maxHeartbeats 4000000 in
set_option maxRecDepth 100000 in
theorem c_X6_fail {l : Launch} {X : Nat × (Nat → Int32)} {M : am_M} (hL : Lay M) {n : Nat} (hn : n < 5)  : am_F l yX6_fail cX6_fail 1 (none) 1 0 0 X [.ref (28 + 13 * n)] M (none) (wI (wI (wQ (wQ (M) (28 + 13 * n + 1) (fl (mR (M) (28 + 13 * n + 1)) 10 none)) (28 + 13 * n + 2) (fl (mR (M) (28 + 13 * n + 2)) 10 none)) (28 + 13 * n) 5 0) (28 + 13 * n) 6 1) := by
  refine am_C.of (by decide) (by simp [Value.category, va_rf]) (Nat.le_of_ble_eq_true rfl) ?_
  refine r_aload_n dX6_fail_0 rfl ?_
  refine r_cV ca_yX6_forgetLetters ml_X6_30 im_yX6_forgetLetters se_yX6_forgetLetters (by decide) rfl (lay_ok hL (sh_n0 hn)) (c_X6_forgetLetters hL hn) ⟨by decide, by decide⟩ (by decide) (by decide) rfl (Nat.le_of_ble_eq_true rfl) dX6_fail_1 ?_
  refine r_lay (lay_wQ (lay_wQ hL _ (fun _ => rf_n1 hn)) _ (fun _ => rf_n2 hn)) (fun hL => ?_)
  refine r_aload_n dX6_fail_4 rfl ?_
  refine r_iconst (0) dX6_fail_5 (by decide) ?_
  refine r_putI kX6 (k := 5) (by decide) rfl (Or.inl rfl) fl_X6_40 (lay_ok hL (sh_n0 hn)) (by decide) dX6_fail_6 ?_
  refine r_lay (lay_wI hL _ _ _) (fun hL => ?_)
  refine r_aload_n dX6_fail_9 rfl ?_
  refine r_iconst (1) dX6_fail_10 (by decide) ?_
  refine r_putI kX6 (k := 6) (by decide) rfl (Or.inl rfl) fl_X6_44 (lay_ok hL (sh_n0 hn)) (by decide) dX6_fail_11 ?_
  refine r_lay (lay_wI hL _ _ _) (fun hL => ?_)
  exact r_vret rfl dX6_fail_14 ⟨rfl, rfl⟩
set_option maxHeartbeats 4000000 in
set_option maxRecDepth 100000 in
theorem c_X6_clear {l : Launch} {X : Nat × (Nat → Int32)} {M : am_M} (hL : Lay M) {n : Nat} (hn : n < 5) {p q : Nat} (h2 : mR M (28 + 13 * n) 2 = some p) (h3 : mR M (28 + 13 * n) 3 = some q) (hpo : am_ok M p 4 0) (hqo : am_ok M q 4 0)  : am_F l yX6_clear cX6_clear 1 (none) 1 0 0 X [.ref (28 + 13 * n)] M (none) (wI (wI (wI (wI (wI (wQ (wQ (M) (28 + 13 * n + 1) (fl (mR (M) (28 + 13 * n + 1)) 10 none)) (28 + 13 * n + 2) (fl (mR (M) (28 + 13 * n + 2)) 10 none)) p 1 (-1)) q 1 (-1)) (28 + 13 * n) 4 0) (28 + 13 * n) 5 0) (28 + 13 * n) 6 0) := by
  refine am_C.of (by decide) (by simp [Value.category, va_rf]) (Nat.le_of_ble_eq_true rfl) ?_
  refine r_aload_n dX6_clear_0 rfl ?_
  refine r_cV ca_yX6_forgetLetters ml_X6_30 im_yX6_forgetLetters se_yX6_forgetLetters (by decide) rfl (lay_ok hL (sh_n0 hn)) (c_X6_forgetLetters hL hn) ⟨by decide, by decide⟩ (by decide) (by decide) rfl (Nat.le_of_ble_eq_true rfl) dX6_clear_1 ?_
  refine r_lay (lay_wQ (lay_wQ hL _ (fun _ => rf_n1 hn)) _ (fun _ => rf_n2 hn)) (fun hL => ?_)
  refine r_aload_n dX6_clear_4 rfl ?_
  refine r_cV ca_yX6_forgetMarks ml_X6_33 im_yX6_forgetMarks se_yX6_forgetMarks (by decide) rfl (lay_ok hL (sh_n0 hn)) (c_X6_forgetMarks hL hn (p := p) (q := q) (by simp [mR_wQ, h2]) (by simp [mR_wQ, h3]) hpo hqo) ⟨by decide, by decide⟩ (by decide) (by decide) rfl (Nat.le_of_ble_eq_true rfl) dX6_clear_5 ?_
  refine r_lay (lay_wI (lay_wI hL _ _ _) _ _ _) (fun hL => ?_)
  refine r_aload_n dX6_clear_8 rfl ?_
  refine r_iconst (0) dX6_clear_9 (by decide) ?_
  refine r_putI kX6 (k := 4) (by decide) rfl (Or.inl rfl) fl_X6_36 (lay_ok hL (sh_n0 hn)) ⟨rfl, rfl⟩ dX6_clear_10 ?_
  refine r_lay (lay_wI hL _ _ _) (fun hL => ?_)
  refine r_aload_n dX6_clear_13 rfl ?_
  refine r_iconst (0) dX6_clear_14 (by decide) ?_
  refine r_putI kX6 (k := 5) (by decide) rfl (Or.inl rfl) fl_X6_40 (lay_ok hL (sh_n0 hn)) (by decide) dX6_clear_15 ?_
  refine r_lay (lay_wI hL _ _ _) (fun hL => ?_)
  refine r_aload_n dX6_clear_18 rfl ?_
  refine r_iconst (0) dX6_clear_19 (by decide) ?_
  refine r_putI kX6 (k := 6) (by decide) rfl (Or.inl rfl) fl_X6_44 (lay_ok hL (sh_n0 hn)) (by decide) dX6_clear_20 ?_
  refine r_lay (lay_wI hL _ _ _) (fun hL => ?_)
  exact r_vret rfl dX6_clear_23 ⟨rfl, rfl⟩
set_option maxHeartbeats 4000000 in
set_option maxRecDepth 100000 in
theorem c_X6_hold {l : Launch} {X : Nat × (Nat → Int32)} {M : am_M} (hL : Lay M) {n : Nat} (hn : n < 5) {a n0 p q : Nat} (hla : am_ok M a 3 n0) (hr : mI M a 1 &&& 1 = nI p) (hp : p ≤ 1) (ho : mI M a 2 = nI q) (hq : q < 5) : am_F l yX6_hold cX6_hold 2 (none) 1 0 0 X [.ref (28 + 13 * n), .ref a] M (none) (wR M (28 + 13 * n + 1) (p * 5 + q) (some a)) := by
  refine am_C.of (by decide) (by simp [Value.category, va_rf]) (Nat.le_of_ble_eq_true rfl) ?_
  refine r_aload_n dX6_hold_0 rfl ?_
  refine r_getF kX6 (k := 0) (by decide) rfl fl_X6_11 (lay_ok hL (sh_n0 hn)) (lay_r hL (rf_n0_0 hn)) dX6_hold_1 ?_
  refine r_aload_n dX6_hold_4 rfl ?_
  refine r_getI kX3 (k := 1) (by decide) rfl fl_X6_52 hla dX6_hold_5 ?_
  refine r_aload_n dX6_hold_8 rfl ?_
  refine r_getE (nI q) kX3 (k := 2) (by decide) rfl fl_X6_53 hla dX6_hold_9 ho ?_
  refine r_cS ca_yX6_slot ml_X6_48 sm_yX6_slot (c_X6_slot hL (p := p) (q := q) hr) ⟨by decide, by decide⟩ (by decide) (by decide) rfl (Nat.le_of_ble_eq_true rfl) dX6_hold_12 ?_
  refine r_aload_n dX6_hold_15 rfl ?_
  refine r_aastO (Or.inl ⟨rfl, rfl⟩) (lay_ok hL (sh_n1 hn)) (by omega) (by decide) hla dX6_hold_16 ?_
  refine r_lay (lay_wR hL _ (rf_n1 hn)) (fun hL => ?_)
  exact r_vret rfl dX6_hold_17 ⟨rfl, rfl⟩
set_option maxHeartbeats 4000000 in
set_option maxRecDepth 100000 in
theorem c_X6_keep {l : Launch} {X : Nat × (Nat → Int32)} {M : am_M} (hL : Lay M) {n : Nat} (hn : n < 5) {a n0 p q : Nat} (hla : am_ok M a 3 n0) (hr : mI M a 1 &&& 1 = nI p) (hp : p ≤ 1) (ho : mI M a 3 = nI q) (hq : q < 5) : am_F l yX6_keep cX6_keep 2 (none) 1 0 0 X [.ref (28 + 13 * n), .ref a] M (none) (wR M (28 + 13 * n + 2) (p * 5 + q) (some a)) := by
  refine am_C.of (by decide) (by simp [Value.category, va_rf]) (Nat.le_of_ble_eq_true rfl) ?_
  refine r_aload_n dX6_keep_0 rfl ?_
  refine r_getF kX6 (k := 1) (by decide) rfl fl_X6_17 (lay_ok hL (sh_n0 hn)) (lay_r hL (rf_n0_1 hn)) dX6_keep_1 ?_
  refine r_aload_n dX6_keep_4 rfl ?_
  refine r_getI kX3 (k := 1) (by decide) rfl fl_X6_52 hla dX6_keep_5 ?_
  refine r_aload_n dX6_keep_8 rfl ?_
  refine r_getE (nI q) kX3 (k := 3) (by decide) rfl fl_X6_63 hla dX6_keep_9 ho ?_
  refine r_cS ca_yX6_slot ml_X6_48 sm_yX6_slot (c_X6_slot hL (p := p) (q := q) hr) ⟨by decide, by decide⟩ (by decide) (by decide) rfl (Nat.le_of_ble_eq_true rfl) dX6_keep_12 ?_
  refine r_aload_n dX6_keep_15 rfl ?_
  refine r_aastO (Or.inl ⟨rfl, rfl⟩) (lay_ok hL (sh_n2 hn)) (by omega) (by decide) hla dX6_keep_16 ?_
  refine r_lay (lay_wR hL _ (rf_n2 hn)) (fun hL => ?_)
  exact r_vret rfl dX6_keep_17 ⟨rfl, rfl⟩
set_option maxHeartbeats 4000000 in
set_option maxRecDepth 100000 in
theorem c_X6_holds {l : Launch} {X : Nat × (Nat → Int32)} {M : am_M} (hL : Lay M) {n : Nat} (hn : n < 5) {a n0 p q : Nat} (hla : am_ok M a 3 n0) (hr : mI M a 1 &&& 1 = nI p) (hp : p ≤ 1) (ho : mI M a 2 = nI q) (hq : q < 5) : am_F l yX6_holds cX6_holds 2 (some .boolean) 1 0 0 X [.ref (28 + 13 * n), .ref a] M (some (.int (if (mR M (28 + 13 * n + 1) (p * 5 + q)).isSome = true then 1 else 0))) (M) := by
  refine am_C.of (by decide) (by simp [Value.category, va_rf]) (Nat.le_of_ble_eq_true rfl) ?_
  refine r_aload_n dX6_holds_0 rfl ?_
  refine r_getF kX6 (k := 0) (by decide) rfl fl_X6_11 (lay_ok hL (sh_n0 hn)) (lay_r hL (rf_n0_0 hn)) dX6_holds_1 ?_
  refine r_aload_n dX6_holds_4 rfl ?_
  refine r_getI kX3 (k := 1) (by decide) rfl fl_X6_52 hla dX6_holds_5 ?_
  refine r_aload_n dX6_holds_8 rfl ?_
  refine r_getE (nI q) kX3 (k := 2) (by decide) rfl fl_X6_53 hla dX6_holds_9 ho ?_
  refine r_cS ca_yX6_slot ml_X6_48 sm_yX6_slot (c_X6_slot hL (p := p) (q := q) hr) ⟨by decide, by decide⟩ (by decide) (by decide) rfl (Nat.le_of_ble_eq_true rfl) dX6_holds_12 ?_
  refine r_aaldN (Or.inl rfl) (lay_ok hL (sh_n1 hn)) (by omega) (by decide) dX6_holds_15 ?_
  refine r_ifnull 23 dX6_holds_16 (by decide) (fun c16 => ?_) (fun v16 c16 => ?_)
  · refine r_iconst (0) dX6_holds_23 (by decide) ?_
    exact r_iret (Or.inr ⟨rfl, by first | exact Or.inl rfl | exact Or.inr rfl⟩) dX6_holds_24 ⟨by simp [*], rfl⟩
  · refine r_iconst (1) dX6_holds_19 (by decide) ?_
    refine r_goto 24 dX6_holds_20 (by decide) ?_
    exact r_iret (Or.inr ⟨rfl, by first | exact Or.inl rfl | exact Or.inr rfl⟩) dX6_holds_24 ⟨by simp [*], rfl⟩
set_option maxHeartbeats 4000000 in
set_option maxRecDepth 100000 in
theorem c_X6_heldFrom {l : Launch} {X : Nat × (Nat → Int32)} {M : am_M} (hL : Lay M) {n : Nat} (hn : n < 5) {p q : Nat} (hr : mI M (28 + 13 * n) 4 &&& 1 = nI p) (hp : p ≤ 1) (hq : q < 5)  : am_F l yX6_heldFrom cX6_heldFrom 2 (some (.object "SplitNodes$Letter")) 1 0 0 X [.ref (28 + 13 * n), .int (nI q)] M (some (va_rf (mR M (28 + 13 * n + 1) (p * 5 + q)))) (M) := by
  refine am_C.of (by decide) (by simp [Value.category, va_rf]) (Nat.le_of_ble_eq_true rfl) ?_
  refine r_aload_n dX6_heldFrom_0 rfl ?_
  refine r_getF kX6 (k := 0) (by decide) rfl fl_X6_11 (lay_ok hL (sh_n0 hn)) (lay_r hL (rf_n0_0 hn)) dX6_heldFrom_1 ?_
  refine r_aload_n dX6_heldFrom_4 rfl ?_
  refine r_getI kX6 (k := 4) (by decide) rfl fl_X6_36 (lay_ok hL (sh_n0 hn)) dX6_heldFrom_5 ?_
  refine r_iload_n dX6_heldFrom_8 rfl ?_
  refine r_cS ca_yX6_slot ml_X6_48 sm_yX6_slot (c_X6_slot hL (p := p) (q := q) hr) ⟨by decide, by decide⟩ (by decide) (by decide) rfl (Nat.le_of_ble_eq_true rfl) dX6_heldFrom_9 ?_
  refine r_aaldN (Or.inl rfl) (lay_ok hL (sh_n1 hn)) (by omega) (by decide) dX6_heldFrom_12 ?_
  exact r_aret (Or.inl ⟨_, rfl⟩) dX6_heldFrom_13 ⟨rfl, rfl⟩
set_option maxHeartbeats 4000000 in
set_option maxRecDepth 100000 in
theorem c_X6_keptFor {l : Launch} {X : Nat × (Nat → Int32)} {M : am_M} (hL : Lay M) {n : Nat} (hn : n < 5) {p q : Nat} {r : Int32} (hr : r &&& 1 = nI p) (hp : p ≤ 1) (hq : q < 5)  : am_F l yX6_keptFor cX6_keptFor 3 (some (.object "SplitNodes$Letter")) 1 0 0 X [.ref (28 + 13 * n), .int (nI q), .int r] M (some (va_rf (mR M (28 + 13 * n + 2) (p * 5 + q)))) (M) := by
  refine am_C.of (by decide) (by simp [Value.category, va_rf]) (Nat.le_of_ble_eq_true rfl) ?_
  refine r_aload_n dX6_keptFor_0 rfl ?_
  refine r_getF kX6 (k := 1) (by decide) rfl fl_X6_17 (lay_ok hL (sh_n0 hn)) (lay_r hL (rf_n0_1 hn)) dX6_keptFor_1 ?_
  refine r_iload_n dX6_keptFor_4 rfl ?_
  refine r_iload_n dX6_keptFor_5 rfl ?_
  refine r_cS ca_yX6_slot ml_X6_48 sm_yX6_slot (c_X6_slot hL (p := p) (q := q) hr) ⟨by decide, by decide⟩ (by decide) (by decide) rfl (Nat.le_of_ble_eq_true rfl) dX6_keptFor_6 ?_
  refine r_aaldN (Or.inl rfl) (lay_ok hL (sh_n2 hn)) (by omega) (by decide) dX6_keptFor_9 ?_
  exact r_aret (Or.inl ⟨_, rfl⟩) dX6_keptFor_10 ⟨rfl, rfl⟩
set_option maxHeartbeats 4000000 in
set_option maxRecDepth 100000 in
theorem c_X6_goBack {l : Launch} {X : Nat × (Nat → Int32)} {M : am_M} (hL : Lay M) {n : Nat} (hn : n < 5) {p q : Nat} (h2 : mR M (28 + 13 * n) 2 = some p) (h3 : mR M (28 + 13 * n) 3 = some q) (hpo : am_ok M p 4 0) (hqo : am_ok M q 4 0) {x : Int32}  : am_F l yX6_goBack cX6_goBack 2 (none) 1 0 0 X [.ref (28 + 13 * n), .int x] M (none) (if mI M p 1 = x then wI (wI (wI (wQ (wQ (M) (28 + 13 * n + 1) (fl (mR (M) (28 + 13 * n + 1)) 10 none)) (28 + 13 * n + 2) (fl (mR (M) (28 + 13 * n + 2)) 10 none)) (28 + 13 * n) 4 x) (28 + 13 * n) 5 0) (28 + 13 * n) 6 0 else wI (wI (wI (wQ (wQ (wI (wR (wR M (28 + 13 * n) 3 (some p)) (28 + 13 * n) 2 (some q)) p 1 (-1)) (28 + 13 * n + 1) (fl (mR (wI (wR (wR M (28 + 13 * n) 3 (some p)) (28 + 13 * n) 2 (some q)) p 1 (-1)) (28 + 13 * n + 1)) 10 none)) (28 + 13 * n + 2) (fl (mR (wI (wR (wR M (28 + 13 * n) 3 (some p)) (28 + 13 * n) 2 (some q)) p 1 (-1)) (28 + 13 * n + 2)) 10 none)) (28 + 13 * n) 4 x) (28 + 13 * n) 5 0) (28 + 13 * n) 6 0) := by
  refine am_C.of (by decide) (by simp [Value.category, va_rf]) (Nat.le_of_ble_eq_true rfl) ?_
  refine r_aload_n dX6_goBack_0 rfl ?_
  refine r_getF kX6 (k := 2) (by decide) rfl fl_X6_23 (lay_ok hL (sh_n0 hn)) h2 dX6_goBack_1 ?_
  refine r_getI kX4 (k := 1) (by decide) rfl fl_X6_47 hpo dX6_goBack_4 ?_
  refine r_iload_n dX6_goBack_7 rfl ?_
  refine r_icmp_eq 23 dX6_goBack_8 (by decide) (fun c8 => ?_) (fun c8 => ?_)
  · refine r_aload_n dX6_goBack_23 rfl ?_
    refine r_cV ca_yX6_forgetLetters ml_X6_30 im_yX6_forgetLetters se_yX6_forgetLetters (by decide) rfl (lay_ok hL (sh_n0 hn)) (c_X6_forgetLetters hL hn) ⟨by decide, by decide⟩ (by decide) (by decide) rfl (Nat.le_of_ble_eq_true rfl) dX6_goBack_24 ?_
    refine r_lay (lay_wQ (lay_wQ hL _ (fun _ => rf_n1 hn)) _ (fun _ => rf_n2 hn)) (fun hL => ?_)
    refine r_aload_n dX6_goBack_27 rfl ?_
    refine r_iload_n dX6_goBack_28 rfl ?_
    refine r_putI kX6 (k := 4) (by decide) rfl (Or.inl rfl) fl_X6_36 (lay_ok hL (sh_n0 hn)) ⟨rfl, rfl⟩ dX6_goBack_29 ?_
    refine r_lay (lay_wI hL _ _ _) (fun hL => ?_)
    refine r_aload_n dX6_goBack_32 rfl ?_
    refine r_iconst (0) dX6_goBack_33 (by decide) ?_
    refine r_putI kX6 (k := 5) (by decide) rfl (Or.inl rfl) fl_X6_40 (lay_ok hL (sh_n0 hn)) (by decide) dX6_goBack_34 ?_
    refine r_lay (lay_wI hL _ _ _) (fun hL => ?_)
    refine r_aload_n dX6_goBack_37 rfl ?_
    refine r_iconst (0) dX6_goBack_38 (by decide) ?_
    refine r_putI kX6 (k := 6) (by decide) rfl (Or.inl rfl) fl_X6_44 (lay_ok hL (sh_n0 hn)) (by decide) dX6_goBack_39 ?_
    refine r_lay (lay_wI hL _ _ _) (fun hL => ?_)
    exact r_vret rfl dX6_goBack_42 ⟨rfl, by simp only [c8, if_true, if_false]⟩
  · refine r_aload_n dX6_goBack_11 rfl ?_
    refine r_cV ca_yX6_swapMarks ml_X6_66 im_yX6_swapMarks se_yX6_swapMarks (by decide) rfl (lay_ok hL (sh_n0 hn)) (c_X6_swapMarks hL hn h2 h3 hpo hqo) ⟨by decide, by decide⟩ (by decide) (by decide) rfl (Nat.le_of_ble_eq_true rfl) dX6_goBack_12 ?_
    refine r_lay (lay_wR (lay_wR hL _ (rf_n0_3 hn)) _ (rf_n0_2 hn)) (fun hL => ?_)
    refine r_aload_n dX6_goBack_15 rfl ?_
    refine r_getF (r := p) kX6 (k := 3) (by decide) rfl fl_X6_27 (lay_ok hL (sh_n0 hn)) (by simp [mR_wR]) dX6_goBack_16 ?_
    refine r_iconst (-1) dX6_goBack_19 (by decide) ?_
    refine r_putI kX4 (k := 1) (by decide) rfl (Or.inl rfl) fl_X6_47 hpo ⟨rfl, rfl⟩ dX6_goBack_20 ?_
    refine r_lay (lay_wI hL _ _ _) (fun hL => ?_)
    refine r_aload_n dX6_goBack_23 rfl ?_
    refine r_cV ca_yX6_forgetLetters ml_X6_30 im_yX6_forgetLetters se_yX6_forgetLetters (by decide) rfl (lay_ok hL (sh_n0 hn)) (c_X6_forgetLetters hL hn) ⟨by decide, by decide⟩ (by decide) (by decide) rfl (Nat.le_of_ble_eq_true rfl) dX6_goBack_24 ?_
    refine r_lay (lay_wQ (lay_wQ hL _ (fun _ => rf_n1 hn)) _ (fun _ => rf_n2 hn)) (fun hL => ?_)
    refine r_aload_n dX6_goBack_27 rfl ?_
    refine r_iload_n dX6_goBack_28 rfl ?_
    refine r_putI kX6 (k := 4) (by decide) rfl (Or.inl rfl) fl_X6_36 (lay_ok hL (sh_n0 hn)) ⟨rfl, rfl⟩ dX6_goBack_29 ?_
    refine r_lay (lay_wI hL _ _ _) (fun hL => ?_)
    refine r_aload_n dX6_goBack_32 rfl ?_
    refine r_iconst (0) dX6_goBack_33 (by decide) ?_
    refine r_putI kX6 (k := 5) (by decide) rfl (Or.inl rfl) fl_X6_40 (lay_ok hL (sh_n0 hn)) (by decide) dX6_goBack_34 ?_
    refine r_lay (lay_wI hL _ _ _) (fun hL => ?_)
    refine r_aload_n dX6_goBack_37 rfl ?_
    refine r_iconst (0) dX6_goBack_38 (by decide) ?_
    refine r_putI kX6 (k := 6) (by decide) rfl (Or.inl rfl) fl_X6_44 (lay_ok hL (sh_n0 hn)) (by decide) dX6_goBack_39 ?_
    refine r_lay (lay_wI hL _ _ _) (fun hL => ?_)
    exact r_vret rfl dX6_goBack_42 ⟨rfl, by simp only [c8, if_true, if_false]⟩
end
section
/-! THE INBOX -/
def x_put (M : am_M) (k v : Nat) (m : Int32) (a : Nat) : am_M := if mI M 17 v = 0 ∨ (k = 3 ∧ mI M 19 v < nI a) then wI (wI (wI M 17 v 1) 18 v m) 19 v (nI a) else if k = 3 then M else wI M 18 v (t_fold k (mI M 18 v) m)
def x_after (M : am_M) (k v : Nat) (x : Int32) : Int32 := if mI M 17 v = 0 then (if k = 2 then 0 else x) else if k = 0 ∨ k = 1 then t_fold k x (mI M 18 v) else mI M 18 v
def x_settle (M : am_M) (k v p q r : Nat) : am_M := if k = 2 then wI (wI (wI M p v (x_after M k v (mI M p v))) q v (mI M q v + x_after M k v (mI M p v))) r v (if x_after M k v (mI M p v) = 0 then 0 else 1) else wI (wI M p v (x_after M k v (mI M p v))) r v (if x_after M k v (mI M p v) = mI M p v then 0 else 1)
set_option maxHeartbeats 4000000 in
set_option maxRecDepth 100000 in
theorem c_X2_put {l : Launch} {X : Nat × (Nat → Int32)} {M : am_M} (hL : Lay M) {k v a : Nat} {m : Int32} (hk : k ≤ 3) (hv : v < 16) : am_F l yX2_put cX2_put 5 (none) 2 0 0 X [.ref 16, .int (nI k), .int (nI v), .int m, .int (nI a)] M (none) (x_put M k v m a) := by
  refine am_C.of (by decide) (by simp [Value.category, va_rf]) (Nat.le_of_ble_eq_true rfl) ?_
  by_cases hk3 : k = 3
  · subst hk3
    refine r_aload_n dX2_put_0 rfl ?_
    refine r_getF kX2 (k := 0) (by decide) rfl fl_X2_9 (lay_ok hL rfl) (lay_r hL rfl) dX2_put_1 ?_
    refine r_iload_n dX2_put_4 rfl ?_
    refine r_zaldN (lay_ok hL rfl) (by omega) (by decide) dX2_put_5 ?_
    refine r_if_eq 25 dX2_put_6 (by decide) (fun c6 => ?_) (fun c6 => ?_)
    · refine r_aload_n dX2_put_25 rfl ?_
      refine r_getF kX2 (k := 0) (by decide) rfl fl_X2_9 (lay_ok hL rfl) (lay_r hL rfl) dX2_put_26 ?_
      refine r_iload_n dX2_put_29 rfl ?_
      refine r_iconst (1) dX2_put_30 (by decide) ?_
      refine r_zastN (lay_ok hL rfl) (by omega) (by decide) (by decide) dX2_put_31 ?_
      refine r_lay (lay_wI hL _ _ _) (fun hL => ?_)
      refine r_aload_n dX2_put_32 rfl ?_
      refine r_getF kX2 (k := 1) (by decide) rfl fl_X2_15 (lay_ok hL rfl) (lay_r hL rfl) dX2_put_33 ?_
      refine r_iload_n dX2_put_36 rfl ?_
      refine r_iload_n dX2_put_37 rfl ?_
      refine r_iastN (lay_ok hL rfl) (by omega) (by decide) dX2_put_38 ?_
      refine r_lay (lay_wI hL _ _ _) (fun hL => ?_)
      refine r_aload_n dX2_put_39 rfl ?_
      refine r_getF kX2 (k := 2) (by decide) rfl fl_X2_19 (lay_ok hL rfl) (lay_r hL rfl) dX2_put_40 ?_
      refine r_iload_n dX2_put_43 rfl ?_
      refine r_iload dX2_put_44 rfl ?_
      refine r_iastN (lay_ok hL rfl) (by omega) (by decide) dX2_put_46 ?_
      refine r_lay (lay_wI hL _ _ _) (fun hL => ?_)
      refine r_goto 72 dX2_put_47 (by decide) ?_
      exact r_vret rfl dX2_put_72 ⟨rfl, by simp [x_put, ← Int32.not_le, *]⟩
    · refine r_iload_n dX2_put_9 rfl ?_
      refine r_iconst (nI 3) dX2_put_10 (by decide) ?_
      refine r_icmp_ne 50 dX2_put_11 (by decide) (fun hq => absurd (by decide) hq) (fun _ => ?_)
      refine r_iload dX2_put_14 rfl ?_
      refine r_aload_n dX2_put_16 rfl ?_
      refine r_getF kX2 (k := 2) (by decide) rfl fl_X2_19 (lay_ok hL rfl) (lay_r hL rfl) dX2_put_17 ?_
      refine r_iload_n dX2_put_20 rfl ?_
      refine r_ialdN (lay_ok hL rfl) (by omega) (by decide) dX2_put_21 ?_
      refine r_icmp_le 50 dX2_put_22 (by decide) (fun c22 => ?_) (fun c22 => ?_)
      · refine r_iload_n dX2_put_50 rfl ?_
        refine r_iconst (nI 3) dX2_put_51 (by decide) ?_
        refine r_icmp_eq 72 dX2_put_52 (by decide) (fun _ => ?_) (fun hq => absurd (by decide) hq)
        exact r_vret rfl dX2_put_72 ⟨rfl, by simp [x_put, ← Int32.not_le, *]⟩
      · refine r_aload_n dX2_put_25 rfl ?_
        refine r_getF kX2 (k := 0) (by decide) rfl fl_X2_9 (lay_ok hL rfl) (lay_r hL rfl) dX2_put_26 ?_
        refine r_iload_n dX2_put_29 rfl ?_
        refine r_iconst (1) dX2_put_30 (by decide) ?_
        refine r_zastN (lay_ok hL rfl) (by omega) (by decide) (by decide) dX2_put_31 ?_
        refine r_lay (lay_wI hL _ _ _) (fun hL => ?_)
        refine r_aload_n dX2_put_32 rfl ?_
        refine r_getF kX2 (k := 1) (by decide) rfl fl_X2_15 (lay_ok hL rfl) (lay_r hL rfl) dX2_put_33 ?_
        refine r_iload_n dX2_put_36 rfl ?_
        refine r_iload_n dX2_put_37 rfl ?_
        refine r_iastN (lay_ok hL rfl) (by omega) (by decide) dX2_put_38 ?_
        refine r_lay (lay_wI hL _ _ _) (fun hL => ?_)
        refine r_aload_n dX2_put_39 rfl ?_
        refine r_getF kX2 (k := 2) (by decide) rfl fl_X2_19 (lay_ok hL rfl) (lay_r hL rfl) dX2_put_40 ?_
        refine r_iload_n dX2_put_43 rfl ?_
        refine r_iload dX2_put_44 rfl ?_
        refine r_iastN (lay_ok hL rfl) (by omega) (by decide) dX2_put_46 ?_
        refine r_lay (lay_wI hL _ _ _) (fun hL => ?_)
        refine r_goto 72 dX2_put_47 (by decide) ?_
        exact r_vret rfl dX2_put_72 ⟨rfl, by simp [x_put, ← Int32.not_le, *]⟩
  · have hk4 : ¬ nI k = nI 3 := fun h => hk3 ((nI_eq (by omega) (by omega)).mp h)
    refine r_aload_n dX2_put_0 rfl ?_
    refine r_getF kX2 (k := 0) (by decide) rfl fl_X2_9 (lay_ok hL rfl) (lay_r hL rfl) dX2_put_1 ?_
    refine r_iload_n dX2_put_4 rfl ?_
    refine r_zaldN (lay_ok hL rfl) (by omega) (by decide) dX2_put_5 ?_
    refine r_if_eq 25 dX2_put_6 (by decide) (fun c6 => ?_) (fun c6 => ?_)
    · refine r_aload_n dX2_put_25 rfl ?_
      refine r_getF kX2 (k := 0) (by decide) rfl fl_X2_9 (lay_ok hL rfl) (lay_r hL rfl) dX2_put_26 ?_
      refine r_iload_n dX2_put_29 rfl ?_
      refine r_iconst (1) dX2_put_30 (by decide) ?_
      refine r_zastN (lay_ok hL rfl) (by omega) (by decide) (by decide) dX2_put_31 ?_
      refine r_lay (lay_wI hL _ _ _) (fun hL => ?_)
      refine r_aload_n dX2_put_32 rfl ?_
      refine r_getF kX2 (k := 1) (by decide) rfl fl_X2_15 (lay_ok hL rfl) (lay_r hL rfl) dX2_put_33 ?_
      refine r_iload_n dX2_put_36 rfl ?_
      refine r_iload_n dX2_put_37 rfl ?_
      refine r_iastN (lay_ok hL rfl) (by omega) (by decide) dX2_put_38 ?_
      refine r_lay (lay_wI hL _ _ _) (fun hL => ?_)
      refine r_aload_n dX2_put_39 rfl ?_
      refine r_getF kX2 (k := 2) (by decide) rfl fl_X2_19 (lay_ok hL rfl) (lay_r hL rfl) dX2_put_40 ?_
      refine r_iload_n dX2_put_43 rfl ?_
      refine r_iload dX2_put_44 rfl ?_
      refine r_iastN (lay_ok hL rfl) (by omega) (by decide) dX2_put_46 ?_
      refine r_lay (lay_wI hL _ _ _) (fun hL => ?_)
      refine r_goto 72 dX2_put_47 (by decide) ?_
      exact r_vret rfl dX2_put_72 ⟨rfl, by simp [x_put, ← Int32.not_le, *]⟩
    · refine r_iload_n dX2_put_9 rfl ?_
      refine r_iconst (nI 3) dX2_put_10 (by decide) ?_
      refine r_icmp_ne 50 dX2_put_11 (by decide) (fun _ => ?_) (fun hq => absurd hq hk4)
      refine r_iload_n dX2_put_50 rfl ?_
      refine r_iconst (nI 3) dX2_put_51 (by decide) ?_
      refine r_icmp_eq 72 dX2_put_52 (by decide) (fun hq => absurd hq hk4) (fun _ => ?_)
      refine r_aload_n dX2_put_55 rfl ?_
      refine r_getF kX2 (k := 1) (by decide) rfl fl_X2_15 (lay_ok hL rfl) (lay_r hL rfl) dX2_put_56 ?_
      refine r_iload_n dX2_put_59 rfl ?_
      refine r_iload_n dX2_put_60 rfl ?_
      refine r_aload_n dX2_put_61 rfl ?_
      refine r_getF kX2 (k := 1) (by decide) rfl fl_X2_15 (lay_ok hL rfl) (lay_r hL rfl) dX2_put_62 ?_
      refine r_iload_n dX2_put_65 rfl ?_
      refine r_ialdN (lay_ok hL rfl) (by omega) (by decide) dX2_put_66 ?_
      refine r_iload_n dX2_put_67 rfl ?_
      refine r_cSN ca_yX8_fold nl_X2_22 sm_yX8_fold (c_X8_fold hL hk) ⟨by decide, by decide⟩ (by decide) (by decide) rfl (Nat.le_of_ble_eq_true rfl) dX2_put_68 ?_
      refine r_iastN (lay_ok hL rfl) (by omega) (by decide) dX2_put_71 ?_
      refine r_lay (lay_wI hL _ _ _) (fun hL => ?_)
      exact r_vret rfl dX2_put_72 ⟨rfl, by simp [x_put, ← Int32.not_le, *]⟩
set_option maxHeartbeats 4000000 in
set_option maxRecDepth 100000 in
theorem c_X2_valueAfter {l : Launch} {X : Nat × (Nat → Int32)} {M : am_M} (hL : Lay M) {k v : Nat} {x : Int32} (hk : k ≤ 3) (hv : v < 16) : am_F l yX2_valueAfter cX2_valueAfter 5 (some .int) 2 0 0 X [.ref 16, .int (nI k), .int (nI v), .int x] M (some (.int (x_after M k v x))) (M) := by
  refine am_C.of (by decide) (by simp [Value.category, va_rf]) (Nat.le_of_ble_eq_true rfl) ?_
  rcases lt4 hk with rfl | rfl | rfl | rfl
  · refine r_aload_n dX2_valueAfter_0 rfl ?_
    refine r_getF kX2 (k := 0) (by decide) rfl fl_X2_9 (lay_ok hL rfl) (lay_r hL rfl) dX2_valueAfter_1 ?_
    refine r_iload_n dX2_valueAfter_4 rfl ?_
    refine r_zaldN (lay_ok hL rfl) (by omega) (by decide) dX2_valueAfter_5 ?_
    refine r_if_ne 20 dX2_valueAfter_6 (by decide) (fun c6 => ?_) (fun c6 => ?_)
    · refine r_iload_n dX2_valueAfter_20 rfl ?_
      refine r_if_eq 29 dX2_valueAfter_21 (by decide) (fun _ => ?_) (fun hq => absurd (by decide) hq)
      refine r_iconst (1) dX2_valueAfter_29 (by decide) ?_
      refine r_goto 34 dX2_valueAfter_30 (by decide) ?_
      refine r_istore _ dX2_valueAfter_34 (by decide) rfl ?_
      refine r_iload dX2_valueAfter_36 rfl ?_
      refine r_if_eq 55 dX2_valueAfter_38 (by decide) (fun hq => absurd hq (by decide)) (fun _ => ?_)
      refine r_iload_n dX2_valueAfter_41 rfl ?_
      refine r_iload_n dX2_valueAfter_42 rfl ?_
      refine r_aload_n dX2_valueAfter_43 rfl ?_
      refine r_getF kX2 (k := 1) (by decide) rfl fl_X2_15 (lay_ok hL rfl) (lay_r hL rfl) dX2_valueAfter_44 ?_
      refine r_iload_n dX2_valueAfter_47 rfl ?_
      refine r_ialdN (lay_ok hL rfl) (by omega) (by decide) dX2_valueAfter_48 ?_
      refine r_cSN ca_yX8_fold nl_X2_22 sm_yX8_fold (c_X8_fold hL (k := 0) (by decide)) ⟨by decide, by decide⟩ (by decide) (by decide) rfl (Nat.le_of_ble_eq_true rfl) dX2_valueAfter_49 ?_
      refine r_goto 61 dX2_valueAfter_52 (by decide) ?_
      exact r_iret (Or.inl rfl) dX2_valueAfter_61 ⟨by simp [x_after, c6], rfl⟩
    · refine r_iload_n dX2_valueAfter_9 rfl ?_
      refine r_iconst (2) dX2_valueAfter_10 (by decide) ?_
      refine r_icmp_ne 18 dX2_valueAfter_11 (by decide) (fun _ => ?_) (fun hq => absurd hq (by decide))
      refine r_iload_n dX2_valueAfter_18 rfl ?_
      exact r_iret (Or.inl rfl) dX2_valueAfter_19 ⟨by simp [x_after, c6], rfl⟩
  · refine r_aload_n dX2_valueAfter_0 rfl ?_
    refine r_getF kX2 (k := 0) (by decide) rfl fl_X2_9 (lay_ok hL rfl) (lay_r hL rfl) dX2_valueAfter_1 ?_
    refine r_iload_n dX2_valueAfter_4 rfl ?_
    refine r_zaldN (lay_ok hL rfl) (by omega) (by decide) dX2_valueAfter_5 ?_
    refine r_if_ne 20 dX2_valueAfter_6 (by decide) (fun c6 => ?_) (fun c6 => ?_)
    · refine r_iload_n dX2_valueAfter_20 rfl ?_
      refine r_if_eq 29 dX2_valueAfter_21 (by decide) (fun hq => absurd hq (by decide)) (fun _ => ?_)
      refine r_iload_n dX2_valueAfter_24 rfl ?_
      refine r_iconst (1) dX2_valueAfter_25 (by decide) ?_
      refine r_icmp_ne 33 dX2_valueAfter_26 (by decide) (fun hq => absurd (by decide) hq) (fun _ => ?_)
      refine r_iconst (1) dX2_valueAfter_29 (by decide) ?_
      refine r_goto 34 dX2_valueAfter_30 (by decide) ?_
      refine r_istore _ dX2_valueAfter_34 (by decide) rfl ?_
      refine r_iload dX2_valueAfter_36 rfl ?_
      refine r_if_eq 55 dX2_valueAfter_38 (by decide) (fun hq => absurd hq (by decide)) (fun _ => ?_)
      refine r_iload_n dX2_valueAfter_41 rfl ?_
      refine r_iload_n dX2_valueAfter_42 rfl ?_
      refine r_aload_n dX2_valueAfter_43 rfl ?_
      refine r_getF kX2 (k := 1) (by decide) rfl fl_X2_15 (lay_ok hL rfl) (lay_r hL rfl) dX2_valueAfter_44 ?_
      refine r_iload_n dX2_valueAfter_47 rfl ?_
      refine r_ialdN (lay_ok hL rfl) (by omega) (by decide) dX2_valueAfter_48 ?_
      refine r_cSN ca_yX8_fold nl_X2_22 sm_yX8_fold (c_X8_fold hL (k := 1) (by decide)) ⟨by decide, by decide⟩ (by decide) (by decide) rfl (Nat.le_of_ble_eq_true rfl) dX2_valueAfter_49 ?_
      refine r_goto 61 dX2_valueAfter_52 (by decide) ?_
      exact r_iret (Or.inl rfl) dX2_valueAfter_61 ⟨by simp [x_after, c6], rfl⟩
    · refine r_iload_n dX2_valueAfter_9 rfl ?_
      refine r_iconst (2) dX2_valueAfter_10 (by decide) ?_
      refine r_icmp_ne 18 dX2_valueAfter_11 (by decide) (fun _ => ?_) (fun hq => absurd hq (by decide))
      refine r_iload_n dX2_valueAfter_18 rfl ?_
      exact r_iret (Or.inl rfl) dX2_valueAfter_19 ⟨by simp [x_after, c6], rfl⟩
  · refine r_aload_n dX2_valueAfter_0 rfl ?_
    refine r_getF kX2 (k := 0) (by decide) rfl fl_X2_9 (lay_ok hL rfl) (lay_r hL rfl) dX2_valueAfter_1 ?_
    refine r_iload_n dX2_valueAfter_4 rfl ?_
    refine r_zaldN (lay_ok hL rfl) (by omega) (by decide) dX2_valueAfter_5 ?_
    refine r_if_ne 20 dX2_valueAfter_6 (by decide) (fun c6 => ?_) (fun c6 => ?_)
    · refine r_iload_n dX2_valueAfter_20 rfl ?_
      refine r_if_eq 29 dX2_valueAfter_21 (by decide) (fun hq => absurd hq (by decide)) (fun _ => ?_)
      refine r_iload_n dX2_valueAfter_24 rfl ?_
      refine r_iconst (1) dX2_valueAfter_25 (by decide) ?_
      refine r_icmp_ne 33 dX2_valueAfter_26 (by decide) (fun _ => ?_) (fun hq => absurd hq (by decide))
      refine r_iconst (0) dX2_valueAfter_33 (by decide) ?_
      refine r_istore _ dX2_valueAfter_34 (by decide) rfl ?_
      refine r_iload dX2_valueAfter_36 rfl ?_
      refine r_if_eq 55 dX2_valueAfter_38 (by decide) (fun _ => ?_) (fun hq => absurd (by decide) hq)
      refine r_aload_n dX2_valueAfter_55 rfl ?_
      refine r_getF kX2 (k := 1) (by decide) rfl fl_X2_15 (lay_ok hL rfl) (lay_r hL rfl) dX2_valueAfter_56 ?_
      refine r_iload_n dX2_valueAfter_59 rfl ?_
      refine r_ialdN (lay_ok hL rfl) (by omega) (by decide) dX2_valueAfter_60 ?_
      exact r_iret (Or.inl rfl) dX2_valueAfter_61 ⟨by simp [x_after, c6], rfl⟩
    · refine r_iload_n dX2_valueAfter_9 rfl ?_
      refine r_iconst (2) dX2_valueAfter_10 (by decide) ?_
      refine r_icmp_ne 18 dX2_valueAfter_11 (by decide) (fun hq => absurd (by decide) hq) (fun _ => ?_)
      refine r_iconst (0) dX2_valueAfter_14 (by decide) ?_
      refine r_goto 19 dX2_valueAfter_15 (by decide) ?_
      exact r_iret (Or.inl rfl) dX2_valueAfter_19 ⟨by simp [x_after, c6], rfl⟩
  · refine r_aload_n dX2_valueAfter_0 rfl ?_
    refine r_getF kX2 (k := 0) (by decide) rfl fl_X2_9 (lay_ok hL rfl) (lay_r hL rfl) dX2_valueAfter_1 ?_
    refine r_iload_n dX2_valueAfter_4 rfl ?_
    refine r_zaldN (lay_ok hL rfl) (by omega) (by decide) dX2_valueAfter_5 ?_
    refine r_if_ne 20 dX2_valueAfter_6 (by decide) (fun c6 => ?_) (fun c6 => ?_)
    · refine r_iload_n dX2_valueAfter_20 rfl ?_
      refine r_if_eq 29 dX2_valueAfter_21 (by decide) (fun hq => absurd hq (by decide)) (fun _ => ?_)
      refine r_iload_n dX2_valueAfter_24 rfl ?_
      refine r_iconst (1) dX2_valueAfter_25 (by decide) ?_
      refine r_icmp_ne 33 dX2_valueAfter_26 (by decide) (fun _ => ?_) (fun hq => absurd hq (by decide))
      refine r_iconst (0) dX2_valueAfter_33 (by decide) ?_
      refine r_istore _ dX2_valueAfter_34 (by decide) rfl ?_
      refine r_iload dX2_valueAfter_36 rfl ?_
      refine r_if_eq 55 dX2_valueAfter_38 (by decide) (fun _ => ?_) (fun hq => absurd (by decide) hq)
      refine r_aload_n dX2_valueAfter_55 rfl ?_
      refine r_getF kX2 (k := 1) (by decide) rfl fl_X2_15 (lay_ok hL rfl) (lay_r hL rfl) dX2_valueAfter_56 ?_
      refine r_iload_n dX2_valueAfter_59 rfl ?_
      refine r_ialdN (lay_ok hL rfl) (by omega) (by decide) dX2_valueAfter_60 ?_
      exact r_iret (Or.inl rfl) dX2_valueAfter_61 ⟨by simp [x_after, c6], rfl⟩
    · refine r_iload_n dX2_valueAfter_9 rfl ?_
      refine r_iconst (2) dX2_valueAfter_10 (by decide) ?_
      refine r_icmp_ne 18 dX2_valueAfter_11 (by decide) (fun _ => ?_) (fun hq => absurd hq (by decide))
      refine r_iload_n dX2_valueAfter_18 rfl ?_
      exact r_iret (Or.inl rfl) dX2_valueAfter_19 ⟨by simp [x_after, c6], rfl⟩
set_option maxHeartbeats 4000000 in
set_option maxRecDepth 100000 in
theorem c_X2_settle {l : Launch} {X : Nat × (Nat → Int32)} {M : am_M} (hL : Lay M) {k v va p q r : Nat} (hva : am_ok M va 7 0) (hp : mR M va 0 = some p) (hq : mR M va 1 = some q) (hr : mR M va 2 = some r) (hpo : am_ok M p 10 16) (hqo : am_ok M q 10 16) (hro : am_ok M r 11 16) (hk : k ≤ 3) (hv : v < 16) (h1 : q ≠ p) : am_F l yX2_settle cX2_settle 6 (none) 3 0 0 X [.ref 16, .int (nI k), .int (nI v), .ref va] M (none) (x_settle M k v p q r) := by
  refine am_C.of (by decide) (by simp [Value.category, va_rf]) (Nat.le_of_ble_eq_true rfl) ?_
  rcases lt4 hk with rfl | rfl | rfl | rfl
  · refine r_aload_n dX2_settle_0 rfl ?_
    refine r_getF kX7 (k := 0) (by decide) rfl fl_X2_41 hva hp dX2_settle_1 ?_
    refine r_iload_n dX2_settle_4 rfl ?_
    refine r_ialdN hpo (by omega) (by decide) dX2_settle_5 ?_
    refine r_istore _ dX2_settle_6 (by decide) rfl ?_
    refine r_aload_n dX2_settle_8 rfl ?_
    refine r_iload_n dX2_settle_9 rfl ?_
    refine r_iload_n dX2_settle_10 rfl ?_
    refine r_iload dX2_settle_11 rfl ?_
    refine r_cV ca_yX2_valueAfter ml_X2_46 im_yX2_valueAfter se_yX2_valueAfter (by decide) rfl (lay_ok hL rfl) (c_X2_valueAfter hL (k := 0) (by decide) hv) ⟨by decide, by decide⟩ (by decide) (by decide) rfl (Nat.le_of_ble_eq_true rfl) dX2_settle_13 ?_
    refine r_istore _ dX2_settle_16 (by decide) rfl ?_
    refine r_aload_n dX2_settle_18 rfl ?_
    refine r_getF kX7 (k := 0) (by decide) rfl fl_X2_41 hva hp dX2_settle_19 ?_
    refine r_iload_n dX2_settle_22 rfl ?_
    refine r_iload dX2_settle_23 rfl ?_
    refine r_iastN hpo (by omega) (by decide) dX2_settle_25 ?_
    refine r_lay (lay_wI hL _ _ _) (fun hL => ?_)
    refine r_iload_n dX2_settle_26 rfl ?_
    refine r_iconst (2) dX2_settle_27 (by decide) ?_
    refine r_icmp_ne 61 dX2_settle_28 (by decide) (fun _ => ?_) (fun hq => absurd hq (by decide))
    refine r_aload_n dX2_settle_61 rfl ?_
    refine r_getF kX7 (k := 2) (by decide) rfl fl_X2_52 hva hr dX2_settle_62 ?_
    refine r_iload_n dX2_settle_65 rfl ?_
    refine r_iload dX2_settle_66 rfl ?_
    refine r_iload dX2_settle_68 rfl ?_
    refine r_icmp_eq 77 dX2_settle_70 (by decide) (fun c70 => ?_) (fun c70 => ?_)
    · refine r_iconst (0) dX2_settle_77 (by decide) ?_
      refine r_zastN hro (by omega) (by decide) (by decide) dX2_settle_78 ?_
      refine r_lay (lay_wI hL _ _ _) (fun hL => ?_)
      exact r_vret rfl dX2_settle_79 ⟨rfl, by simp [x_settle, *]⟩
    · refine r_iconst (1) dX2_settle_73 (by decide) ?_
      refine r_goto 78 dX2_settle_74 (by decide) ?_
      refine r_zastN hro (by omega) (by decide) (by decide) dX2_settle_78 ?_
      refine r_lay (lay_wI hL _ _ _) (fun hL => ?_)
      exact r_vret rfl dX2_settle_79 ⟨rfl, by simp [x_settle, *]⟩
  · refine r_aload_n dX2_settle_0 rfl ?_
    refine r_getF kX7 (k := 0) (by decide) rfl fl_X2_41 hva hp dX2_settle_1 ?_
    refine r_iload_n dX2_settle_4 rfl ?_
    refine r_ialdN hpo (by omega) (by decide) dX2_settle_5 ?_
    refine r_istore _ dX2_settle_6 (by decide) rfl ?_
    refine r_aload_n dX2_settle_8 rfl ?_
    refine r_iload_n dX2_settle_9 rfl ?_
    refine r_iload_n dX2_settle_10 rfl ?_
    refine r_iload dX2_settle_11 rfl ?_
    refine r_cV ca_yX2_valueAfter ml_X2_46 im_yX2_valueAfter se_yX2_valueAfter (by decide) rfl (lay_ok hL rfl) (c_X2_valueAfter hL (k := 1) (by decide) hv) ⟨by decide, by decide⟩ (by decide) (by decide) rfl (Nat.le_of_ble_eq_true rfl) dX2_settle_13 ?_
    refine r_istore _ dX2_settle_16 (by decide) rfl ?_
    refine r_aload_n dX2_settle_18 rfl ?_
    refine r_getF kX7 (k := 0) (by decide) rfl fl_X2_41 hva hp dX2_settle_19 ?_
    refine r_iload_n dX2_settle_22 rfl ?_
    refine r_iload dX2_settle_23 rfl ?_
    refine r_iastN hpo (by omega) (by decide) dX2_settle_25 ?_
    refine r_lay (lay_wI hL _ _ _) (fun hL => ?_)
    refine r_iload_n dX2_settle_26 rfl ?_
    refine r_iconst (2) dX2_settle_27 (by decide) ?_
    refine r_icmp_ne 61 dX2_settle_28 (by decide) (fun _ => ?_) (fun hq => absurd hq (by decide))
    refine r_aload_n dX2_settle_61 rfl ?_
    refine r_getF kX7 (k := 2) (by decide) rfl fl_X2_52 hva hr dX2_settle_62 ?_
    refine r_iload_n dX2_settle_65 rfl ?_
    refine r_iload dX2_settle_66 rfl ?_
    refine r_iload dX2_settle_68 rfl ?_
    refine r_icmp_eq 77 dX2_settle_70 (by decide) (fun c70 => ?_) (fun c70 => ?_)
    · refine r_iconst (0) dX2_settle_77 (by decide) ?_
      refine r_zastN hro (by omega) (by decide) (by decide) dX2_settle_78 ?_
      refine r_lay (lay_wI hL _ _ _) (fun hL => ?_)
      exact r_vret rfl dX2_settle_79 ⟨rfl, by simp [x_settle, *]⟩
    · refine r_iconst (1) dX2_settle_73 (by decide) ?_
      refine r_goto 78 dX2_settle_74 (by decide) ?_
      refine r_zastN hro (by omega) (by decide) (by decide) dX2_settle_78 ?_
      refine r_lay (lay_wI hL _ _ _) (fun hL => ?_)
      exact r_vret rfl dX2_settle_79 ⟨rfl, by simp [x_settle, *]⟩
  · refine r_aload_n dX2_settle_0 rfl ?_
    refine r_getF kX7 (k := 0) (by decide) rfl fl_X2_41 hva hp dX2_settle_1 ?_
    refine r_iload_n dX2_settle_4 rfl ?_
    refine r_ialdN hpo (by omega) (by decide) dX2_settle_5 ?_
    refine r_istore _ dX2_settle_6 (by decide) rfl ?_
    refine r_aload_n dX2_settle_8 rfl ?_
    refine r_iload_n dX2_settle_9 rfl ?_
    refine r_iload_n dX2_settle_10 rfl ?_
    refine r_iload dX2_settle_11 rfl ?_
    refine r_cV ca_yX2_valueAfter ml_X2_46 im_yX2_valueAfter se_yX2_valueAfter (by decide) rfl (lay_ok hL rfl) (c_X2_valueAfter hL (k := 2) (by decide) hv) ⟨by decide, by decide⟩ (by decide) (by decide) rfl (Nat.le_of_ble_eq_true rfl) dX2_settle_13 ?_
    refine r_istore _ dX2_settle_16 (by decide) rfl ?_
    refine r_aload_n dX2_settle_18 rfl ?_
    refine r_getF kX7 (k := 0) (by decide) rfl fl_X2_41 hva hp dX2_settle_19 ?_
    refine r_iload_n dX2_settle_22 rfl ?_
    refine r_iload dX2_settle_23 rfl ?_
    refine r_iastN hpo (by omega) (by decide) dX2_settle_25 ?_
    refine r_lay (lay_wI hL _ _ _) (fun hL => ?_)
    refine r_iload_n dX2_settle_26 rfl ?_
    refine r_iconst (2) dX2_settle_27 (by decide) ?_
    refine r_icmp_ne 61 dX2_settle_28 (by decide) (fun hq => absurd (by decide) hq) (fun _ => ?_)
    refine r_aload_n dX2_settle_31 rfl ?_
    refine r_getF kX7 (k := 1) (by decide) rfl fl_X2_49 hva hq dX2_settle_32 ?_
    refine r_iload_n dX2_settle_35 rfl ?_
    refine r_dup2 dX2_settle_36 rfl rfl ?_
    refine r_ialdE (mI M q v) hqo (by omega) (by omega) dX2_settle_37 (by rw [mI_wI_n _ _ _ h1]) ?_
    refine r_iload dX2_settle_38 rfl ?_
    refine r_iadd dX2_settle_40 ?_
    refine r_iastN hqo (by omega) (by decide) dX2_settle_41 ?_
    refine r_lay (lay_wI hL _ _ _) (fun hL => ?_)
    refine r_aload_n dX2_settle_42 rfl ?_
    refine r_getF kX7 (k := 2) (by decide) rfl fl_X2_52 hva hr dX2_settle_43 ?_
    refine r_iload_n dX2_settle_46 rfl ?_
    refine r_iload dX2_settle_47 rfl ?_
    refine r_if_eq 56 dX2_settle_49 (by decide) (fun c49 => ?_) (fun c49 => ?_)
    · refine r_iconst (0) dX2_settle_56 (by decide) ?_
      refine r_zastN hro (by omega) (by decide) (by decide) dX2_settle_57 ?_
      refine r_lay (lay_wI hL _ _ _) (fun hL => ?_)
      refine r_goto 79 dX2_settle_58 (by decide) ?_
      exact r_vret rfl dX2_settle_79 ⟨rfl, by simp [x_settle, *]⟩
    · refine r_iconst (1) dX2_settle_52 (by decide) ?_
      refine r_goto 57 dX2_settle_53 (by decide) ?_
      refine r_zastN hro (by omega) (by decide) (by decide) dX2_settle_57 ?_
      refine r_lay (lay_wI hL _ _ _) (fun hL => ?_)
      refine r_goto 79 dX2_settle_58 (by decide) ?_
      exact r_vret rfl dX2_settle_79 ⟨rfl, by simp [x_settle, *]⟩
  · refine r_aload_n dX2_settle_0 rfl ?_
    refine r_getF kX7 (k := 0) (by decide) rfl fl_X2_41 hva hp dX2_settle_1 ?_
    refine r_iload_n dX2_settle_4 rfl ?_
    refine r_ialdN hpo (by omega) (by decide) dX2_settle_5 ?_
    refine r_istore _ dX2_settle_6 (by decide) rfl ?_
    refine r_aload_n dX2_settle_8 rfl ?_
    refine r_iload_n dX2_settle_9 rfl ?_
    refine r_iload_n dX2_settle_10 rfl ?_
    refine r_iload dX2_settle_11 rfl ?_
    refine r_cV ca_yX2_valueAfter ml_X2_46 im_yX2_valueAfter se_yX2_valueAfter (by decide) rfl (lay_ok hL rfl) (c_X2_valueAfter hL (k := 3) (by decide) hv) ⟨by decide, by decide⟩ (by decide) (by decide) rfl (Nat.le_of_ble_eq_true rfl) dX2_settle_13 ?_
    refine r_istore _ dX2_settle_16 (by decide) rfl ?_
    refine r_aload_n dX2_settle_18 rfl ?_
    refine r_getF kX7 (k := 0) (by decide) rfl fl_X2_41 hva hp dX2_settle_19 ?_
    refine r_iload_n dX2_settle_22 rfl ?_
    refine r_iload dX2_settle_23 rfl ?_
    refine r_iastN hpo (by omega) (by decide) dX2_settle_25 ?_
    refine r_lay (lay_wI hL _ _ _) (fun hL => ?_)
    refine r_iload_n dX2_settle_26 rfl ?_
    refine r_iconst (2) dX2_settle_27 (by decide) ?_
    refine r_icmp_ne 61 dX2_settle_28 (by decide) (fun _ => ?_) (fun hq => absurd hq (by decide))
    refine r_aload_n dX2_settle_61 rfl ?_
    refine r_getF kX7 (k := 2) (by decide) rfl fl_X2_52 hva hr dX2_settle_62 ?_
    refine r_iload_n dX2_settle_65 rfl ?_
    refine r_iload dX2_settle_66 rfl ?_
    refine r_iload dX2_settle_68 rfl ?_
    refine r_icmp_eq 77 dX2_settle_70 (by decide) (fun c70 => ?_) (fun c70 => ?_)
    · refine r_iconst (0) dX2_settle_77 (by decide) ?_
      refine r_zastN hro (by omega) (by decide) (by decide) dX2_settle_78 ?_
      refine r_lay (lay_wI hL _ _ _) (fun hL => ?_)
      exact r_vret rfl dX2_settle_79 ⟨rfl, by simp [x_settle, *]⟩
    · refine r_iconst (1) dX2_settle_73 (by decide) ?_
      refine r_goto 78 dX2_settle_74 (by decide) ?_
      refine r_zastN hro (by omega) (by decide) (by decide) dX2_settle_78 ?_
      refine r_lay (lay_wI hL _ _ _) (fun hL => ?_)
      exact r_vret rfl dX2_settle_79 ⟨rfl, by simp [x_settle, *]⟩
theorem x_put_T (M : am_M) (k v : Nat) (m : Int32) (a : Nat) : mT (x_put M k v m a) = mT M ∧ mN (x_put M k v m a) = mN M ∧ mR (x_put M k v m a) = mR M := by
  unfold x_put
  split
  · exact ⟨rfl, rfl, rfl⟩
  · split <;> exact ⟨rfl, rfl, rfl⟩
theorem x_put_I (M : am_M) (k v : Nat) (m : Int32) (a : Nat) {x : Nat} (h : x ≠ 17 ∧ x ≠ 18 ∧ x ≠ 19) : mI (x_put M k v m a) x = mI M x := by
  unfold x_put
  split
  · rw [mI_wI_n _ _ _ h.2.2, mI_wI_n _ _ _ h.2.1, mI_wI_n _ _ _ h.1]
  · split
    · rfl
    · rw [mI_wI_n _ _ _ h.2.1]
/-- only ints of the cells of S may differ -/
def am_fr (S : Nat → Prop) (M M' : am_M) : Prop := mT M' = mT M ∧ mN M' = mN M ∧ mR M' = mR M ∧ ∀ x, ¬ S x → mI M' x = mI M x
theorem am_fr.rf {S : Nat → Prop} {M : am_M} : am_fr S M M := ⟨rfl, rfl, rfl, fun _ _ => rfl⟩
theorem am_fr.tr {S : Nat → Prop} {M M1 M2 : am_M} (h1 : am_fr S M M1) (h2 : am_fr S M1 M2) : am_fr S M M2 := ⟨h2.1.trans h1.1, h2.2.1.trans h1.2.1, h2.2.2.1.trans h1.2.2.1, fun x hx => (h2.2.2.2 x hx).trans (h1.2.2.2 x hx)⟩
theorem am_fr.wd {S S' : Nat → Prop} {M M1 : am_M} (h1 : am_fr S M M1) (h : ∀ x, S x → S' x) : am_fr S' M M1 := ⟨h1.1, h1.2.1, h1.2.2.1, fun x hx => h1.2.2.2 x (fun q => hx (h x q))⟩
theorem am_fr.lay {S : Nat → Prop} {M M1 : am_M} (h : am_fr S M M1) (hL : Lay M) : Lay M1 := by
  obtain ⟨h1, h2, h3, -⟩ := h
  exact ⟨by rw [h2]; exact hL.1, by rw [h1]; exact hL.2.1, by rw [h3]; exact hL.2.2⟩
theorem am_fr.ok {S : Nat → Prop} {M M1 : am_M} (h : am_fr S M M1) {a t n : Nat} (k : am_ok M a t n) : am_ok M1 a t n := by
  obtain ⟨h1, h2, h3, -⟩ := h
  exact ⟨k.1, by rw [h2]; exact k.2.1, by rw [h1]; exact k.2.2⟩
theorem am_fr.r {S : Nat → Prop} {M M1 : am_M} (h : am_fr S M M1) {a k : Nat} {r : Option Nat} (e : mR M a k = r) : mR M1 a k = r := by rw [h.2.2.1]; exact e
theorem am_fr.i {S : Nat → Prop} {M M1 : am_M} (h : am_fr S M M1) {a k : Nat} {r : Int32} (hs : ¬ S a) (e : mI M a k = r) : mI M1 a k = r := by rw [h.2.2.2 a hs]; exact e
theorem am_fr.itr {S : Nat → Prop} {M : am_M} {f : Nat → am_M → am_M} (h : ∀ i N, am_fr S N (f i N)) : ∀ n, am_fr S M (itr f n M)
  | 0 => am_fr.rf
  | n + 1 => (am_fr.itr h n).tr (h n _)
def s_box (x : Nat) : Prop := x = 17 ∨ x = 18 ∨ x = 19
theorem x_put_fr (M : am_M) (k v : Nat) (m : Int32) (a : Nat) : am_fr s_box M (x_put M k v m a) := ⟨(x_put_T M k v m a).1, (x_put_T M k v m a).2.1, (x_put_T M k v m a).2.2, fun x hx => x_put_I M k v m a ⟨fun h => hx (Or.inl h), fun h => hx (Or.inr (Or.inl h)), fun h => hx (Or.inr (Or.inr h))⟩⟩
set_option maxHeartbeats 4000000 in
set_option maxRecDepth 100000 in
theorem l_X2_putAll {l : Launch} {X : Nat × (Nat → Int32)} {M : am_M} (hL : Lay M) {a0 n0 p q r n k : Nat} (hla : am_ok M a0 3 n0) (hp : mR M a0 5 = some p) (hq : mR M a0 6 = some q) (hr : mR M a0 7 = some r) (hpo : am_ok M p 10 n) (hqo : am_ok M q 10 n) (hro : am_ok M r 10 n) (hP : 126 ≤ p) (hQ : 126 ≤ q) (hR : 126 ≤ r) (hn : n ≤ 40) (hk : k ≤ 3) {ev : Nat → Nat} {ea : Nat → Nat} (hE : ∀ j, j < n → mI M p j = nI (ev j) ∧ ev j < 16 ∧ mI M r j = nI (ea j) ∧ ea j < 40) : ∀ k' i : Nat, i + k' = n → am_V l yX2_putAll cX2_putAll 4 (none) (am_R 3 0 0) 0 0 X (fun v M' => v = none ∧ M' = itr (fun j N => x_put N k (ev j) (mI M q j) (ea j)) n M) 0 0 2 [some (.ref 16), some (.int (nI k)), some (.ref a0), some (.int (nI i))] [] (itr (fun j N => x_put N k (ev j) (mI M q j) (ea j)) i M) := by
  intro k'
  induction k' with
  | zero =>
    intro i hi
    obtain rfl : i = n := by omega
    have hf : am_fr s_box M (itr (fun j N => x_put N k (ev j) (mI M q j) (ea j)) i M) := am_fr.itr (fun j N => x_put_fr N _ _ _ _) i
    have nb : ∀ z, 126 ≤ z → ¬ s_box z := fun z hz h => by rcases h with h | h | h <;> omega
    have hL := hf.lay hL
    have hla := hf.ok hla
    have hp := hf.r hp
    have hq := hf.r hq
    have hr := hf.r hr
    have hpo := hf.ok hpo
    have hqo := hf.ok hqo
    have hro := hf.ok hro
    refine r_iload_n dX2_putAll_2 rfl ?_
    refine r_aload_n dX2_putAll_3 rfl ?_
    refine r_getF kX3 (k := 5) (by decide) rfl fl_X2_26 hla hp dX2_putAll_4 ?_
    refine r_alen (Or.inl rfl) hpo dX2_putAll_7 ?_
    refine r_icmp_ge 40 dX2_putAll_8 (by decide) (fun _ => ?_) (fun hq => absurd (nI_le (Nat.le_refl i) (by omega)) hq)
    exact r_vret rfl dX2_putAll_40 ⟨rfl, rfl⟩
  | succ k' ih =>
    intro i hi
    obtain ⟨e1, e2, e3, e4⟩ := hE i (by omega)
    have hf : am_fr s_box M (itr (fun j N => x_put N k (ev j) (mI M q j) (ea j)) i M) := am_fr.itr (fun j N => x_put_fr N _ _ _ _) i
    have nb : ∀ z, 126 ≤ z → ¬ s_box z := fun z hz h => by rcases h with h | h | h <;> omega
    have hL := hf.lay hL
    have hla := hf.ok hla
    have hp := hf.r hp
    have hq := hf.r hq
    have hr := hf.r hr
    have hpo := hf.ok hpo
    have hqo := hf.ok hqo
    have hro := hf.ok hro
    have e1 := hf.i (nb p hP) e1
    have e3 := hf.i (nb r hR) e3
    have e5 := hf.i (k := i) (nb q hQ) rfl
    refine r_iload_n dX2_putAll_2 rfl ?_
    refine r_aload_n dX2_putAll_3 rfl ?_
    refine r_getF kX3 (k := 5) (by decide) rfl fl_X2_26 hla hp dX2_putAll_4 ?_
    refine r_alen (Or.inl rfl) hpo dX2_putAll_7 ?_
    refine r_icmp_ge 40 dX2_putAll_8 (by decide) (fun hq => absurd hq (nI_ge (by omega) (by omega))) (fun _ => ?_)
    refine r_aload_n dX2_putAll_11 rfl ?_
    refine r_iload_n dX2_putAll_12 rfl ?_
    refine r_aload_n dX2_putAll_13 rfl ?_
    refine r_getF kX3 (k := 5) (by decide) rfl fl_X2_26 hla hp dX2_putAll_14 ?_
    refine r_iload_n dX2_putAll_17 rfl ?_
    refine r_ialdE (nI (ev i)) hpo (by omega) (by omega) dX2_putAll_18 e1 ?_
    refine r_aload_n dX2_putAll_19 rfl ?_
    refine r_getF kX3 (k := 6) (by decide) rfl fl_X2_31 hla hq dX2_putAll_20 ?_
    refine r_iload_n dX2_putAll_23 rfl ?_
    refine r_ialdE (mI M q i) hqo (by omega) (by omega) dX2_putAll_24 e5 ?_
    refine r_aload_n dX2_putAll_25 rfl ?_
    refine r_getF kX3 (k := 7) (by decide) rfl fl_X2_34 hla hr dX2_putAll_26 ?_
    refine r_iload_n dX2_putAll_29 rfl ?_
    refine r_ialdE (nI (ea i)) hro (by omega) (by omega) dX2_putAll_30 e3 ?_
    refine r_cV ca_yX2_put ml_X2_37 im_yX2_put se_yX2_put (by decide) rfl (lay_ok hL rfl) (c_X2_put hL hk e2) ⟨by decide, by decide⟩ (by decide) (by decide) rfl (Nat.le_of_ble_eq_true rfl) dX2_putAll_31 ?_
    refine r_iinc (nI (i + 1)) _ dX2_putAll_34 (by decide) rfl (nI_1 _) rfl ?_
    refine r_goto 2 dX2_putAll_37 (by decide) ?_
    exact ih (i + 1) (by omega)
set_option maxHeartbeats 4000000 in
set_option maxRecDepth 100000 in
theorem c_X2_putAll {l : Launch} {X : Nat × (Nat → Int32)} {M : am_M} (hL : Lay M) {a0 n0 p q r n k : Nat} (hla : am_ok M a0 3 n0) (hp : mR M a0 5 = some p) (hq : mR M a0 6 = some q) (hr : mR M a0 7 = some r) (hpo : am_ok M p 10 n) (hqo : am_ok M q 10 n) (hro : am_ok M r 10 n) (hP : 126 ≤ p) (hQ : 126 ≤ q) (hR : 126 ≤ r) (hn : n ≤ 40) (hk : k ≤ 3) {ev : Nat → Nat} {ea : Nat → Nat} (hE : ∀ j, j < n → mI M p j = nI (ev j) ∧ ev j < 16 ∧ mI M r j = nI (ea j) ∧ ea j < 40)  : am_F l yX2_putAll cX2_putAll 4 (none) 3 0 0 X [.ref 16, .int (nI k), .ref a0] M (none) (itr (fun j N => x_put N k (ev j) (mI M q j) (ea j)) n M) := by
  refine am_C.of (by decide) (by simp [Value.category, va_rf]) (Nat.le_of_ble_eq_true rfl) ?_
  refine r_iconst (nI 0) dX2_putAll_0 (by decide) ?_
  refine r_istore_n _ dX2_putAll_1 (by decide) rfl ?_
  exact l_X2_putAll hL hla hp hq hr hpo hqo hro hP hQ hR hn hk hE n 0 (by omega)
end
section
/-! THE DESK -/
def DX (M : am_M) (es : List tE) : Prop := mI M 20 3 = nI es.length ∧ es.length ≤ 40 ∧ ∀ j e, es[j]? = some e → mI M 21 j = nI e.1 ∧ mI M 22 j = e.2.1 ∧ mI M 23 j = nI e.2.2
def s_desk (x : Nat) : Prop := x = 20 ∨ x = 21 ∨ x = 22 ∨ x = 23
def x_app (M : am_M) (n : Nat) (t m a : Int32) : am_M := wI (wI (wI (wI M 21 n t) 22 n m) 23 n a) 20 3 (nI (n + 1))
theorem x_app_fr (M : am_M) (n : Nat) (t m a : Int32) : am_fr s_desk M (x_app M n t m a) := by
  refine ⟨rfl, rfl, rfl, fun x hx => ?_⟩
  unfold x_app
  rw [mI_wI_n _ _ _ (fun h => hx (Or.inl h)), mI_wI_n _ _ _ (fun h => hx (Or.inr (Or.inr (Or.inr h)))), mI_wI_n _ _ _ (fun h => hx (Or.inr (Or.inr (Or.inl h)))), mI_wI_n _ _ _ (fun h => hx (Or.inr (Or.inl h)))]
theorem x_app_DX {M : am_M} {es : List tE} (h : DX M es) (hl : es.length < 40) (t : Nat) (m : Int32) (a : Nat) : DX (x_app M es.length (nI t) m (nI a)) (es ++ [(t, m, a)]) := by
  refine ⟨by simp [x_app, mI_wI], by simp; omega, fun j e he => ?_⟩
  by_cases hj : j < es.length
  · rw [List.getElem?_append_left hj] at he
    obtain ⟨h1, h2, h3⟩ := h.2.2 j e he
    have hne : j ≠ es.length := by omega
    simp [x_app, mI_wI, hne, h1, h2, h3]
  · have hj2 : j = es.length := by
      have := (List.getElem?_eq_some_iff.mp he).1
      simp at this
      omega
    subst hj2
    simp at he
    subst he
    simp [x_app, mI_wI]
def t_pl (v : Nat) : List tE → Nat
  | [] => 0
  | e :: es => if e.1 = v then 0 else t_pl v es + 1
theorem t_pl_le (v : Nat) (es : List tE) : t_pl v es ≤ es.length := by
  induction es with
  | nil => exact Nat.le_refl _
  | cons e es ih => unfold t_pl; split <;> simp; omega
theorem t_addJ_at (k v : Nat) (m : Int32) (a : Nat) (es : List tE) : (t_pl v es = es.length → t_addJ k v m a es = es ++ [(v, m, a)]) ∧ ∀ e, es[t_pl v es]? = some e → t_addJ k v m a es = es.set (t_pl v es) (e.1, t_fold k e.2.1 m, e.2.2) := by
  induction es with
  | nil => exact ⟨fun _ => rfl, fun e h => by simp [t_pl] at h⟩
  | cons f es ih =>
    by_cases hf : f.1 = v
    · refine ⟨fun h => ?_, fun e h => ?_⟩
      · simp [t_pl, hf] at h
      · simp [t_pl, hf] at h
        subst h
        simp [t_addJ, t_pl, hf]
    · refine ⟨fun h => ?_, fun e h => ?_⟩
      · simp [t_pl, hf] at h
        simp [t_addJ, hf, ih.1 h]
      · simp [t_pl, hf] at h
        simp [t_addJ, t_pl, hf, ih.2 e h]
set_option maxHeartbeats 4000000 in
set_option maxRecDepth 100000 in
theorem c_X0_append {l : Launch} {X : Nat × (Nat → Int32)} {M : am_M} (hL : Lay M) {n : Nat} {t m a : Int32} (h : mI M 20 3 = nI n) (hn : n < 40) : am_F l yX0_append cX0_append 4 (none) 0 0 0 X [.ref 20, .int t, .int m, .int a] M (none) (x_app M n t m a) := by
  refine am_C.of (by decide) (by simp [Value.category, va_rf]) (Nat.le_of_ble_eq_true rfl) ?_
  refine r_aload_n dX0_append_0 rfl ?_
  refine r_getF kX0 (k := 0) (by decide) rfl fl_X0_9 (lay_ok hL rfl) (lay_r hL rfl) dX0_append_1 ?_
  refine r_aload_n dX0_append_4 rfl ?_
  refine r_getE (nI n) kX0 (k := 3) (by decide) rfl fl_X0_21 (lay_ok hL rfl) dX0_append_5 (by simp [mI_wI, h]) ?_
  refine r_iload_n dX0_append_8 rfl ?_
  refine r_iastN (lay_ok hL rfl) (by omega) (by decide) dX0_append_9 ?_
  refine r_lay (lay_wI hL _ _ _) (fun hL => ?_)
  refine r_aload_n dX0_append_10 rfl ?_
  refine r_getF kX0 (k := 1) (by decide) rfl fl_X0_15 (lay_ok hL rfl) (lay_r hL rfl) dX0_append_11 ?_
  refine r_aload_n dX0_append_14 rfl ?_
  refine r_getE (nI n) kX0 (k := 3) (by decide) rfl fl_X0_21 (lay_ok hL rfl) dX0_append_15 (by simp [mI_wI, h]) ?_
  refine r_iload_n dX0_append_18 rfl ?_
  refine r_iastN (lay_ok hL rfl) (by omega) (by decide) dX0_append_19 ?_
  refine r_lay (lay_wI hL _ _ _) (fun hL => ?_)
  refine r_aload_n dX0_append_20 rfl ?_
  refine r_getF kX0 (k := 2) (by decide) rfl fl_X0_18 (lay_ok hL rfl) (lay_r hL rfl) dX0_append_21 ?_
  refine r_aload_n dX0_append_24 rfl ?_
  refine r_getE (nI n) kX0 (k := 3) (by decide) rfl fl_X0_21 (lay_ok hL rfl) dX0_append_25 (by simp [mI_wI, h]) ?_
  refine r_iload_n dX0_append_28 rfl ?_
  refine r_iastN (lay_ok hL rfl) (by omega) (by decide) dX0_append_29 ?_
  refine r_lay (lay_wI hL _ _ _) (fun hL => ?_)
  refine r_aload_n dX0_append_30 rfl ?_
  refine r_dup dX0_append_31 rfl ?_
  refine r_getE (nI n) kX0 (k := 3) (by decide) rfl fl_X0_21 (lay_ok hL rfl) dX0_append_32 (by simp [mI_wI, h]) ?_
  refine r_iconst (1) dX0_append_35 (by decide) ?_
  refine r_iadd dX0_append_36 ?_
  refine r_top (nI (n + 1)) (nI_1 n) ?_
  refine r_putI kX0 (k := 3) (by decide) rfl (Or.inl rfl) fl_X0_21 (lay_ok hL rfl) ⟨rfl, rfl⟩ dX0_append_37 ?_
  refine r_lay (lay_wI hL _ _ _) (fun hL => ?_)
  exact r_vret rfl dX0_append_40 ⟨rfl, rfl⟩
set_option maxHeartbeats 4000000 in
set_option maxRecDepth 100000 in
theorem l_X0_placeOf {l : Launch} {X : Nat × (Nat → Int32)} {M : am_M} (hL : Lay M) {es : List tE} {v : Nat} (hD : DX M es) (hv : v < 16) (hE : ∀ e ∈ es, e.1 < 16) : ∀ k i : Nat, i + k = es.length → t_pl v es = i + t_pl v (es.drop i) → am_V l yX0_placeOf cX0_placeOf 3 (some .int) (am_R 0 0 0) 0 0 X (fun v' M' => v' = some (.int (nI (t_pl v es))) ∧ M' = M) 0 0 2 [some (.ref 20), some (.int (nI v)), some (.int (nI i))] [] (M) := by
  intro k
  obtain ⟨hD1, hD2, hD3⟩ := hD
  induction k with
  | zero =>
    intro i hi hp
    obtain rfl : i = es.length := by omega
    rw [List.drop_length] at hp
    refine r_iload_n dX0_placeOf_2 rfl ?_
    refine r_aload_n dX0_placeOf_3 rfl ?_
    refine r_getE (nI es.length) kX0 (k := 3) (by decide) rfl fl_X0_21 (lay_ok hL rfl) dX0_placeOf_4 hD1 ?_
    refine r_icmp_ge 28 dX0_placeOf_7 (by decide) (fun _ => ?_) (fun hq => absurd (nI_le (Nat.le_refl _) (by omega)) hq)
    refine r_aload_n dX0_placeOf_28 rfl ?_
    refine r_getE (nI es.length) kX0 (k := 3) (by decide) rfl fl_X0_21 (lay_ok hL rfl) dX0_placeOf_29 hD1 ?_
    exact r_iret (Or.inl rfl) dX0_placeOf_32 ⟨by rw [hp]; rfl, rfl⟩
  | succ k ih =>
    intro i hi hp
    have hil : i < es.length := by omega
    obtain ⟨d1, d2, d3⟩ := hD3 i es[i] (List.getElem?_eq_getElem hil)
    have hdr : es.drop i = es[i] :: es.drop (i + 1) := List.drop_eq_getElem_cons hil
    have he16 := hE es[i] (List.getElem_mem hil)
    rw [hdr] at hp
    refine r_iload_n dX0_placeOf_2 rfl ?_
    refine r_aload_n dX0_placeOf_3 rfl ?_
    refine r_getE (nI es.length) kX0 (k := 3) (by decide) rfl fl_X0_21 (lay_ok hL rfl) dX0_placeOf_4 hD1 ?_
    refine r_icmp_ge 28 dX0_placeOf_7 (by decide) (fun hq => absurd hq (nI_ge (by omega) (by omega))) (fun _ => ?_)
    refine r_aload_n dX0_placeOf_10 rfl ?_
    refine r_getF kX0 (k := 0) (by decide) rfl fl_X0_9 (lay_ok hL rfl) (lay_r hL rfl) dX0_placeOf_11 ?_
    refine r_iload_n dX0_placeOf_14 rfl ?_
    refine r_ialdE (nI es[i].1) (lay_ok hL rfl) (by omega) (by omega) dX0_placeOf_15 d1 ?_
    refine r_iload_n dX0_placeOf_16 rfl ?_
    refine r_icmp_ne 22 dX0_placeOf_17 (by decide) (fun c17 => ?_) (fun c17 => ?_)
    · refine r_iinc (nI (i + 1)) _ dX0_placeOf_22 (by decide) rfl (nI_1 _) rfl ?_
      refine r_goto 2 dX0_placeOf_25 (by decide) ?_
      exact ih (i + 1) (by omega) (by rw [hp, t_pl, if_neg (fun h => c17 (by rw [h]))]; omega)
    · refine r_iload_n dX0_placeOf_20 rfl ?_
      exact r_iret (Or.inl rfl) dX0_placeOf_21 ⟨by rw [hp, t_pl, if_pos ((nI_eq (by omega) (by omega)).mp c17)]; rfl, rfl⟩
set_option maxHeartbeats 4000000 in
set_option maxRecDepth 100000 in
theorem c_X0_placeOf {l : Launch} {X : Nat × (Nat → Int32)} {M : am_M} (hL : Lay M) {es : List tE} {v : Nat} (hD : DX M es) (hv : v < 16) (hE : ∀ e ∈ es, e.1 < 16)  : am_F l yX0_placeOf cX0_placeOf 3 (some .int) 0 0 0 X [.ref 20, .int (nI v)] M (some (.int (nI (t_pl v es)))) (M) := by
  refine am_C.of (by decide) (by simp [Value.category, va_rf]) (Nat.le_of_ble_eq_true rfl) ?_
  refine r_iconst (nI 0) dX0_placeOf_0 (by decide) ?_
  refine r_istore_n _ dX0_placeOf_1 (by decide) rfl ?_
  exact l_X0_placeOf hL hD hv hE es.length 0 (by omega) (by simp)
end
section
/-! THE DESK GATHERS -/
theorem x_fold_DX {M : am_M} {es : List tE} (h : DX M es) {p : Nat} {e : tE} (he : es[p]? = some e) (x : Int32) : DX (wI M 22 p x) (es.set p (e.1, x, e.2.2)) := by
  have hp : p < es.length := (List.getElem?_eq_some_iff.mp he).1
  refine ⟨by rw [mI_wI_n _ _ _ (by decide), List.length_set]; exact h.1, by rw [List.length_set]; exact h.2.1, fun j f hf => ?_⟩
  by_cases hj : j = p
  · subst hj
    rw [List.getElem?_set_self hp] at hf
    cases hf
    obtain ⟨h1, h2, h3⟩ := h.2.2 j e he
    simp [mI_wI, h1, h3]
  · rw [List.getElem?_set_ne (fun q => hj q.symm)] at hf
    obtain ⟨h1, h2, h3⟩ := h.2.2 j f hf
    simp [mI_wI, hj, h1, h2, h3]
theorem x_fold_fr (M : am_M) (p : Nat) (x : Int32) : am_fr s_desk M (wI M 22 p x) := ⟨rfl, rfl, rfl, fun y hy => mI_wI_n _ _ _ (fun h => hy (Or.inr (Or.inr (Or.inl h))))⟩
theorem t_add_mem {P : tE → Prop} {j k v a : Nat} {m : Int32} {es : List tE} (h : ∀ e ∈ es, P e) (hn : P (v, m, a)) (hc : ∀ e x, P e → P (e.1, x, e.2.2)) : ∀ e ∈ t_add j k es v m a, P e := by
  unfold t_add
  split
  · intro e he
    rcases List.mem_append.mp he with q | q
    · exact h e q
    · rw [List.mem_singleton.mp q]
      exact hn
  · induction es with
    | nil => intro e he; rw [List.mem_singleton.mp he]; exact hn
    | cons f es ih =>
      intro e he
      unfold t_addJ at he
      by_cases hf : f.1 = v
      · rw [if_pos hf] at he
        rcases List.mem_cons.mp he with q | q
        · rw [q]; exact hc f _ (h f List.mem_cons_self)
        · exact h e (List.mem_cons_of_mem _ q)
      · rw [if_neg hf] at he
        rcases List.mem_cons.mp he with q | q
        · rw [q]; exact h f List.mem_cons_self
        · exact ih (fun e he => h e (List.mem_cons_of_mem _ he)) e q
theorem t_add_len (j k v a : Nat) (m : Int32) (es : List tE) : (t_add j k es v m a).length ≤ es.length + 1 := by
  unfold t_add
  split
  · simp
  · induction es with
    | nil => simp [t_addJ]
    | cons f es ih =>
      unfold t_addJ
      split
      · simp
      · simp; omega
set_option maxHeartbeats 4000000 in
set_option maxRecDepth 100000 in
theorem l_X0_gatherOf {l : Launch} {X : Nat × (Nat → Int32)} {M : am_M} {g : tG} {o v : Nat} {es : List tE} (hS : xS M g) (hV : xV M g) (hA : xA M g) (hB : gB g) (ho : o < 5) (hv : v < gs g 1) (hlen : ∀ i, i ≤ gs g 2 → (t_entV g o v i es).length ≤ 40) : ∀ (k i : Nat) (N : am_M), i + k = gs g 2 → Lay N → am_fr s_desk M N → DX N (t_entV g o v i es) → (∀ e ∈ t_entV g o v i es, e.1 < 16) → am_V l yX0_gatherOf cX0_gatherOf 10 none (am_R 4 0 0) 0 0 X (fun v' M' => v' = none ∧ am_fr s_desk M M' ∧ DX M' (t_entV g o v (gs g 2) es)) 0 0 3 [some (.ref 20), some (.int (nI v)), some (.ref 2), some (.ref 8), some (.int (nI o)), some (.int (nI (gs g 4))), some (.int (nI i))] [] N := by
  intro k
  obtain ⟨b0, b1, b2, b3, b4, b5, -, -, -, -, bV, bA, -⟩ := id hB
  have nd : ∀ z, z ≠ 20 → z ≠ 21 → z ≠ 22 → z ≠ 23 → ¬ s_desk z := fun z q1 q2 q3 q4 h => by rcases h with h | h | h | h <;> omega
  induction k with
  | zero =>
    intro i N hi hL hf hD hE
    obtain rfl : i = gs g 2 := by omega
    have f6 := hf.i (nd 2 (by decide) (by decide) (by decide) (by decide)) hS.2.2.1
    refine r_iload dX0_gatherOf_3 rfl ?_
    refine r_aload_n dX0_gatherOf_5 rfl ?_
    refine r_getE (nI (gs g 2)) kX1 (k := 6) (by decide) rfl fl_X0_43 (lay_ok hL rfl) dX0_gatherOf_6 f6 ?_
    refine r_icmp_ge 124 dX0_gatherOf_9 (by decide) (fun _ => ?_) (fun hq => absurd (nI_le (Nat.le_refl _) (by omega)) hq)
    exact r_vret rfl dX0_gatherOf_124 ⟨rfl, hf, hD⟩
  | succ k ih =>
    intro i N hi hL hf hD hE
    obtain ⟨a5, a6, a7⟩ := hA i (by omega)
    obtain ⟨w1, w2⟩ := bA i (by omega)
    have f6 := hf.i (nd 2 (by decide) (by decide) (by decide) (by decide)) hS.2.2.1
    have f7 := hf.i (nd 2 (by decide) (by decide) (by decide) (by decide)) hS.2.2.2.1
    have a5 := hf.i (nd 5 (by decide) (by decide) (by decide) (by decide)) a5
    have a6 := hf.i (nd 6 (by decide) (by decide) (by decide) (by decide)) a6
    have a7 := hf.i (nd 7 (by decide) (by decide) (by decide) (by decide)) a7
    have v3 := hf.i (nd 3 (by decide) (by decide) (by decide) (by decide)) (hV (ga g 3 i) w2).1
    have v9 := hf.i (nd 9 (by decide) (by decide) (by decide) (by decide)) (hV v hv).2.2.1
    have hlt := (bV (ga g 3 i) w2).1
    have e16 : ga g 3 i < 16 := by omega
    have hes : t_entV g o v (i + 1) es = if ga g 2 i = v ∧ ga g 0 (ga g 3 i) = o then t_add (gs g 4) (gs g 3) (t_entV g o v i es) (ga g 3 i) (t_msg (gs g 3) (gi g 1 v) (gi g 3 i)) i else t_entV g o v i es := rfl
    have hl1 := hlen (i + 1) (by omega)
    refine r_iload dX0_gatherOf_3 rfl ?_
    refine r_aload_n dX0_gatherOf_5 rfl ?_
    refine r_getE (nI (gs g 2)) kX1 (k := 6) (by decide) rfl fl_X0_43 (lay_ok hL rfl) dX0_gatherOf_6 f6 ?_
    refine r_icmp_ge 124 dX0_gatherOf_9 (by decide) (fun hq => absurd hq (nI_ge (by omega) (by omega))) (fun _ => ?_)
    refine r_aload_n dX0_gatherOf_12 rfl ?_
    refine r_getF kX1 (k := 3) (by decide) rfl fl_X0_45 (lay_ok hL rfl) (lay_r hL rfl) dX0_gatherOf_13 ?_
    refine r_iload dX0_gatherOf_16 rfl ?_
    refine r_ialdE (nI (ga g 3 i)) (lay_ok hL rfl) (by omega) (by omega) dX0_gatherOf_18 a6 ?_
    refine r_istore _ dX0_gatherOf_19 (by decide) rfl ?_
    refine r_aload_n dX0_gatherOf_21 rfl ?_
    refine r_getF kX1 (k := 2) (by decide) rfl fl_X0_48 (lay_ok hL rfl) (lay_r hL rfl) dX0_gatherOf_22 ?_
    refine r_iload dX0_gatherOf_25 rfl ?_
    refine r_ialdE (nI (ga g 2 i)) (lay_ok hL rfl) (by omega) (by omega) dX0_gatherOf_27 a5 ?_
    refine r_iload_n dX0_gatherOf_28 rfl ?_
    refine r_icmp_ne 118 dX0_gatherOf_29 (by decide) (fun c29 => ?_) (fun c29 => ?_)
    · refine r_iinc (nI (i + 1)) _ dX0_gatherOf_118 (by decide) rfl (nI_1 _) rfl ?_
      refine r_goto 3 dX0_gatherOf_121 (by decide) ?_
      refine r_take 7 ?_
      first | exact ih (i + 1) N (by omega) hL hf (by rw [hes, if_neg (fun h => c29 (by rw [h.1]))]; exact hD) (by rw [hes, if_neg (fun h => c29 (by rw [h.1]))]; exact hE) | exact ih (i + 1) N (by omega) hL hf (by rw [hes, if_neg (fun h => c41 (by rw [h.2]))]; exact hD) (by rw [hes, if_neg (fun h => c41 (by rw [h.2]))]; exact hE) | exact ih (i + 1) _ (by omega) hL hf2 hD2 hE2
    · refine r_aload_n dX0_gatherOf_32 rfl ?_
      refine r_getF kX1 (k := 0) (by decide) rfl fl_X0_30 (lay_ok hL rfl) (lay_r hL rfl) dX0_gatherOf_33 ?_
      refine r_iload dX0_gatherOf_36 rfl ?_
      refine r_ialdE (nI (ga g 0 (ga g 3 i))) (lay_ok hL rfl) (by omega) (by omega) dX0_gatherOf_38 v3 ?_
      refine r_iload dX0_gatherOf_39 rfl ?_
      refine r_icmp_ne 118 dX0_gatherOf_41 (by decide) (fun c41 => ?_) (fun c41 => ?_)
      · refine r_iinc (nI (i + 1)) _ dX0_gatherOf_118 (by decide) rfl (nI_1 _) rfl ?_
        refine r_goto 3 dX0_gatherOf_121 (by decide) ?_
        refine r_take 7 ?_
        first | exact ih (i + 1) N (by omega) hL hf (by rw [hes, if_neg (fun h => c29 (by rw [h.1]))]; exact hD) (by rw [hes, if_neg (fun h => c29 (by rw [h.1]))]; exact hE) | exact ih (i + 1) N (by omega) hL hf (by rw [hes, if_neg (fun h => c41 (by rw [h.2]))]; exact hD) (by rw [hes, if_neg (fun h => c41 (by rw [h.2]))]; exact hE) | exact ih (i + 1) _ (by omega) hL hf2 hD2 hE2
      · obtain ev : ga g 2 i = v := (nI_eq (by omega) (by omega)).mp c29
        have eo : ga g 0 (ga g 3 i) = o := (nI_eq (by omega) (by omega)).mp c41
        rw [if_pos ⟨ev, eo⟩] at hes
        refine r_aload_n dX0_gatherOf_44 rfl ?_
        refine r_iload dX0_gatherOf_45 rfl ?_
        refine r_aload_n dX0_gatherOf_47 rfl ?_
        refine r_cV ca_yX1_message ml_X0_51 im_yX1_message se_yX1_message (by decide) rfl (lay_ok hL rfl) (c_X1_message hL (va := 8) (p := 9) (q := 10) (r := 11) (lay_ok hL rfl) (lay_r hL rfl) (lay_r hL rfl) (lay_r hL rfl) (lay_ok hL rfl) (lay_ok hL rfl) (lay_ok hL rfl) (by omega) a5 (by omega) f7 b4) ⟨by decide, by decide⟩ (by decide) (by decide) rfl (Nat.le_of_ble_eq_true rfl) dX0_gatherOf_48 ?_
        refine r_top (t_msg (gs g 3) (gi g 1 v) (gi g 3 i)) (by rw [ev, v9, a7]) ?_
        refine r_istore _ dX0_gatherOf_51 (by decide) rfl ?_
        refine r_iload dX0_gatherOf_53 rfl ?_
        refine r_if_eq 67 dX0_gatherOf_55 (by decide) (fun c55 => ?_) (fun c55 => ?_)
        · refine r_aload_n dX0_gatherOf_67 rfl ?_
          refine r_getE (nI (t_entV g o v i es).length) kX0 (k := 3) (by decide) rfl fl_X0_21 (lay_ok hL rfl) dX0_gatherOf_68 hD.1 ?_
          refine r_istore _ dX0_gatherOf_71 (by decide) rfl ?_
          refine r_iload dX0_gatherOf_73 rfl ?_
          refine r_aload_n dX0_gatherOf_75 rfl ?_
          refine r_getE (nI (t_entV g o v i es).length) kX0 (k := 3) (by decide) rfl fl_X0_21 (lay_ok hL rfl) dX0_gatherOf_76 hD.1 ?_
          refine r_icmp_ge 108 dX0_gatherOf_79 (by decide) (fun _ => ?_) (fun hq => absurd (nI_le (Nat.le_refl _) (by have := hD.2.1; omega)) hq)
          refine r_aload_n dX0_gatherOf_108 rfl ?_
          refine r_iload dX0_gatherOf_109 rfl ?_
          refine r_iload dX0_gatherOf_111 rfl ?_
          refine r_iload dX0_gatherOf_113 rfl ?_
          have hadd : t_add (gs g 4) (gs g 3) (t_entV g o v i es) (ga g 3 i) (t_msg (gs g 3) (gi g 1 v) (gi g 3 i)) i = t_entV g o v i es ++ [(ga g 3 i, t_msg (gs g 3) (gi g 1 v) (gi g 3 i), i)] := by first | (rw [t_add, if_pos ((nI_eq (by omega) (by decide)).mp (show nI (gs g 4) = nI 0 from c55))]) | (rw [t_add, if_neg (fun h => c55 (by rw [h]; rfl)), (t_addJ_at _ _ _ _ _).1 (Nat.le_antisymm (t_pl_le _ _) (Nat.le_of_not_lt (fun h => nI_ge h (by have := hD.2.1; omega) c79)))])
          have hl40 : (t_entV g o v i es).length < 40 := by rw [hes, hadd, List.length_append] at hl1; simp at hl1; omega
          refine r_cV ca_yX0_append ml_X0_66 im_yX0_append se_yX0_append (by decide) rfl (lay_ok hL rfl) (c_X0_append hL hD.1 hl40) ⟨by decide, by decide⟩ (by decide) (by decide) rfl (Nat.le_of_ble_eq_true rfl) dX0_gatherOf_115 ?_
          have hf2 := hf.tr (x_app_fr N (t_entV g o v i es).length (nI (ga g 3 i)) (t_msg (gs g 3) (gi g 1 v) (gi g 3 i)) (nI i))
          have hD2 := x_app_DX hD hl40 (ga g 3 i) (t_msg (gs g 3) (gi g 1 v) (gi g 3 i)) i
          rw [← hadd, ← hes] at hD2
          have hE2 : ∀ e ∈ t_entV g o v (i + 1) es, e.1 < 16 := by rw [hes]; exact t_add_mem (P := fun e => e.1 < 16) hE e16 (fun _ _ h => h)
          refine r_lay ((x_app_fr N _ _ _ _).lay hL) (fun hL => ?_)
          refine r_iinc (nI (i + 1)) _ dX0_gatherOf_118 (by decide) rfl (nI_1 _) rfl ?_
          refine r_goto 3 dX0_gatherOf_121 (by decide) ?_
          refine r_take 7 ?_
          first | exact ih (i + 1) N (by omega) hL hf (by rw [hes, if_neg (fun h => c29 (by rw [h.1]))]; exact hD) (by rw [hes, if_neg (fun h => c29 (by rw [h.1]))]; exact hE) | exact ih (i + 1) N (by omega) hL hf (by rw [hes, if_neg (fun h => c41 (by rw [h.2]))]; exact hD) (by rw [hes, if_neg (fun h => c41 (by rw [h.2]))]; exact hE) | exact ih (i + 1) _ (by omega) hL hf2 hD2 hE2
        · refine r_aload_n dX0_gatherOf_58 rfl ?_
          refine r_iload dX0_gatherOf_59 rfl ?_
          refine r_cV ca_yX0_placeOf ml_X0_55 im_yX0_placeOf se_yX0_placeOf (by decide) rfl (lay_ok hL rfl) (c_X0_placeOf hL hD e16 hE) ⟨by decide, by decide⟩ (by decide) (by decide) rfl (Nat.le_of_ble_eq_true rfl) dX0_gatherOf_61 ?_
          refine r_goto 71 dX0_gatherOf_64 (by decide) ?_
          refine r_istore _ dX0_gatherOf_71 (by decide) rfl ?_
          refine r_iload dX0_gatherOf_73 rfl ?_
          refine r_aload_n dX0_gatherOf_75 rfl ?_
          refine r_getE (nI (t_entV g o v i es).length) kX0 (k := 3) (by decide) rfl fl_X0_21 (lay_ok hL rfl) dX0_gatherOf_76 hD.1 ?_
          refine r_icmp_ge 108 dX0_gatherOf_79 (by decide) (fun c79 => ?_) (fun c79 => ?_)
          · refine r_aload_n dX0_gatherOf_108 rfl ?_
            refine r_iload dX0_gatherOf_109 rfl ?_
            refine r_iload dX0_gatherOf_111 rfl ?_
            refine r_iload dX0_gatherOf_113 rfl ?_
            have hadd : t_add (gs g 4) (gs g 3) (t_entV g o v i es) (ga g 3 i) (t_msg (gs g 3) (gi g 1 v) (gi g 3 i)) i = t_entV g o v i es ++ [(ga g 3 i, t_msg (gs g 3) (gi g 1 v) (gi g 3 i), i)] := by first | (rw [t_add, if_pos ((nI_eq (by omega) (by decide)).mp (show nI (gs g 4) = nI 0 from c55))]) | (rw [t_add, if_neg (fun h => c55 (by rw [h]; rfl)), (t_addJ_at _ _ _ _ _).1 (Nat.le_antisymm (t_pl_le _ _) (Nat.le_of_not_lt (fun h => nI_ge h (by have := hD.2.1; omega) c79)))])
            have hl40 : (t_entV g o v i es).length < 40 := by rw [hes, hadd, List.length_append] at hl1; simp at hl1; omega
            refine r_cV ca_yX0_append ml_X0_66 im_yX0_append se_yX0_append (by decide) rfl (lay_ok hL rfl) (c_X0_append hL hD.1 hl40) ⟨by decide, by decide⟩ (by decide) (by decide) rfl (Nat.le_of_ble_eq_true rfl) dX0_gatherOf_115 ?_
            have hf2 := hf.tr (x_app_fr N (t_entV g o v i es).length (nI (ga g 3 i)) (t_msg (gs g 3) (gi g 1 v) (gi g 3 i)) (nI i))
            have hD2 := x_app_DX hD hl40 (ga g 3 i) (t_msg (gs g 3) (gi g 1 v) (gi g 3 i)) i
            rw [← hadd, ← hes] at hD2
            have hE2 : ∀ e ∈ t_entV g o v (i + 1) es, e.1 < 16 := by rw [hes]; exact t_add_mem (P := fun e => e.1 < 16) hE e16 (fun _ _ h => h)
            refine r_lay ((x_app_fr N _ _ _ _).lay hL) (fun hL => ?_)
            refine r_iinc (nI (i + 1)) _ dX0_gatherOf_118 (by decide) rfl (nI_1 _) rfl ?_
            refine r_goto 3 dX0_gatherOf_121 (by decide) ?_
            refine r_take 7 ?_
            first | exact ih (i + 1) N (by omega) hL hf (by rw [hes, if_neg (fun h => c29 (by rw [h.1]))]; exact hD) (by rw [hes, if_neg (fun h => c29 (by rw [h.1]))]; exact hE) | exact ih (i + 1) N (by omega) hL hf (by rw [hes, if_neg (fun h => c41 (by rw [h.2]))]; exact hD) (by rw [hes, if_neg (fun h => c41 (by rw [h.2]))]; exact hE) | exact ih (i + 1) _ (by omega) hL hf2 hD2 hE2
          · have hlt2 : t_pl (ga g 3 i) (t_entV g o v i es) < (t_entV g o v i es).length := by first | exact Nat.lt_of_not_le (fun h => c79 (nI_le h (by have := t_pl_le (ga g 3 i) (t_entV g o v i es); have := hD.2.1; omega))) | exact absurd (nI_le (Nat.le_refl _) (by have := hD.2.1; omega)) c79
            obtain ⟨e0, he0⟩ : ∃ e, (t_entV g o v i es)[t_pl (ga g 3 i) (t_entV g o v i es)]? = some e := ⟨_, List.getElem?_eq_getElem hlt2⟩
            have hd0 := (hD.2.2 _ _ he0).2.1
            have h40 := hD.2.1
            refine r_aload_n dX0_gatherOf_82 rfl ?_
            refine r_getF kX0 (k := 1) (by decide) rfl fl_X0_15 (lay_ok hL rfl) (lay_r hL rfl) dX0_gatherOf_83 ?_
            refine r_iload dX0_gatherOf_86 rfl ?_
            refine r_aload_n dX0_gatherOf_88 rfl ?_
            refine r_getE (nI (gs g 3)) kX1 (k := 7) (by decide) rfl fl_X0_59 (lay_ok hL rfl) dX0_gatherOf_89 f7 ?_
            refine r_aload_n dX0_gatherOf_92 rfl ?_
            refine r_getF kX0 (k := 1) (by decide) rfl fl_X0_15 (lay_ok hL rfl) (lay_r hL rfl) dX0_gatherOf_93 ?_
            refine r_iload dX0_gatherOf_96 rfl ?_
            refine r_ialdE (e0.2.1) (lay_ok hL rfl) (by omega) (by omega) dX0_gatherOf_98 hd0 ?_
            refine r_iload dX0_gatherOf_99 rfl ?_
            refine r_cSN ca_yX8_fold nl_X0_62 sm_yX8_fold (c_X8_fold hL b4) ⟨by decide, by decide⟩ (by decide) (by decide) rfl (Nat.le_of_ble_eq_true rfl) dX0_gatherOf_101 ?_
            refine r_iastN (lay_ok hL rfl) (by omega) (by decide) dX0_gatherOf_104 ?_
            refine r_lay (lay_wI hL _ _ _) (fun hL => ?_)
            have hf2 := hf.tr (x_fold_fr N (t_pl (ga g 3 i) (t_entV g o v i es)) (t_fold (gs g 3) e0.2.1 (t_msg (gs g 3) (gi g 1 v) (gi g 3 i))))
            have hD2 := x_fold_DX hD he0 (t_fold (gs g 3) e0.2.1 (t_msg (gs g 3) (gi g 1 v) (gi g 3 i)))
            rw [← (t_addJ_at _ _ _ i _).2 e0 he0, ← (show t_add (gs g 4) (gs g 3) (t_entV g o v i es) (ga g 3 i) (t_msg (gs g 3) (gi g 1 v) (gi g 3 i)) i = t_addJ (gs g 3) (ga g 3 i) (t_msg (gs g 3) (gi g 1 v) (gi g 3 i)) i (t_entV g o v i es) by rw [t_add, if_neg (fun h => c55 (by rw [h]; rfl))]), ← hes] at hD2
            have hE2 : ∀ e ∈ t_entV g o v (i + 1) es, e.1 < 16 := by rw [hes]; exact t_add_mem (P := fun e => e.1 < 16) hE e16 (fun _ _ h => h)
            refine r_goto 118 dX0_gatherOf_105 (by decide) ?_
            refine r_iinc (nI (i + 1)) _ dX0_gatherOf_118 (by decide) rfl (nI_1 _) rfl ?_
            refine r_goto 3 dX0_gatherOf_121 (by decide) ?_
            refine r_take 7 ?_
            first | exact ih (i + 1) N (by omega) hL hf (by rw [hes, if_neg (fun h => c29 (by rw [h.1]))]; exact hD) (by rw [hes, if_neg (fun h => c29 (by rw [h.1]))]; exact hE) | exact ih (i + 1) N (by omega) hL hf (by rw [hes, if_neg (fun h => c41 (by rw [h.2]))]; exact hD) (by rw [hes, if_neg (fun h => c41 (by rw [h.2]))]; exact hE) | exact ih (i + 1) _ (by omega) hL hf2 hD2 hE2
set_option maxHeartbeats 4000000 in
set_option maxRecDepth 100000 in
theorem c_X0_gatherOf {l : Launch} {X : Nat × (Nat → Int32)} {M : am_M} (hL : Lay M) {g : tG} {o v : Nat} {es : List tE} (hS : xS M g) (hV : xV M g) (hA : xA M g) (hB : gB g) (ho : o < 5) (hv : v < gs g 1) (hlen : ∀ i, i ≤ gs g 2 → (t_entV g o v i es).length ≤ 40) (hD : DX M es) (hE : ∀ e ∈ es, e.1 < 16) : am_C l yX0_gatherOf cX0_gatherOf 10 none 4 0 0 X [.ref 20, .int (nI v), .ref 2, .ref 8, .int (nI o), .int (nI (gs g 4))] M (fun v' M' => v' = none ∧ am_fr s_desk M M' ∧ DX M' (t_entV g o v (gs g 2) es)) := by
  refine am_C.of (by decide) (by simp [Value.category, va_rf]) (Nat.le_of_ble_eq_true rfl) ?_
  refine r_iconst (nI 0) dX0_gatherOf_0 (by decide) ?_
  refine r_istore _ dX0_gatherOf_1 (by decide) rfl ?_
  exact l_X0_gatherOf hS hV hA hB ho hv hlen (gs g 2) 0 M (by omega) hL am_fr.rf hD hE
end
section
/-! THE ENTRIES: how many, which -/
def sm (f : Nat → Nat) (V : Nat) : Nat := itr (fun v c => c + f v) V 0
def ct (f : Nat → Nat) (v n : Nat) : Nat := itr (fun a c => if f a = v then c + 1 else c) n 0
theorem sm_s (f : Nat → Nat) (V : Nat) : sm f (V + 1) = sm f V + f V := rfl
theorem ct_s (f : Nat → Nat) (v n : Nat) : ct f v (n + 1) = ct f v n + (if f n = v then 1 else 0) := by
  show (if f n = v then ct f v n + 1 else ct f v n) = _
  split <;> rfl
theorem sm_add (f h : Nat → Nat) : ∀ V, sm (fun v => f v + h v) V = sm f V + sm h V
  | 0 => rfl
  | V + 1 => by rw [sm_s, sm_s, sm_s, sm_add f h V]; omega
theorem sm_one (x : Nat) : ∀ V, sm (fun v => if x = v then 1 else 0) V = if x < V then 1 else 0
  | 0 => rfl
  | V + 1 => by
    rw [sm_s, sm_one x V]
    by_cases h1 : x < V
    · rw [if_pos h1, if_neg (by omega), if_pos (by omega)]
    · by_cases h2 : x = V
      · rw [if_neg h1, if_pos h2, if_pos (by omega)]
      · rw [if_neg h1, if_neg h2, if_neg (by omega)]
theorem sm_zero : ∀ V, sm (fun _ => 0) V = 0
  | 0 => rfl
  | V + 1 => by rw [sm_s, sm_zero V]
theorem sm_ct (f : Nat → Nat) (V : Nat) : ∀ n, sm (fun v => ct f v n) V ≤ n
  | 0 => Nat.le_of_eq (sm_zero V)
  | n + 1 => by
    have e : (fun v => ct f v (n + 1)) = fun v => ct f v n + (if f n = v then 1 else 0) := by funext v; exact ct_s f v n
    rw [e, sm_add, sm_one]
    have := sm_ct f V n
    split <;> omega
theorem ct_mono (f : Nat → Nat) (v : Nat) {i n : Nat} (h : i ≤ n) : ct f v i ≤ ct f v n := by
  induction n with
  | zero => rw [show i = 0 by omega]; exact Nat.le_refl _
  | succ n ih =>
    rcases Nat.lt_or_ge n i with q | q
    · rw [show i = n + 1 by omega]; exact Nat.le_refl _
    · rw [ct_s]; have := ih q; omega
def t_entP (g : tG) (n o : Nat) (v : Nat) : List tE := itr (fun v es => if ga g 0 v = n ∧ ga g 1 v = 1 then t_entV g o v (gs g 2) es else es) v []
theorem t_ent_P (g : tG) (n o : Nat) : t_ent g n o = t_entP g n o (gs g 1) := rfl
theorem t_entV_s (g : tG) (o v i : Nat) (es : List tE) : t_entV g o v (i + 1) es = if ga g 2 i = v ∧ ga g 0 (ga g 3 i) = o then t_add (gs g 4) (gs g 3) (t_entV g o v i es) (ga g 3 i) (t_msg (gs g 3) (gi g 1 v) (gi g 3 i)) i else t_entV g o v i es := rfl
theorem t_entV_len (g : tG) (o v : Nat) (es : List tE) : ∀ i, (t_entV g o v i es).length ≤ es.length + ct (ga g 2) v i
  | 0 => Nat.le_refl _
  | i + 1 => by
    have ih := t_entV_len g o v es i
    rw [ct_s, t_entV_s]
    split
    · rename_i h
      rw [if_pos h.1]
      have := t_add_len (gs g 4) (gs g 3) (ga g 3 i) i (t_msg (gs g 3) (gi g 1 v) (gi g 3 i)) (t_entV g o v i es)
      omega
    · omega
theorem t_entP_len (g : tG) (n o : Nat) : ∀ v, (t_entP g n o v).length ≤ sm (fun v => ct (ga g 2) v (gs g 2)) v
  | 0 => Nat.le_refl _
  | v + 1 => by
    have ih := t_entP_len g n o v
    rw [sm_s]
    show (if ga g 0 v = n ∧ ga g 1 v = 1 then t_entV g o v (gs g 2) (t_entP g n o v) else t_entP g n o v).length ≤ _
    split
    · have := t_entV_len g o v (t_entP g n o v) (gs g 2)
      omega
    · omega
theorem t_ent_40 {g : tG} (h : gs g 2 ≤ 40) (n o v : Nat) {i : Nat} (hi : i ≤ gs g 2) : (t_entV g o v i (t_entP g n o v)).length ≤ 40 := by
  have h1 := t_entV_len g o v (t_entP g n o v) i
  have h2 := t_entP_len g n o v
  have h3 := ct_mono (ga g 2) v hi
  have h4 := sm_ct (ga g 2) (v + 1) (gs g 2)
  rw [sm_s] at h4
  omega
theorem t_ent_len40 {g : tG} (h : gs g 2 ≤ 40) (n o : Nat) : (t_ent g n o).length ≤ 40 := by
  have h2 := t_entP_len g n o (gs g 1)
  have h4 := sm_ct (ga g 2) (gs g 1) (gs g 2)
  rw [t_ent_P]
  omega
theorem t_entV_mem {g : tG} {P : tE → Prop} {o v : Nat} (hc : ∀ e x, P e → P (e.1, x, e.2.2)) (hP : ∀ a m, a < gs g 2 → P (ga g 3 a, m, a)) {es : List tE} (h : ∀ e ∈ es, P e) : ∀ i, i ≤ gs g 2 → ∀ e ∈ t_entV g o v i es, P e
  | 0, _ => h
  | i + 1, hi => by
    have ih := t_entV_mem (o := o) (v := v) hc hP h i (by omega)
    rw [t_entV_s]
    split
    · exact t_add_mem ih (hP i _ (by omega)) hc
    · exact ih
theorem t_entP_mem {g : tG} {P : tE → Prop} {n o : Nat} (hc : ∀ e x, P e → P (e.1, x, e.2.2)) (hP : ∀ a m, a < gs g 2 → P (ga g 3 a, m, a)) : ∀ v, ∀ e ∈ t_entP g n o v, P e
  | 0 => fun e he => by cases he
  | v + 1 => by
    have ih := t_entP_mem (n := n) (o := o) hc hP v
    show ∀ e ∈ (if ga g 0 v = n ∧ ga g 1 v = 1 then t_entV g o v (gs g 2) (t_entP g n o v) else t_entP g n o v), P e
    split
    · exact t_entV_mem hc hP ih _ (Nat.le_refl _)
    · exact ih
theorem t_act_le (g : tG) (n : Nat) : ∀ v, itr (fun v c => if ga g 0 v = n ∧ ga g 1 v = 1 then c + 1 else c) v 0 ≤ v
  | 0 => Nat.le_refl _
  | v + 1 => by
    have ih := t_act_le g n v
    show (if ga g 0 v = n ∧ ga g 1 v = 1 then _ else _) ≤ _
    split <;> omega
set_option maxHeartbeats 4000000 in
set_option maxRecDepth 100000 in
theorem l_X0_gather {l : Launch} {X : Nat × (Nat → Int32)} {M : am_M} {g : tG} {n o : Nat} (hS : xS M g) (hV : xV M g) (hA : xA M g) (hB : gB g) (hn : n < 5) (ho : o < 5) : ∀ (k v : Nat) (N : am_M), v + k = gs g 1 → Lay N → am_fr s_desk M N → DX N (t_entP g n o v) → am_V l yX0_gather cX0_gather 7 none (am_R 5 0 0) 0 0 X (fun v' M' => v' = none ∧ am_fr s_desk M M' ∧ DX M' (t_ent g n o)) 0 0 8 [some (.ref 20), some (.ref 2), some (.ref 8), some (.int (nI n)), some (.int (nI o)), some (.int (nI (gs g 4))), some (.int (nI v))] [] N := by
  intro k
  obtain ⟨b0, b1, b2, b3, b4, b5, -, -, -, -, bV, bA, -⟩ := id hB
  have nd : ∀ z, z ≠ 20 → z ≠ 21 → z ≠ 22 → z ≠ 23 → ¬ s_desk z := fun z q1 q2 q3 q4 h => by rcases h with h | h | h | h <;> omega
  induction k with
  | zero =>
    intro v N hi hL hf hD
    obtain rfl : v = gs g 1 := by omega
    have f5 := hf.i (nd 2 (by decide) (by decide) (by decide) (by decide)) hS.2.1
    refine r_iload dX0_gather_8 rfl ?_
    refine r_aload_n dX0_gather_10 rfl ?_
    refine r_getE (nI (gs g 1)) kX1 (k := 5) (by decide) rfl fl_X0_25 (lay_ok hL rfl) dX0_gather_11 f5 ?_
    refine r_icmp_ge 56 dX0_gather_14 (by decide) (fun _ => ?_) (fun hq => absurd (nI_le (Nat.le_refl _) (by omega)) hq)
    exact r_vret rfl dX0_gather_56 ⟨rfl, hf, hD⟩
  | succ k ih =>
    intro v N hi hL hf hD
    have v3 := hf.i (nd 3 (by decide) (by decide) (by decide) (by decide)) (hV v (by omega)).1
    have v11 := hf.i (nd 11 (by decide) (by decide) (by decide) (by decide)) (hV v (by omega)).2.2.2.2
    obtain ⟨u1, u2⟩ := bV v (by omega)
    have hes : t_entP g n o (v + 1) = if ga g 0 v = n ∧ ga g 1 v = 1 then t_entV g o v (gs g 2) (t_entP g n o v) else t_entP g n o v := rfl
    have hSN : xS N g := by
      obtain ⟨s1, s2, s3, s4, s5, s6, s7, s8, s9, s10⟩ := hS
      exact ⟨hf.i (nd 1 (by decide) (by decide) (by decide) (by decide)) s1, hf.i (nd 2 (by decide) (by decide) (by decide) (by decide)) s2, hf.i (nd 2 (by decide) (by decide) (by decide) (by decide)) s3, hf.i (nd 2 (by decide) (by decide) (by decide) (by decide)) s4, hf.i (nd 1 (by decide) (by decide) (by decide) (by decide)) s5, hf.i (nd 1 (by decide) (by decide) (by decide) (by decide)) s6, hf.i (nd 1 (by decide) (by decide) (by decide) (by decide)) s7, hf.i (nd 1 (by decide) (by decide) (by decide) (by decide)) s8, hf.i (nd 1 (by decide) (by decide) (by decide) (by decide)) s9, fun k hk => hf.i (nd 27 (by decide) (by decide) (by decide) (by decide)) (s10 k hk)⟩
    have hVN : xV N g := fun v hv => by
      obtain ⟨s1, s2, s3, s4, s5⟩ := hV v hv
      exact ⟨hf.i (nd 3 (by decide) (by decide) (by decide) (by decide)) s1, hf.i (nd 4 (by decide) (by decide) (by decide) (by decide)) s2, hf.i (nd 9 (by decide) (by decide) (by decide) (by decide)) s3, hf.i (nd 10 (by decide) (by decide) (by decide) (by decide)) s4, hf.i (nd 11 (by decide) (by decide) (by decide) (by decide)) s5⟩
    have hAN : xA N g := fun a ha => by
      obtain ⟨s1, s2, s3⟩ := hA a ha
      exact ⟨hf.i (nd 5 (by decide) (by decide) (by decide) (by decide)) s1, hf.i (nd 6 (by decide) (by decide) (by decide) (by decide)) s2, hf.i (nd 7 (by decide) (by decide) (by decide) (by decide)) s3⟩
    have hE : ∀ e ∈ t_entP g n o v, e.1 < 16 := t_entP_mem (fun _ _ h => h) (fun a _ ha => by have := (bA a ha).2; show ga g 3 a < 16; omega) v
    have f5 := hf.i (nd 2 (by decide) (by decide) (by decide) (by decide)) hS.2.1
    refine r_iload dX0_gather_8 rfl ?_
    refine r_aload_n dX0_gather_10 rfl ?_
    refine r_getE (nI (gs g 1)) kX1 (k := 5) (by decide) rfl fl_X0_25 (lay_ok hL rfl) dX0_gather_11 f5 ?_
    refine r_icmp_ge 56 dX0_gather_14 (by decide) (fun hq => absurd hq (nI_ge (by omega) (by omega))) (fun _ => ?_)
    refine r_aload_n dX0_gather_17 rfl ?_
    refine r_getF kX1 (k := 0) (by decide) rfl fl_X0_30 (lay_ok hL rfl) (lay_r hL rfl) dX0_gather_18 ?_
    refine r_iload dX0_gather_21 rfl ?_
    refine r_ialdE (nI (ga g 0 v)) (lay_ok hL rfl) (by omega) (by omega) dX0_gather_23 v3 ?_
    refine r_iload_n dX0_gather_24 rfl ?_
    refine r_icmp_ne 50 dX0_gather_25 (by decide) (fun c25 => ?_) (fun c25 => ?_)
    · refine r_iinc (nI (v + 1)) _ dX0_gather_50 (by decide) rfl (nI_1 _) rfl ?_
      refine r_goto 8 dX0_gather_53 (by decide) ?_
      first | exact ih (v + 1) N (by omega) hL hf (by rw [hes, if_neg (fun h => c25 (by rw [h.1]))]; exact hD) | exact ih (v + 1) N (by omega) hL hf (by rw [hes, if_neg (fun h => absurd c35 (by rw [h.2]; decide))]; exact hD) | exact ih (v + 1) M1 (by omega) hL hf3 (by rw [hes, if_pos ⟨(nI_eq (by omega) (by omega)).mp c25, by rcases (show ga g 1 v = 0 ∨ ga g 1 v = 1 by omega) with z | z; exact absurd (by rw [z]; rfl) c35; exact z⟩]; exact hD1)
    · refine r_aload_n dX0_gather_28 rfl ?_
      refine r_getF kX7 (k := 2) (by decide) rfl fl_X0_33 (lay_ok hL rfl) (lay_r hL rfl) dX0_gather_29 ?_
      refine r_iload dX0_gather_32 rfl ?_
      refine r_zaldE (nI (ga g 1 v)) (lay_ok hL rfl) (by omega) (by omega) dX0_gather_34 v11 ?_
      refine r_if_eq 50 dX0_gather_35 (by decide) (fun c35 => ?_) (fun c35 => ?_)
      · refine r_iinc (nI (v + 1)) _ dX0_gather_50 (by decide) rfl (nI_1 _) rfl ?_
        refine r_goto 8 dX0_gather_53 (by decide) ?_
        first | exact ih (v + 1) N (by omega) hL hf (by rw [hes, if_neg (fun h => c25 (by rw [h.1]))]; exact hD) | exact ih (v + 1) N (by omega) hL hf (by rw [hes, if_neg (fun h => absurd c35 (by rw [h.2]; decide))]; exact hD) | exact ih (v + 1) M1 (by omega) hL hf3 (by rw [hes, if_pos ⟨(nI_eq (by omega) (by omega)).mp c25, by rcases (show ga g 1 v = 0 ∨ ga g 1 v = 1 by omega) with z | z; exact absurd (by rw [z]; rfl) c35; exact z⟩]; exact hD1)
      · refine r_aload_n dX0_gather_38 rfl ?_
        refine r_iload dX0_gather_39 rfl ?_
        refine r_aload_n dX0_gather_41 rfl ?_
        refine r_aload_n dX0_gather_42 rfl ?_
        refine r_iload dX0_gather_43 rfl ?_
        refine r_iload dX0_gather_45 rfl ?_
        refine r_callV ca_yX0_gatherOf ml_X0_39 im_yX0_gatherOf se_yX0_gatherOf (by decide) rfl (lay_ok hL rfl) (c_X0_gatherOf hL hSN hVN hAN hB ho (by omega) (fun i hi => t_ent_40 b3 n o v hi) hD hE) ⟨by decide, by decide⟩ (by decide) (by decide) rfl (Nat.le_of_ble_eq_true rfl) dX0_gather_47 (fun v0 M1 hp1 => ?_)
        obtain ⟨rfl, hf1, hD1⟩ := hp1
        have hf3 := hf.tr hf1
        refine r_lay (hf1.lay hL) (fun hL => ?_)
        refine r_iinc (nI (v + 1)) _ dX0_gather_50 (by decide) rfl (nI_1 _) rfl ?_
        refine r_goto 8 dX0_gather_53 (by decide) ?_
        first | exact ih (v + 1) N (by omega) hL hf (by rw [hes, if_neg (fun h => c25 (by rw [h.1]))]; exact hD) | exact ih (v + 1) N (by omega) hL hf (by rw [hes, if_neg (fun h => absurd c35 (by rw [h.2]; decide))]; exact hD) | exact ih (v + 1) M1 (by omega) hL hf3 (by rw [hes, if_pos ⟨(nI_eq (by omega) (by omega)).mp c25, by rcases (show ga g 1 v = 0 ∨ ga g 1 v = 1 by omega) with z | z; exact absurd (by rw [z]; rfl) c35; exact z⟩]; exact hD1)
set_option maxHeartbeats 4000000 in
set_option maxRecDepth 100000 in
theorem c_X0_gather {l : Launch} {X : Nat × (Nat → Int32)} {M : am_M} (hL : Lay M) {g : tG} {n o : Nat} (hS : xS M g) (hV : xV M g) (hA : xA M g) (hB : gB g) (hn : n < 5) (ho : o < 5) : am_C l yX0_gather cX0_gather 7 none 5 0 0 X [.ref 20, .ref 2, .ref 8, .int (nI n), .int (nI o), .int (nI (gs g 4))] M (fun v' M' => v' = none ∧ am_fr s_desk M M' ∧ DX M' (t_ent g n o)) := by
  refine am_C.of (by decide) (by simp [Value.category, va_rf]) (Nat.le_of_ble_eq_true rfl) ?_
  refine r_aload_n dX0_gather_0 rfl ?_
  refine r_iconst (0) dX0_gather_1 (by decide) ?_
  refine r_putI kX0 (k := 3) (by decide) rfl (Or.inl rfl) fl_X0_21 (lay_ok hL rfl) ⟨rfl, rfl⟩ dX0_gather_2 ?_
  refine r_lay (lay_wI hL _ _ _) (fun hL => ?_)
  refine r_iconst (nI 0) dX0_gather_5 (by decide) ?_
  refine r_istore _ dX0_gather_6 (by decide) rfl ?_
  exact l_X0_gather hS hV hA hB hn ho (gs g 1) 0 _ (by omega) hL ⟨rfl, rfl, rfl, fun x hx => mI_wI_n _ _ _ (fun h => hx (Or.inl h))⟩ ⟨by simp [mI_wI, t_entP, itr]; rfl, by simp [t_entP, itr], fun j e he => by simp [t_entP, itr] at he⟩
end
section
/-! NEW ARRAYS, A NEW LETTER -/
section AmNew
variable {l : Launch} {y : MethodName} {cc : ByteArray} {nL : Nat} {rt : Option FieldType} {R : Room} {mc ms : Nat} {X : Nat × (Nat → Int32)} {Post : Option Value → am_M → Prop} {bc bs pc : Nat} {ls : List (Option Value)} {st : List Value} {M : am_M}
theorem r_newaIN {k : Nat} (hk : k ≤ 100000) (hbc : 1 ≤ bc) (hbs : k ≤ bs) (hd : decode cc pc = .ok (.newarray .int, 2)) (kk : am_V l y cc nL rt R mc ms X Post (bc - 1) (bs - k) (pc + 2) ls (.ref (mN M + 1) :: st) (wN M 10 k)) : am_V l y cc nL rt R mc ms X Post bc bs pc ls (.int (nI k) :: st) M := by
  have e : (nI k).toNatClampNeg = k := nI_clamp (by omega)
  refine r_newaI (nI_pos (by omega)) (by rw [e]; exact hk) ac_int hbc (by rw [e]; exact hbs) hd ?_
  rw [e]
  exact kk
theorem r_newaZN {k : Nat} (hk : k ≤ 100000) (hbc : 1 ≤ bc) (hbs : k ≤ bs) (hd : decode cc pc = .ok (.newarray .boolean, 2)) (kk : am_V l y cc nL rt R mc ms X Post (bc - 1) (bs - k) (pc + 2) ls (.ref (mN M + 1) :: st) (wN M 11 k)) : am_V l y cc nL rt R mc ms X Post bc bs pc ls (.int (nI k) :: st) M := by
  have e : (nI k).toNatClampNeg = k := nI_clamp (by omega)
  refine r_newaZ (nI_pos (by omega)) (by rw [e]; exact hk) ac_boolean hbc (by rw [e]; exact hbs) hd ?_
  rw [e]
  exact kk
theorem r_anewN {index t k : Nat} {C : String} (hC : (t = 12 ∧ C = RX3) ∨ (t = 13 ∧ C = RX6)) (hl : Cond.classLink y.cls index C ∈ am_gw) (hk : k ≤ 100000) (hbc : 1 ≤ bc) (hbs : k ≤ bs) (hd : decode cc pc = .ok (.anewarray index, 3)) (kk : am_V l y cc nL rt R mc ms X Post (bc - 1) (bs - k) (pc + 3) ls (.ref (mN M + 1) :: st) (wN M t k)) : am_V l y cc nL rt R mc ms X Post bc bs pc ls (.int (nI k) :: st) M := by
  have e : (nI k).toNatClampNeg = k := nI_clamp (by omega)
  refine r_anew hC hl (nI_pos (by omega)) (by rw [e]; exact hk) hbc (by rw [e]; exact hbs) hd ?_
  rw [e]
  exact kk
/-- less room is asked -/
theorem r_room {bc' bs' : Nat} (h1 : bc' ≤ bc) (h2 : bs' ≤ bs) (kk : am_V l y cc nL rt R mc ms X Post bc' bs' pc ls st M) : am_V l y cc nL rt R mc ms X Post bc bs pc ls st M := by
  intro p e s m args below meth c D cA b base H locs cells slots lsr E0 H0 L0 q1 q2
  exact kk p e s m args below meth c D cA b base H locs cells slots lsr E0 H0 L0 (by omega) (by omega)
end AmNew
/-- a new array of ints that holds f -/
def wA (M : am_M) (k : Nat) (f : Nat → Int32) : am_M := wF (wN M 10 k) (mN M + 1) f
theorem mN_wA (M : am_M) (k : Nat) (f : Nat → Int32) : mN (wA M k f) = mN M + 1 := rfl
theorem mI_wA_n (M : am_M) (k : Nat) (f : Nat → Int32) {x : Nat} (h : x ≠ mN M + 1) : mI (wA M k f) x = mI M x := (mI_wF_n _ _ h).trans (mI_wN_n M 10 k h)
theorem mI_wA_s (M : am_M) (k : Nat) (f : Nat → Int32) : mI (wA M k f) (mN M + 1) = f := mI_wF_s _ _ _
theorem mR_wA_n (M : am_M) (k : Nat) (f : Nat → Int32) {x : Nat} (h : x ≠ mN M + 1) : mR (wA M k f) x = mR M x := mR_wN_n M 10 k h
theorem mT_wA_n (M : am_M) (k : Nat) (f : Nat → Int32) {x : Nat} (h : x ≠ mN M + 1) : mT (wA M k f) x = mT M x := mT_wN_n M 10 k h
theorem mT_wA_s (M : am_M) (k : Nat) (f : Nat → Int32) : mT (wA M k f) (mN M + 1) = (10, k) := mT_wN_s M 10 k
theorem lay_wA {M : am_M} (h : Lay M) (k : Nat) (f : Nat → Int32) : Lay (wA M k f) := lay_wF (lay_wN h 10 k) _ f
theorem ok_wA {M : am_M} {a t n : Nat} (h : am_ok M a t n) (k : Nat) (f : Nat → Int32) : am_ok (wA M k f) a t n := okw_wN h 10 k
end
section
set_option maxHeartbeats 4000000 in
set_option maxRecDepth 100000 in
theorem c_J7_copyOf {l : Launch} {X : Nat × (Nat → Int32)} {M : am_M} (hL : Lay M) {a k : Nat} (ha : am_ok M a 10 40) (hk : k ≤ 40) : am_C l yJ7_copyOf_59c91 cJ7_copyOf_59c91 3 (some (.array .int)) 1 1 40 X [.ref a, .int (nI k)] M (fun v M' => ∃ f, v = some (.ref (mN M + 1)) ∧ M' = wA M k f ∧ ∀ j, j < k → f j = mI M a j) := by
  refine am_C.of (by decide) (by simp [Value.category, va_rf]) (Nat.le_of_ble_eq_true rfl) ?_
  refine r_iload_n dJ7_copyOf_59c91_0 rfl ?_
  refine r_aload_n dJ7_copyOf_59c91_1 rfl ?_
  refine r_alen (Or.inl rfl) ha dJ7_copyOf_59c91_2 ?_
  refine r_icmp_ne 14 dJ7_copyOf_59c91_3 (by decide) (fun c3 => ?_) (fun c3 => ?_)
  · refine r_iload_n dJ7_copyOf_59c91_14 rfl ?_
    refine r_newaIN (by omega) (by decide) hk dJ7_copyOf_59c91_15 ?_
    have ha2 := okw_wN ha 10 k
    refine r_astore_n _ dJ7_copyOf_59c91_17 (by decide) rfl ?_
    refine r_aload_n dJ7_copyOf_59c91_18 rfl ?_
    refine r_iconst (0) dJ7_copyOf_59c91_19 (by decide) ?_
    refine r_aload_n dJ7_copyOf_59c91_20 rfl ?_
    refine r_iconst (0) dJ7_copyOf_59c91_21 (by decide) ?_
    refine r_aload_n dJ7_copyOf_59c91_22 rfl ?_
    refine r_alen (Or.inl rfl) ha2 dJ7_copyOf_59c91_23 ?_
    refine r_iload_n dJ7_copyOf_59c91_24 rfl ?_
    refine r_mmin ml_J7_304 sm_yJ9_min_7cf53 ini_J9 co_min ⟨by decide, Nat.le_of_ble_eq_true rfl⟩ dJ7_copyOf_59c91_25 ?_
    refine r_top (nI k) (by rcases Nat.lt_or_ge k 40 with q | q; rw [if_pos (nI_lt q (by omega))]; rw [show k = 40 by omega]; rfl) ?_
    refine r_copyi ha2 (okw_new M 10 k) ml_J7_150 nt_arraycopyName sm_arraycopyName ini_J10 (by decide) (by decide) (nI_pos (by omega)) (by rw [nI_clamp (by omega)]; show 0 + k ≤ 40; omega) (by rw [nI_clamp (by omega)]; show 0 + k ≤ k; omega) ⟨by decide, Nat.le_of_ble_eq_true rfl⟩ dJ7_copyOf_59c91_28 ?_
    refine r_aload_n dJ7_copyOf_59c91_31 rfl ?_
    refine r_aret (r := some (mN M + 1)) (Or.inr ⟨_, rfl⟩) dJ7_copyOf_59c91_32 ⟨_, rfl, rfl, fun j hj => ?_⟩
    rw [nI_clamp (by omega)]
    show va_cpy (mI (wN M 10 k) a) _ 0 0 k j = mI M a j
    rw [sb_cpy0 hj, mI_wN_n M 10 k (by have := ha.2.1; omega)]
  · refine r_aload_n dJ7_copyOf_59c91_6 rfl ?_
    have hk40 : k = 40 := (nI_eq (by omega) (by omega)).mp (by exact c3)
    subst hk40
    refine r_clone ha ml_J7_316 sam_clone nt_javalangObjectcloneLjavalangObject im_javalangObjectcloneLjavalangObject se_IcloneLjavalangObject ⟨by decide, Nat.le_of_ble_eq_true rfl⟩ (by decide) (by decide) dJ7_copyOf_59c91_7 ?_
    have okc : am_ok (wC M a 40) (mN M + 1) 10 40 := okw_wF (okw_new M 10 40) _ _
    refine r_castA okc cl_J7_317 dJ7_copyOf_59c91_10 ?_
    exact r_aret (r := some (mN M + 1)) (Or.inr ⟨_, rfl⟩) dJ7_copyOf_59c91_13 ⟨mI M a, rfl, rfl, fun _ _ => rfl⟩
set_option maxHeartbeats 4000000 in
set_option maxRecDepth 100000 in
theorem l_J7_fill {l : Launch} {X : Nat × (Nat → Int32)} {M : am_M} (hL : Lay M) {x : Int32} : ∀ k i : Nat, i + k = 4 → am_V l yJ7_fill_53178 cJ7_fill_53178 4 (none) (am_R 0 0 0) 0 0 X (fun v M' => v = none ∧ M' = wF M 27 (fl (mI M 27) 4 x)) 0 0 5 [some (.ref 27), some (.int x), some (.int (nI i)), some (.int (nI 4))] [] (wF M 27 (fl (mI M 27) i x)) := by
  intro k
  induction k with
  | zero =>
    intro i hi
    obtain rfl : i = 4 := by omega
    refine r_iload_n dJ7_fill_53178_5 rfl ?_
    refine r_iload_n dJ7_fill_53178_6 rfl ?_
    refine r_icmp_ge 20 dJ7_fill_53178_7 (by decide) (fun _ => ?_) (fun hq => absurd (nI_le (Nat.le_refl 4) (by decide)) hq)
    exact r_vret rfl dJ7_fill_53178_20 ⟨rfl, rfl⟩
  | succ k ih =>
    intro i hi
    have hL := lay_wF hL 27 (fl (mI M 27) i x)
    refine r_iload_n dJ7_fill_53178_5 rfl ?_
    refine r_iload_n dJ7_fill_53178_6 rfl ?_
    refine r_icmp_ge 20 dJ7_fill_53178_7 (by decide) (fun hq => absurd hq (nI_ge (by omega) (by decide))) (fun _ => ?_)
    refine r_aload_n dJ7_fill_53178_10 rfl ?_
    refine r_iload_n dJ7_fill_53178_11 rfl ?_
    refine r_iload_n dJ7_fill_53178_12 rfl ?_
    refine r_iastN (lay_ok hL rfl) (by omega) (by decide) dJ7_fill_53178_13 ?_
    refine r_lay (lay_wI hL _ _ _) (fun hL => ?_)
    refine r_iinc (nI (i + 1)) _ dJ7_fill_53178_14 (by decide) rfl (nI_1 _) rfl ?_
    refine r_goto 5 dJ7_fill_53178_17 (by decide) ?_
    have q := ih (i + 1) (by omega)
    rw [← fl_s (mI M 27) i x, ← wI_wF] at q
    exact q
set_option maxHeartbeats 4000000 in
set_option maxRecDepth 100000 in
theorem c_J7_fill {l : Launch} {X : Nat × (Nat → Int32)} {M : am_M} (hL : Lay M) {x : Int32}  : am_F l yJ7_fill_53178 cJ7_fill_53178 4 (none) 0 0 0 X [.ref 27, .int x] M (none) (wF M 27 (fl (mI M 27) 4 x)) := by
  refine am_C.of (by decide) (by simp [Value.category, va_rf]) (Nat.le_of_ble_eq_true rfl) ?_
  refine r_iconst (nI 0) dJ7_fill_53178_0 (by decide) ?_
  refine r_istore_n _ dJ7_fill_53178_1 (by decide) rfl ?_
  refine r_aload_n dJ7_fill_53178_2 rfl ?_
  refine r_alen (Or.inl rfl) (lay_ok hL rfl) dJ7_fill_53178_3 ?_
  refine r_istore_n _ dJ7_fill_53178_4 (by decide) rfl ?_
  have q := l_J7_fill (l := l) (X := X) hL (x := x) 4 0 (by omega)
  rw [fl_0, wF_id] at q
  exact q
end
section
/-! A LETTER IS WRITTEN -/
/-- cells up to N stay, but those of S; cells may come -/
def am_gr (S : Nat → Prop) (M M' : am_M) : Prop := mN M ≤ mN M' ∧ ∀ x, x ≤ mN M → mT M' x = mT M x ∧ (¬ S x → mI M' x = mI M x ∧ mR M' x = mR M x)
theorem rf_big (a k : Nat) (h : 125 < a) : rf a k = none := by
  cases e : rf a k with
  | none => rfl
  | some r => have := rf_le e; omega
theorem am_gr.rf {S : Nat → Prop} {M : am_M} : am_gr S M M := ⟨Nat.le_refl _, fun _ _ => ⟨rfl, fun _ => ⟨rfl, rfl⟩⟩⟩
theorem am_gr.tr {S : Nat → Prop} {M M1 M2 : am_M} (h1 : am_gr S M M1) (h2 : am_gr S M1 M2) : am_gr S M M2 := by
  refine ⟨Nat.le_trans h1.1 h2.1, fun x hx => ?_⟩
  obtain ⟨a1, a2⟩ := h1.2 x hx
  obtain ⟨b1, b2⟩ := h2.2 x (Nat.le_trans hx h1.1)
  exact ⟨b1.trans a1, fun hs => ⟨(b2 hs).1.trans (a2 hs).1, (b2 hs).2.trans (a2 hs).2⟩⟩
theorem am_gr.wd {S S' : Nat → Prop} {M M1 : am_M} (h1 : am_gr S M M1) (h : ∀ x, x ≤ mN M → S x → S' x) : am_gr S' M M1 := ⟨h1.1, fun x hx => ⟨(h1.2 x hx).1, fun hs => (h1.2 x hx).2 (fun q => hs (h x hx q))⟩⟩
theorem am_fr.gr {S : Nat → Prop} {M M1 : am_M} (h : am_fr S M M1) : am_gr S M M1 := ⟨Nat.le_of_eq h.2.1.symm, fun x _ => ⟨by rw [h.1], fun hs => ⟨h.2.2.2 x hs, by rw [h.2.2.1]⟩⟩⟩
theorem am_gr.wI {S : Nat → Prop} {M : am_M} {a : Nat} (k : Nat) (v : Int32) (h : S a) : am_gr S M (wI M a k v) := ⟨Nat.le_refl _, fun x _ => ⟨rfl, fun hs => ⟨mI_wI_n _ _ _ (fun e => hs (e ▸ h)), rfl⟩⟩⟩
theorem am_gr.wR {S : Nat → Prop} {M : am_M} {a : Nat} (k : Nat) (v : Option Nat) (h : S a) : am_gr S M (wR M a k v) := ⟨Nat.le_refl _, fun x _ => ⟨rfl, fun hs => ⟨rfl, mR_wR_n _ _ _ (fun e => hs (e ▸ h))⟩⟩⟩
theorem am_gr.wQ {S : Nat → Prop} {M : am_M} {a : Nat} (f : Nat → Option Nat) (h : S a) : am_gr S M (wQ M a f) := ⟨Nat.le_refl _, fun x _ => ⟨rfl, fun hs => ⟨rfl, mR_wQ_n _ _ (fun e => hs (e ▸ h))⟩⟩⟩
theorem am_gr.wF {S : Nat → Prop} {M : am_M} {a : Nat} (f : Nat → Int32) (h : S a) : am_gr S M (wF M a f) := ⟨Nat.le_refl _, fun x _ => ⟨rfl, fun hs => ⟨mI_wF_n _ _ (fun e => hs (e ▸ h)), rfl⟩⟩⟩
theorem am_gr.wN {S : Nat → Prop} {M : am_M} (t n : Nat) : am_gr S M (wN M t n) := ⟨Nat.le_succ _, fun x hx => ⟨mT_wN_n M t n (by omega), fun _ => ⟨mI_wN_n M t n (by omega), mR_wN_n M t n (by omega)⟩⟩⟩
theorem am_gr.wA {S : Nat → Prop} {M : am_M} (k : Nat) (f : Nat → Int32) : am_gr S M (wA M k f) := ⟨Nat.le_succ _, fun x hx => ⟨mT_wA_n M k f (by omega), fun _ => ⟨mI_wA_n M k f (by omega), mR_wA_n M k f (by omega)⟩⟩⟩
theorem am_gr.ok {S : Nat → Prop} {M M1 : am_M} (h : am_gr S M M1) {a t n : Nat} (k : am_ok M a t n) : am_ok M1 a t n := ⟨k.1, Nat.le_trans k.2.1 h.1, (h.2 a k.2.1).1.trans k.2.2⟩
theorem am_gr.i {S : Nat → Prop} {M M1 : am_M} (h : am_gr S M M1) {a k : Nat} {r : Int32} (ha : a ≤ mN M) (hs : ¬ S a) (e : mI M a k = r) : mI M1 a k = r := by rw [((h.2 a ha).2 hs).1]; exact e
theorem am_gr.r {S : Nat → Prop} {M M1 : am_M} (h : am_gr S M M1) {a k : Nat} {r : Option Nat} (ha : a ≤ mN M) (hs : ¬ S a) (e : mR M a k = r) : mR M1 a k = r := by rw [((h.2 a ha).2 hs).2]; exact e
theorem DX.gr {S : Nat → Prop} {M M1 : am_M} (h : am_gr S M M1) (hS : ∀ x, 20 ≤ x → x ≤ 23 → ¬ S x) (hL : 125 ≤ mN M) {es : List tE} (k : DX M es) : DX M1 es := ⟨h.i (by omega) (hS 20 (by decide) (by decide)) k.1, k.2.1, fun j e he => ⟨h.i (by omega) (hS 21 (by decide) (by decide)) (k.2.2 j e he).1, h.i (by omega) (hS 22 (by decide) (by decide)) (k.2.2 j e he).2.1, h.i (by omega) (hS 23 (by decide) (by decide)) (k.2.2 j e he).2.2⟩⟩
theorem cp_step {N : am_M} {a k len : Nat} {f : Nat → Int32} (ha : a ≤ mN N) : am_gr (fun x => x = a) N (wR (wA N len f) a k (some (mN N + 1))) ∧ mN (wR (wA N len f) a k (some (mN N + 1))) = mN N + 1 ∧ mI (wR (wA N len f) a k (some (mN N + 1))) a = mI N a ∧ mR (wR (wA N len f) a k (some (mN N + 1))) a k = some (mN N + 1) ∧ (∀ j, j ≠ k → mR (wR (wA N len f) a k (some (mN N + 1))) a j = mR N a j) ∧ am_ok (wR (wA N len f) a k (some (mN N + 1))) (mN N + 1) 10 len ∧ mI (wR (wA N len f) a k (some (mN N + 1))) (mN N + 1) = f := by
  refine ⟨(am_gr.wA len f).tr (am_gr.wR k _ rfl), rfl, mI_wA_n N len f (by omega), ?_, fun j hj => ?_, ⟨by omega, Nat.le_refl _, mT_wA_s N len f⟩, mI_wA_s N len f⟩
  · rw [mR_wR_s, va_up_self]
  · rw [mR_wR_s, va_up_ne _ _ hj, mR_wA_n N len f (by omega)]
/-- a letter stays what it is -/
theorem isL.gr {S : Nat → Prop} {M M1 : am_M} (h : am_gr S M M1) (hS : ∀ x, 126 ≤ x → x ≤ mN M → ¬ S x) {a : Nat} {t : tL} (k : isL M a t) : isL M1 a t := by
  obtain ⟨k1, k2, k3, k4, k5, k6, k7, p, q, r, e1, e2, e3, o1, o2, o3, p1, p2, p3, k8⟩ := k
  have ha := hS a k2 k1.2.1
  have hp := hS p p1 o1.2.1
  have hq := hS q p2 o2.2.1
  have hr := hS r p3 o3.2.1
  exact ⟨h.ok k1, k2, h.i k1.2.1 ha k3, h.i k1.2.1 ha k4, h.i k1.2.1 ha k5, h.i k1.2.1 ha k6, h.i k1.2.1 ha k7, p, q, r, h.r k1.2.1 ha e1, h.r k1.2.1 ha e2, h.r k1.2.1 ha e3, h.ok o1, h.ok o2, h.ok o3, p1, p2, p3, fun j e he => ⟨h.i o1.2.1 hp (k8 j e he).1, h.i o2.2.1 hq (k8 j e he).2.1, h.i o3.2.1 hr (k8 j e he).2.2⟩⟩
set_option maxHeartbeats 4000000 in
set_option maxRecDepth 100000 in
theorem c_X3_init {l : Launch} {X : Nat × (Nat → Int32)} {M : am_M} (hL : Lay M) {a nt nr nf no nc : Nat} {es : List tE} (ha : am_ok M a 3 0) (ha2 : 126 ≤ a) (hD : DX M es) : am_C l yX3_init cX3_init 7 none 2 3 120 X [.ref a, .int (nI nt), .int (nI nr), .int (nI nf), .int (nI no), .int (nI nc), .ref 20] M (fun v M' => v = none ∧ am_gr (fun x => x = a) M M' ∧ mN M' = mN M + 3 ∧ isL M' a (nt, nr, nf, no, nc, es)) := by
  refine am_C.of (by decide) (by simp [Value.category, va_rf]) (Nat.le_of_ble_eq_true rfl) ?_
  have hn0 : 125 ≤ mN M := hL.1
  have hle := ha.2.1
  refine r_aload_n dX3_init_0 rfl ?_
  refine r_objInit ml_X3_1 im_JobjectInit co_objectInit ⟨by decide, Nat.le_of_ble_eq_true rfl⟩ dX3_init_1 ?_
  refine r_aload_n dX3_init_4 rfl ?_
  refine r_iload_n dX3_init_5 rfl ?_
  refine r_putI kX3 (k := 0) (by decide) rfl (Or.inr ⟨rfl, rfl, rfl, rfl⟩) fl_X3_7 ha ⟨rfl, rfl⟩ dX3_init_6 ?_
  refine r_lay (lay_wI hL _ _ _) (fun hL => ?_)
  refine r_aload_n dX3_init_9 rfl ?_
  refine r_iload_n dX3_init_10 rfl ?_
  refine r_putI kX3 (k := 1) (by decide) rfl (Or.inr ⟨rfl, rfl, rfl, rfl⟩) fl_X3_13 ha ⟨rfl, rfl⟩ dX3_init_11 ?_
  refine r_lay (lay_wI hL _ _ _) (fun hL => ?_)
  refine r_aload_n dX3_init_14 rfl ?_
  refine r_iload_n dX3_init_15 rfl ?_
  refine r_putI kX3 (k := 2) (by decide) rfl (Or.inr ⟨rfl, rfl, rfl, rfl⟩) fl_X3_16 ha ⟨rfl, rfl⟩ dX3_init_16 ?_
  refine r_lay (lay_wI hL _ _ _) (fun hL => ?_)
  refine r_aload_n dX3_init_19 rfl ?_
  refine r_iload dX3_init_20 rfl ?_
  refine r_putI kX3 (k := 3) (by decide) rfl (Or.inr ⟨rfl, rfl, rfl, rfl⟩) fl_X3_19 ha ⟨rfl, rfl⟩ dX3_init_22 ?_
  refine r_lay (lay_wI hL _ _ _) (fun hL => ?_)
  refine r_aload_n dX3_init_25 rfl ?_
  refine r_iload dX3_init_26 rfl ?_
  refine r_putI kX3 (k := 4) (by decide) rfl (Or.inr ⟨rfl, rfl, rfl, rfl⟩) fl_X3_22 ha ⟨rfl, rfl⟩ dX3_init_28 ?_
  refine r_lay (lay_wI hL _ _ _) (fun hL => ?_)
  have g5 : am_gr (fun x => x = a) M (wI (wI (wI (wI (wI M a 0 (nI nt)) a 1 (nI nr)) a 2 (nI nf)) a 3 (nI no)) a 4 (nI nc)) := ((((am_gr.wI 0 (nI nt) (S := fun x => x = a) rfl).tr (am_gr.wI 1 (nI nr) rfl)).tr (am_gr.wI 2 (nI nf) rfl)).tr (am_gr.wI 3 (nI no) rfl)).tr (am_gr.wI 4 (nI nc) rfl)
  have i5 : mI (wI (wI (wI (wI (wI M a 0 (nI nt)) a 1 (nI nr)) a 2 (nI nf)) a 3 (nI no)) a 4 (nI nc)) a 0 = nI nt ∧ mI (wI (wI (wI (wI (wI M a 0 (nI nt)) a 1 (nI nr)) a 2 (nI nf)) a 3 (nI no)) a 4 (nI nc)) a 1 = nI nr ∧ mI (wI (wI (wI (wI (wI M a 0 (nI nt)) a 1 (nI nr)) a 2 (nI nf)) a 3 (nI no)) a 4 (nI nc)) a 2 = nI nf ∧ mI (wI (wI (wI (wI (wI M a 0 (nI nt)) a 1 (nI nr)) a 2 (nI nf)) a 3 (nI no)) a 4 (nI nc)) a 3 = nI no ∧ mI (wI (wI (wI (wI (wI M a 0 (nI nt)) a 1 (nI nr)) a 2 (nI nf)) a 3 (nI no)) a 4 (nI nc)) a 4 = nI nc := by simp [mI_wI]
  have n5 : mN (wI (wI (wI (wI (wI M a 0 (nI nt)) a 1 (nI nr)) a 2 (nI nf)) a 3 (nI no)) a 4 (nI nc)) = mN M := rfl
  generalize wI (wI (wI (wI (wI M a 0 (nI nt)) a 1 (nI nr)) a 2 (nI nf)) a 3 (nI no)) a 4 (nI nc) = M5 at hL g5 i5 n5 ⊢
  have ha := g5.ok ha
  have D5 := DX.gr g5 (fun x h1 h2 e => by have h3 : x = a := e; omega) (by omega) hD
  refine r_aload_n dX3_init_31 rfl ?_
  refine r_aload dX3_init_32 rfl ?_
  refine r_getF kX0 (k := 0) (by decide) rfl fl_X3_25 (lay_ok hL rfl) (lay_r hL rfl) dX3_init_34 ?_
  refine r_aload dX3_init_37 rfl ?_
  refine r_getE (nI es.length) kX0 (k := 3) (by decide) rfl fl_X3_31 (lay_ok hL rfl) dX3_init_39 D5.1 ?_
  refine r_callS ca_yJ7_copyOf_59c91 ml_X3_34 sm_yJ7_copyOf_59c91 (c_J7_copyOf hL (lay_ok hL rfl) hD.2.1) ⟨by decide, by decide⟩ (by decide) (by decide) rfl (Nat.le_of_ble_eq_true rfl) dX3_init_42 (fun v0 M1 hp1 => ?_)
  obtain ⟨f1, rfl, rfl, hf1⟩ := hp1
  refine r_lay (lay_wA hL _ _) (fun hL => ?_)
  refine r_putF kX3 (k := 5) (by decide) rfl (Or.inr ⟨rfl, rfl, rfl, rfl⟩) fl_X3_40 (ok_wA ha _ _) dX3_init_45 ?_
  refine r_lay (lay_wR hL _ (rf_big a _ (by omega))) (fun hL => ?_)
  obtain ⟨g6, n6, i6, r6, q6, o6, c6⟩ := cp_step (N := M5) (a := a) (k := 5) (len := es.length) (f := f1) ha.2.1
  generalize wR (wA M5 es.length f1) a 5 (some (mN M5 + 1)) = M6 at hL g6 n6 i6 r6 q6 o6 c6 ⊢
  have ha := g6.ok ha
  have D6 := DX.gr g6 (fun x h1 h2 e => by have h3 : x = a := e; omega) (by omega) D5
  refine r_aload_n dX3_init_48 rfl ?_
  refine r_aload dX3_init_49 rfl ?_
  refine r_getF kX0 (k := 1) (by decide) rfl fl_X3_41 (lay_ok hL rfl) (lay_r hL rfl) dX3_init_51 ?_
  refine r_aload dX3_init_54 rfl ?_
  refine r_getE (nI es.length) kX0 (k := 3) (by decide) rfl fl_X3_31 (lay_ok hL rfl) dX3_init_56 D6.1 ?_
  refine r_callS ca_yJ7_copyOf_59c91 ml_X3_34 sm_yJ7_copyOf_59c91 (c_J7_copyOf hL (lay_ok hL rfl) hD.2.1) ⟨by decide, by decide⟩ (by decide) (by decide) rfl (Nat.le_of_ble_eq_true rfl) dX3_init_59 (fun v0 M1 hp1 => ?_)
  obtain ⟨f2, rfl, rfl, hf2⟩ := hp1
  refine r_lay (lay_wA hL _ _) (fun hL => ?_)
  refine r_putF kX3 (k := 6) (by decide) rfl (Or.inr ⟨rfl, rfl, rfl, rfl⟩) fl_X3_44 (ok_wA ha _ _) dX3_init_62 ?_
  refine r_lay (lay_wR hL _ (rf_big a _ (by omega))) (fun hL => ?_)
  obtain ⟨g7, n7, i7, r7, q7, o7, c7⟩ := cp_step (N := M6) (a := a) (k := 6) (len := es.length) (f := f2) ha.2.1
  generalize wR (wA M6 es.length f2) a 6 (some (mN M6 + 1)) = M7 at hL g7 n7 i7 r7 q7 o7 c7 ⊢
  have ha := g7.ok ha
  have D7 := DX.gr g7 (fun x h1 h2 e => by have h3 : x = a := e; omega) (by omega) D6
  refine r_aload_n dX3_init_65 rfl ?_
  refine r_aload dX3_init_66 rfl ?_
  refine r_getF kX0 (k := 2) (by decide) rfl fl_X3_45 (lay_ok hL rfl) (lay_r hL rfl) dX3_init_68 ?_
  refine r_aload dX3_init_71 rfl ?_
  refine r_getE (nI es.length) kX0 (k := 3) (by decide) rfl fl_X3_31 (lay_ok hL rfl) dX3_init_73 D7.1 ?_
  refine r_callS ca_yJ7_copyOf_59c91 ml_X3_34 sm_yJ7_copyOf_59c91 (c_J7_copyOf hL (lay_ok hL rfl) hD.2.1) ⟨by decide, by decide⟩ (by decide) (by decide) rfl (Nat.le_of_ble_eq_true rfl) dX3_init_76 (fun v0 M1 hp1 => ?_)
  obtain ⟨f3, rfl, rfl, hf3⟩ := hp1
  refine r_lay (lay_wA hL _ _) (fun hL => ?_)
  refine r_putF kX3 (k := 7) (by decide) rfl (Or.inr ⟨rfl, rfl, rfl, rfl⟩) fl_X3_48 (ok_wA ha _ _) dX3_init_79 ?_
  refine r_lay (lay_wR hL _ (rf_big a _ (by omega))) (fun hL => ?_)
  obtain ⟨g8, n8, i8, r8, q8, o8, c8⟩ := cp_step (N := M7) (a := a) (k := 7) (len := es.length) (f := f3) ha.2.1
  generalize wR (wA M7 es.length f3) a 7 (some (mN M7 + 1)) = M8 at hL g8 n8 i8 r8 q8 o8 c8 ⊢
  have ha := g8.ok ha
  have D8 := DX.gr g8 (fun x h1 h2 e => by have h3 : x = a := e; omega) (by omega) D7
  have hx : ∀ z, z = mN M5 + 1 ∨ z = mN M6 + 1 → ¬ z = a := fun z hz e => by have := hle; omega
  refine r_vret rfl dX3_init_82 ⟨rfl, ((g5.tr g6).tr g7).tr g8, by omega, ha, ha2, ?_, ?_, ?_, ?_, ?_, mN M5 + 1, mN M6 + 1, mN M7 + 1, ?_, ?_, r8, g8.ok (g7.ok o6), g8.ok o7, o8, by omega, by omega, by omega, fun j e he => ?_⟩
  · rw [i8, i7, i6]; exact i5.1
  · rw [i8, i7, i6]; exact i5.2.1
  · rw [i8, i7, i6]; exact i5.2.2.1
  · rw [i8, i7, i6]; exact i5.2.2.2.1
  · rw [i8, i7, i6]; exact i5.2.2.2.2
  · rw [q8 5 (by decide), q7 5 (by decide)]; exact r6
  · rw [q8 6 (by decide)]; exact r7
  · have hj : j < es.length := (List.getElem?_eq_some_iff.mp he).1
    refine ⟨?_, ?_, ?_⟩
    · rw [((g8.2 _ (by omega)).2 (hx _ (Or.inl rfl))).1, ((g7.2 _ (by omega)).2 (hx _ (Or.inl rfl))).1, c6, hf1 j hj]; exact (D5.2.2 j e he).1
    · rw [((g8.2 _ (by omega)).2 (hx _ (Or.inr rfl))).1, c7, hf2 j hj]; exact (D6.2.2 j e he).2.1
    · rw [c8, hf3 j hj]; exact (D7.2.2 j e he).2.2
end
