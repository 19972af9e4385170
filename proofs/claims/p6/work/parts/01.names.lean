-- ===== PART A: goes FIRST, ahead of the names: the tables' words, and 'selects' of the private methods out of them =====
/-- a private method of a class that the tables say can be made, by its rows of tables_1 -/
def lw_okq (q : MethodName × Nat) : Prop := (q.1.cls ≠ "java/lang/invoke/MethodHandle" ∧ q.1.cls ≠ "java/lang/invoke/VarHandle") ∧ Cond.instantiable q.1.cls q.2 ∈ tables_1 ∧ Cond.privateMethod q.1 ∈ tables_1 ∧ Cond.instanceMethod q.1 ∈ tables_1
theorem lw_p0 : lw_okq (⟨"BorrowedBeat$LawReader", "condition", "(I)Z"⟩, 5) := ⟨⟨by decide +kernel, by decide +kernel⟩, List.mem_of_getElem? (i := 122) (by decide +kernel), List.mem_of_getElem? (i := 432) (by decide +kernel), List.mem_of_getElem? (i := 433) (by decide +kernel)⟩
theorem lw_p1 : lw_okq (⟨"BorrowedBeat$LawReader", "unit", "(I)Z"⟩, 5) := ⟨⟨by decide +kernel, by decide +kernel⟩, List.mem_of_getElem? (i := 122) (by decide +kernel), List.mem_of_getElem? (i := 436) (by decide +kernel), List.mem_of_getElem? (i := 437) (by decide +kernel)⟩
theorem lw_p2 : lw_okq (⟨"BorrowedBeat$LawReader", "sum", "(I)Z"⟩, 5) := ⟨⟨by decide +kernel, by decide +kernel⟩, List.mem_of_getElem? (i := 122) (by decide +kernel), List.mem_of_getElem? (i := 440) (by decide +kernel), List.mem_of_getElem? (i := 441) (by decide +kernel)⟩
theorem lw_p3 : lw_okq (⟨"BorrowedBeat$LawReader", "atom", "(I)Z"⟩, 5) := ⟨⟨by decide +kernel, by decide +kernel⟩, List.mem_of_getElem? (i := 122) (by decide +kernel), List.mem_of_getElem? (i := 444) (by decide +kernel), List.mem_of_getElem? (i := 445) (by decide +kernel)⟩
theorem lw_p4 : lw_okq (⟨"BorrowedBeat$LawReader", "emit", "(I)Z"⟩, 5) := ⟨⟨by decide +kernel, by decide +kernel⟩, List.mem_of_getElem? (i := 122) (by decide +kernel), List.mem_of_getElem? (i := 460) (by decide +kernel), List.mem_of_getElem? (i := 461) (by decide +kernel)⟩
theorem lw_p5 : lw_okq (⟨"BorrowedBeat$LawReader", "comparison", "(I)Z"⟩, 5) := ⟨⟨by decide +kernel, by decide +kernel⟩, List.mem_of_getElem? (i := 122) (by decide +kernel), List.mem_of_getElem? (i := 464) (by decide +kernel), List.mem_of_getElem? (i := 465) (by decide +kernel)⟩
theorem lw_p6 : lw_okq (⟨"BorrowedBeat$LawReader", "negated", "(I)Z"⟩, 5) := ⟨⟨by decide +kernel, by decide +kernel⟩, List.mem_of_getElem? (i := 122) (by decide +kernel), List.mem_of_getElem? (i := 471) (by decide +kernel), List.mem_of_getElem? (i := 472) (by decide +kernel)⟩
theorem lw_p7 : lw_okq (⟨"BorrowedBeat$LawReader", "moreUnits", "(I)Z"⟩, 5) := ⟨⟨by decide +kernel, by decide +kernel⟩, List.mem_of_getElem? (i := 122) (by decide +kernel), List.mem_of_getElem? (i := 475) (by decide +kernel), List.mem_of_getElem? (i := 476) (by decide +kernel)⟩
theorem lw_p8 : lw_okq (⟨"BorrowedBeat$LawReader", "sumBehindCondition", "()Z"⟩, 5) := ⟨⟨by decide +kernel, by decide +kernel⟩, List.mem_of_getElem? (i := 122) (by decide +kernel), List.mem_of_getElem? (i := 479) (by decide +kernel), List.mem_of_getElem? (i := 480) (by decide +kernel)⟩
theorem lw_p9 : lw_okq (⟨"BorrowedBeat$TownReader", "readItems", "(Z)Z"⟩, 5) := ⟨⟨by decide +kernel, by decide +kernel⟩, List.mem_of_getElem? (i := 48) (by decide +kernel), List.mem_of_getElem? (i := 493) (by decide +kernel), List.mem_of_getElem? (i := 494) (by decide +kernel)⟩
theorem lw_p10 : lw_okq (⟨"BorrowedBeat$TownReader", "keep", "(ZII)V"⟩, 5) := ⟨⟨by decide +kernel, by decide +kernel⟩, List.mem_of_getElem? (i := 48) (by decide +kernel), List.mem_of_getElem? (i := 510) (by decide +kernel), List.mem_of_getElem? (i := 511) (by decide +kernel)⟩
theorem lw_p11 : lw_okq (⟨"BorrowedBeat", "openTown", "()V"⟩, 16) := ⟨⟨by decide +kernel, by decide +kernel⟩, List.mem_of_getElem? (i := 23) (by decide +kernel), List.mem_of_getElem? (i := 539) (by decide +kernel), List.mem_of_getElem? (i := 540) (by decide +kernel)⟩
theorem lw_p12 : lw_okq (⟨"BorrowedBeat", "mostOf", "(I)I"⟩, 16) := ⟨⟨by decide +kernel, by decide +kernel⟩, List.mem_of_getElem? (i := 23) (by decide +kernel), List.mem_of_getElem? (i := 610) (by decide +kernel), List.mem_of_getElem? (i := 611) (by decide +kernel)⟩
theorem lw_p13 : lw_okq (⟨"BorrowedBeat", "isPlayer", "(I)Z"⟩, 16) := ⟨⟨by decide +kernel, by decide +kernel⟩, List.mem_of_getElem? (i := 23) (by decide +kernel), List.mem_of_getElem? (i := 619) (by decide +kernel), List.mem_of_getElem? (i := 620) (by decide +kernel)⟩
theorem lw_p14 : lw_okq (⟨"BorrowedBeat", "mayTell", "(III)Z"⟩, 16) := ⟨⟨by decide +kernel, by decide +kernel⟩, List.mem_of_getElem? (i := 23) (by decide +kernel), List.mem_of_getElem? (i := 623) (by decide +kernel), List.mem_of_getElem? (i := 624) (by decide +kernel)⟩
theorem lw_p15 : lw_okq (⟨"BorrowedBeat", "wetness", "(I)I"⟩, 16) := ⟨⟨by decide +kernel, by decide +kernel⟩, List.mem_of_getElem? (i := 23) (by decide +kernel), List.mem_of_getElem? (i := 639) (by decide +kernel), List.mem_of_getElem? (i := 640) (by decide +kernel)⟩
def lw_privs_1 : List (MethodName × Nat) := [(⟨"BorrowedBeat$LawReader", "condition", "(I)Z"⟩, 5), (⟨"BorrowedBeat$LawReader", "unit", "(I)Z"⟩, 5), (⟨"BorrowedBeat$LawReader", "sum", "(I)Z"⟩, 5), (⟨"BorrowedBeat$LawReader", "atom", "(I)Z"⟩, 5), (⟨"BorrowedBeat$LawReader", "emit", "(I)Z"⟩, 5), (⟨"BorrowedBeat$LawReader", "comparison", "(I)Z"⟩, 5), (⟨"BorrowedBeat$LawReader", "negated", "(I)Z"⟩, 5), (⟨"BorrowedBeat$LawReader", "moreUnits", "(I)Z"⟩, 5), (⟨"BorrowedBeat$LawReader", "sumBehindCondition", "()Z"⟩, 5), (⟨"BorrowedBeat$TownReader", "readItems", "(Z)Z"⟩, 5), (⟨"BorrowedBeat$TownReader", "keep", "(ZII)V"⟩, 5), (⟨"BorrowedBeat", "openTown", "()V"⟩, 16), (⟨"BorrowedBeat", "mostOf", "(I)I"⟩, 16), (⟨"BorrowedBeat", "isPlayer", "(I)Z"⟩, 16), (⟨"BorrowedBeat", "mayTell", "(III)Z"⟩, 16), (⟨"BorrowedBeat", "wetness", "(I)I"⟩, 16)]
theorem lw_r1 : ∀ q ∈ lw_privs_1, lw_okq q := List.forall_mem_cons.mpr ⟨lw_p0, List.forall_mem_cons.mpr ⟨lw_p1, List.forall_mem_cons.mpr ⟨lw_p2, List.forall_mem_cons.mpr ⟨lw_p3, List.forall_mem_cons.mpr ⟨lw_p4, List.forall_mem_cons.mpr ⟨lw_p5, List.forall_mem_cons.mpr ⟨lw_p6, List.forall_mem_cons.mpr ⟨lw_p7, List.forall_mem_cons.mpr ⟨lw_p8, List.forall_mem_cons.mpr ⟨lw_p9, List.forall_mem_cons.mpr ⟨lw_p10, List.forall_mem_cons.mpr ⟨lw_p11, List.forall_mem_cons.mpr ⟨lw_p12, List.forall_mem_cons.mpr ⟨lw_p13, List.forall_mem_cons.mpr ⟨lw_p14, List.forall_mem_cons.mpr ⟨lw_p15, fun _ h => absurd h List.not_mem_nil⟩⟩⟩⟩⟩⟩⟩⟩⟩⟩⟩⟩⟩⟩⟩⟩
theorem lw_p16 : lw_okq (⟨"BorrowedBeat$Law", "worth", "(IILBorrowedBeat$Town;)I"⟩, 5) := ⟨⟨by decide +kernel, by decide +kernel⟩, List.mem_of_getElem? (i := 570) (by decide +kernel), List.mem_of_getElem? (i := 647) (by decide +kernel), List.mem_of_getElem? (i := 648) (by decide +kernel)⟩
theorem lw_p17 : lw_okq (⟨"BorrowedBeat$Law", "push", "(I)V"⟩, 5) := ⟨⟨by decide +kernel, by decide +kernel⟩, List.mem_of_getElem? (i := 570) (by decide +kernel), List.mem_of_getElem? (i := 651) (by decide +kernel), List.mem_of_getElem? (i := 652) (by decide +kernel)⟩
theorem lw_p18 : lw_okq (⟨"BorrowedBeat$Law", "pop", "()I"⟩, 5) := ⟨⟨by decide +kernel, by decide +kernel⟩, List.mem_of_getElem? (i := 570) (by decide +kernel), List.mem_of_getElem? (i := 655) (by decide +kernel), List.mem_of_getElem? (i := 656) (by decide +kernel)⟩
theorem lw_p19 : lw_okq (⟨"BorrowedBeat$Law", "work", "(IIILBorrowedBeat$Town;)V"⟩, 5) := ⟨⟨by decide +kernel, by decide +kernel⟩, List.mem_of_getElem? (i := 570) (by decide +kernel), List.mem_of_getElem? (i := 659) (by decide +kernel), List.mem_of_getElem? (i := 660) (by decide +kernel)⟩
theorem lw_p20 : lw_okq (⟨"BorrowedBeat", "isBar", "(I)Z"⟩, 16) := ⟨⟨by decide +kernel, by decide +kernel⟩, List.mem_of_getElem? (i := 23) (by decide +kernel), List.mem_of_getElem? (i := 726) (by decide +kernel), List.mem_of_getElem? (i := 727) (by decide +kernel)⟩
theorem lw_p21 : lw_okq (⟨"BorrowedBeat$Play", "open", "(LBorrowedBeat$Score;)V"⟩, 9) := ⟨⟨by decide +kernel, by decide +kernel⟩, List.mem_of_getElem? (i := 224) (by decide +kernel), List.mem_of_getElem? (i := 735) (by decide +kernel), List.mem_of_getElem? (i := 736) (by decide +kernel)⟩
theorem lw_p22 : lw_okq (⟨"BorrowedBeat$Play", "goOn", "(LBorrowedBeat$Score;I)V"⟩, 9) := ⟨⟨by decide +kernel, by decide +kernel⟩, List.mem_of_getElem? (i := 224) (by decide +kernel), List.mem_of_getElem? (i := 739) (by decide +kernel), List.mem_of_getElem? (i := 740) (by decide +kernel)⟩
theorem lw_p23 : lw_okq (⟨"BorrowedBeat$Play", "playBar", "(LBorrowedBeat$Score;I)I"⟩, 9) := ⟨⟨by decide +kernel, by decide +kernel⟩, List.mem_of_getElem? (i := 224) (by decide +kernel), List.mem_of_getElem? (i := 747) (by decide +kernel), List.mem_of_getElem? (i := 748) (by decide +kernel)⟩
theorem lw_p24 : lw_okq (⟨"BorrowedBeat", "isOneOfTwo", "(I)Z"⟩, 16) := ⟨⟨by decide +kernel, by decide +kernel⟩, List.mem_of_getElem? (i := 23) (by decide +kernel), List.mem_of_getElem? (i := 783) (by decide +kernel), List.mem_of_getElem? (i := 784) (by decide +kernel)⟩
theorem lw_p25 : lw_okq (⟨"BorrowedBeat$Play", "soundsLike", "(II)Z"⟩, 9) := ⟨⟨by decide +kernel, by decide +kernel⟩, List.mem_of_getElem? (i := 224) (by decide +kernel), List.mem_of_getElem? (i := 808) (by decide +kernel), List.mem_of_getElem? (i := 809) (by decide +kernel)⟩
theorem lw_p26 : lw_okq (⟨"BorrowedBeat$Play", "placeOf", "(II)I"⟩, 9) := ⟨⟨by decide +kernel, by decide +kernel⟩, List.mem_of_getElem? (i := 224) (by decide +kernel), List.mem_of_getElem? (i := 820) (by decide +kernel), List.mem_of_getElem? (i := 821) (by decide +kernel)⟩
theorem lw_p27 : lw_okq (⟨"BorrowedBeat$Play", "order", "(III)I"⟩, 9) := ⟨⟨by decide +kernel, by decide +kernel⟩, List.mem_of_getElem? (i := 224) (by decide +kernel), List.mem_of_getElem? (i := 832) (by decide +kernel), List.mem_of_getElem? (i := 833) (by decide +kernel)⟩
theorem lw_p28 : lw_okq (⟨"BorrowedBeat$Play", "apartFromAll", "(II)I"⟩, 9) := ⟨⟨by decide +kernel, by decide +kernel⟩, List.mem_of_getElem? (i := 224) (by decide +kernel), List.mem_of_getElem? (i := 847) (by decide +kernel), List.mem_of_getElem? (i := 848) (by decide +kernel)⟩
theorem lw_p29 : lw_okq (⟨"BorrowedBeat", "isToldSo", "()Z"⟩, 16) := ⟨⟨by decide +kernel, by decide +kernel⟩, List.mem_of_getElem? (i := 23) (by decide +kernel), List.mem_of_getElem? (i := 900) (by decide +kernel), List.mem_of_getElem? (i := 901) (by decide +kernel)⟩
theorem lw_p30 : lw_okq (⟨"BorrowedBeat$MarkSearch", "goOnFrom", "(ILBorrowedBeat$Play;LBorrowedBeat$Score;I)V"⟩, 5) := ⟨⟨by decide +kernel, by decide +kernel⟩, List.mem_of_getElem? (i := 261) (by decide +kernel), List.mem_of_getElem? (i := 930) (by decide +kernel), List.mem_of_getElem? (i := 931) (by decide +kernel)⟩
theorem lw_p31 : lw_okq (⟨"BorrowedBeat$MarkSearch", "spreadBehind", "(ILBorrowedBeat$Play;LBorrowedBeat$Score;)I"⟩, 5) := ⟨⟨by decide +kernel, by decide +kernel⟩, List.mem_of_getElem? (i := 261) (by decide +kernel), List.mem_of_getElem? (i := 934) (by decide +kernel), List.mem_of_getElem? (i := 935) (by decide +kernel)⟩
def lw_privs_2 : List (MethodName × Nat) := [(⟨"BorrowedBeat$Law", "worth", "(IILBorrowedBeat$Town;)I"⟩, 5), (⟨"BorrowedBeat$Law", "push", "(I)V"⟩, 5), (⟨"BorrowedBeat$Law", "pop", "()I"⟩, 5), (⟨"BorrowedBeat$Law", "work", "(IIILBorrowedBeat$Town;)V"⟩, 5), (⟨"BorrowedBeat", "isBar", "(I)Z"⟩, 16), (⟨"BorrowedBeat$Play", "open", "(LBorrowedBeat$Score;)V"⟩, 9), (⟨"BorrowedBeat$Play", "goOn", "(LBorrowedBeat$Score;I)V"⟩, 9), (⟨"BorrowedBeat$Play", "playBar", "(LBorrowedBeat$Score;I)I"⟩, 9), (⟨"BorrowedBeat", "isOneOfTwo", "(I)Z"⟩, 16), (⟨"BorrowedBeat$Play", "soundsLike", "(II)Z"⟩, 9), (⟨"BorrowedBeat$Play", "placeOf", "(II)I"⟩, 9), (⟨"BorrowedBeat$Play", "order", "(III)I"⟩, 9), (⟨"BorrowedBeat$Play", "apartFromAll", "(II)I"⟩, 9), (⟨"BorrowedBeat", "isToldSo", "()Z"⟩, 16), (⟨"BorrowedBeat$MarkSearch", "goOnFrom", "(ILBorrowedBeat$Play;LBorrowedBeat$Score;I)V"⟩, 5), (⟨"BorrowedBeat$MarkSearch", "spreadBehind", "(ILBorrowedBeat$Play;LBorrowedBeat$Score;)I"⟩, 5)]
theorem lw_r2 : ∀ q ∈ lw_privs_2, lw_okq q := List.forall_mem_cons.mpr ⟨lw_p16, List.forall_mem_cons.mpr ⟨lw_p17, List.forall_mem_cons.mpr ⟨lw_p18, List.forall_mem_cons.mpr ⟨lw_p19, List.forall_mem_cons.mpr ⟨lw_p20, List.forall_mem_cons.mpr ⟨lw_p21, List.forall_mem_cons.mpr ⟨lw_p22, List.forall_mem_cons.mpr ⟨lw_p23, List.forall_mem_cons.mpr ⟨lw_p24, List.forall_mem_cons.mpr ⟨lw_p25, List.forall_mem_cons.mpr ⟨lw_p26, List.forall_mem_cons.mpr ⟨lw_p27, List.forall_mem_cons.mpr ⟨lw_p28, List.forall_mem_cons.mpr ⟨lw_p29, List.forall_mem_cons.mpr ⟨lw_p30, List.forall_mem_cons.mpr ⟨lw_p31, fun _ h => absurd h List.not_mem_nil⟩⟩⟩⟩⟩⟩⟩⟩⟩⟩⟩⟩⟩⟩⟩⟩
theorem lw_p32 : lw_okq (⟨"BorrowedBeat$MarkSearch", "endBetter", "(II)V"⟩, 5) := ⟨⟨by decide +kernel, by decide +kernel⟩, List.mem_of_getElem? (i := 261) (by decide +kernel), List.mem_of_getElem? (i := 941) (by decide +kernel), List.mem_of_getElem? (i := 942) (by decide +kernel)⟩
theorem lw_p33 : lw_okq (⟨"BorrowedBeat$MarkSearch", "markBetter", "(III)V"⟩, 5) := ⟨⟨by decide +kernel, by decide +kernel⟩, List.mem_of_getElem? (i := 261) (by decide +kernel), List.mem_of_getElem? (i := 945) (by decide +kernel), List.mem_of_getElem? (i := 946) (by decide +kernel)⟩
theorem lw_p34 : lw_okq (⟨"BorrowedBeat$WeekSearch", "foresee", "(LBorrowedBeat$Town;LBorrowedBeat$Score;)V"⟩, 7) := ⟨⟨by decide +kernel, by decide +kernel⟩, List.mem_of_getElem? (i := 285) (by decide +kernel), List.mem_of_getElem? (i := 958) (by decide +kernel), List.mem_of_getElem? (i := 959) (by decide +kernel)⟩
theorem lw_p35 : lw_okq (⟨"BorrowedBeat$WeekSearch", "weigh", "(I)V"⟩, 7) := ⟨⟨by decide +kernel, by decide +kernel⟩, List.mem_of_getElem? (i := 285) (by decide +kernel), List.mem_of_getElem? (i := 970) (by decide +kernel), List.mem_of_getElem? (i := 971) (by decide +kernel)⟩
theorem lw_p36 : lw_okq (⟨"java/lang/Throwable", "fillInStackTrace", "(I)Ljava/lang/Throwable;"⟩, 6) := ⟨⟨by decide +kernel, by decide +kernel⟩, List.mem_of_getElem? (i := 1036) (by decide +kernel), List.mem_of_getElem? (i := 1034) (by decide +kernel), List.mem_of_getElem? (i := 1035) (by decide +kernel)⟩
theorem lw_p37 : lw_okq (⟨"BorrowedBeatModel", "readTown", "()I"⟩, 50) := ⟨⟨by decide +kernel, by decide +kernel⟩, List.mem_of_getElem? (i := 1067) (by decide +kernel), List.mem_of_getElem? (i := 1243) (by decide +kernel), List.mem_of_getElem? (i := 1244) (by decide +kernel)⟩
theorem lw_p38 : lw_okq (⟨"BorrowedBeatModel", "look", "()I"⟩, 50) := ⟨⟨by decide +kernel, by decide +kernel⟩, List.mem_of_getElem? (i := 1067) (by decide +kernel), List.mem_of_getElem? (i := 1247) (by decide +kernel), List.mem_of_getElem? (i := 1248) (by decide +kernel)⟩
theorem lw_p39 : lw_okq (⟨"BorrowedBeatModel", "here", "()I"⟩, 50) := ⟨⟨by decide +kernel, by decide +kernel⟩, List.mem_of_getElem? (i := 1067) (by decide +kernel), List.mem_of_getElem? (i := 1251) (by decide +kernel), List.mem_of_getElem? (i := 1252) (by decide +kernel)⟩
theorem lw_p40 : lw_okq (⟨"BorrowedBeatModel", "playerText", "()V"⟩, 50) := ⟨⟨by decide +kernel, by decide +kernel⟩, List.mem_of_getElem? (i := 1067) (by decide +kernel), List.mem_of_getElem? (i := 1255) (by decide +kernel), List.mem_of_getElem? (i := 1256) (by decide +kernel)⟩
theorem lw_p41 : lw_okq (⟨"BorrowedBeatModel", "bad", "()V"⟩, 50) := ⟨⟨by decide +kernel, by decide +kernel⟩, List.mem_of_getElem? (i := 1067) (by decide +kernel), List.mem_of_getElem? (i := 1259) (by decide +kernel), List.mem_of_getElem? (i := 1260) (by decide +kernel)⟩
theorem lw_p42 : lw_okq (⟨"BorrowedBeatModel", "number", "(II)I"⟩, 50) := ⟨⟨by decide +kernel, by decide +kernel⟩, List.mem_of_getElem? (i := 1067) (by decide +kernel), List.mem_of_getElem? (i := 1272) (by decide +kernel), List.mem_of_getElem? (i := 1273) (by decide +kernel)⟩
theorem lw_p43 : lw_okq (⟨"BorrowedBeatModel", "areTold", "()Z"⟩, 50) := ⟨⟨by decide +kernel, by decide +kernel⟩, List.mem_of_getElem? (i := 1067) (by decide +kernel), List.mem_of_getElem? (i := 1282) (by decide +kernel), List.mem_of_getElem? (i := 1283) (by decide +kernel)⟩
theorem lw_p44 : lw_okq (⟨"BorrowedBeatModel", "readLaw", "(I)I"⟩, 50) := ⟨⟨by decide +kernel, by decide +kernel⟩, List.mem_of_getElem? (i := 1067) (by decide +kernel), List.mem_of_getElem? (i := 1286) (by decide +kernel), List.mem_of_getElem? (i := 1287) (by decide +kernel)⟩
theorem lw_p45 : lw_okq (⟨"BorrowedBeatModel", "open", "(I)V"⟩, 50) := ⟨⟨by decide +kernel, by decide +kernel⟩, List.mem_of_getElem? (i := 1067) (by decide +kernel), List.mem_of_getElem? (i := 1290) (by decide +kernel), List.mem_of_getElem? (i := 1291) (by decide +kernel)⟩
theorem lw_p46 : lw_okq (⟨"BorrowedBeatModel", "clause", "()V"⟩, 50) := ⟨⟨by decide +kernel, by decide +kernel⟩, List.mem_of_getElem? (i := 1067) (by decide +kernel), List.mem_of_getElem? (i := 1294) (by decide +kernel), List.mem_of_getElem? (i := 1295) (by decide +kernel)⟩
theorem lw_p47 : lw_okq (⟨"BorrowedBeatModel", "condition", "()V"⟩, 50) := ⟨⟨by decide +kernel, by decide +kernel⟩, List.mem_of_getElem? (i := 1067) (by decide +kernel), List.mem_of_getElem? (i := 1298) (by decide +kernel), List.mem_of_getElem? (i := 1299) (by decide +kernel)⟩
def lw_privs_3 : List (MethodName × Nat) := [(⟨"BorrowedBeat$MarkSearch", "endBetter", "(II)V"⟩, 5), (⟨"BorrowedBeat$MarkSearch", "markBetter", "(III)V"⟩, 5), (⟨"BorrowedBeat$WeekSearch", "foresee", "(LBorrowedBeat$Town;LBorrowedBeat$Score;)V"⟩, 7), (⟨"BorrowedBeat$WeekSearch", "weigh", "(I)V"⟩, 7), (⟨"java/lang/Throwable", "fillInStackTrace", "(I)Ljava/lang/Throwable;"⟩, 6), (⟨"BorrowedBeatModel", "readTown", "()I"⟩, 50), (⟨"BorrowedBeatModel", "look", "()I"⟩, 50), (⟨"BorrowedBeatModel", "here", "()I"⟩, 50), (⟨"BorrowedBeatModel", "playerText", "()V"⟩, 50), (⟨"BorrowedBeatModel", "bad", "()V"⟩, 50), (⟨"BorrowedBeatModel", "number", "(II)I"⟩, 50), (⟨"BorrowedBeatModel", "areTold", "()Z"⟩, 50), (⟨"BorrowedBeatModel", "readLaw", "(I)I"⟩, 50), (⟨"BorrowedBeatModel", "open", "(I)V"⟩, 50), (⟨"BorrowedBeatModel", "clause", "()V"⟩, 50), (⟨"BorrowedBeatModel", "condition", "()V"⟩, 50)]
theorem lw_r3 : ∀ q ∈ lw_privs_3, lw_okq q := List.forall_mem_cons.mpr ⟨lw_p32, List.forall_mem_cons.mpr ⟨lw_p33, List.forall_mem_cons.mpr ⟨lw_p34, List.forall_mem_cons.mpr ⟨lw_p35, List.forall_mem_cons.mpr ⟨lw_p36, List.forall_mem_cons.mpr ⟨lw_p37, List.forall_mem_cons.mpr ⟨lw_p38, List.forall_mem_cons.mpr ⟨lw_p39, List.forall_mem_cons.mpr ⟨lw_p40, List.forall_mem_cons.mpr ⟨lw_p41, List.forall_mem_cons.mpr ⟨lw_p42, List.forall_mem_cons.mpr ⟨lw_p43, List.forall_mem_cons.mpr ⟨lw_p44, List.forall_mem_cons.mpr ⟨lw_p45, List.forall_mem_cons.mpr ⟨lw_p46, List.forall_mem_cons.mpr ⟨lw_p47, fun _ h => absurd h List.not_mem_nil⟩⟩⟩⟩⟩⟩⟩⟩⟩⟩⟩⟩⟩⟩⟩⟩
theorem lw_p48 : lw_okq (⟨"BorrowedBeatModel", "unit", "()V"⟩, 50) := ⟨⟨by decide +kernel, by decide +kernel⟩, List.mem_of_getElem? (i := 1067) (by decide +kernel), List.mem_of_getElem? (i := 1302) (by decide +kernel), List.mem_of_getElem? (i := 1303) (by decide +kernel)⟩
theorem lw_p49 : lw_okq (⟨"BorrowedBeatModel", "opens", "()V"⟩, 50) := ⟨⟨by decide +kernel, by decide +kernel⟩, List.mem_of_getElem? (i := 1067) (by decide +kernel), List.mem_of_getElem? (i := 1306) (by decide +kernel), List.mem_of_getElem? (i := 1307) (by decide +kernel)⟩
theorem lw_p50 : lw_okq (⟨"BorrowedBeatModel", "put", "(II)V"⟩, 50) := ⟨⟨by decide +kernel, by decide +kernel⟩, List.mem_of_getElem? (i := 1067) (by decide +kernel), List.mem_of_getElem? (i := 1310) (by decide +kernel), List.mem_of_getElem? (i := 1311) (by decide +kernel)⟩
theorem lw_p51 : lw_okq (⟨"BorrowedBeatModel", "closes", "(I)V"⟩, 50) := ⟨⟨by decide +kernel, by decide +kernel⟩, List.mem_of_getElem? (i := 1067) (by decide +kernel), List.mem_of_getElem? (i := 1314) (by decide +kernel), List.mem_of_getElem? (i := 1315) (by decide +kernel)⟩
theorem lw_p52 : lw_okq (⟨"BorrowedBeatModel", "sum", "()V"⟩, 50) := ⟨⟨by decide +kernel, by decide +kernel⟩, List.mem_of_getElem? (i := 1067) (by decide +kernel), List.mem_of_getElem? (i := 1318) (by decide +kernel), List.mem_of_getElem? (i := 1319) (by decide +kernel)⟩
theorem lw_p53 : lw_okq (⟨"BorrowedBeatModel", "term", "()V"⟩, 50) := ⟨⟨by decide +kernel, by decide +kernel⟩, List.mem_of_getElem? (i := 1067) (by decide +kernel), List.mem_of_getElem? (i := 1322) (by decide +kernel), List.mem_of_getElem? (i := 1323) (by decide +kernel)⟩
theorem lw_p54 : lw_okq (⟨"BorrowedBeatModel", "atom", "()V"⟩, 50) := ⟨⟨by decide +kernel, by decide +kernel⟩, List.mem_of_getElem? (i := 1067) (by decide +kernel), List.mem_of_getElem? (i := 1326) (by decide +kernel), List.mem_of_getElem? (i := 1327) (by decide +kernel)⟩
theorem lw_p55 : lw_okq (⟨"BorrowedBeatModel", "plainNumber", "()I"⟩, 50) := ⟨⟨by decide +kernel, by decide +kernel⟩, List.mem_of_getElem? (i := 1067) (by decide +kernel), List.mem_of_getElem? (i := 1330) (by decide +kernel), List.mem_of_getElem? (i := 1331) (by decide +kernel)⟩
theorem lw_p56 : lw_okq (⟨"BorrowedBeatModel", "compare", "()V"⟩, 50) := ⟨⟨by decide +kernel, by decide +kernel⟩, List.mem_of_getElem? (i := 1067) (by decide +kernel), List.mem_of_getElem? (i := 1337) (by decide +kernel), List.mem_of_getElem? (i := 1338) (by decide +kernel)⟩
theorem lw_p57 : lw_okq (⟨"BorrowedBeatModel", "goOnAnd", "()V"⟩, 50) := ⟨⟨by decide +kernel, by decide +kernel⟩, List.mem_of_getElem? (i := 1067) (by decide +kernel), List.mem_of_getElem? (i := 1344) (by decide +kernel), List.mem_of_getElem? (i := 1345) (by decide +kernel)⟩
theorem lw_p58 : lw_okq (⟨"BorrowedBeatModel", "goOnOr", "()V"⟩, 50) := ⟨⟨by decide +kernel, by decide +kernel⟩, List.mem_of_getElem? (i := 1067) (by decide +kernel), List.mem_of_getElem? (i := 1348) (by decide +kernel), List.mem_of_getElem? (i := 1349) (by decide +kernel)⟩
theorem lw_p59 : lw_okq (⟨"BorrowedBeatModel", "atEnd", "()I"⟩, 50) := ⟨⟨by decide +kernel, by decide +kernel⟩, List.mem_of_getElem? (i := 1067) (by decide +kernel), List.mem_of_getElem? (i := 1352) (by decide +kernel), List.mem_of_getElem? (i := 1353) (by decide +kernel)⟩
theorem lw_p60 : lw_okq (⟨"BorrowedBeatModel", "takeTown", "()I"⟩, 50) := ⟨⟨by decide +kernel, by decide +kernel⟩, List.mem_of_getElem? (i := 1067) (by decide +kernel), List.mem_of_getElem? (i := 1360) (by decide +kernel), List.mem_of_getElem? (i := 1361) (by decide +kernel)⟩
theorem lw_p61 : lw_okq (⟨"BorrowedBeatModel", "isPlayer", "(I)Z"⟩, 50) := ⟨⟨by decide +kernel, by decide +kernel⟩, List.mem_of_getElem? (i := 1067) (by decide +kernel), List.mem_of_getElem? (i := 1368) (by decide +kernel), List.mem_of_getElem? (i := 1369) (by decide +kernel)⟩
theorem lw_p62 : lw_okq (⟨"BorrowedBeatModel", "of", "(II)I"⟩, 50) := ⟨⟨by decide +kernel, by decide +kernel⟩, List.mem_of_getElem? (i := 1067) (by decide +kernel), List.mem_of_getElem? (i := 1372) (by decide +kernel), List.mem_of_getElem? (i := 1373) (by decide +kernel)⟩
theorem lw_p63 : lw_okq (⟨"BorrowedBeatModel", "dampOf", "(I)I"⟩, 50) := ⟨⟨by decide +kernel, by decide +kernel⟩, List.mem_of_getElem? (i := 1067) (by decide +kernel), List.mem_of_getElem? (i := 1392) (by decide +kernel), List.mem_of_getElem? (i := 1393) (by decide +kernel)⟩
def lw_privs_4 : List (MethodName × Nat) := [(⟨"BorrowedBeatModel", "unit", "()V"⟩, 50), (⟨"BorrowedBeatModel", "opens", "()V"⟩, 50), (⟨"BorrowedBeatModel", "put", "(II)V"⟩, 50), (⟨"BorrowedBeatModel", "closes", "(I)V"⟩, 50), (⟨"BorrowedBeatModel", "sum", "()V"⟩, 50), (⟨"BorrowedBeatModel", "term", "()V"⟩, 50), (⟨"BorrowedBeatModel", "atom", "()V"⟩, 50), (⟨"BorrowedBeatModel", "plainNumber", "()I"⟩, 50), (⟨"BorrowedBeatModel", "compare", "()V"⟩, 50), (⟨"BorrowedBeatModel", "goOnAnd", "()V"⟩, 50), (⟨"BorrowedBeatModel", "goOnOr", "()V"⟩, 50), (⟨"BorrowedBeatModel", "atEnd", "()I"⟩, 50), (⟨"BorrowedBeatModel", "takeTown", "()I"⟩, 50), (⟨"BorrowedBeatModel", "isPlayer", "(I)Z"⟩, 50), (⟨"BorrowedBeatModel", "of", "(II)I"⟩, 50), (⟨"BorrowedBeatModel", "dampOf", "(I)I"⟩, 50)]
theorem lw_r4 : ∀ q ∈ lw_privs_4, lw_okq q := List.forall_mem_cons.mpr ⟨lw_p48, List.forall_mem_cons.mpr ⟨lw_p49, List.forall_mem_cons.mpr ⟨lw_p50, List.forall_mem_cons.mpr ⟨lw_p51, List.forall_mem_cons.mpr ⟨lw_p52, List.forall_mem_cons.mpr ⟨lw_p53, List.forall_mem_cons.mpr ⟨lw_p54, List.forall_mem_cons.mpr ⟨lw_p55, List.forall_mem_cons.mpr ⟨lw_p56, List.forall_mem_cons.mpr ⟨lw_p57, List.forall_mem_cons.mpr ⟨lw_p58, List.forall_mem_cons.mpr ⟨lw_p59, List.forall_mem_cons.mpr ⟨lw_p60, List.forall_mem_cons.mpr ⟨lw_p61, List.forall_mem_cons.mpr ⟨lw_p62, List.forall_mem_cons.mpr ⟨lw_p63, fun _ h => absurd h List.not_mem_nil⟩⟩⟩⟩⟩⟩⟩⟩⟩⟩⟩⟩⟩⟩⟩⟩
theorem lw_p64 : lw_okq (⟨"BorrowedBeatModel", "worthOf", "(I)I"⟩, 50) := ⟨⟨by decide +kernel, by decide +kernel⟩, List.mem_of_getElem? (i := 1067) (by decide +kernel), List.mem_of_getElem? (i := 1396) (by decide +kernel), List.mem_of_getElem? (i := 1397) (by decide +kernel)⟩
theorem lw_p65 : lw_okq (⟨"BorrowedBeatModel", "workOut", "(III)I"⟩, 50) := ⟨⟨by decide +kernel, by decide +kernel⟩, List.mem_of_getElem? (i := 1067) (by decide +kernel), List.mem_of_getElem? (i := 1400) (by decide +kernel), List.mem_of_getElem? (i := 1401) (by decide +kernel)⟩
theorem lw_p66 : lw_okq (⟨"BorrowedBeatModel", "pass", "(II)V"⟩, 50) := ⟨⟨by decide +kernel, by decide +kernel⟩, List.mem_of_getElem? (i := 1067) (by decide +kernel), List.mem_of_getElem? (i := 1420) (by decide +kernel), List.mem_of_getElem? (i := 1421) (by decide +kernel)⟩
theorem lw_p67 : lw_okq (⟨"BorrowedBeatModel", "isBar", "(I)Z"⟩, 50) := ⟨⟨by decide +kernel, by decide +kernel⟩, List.mem_of_getElem? (i := 1067) (by decide +kernel), List.mem_of_getElem? (i := 1432) (by decide +kernel), List.mem_of_getElem? (i := 1433) (by decide +kernel)⟩
theorem lw_p68 : lw_okq (⟨"BorrowedBeatModel", "play", "()V"⟩, 50) := ⟨⟨by decide +kernel, by decide +kernel⟩, List.mem_of_getElem? (i := 1067) (by decide +kernel), List.mem_of_getElem? (i := 1436) (by decide +kernel), List.mem_of_getElem? (i := 1437) (by decide +kernel)⟩
theorem lw_p69 : lw_okq (⟨"BorrowedBeatModel", "layBeats", "(I)V"⟩, 50) := ⟨⟨by decide +kernel, by decide +kernel⟩, List.mem_of_getElem? (i := 1067) (by decide +kernel), List.mem_of_getElem? (i := 1440) (by decide +kernel), List.mem_of_getElem? (i := 1441) (by decide +kernel)⟩
theorem lw_p70 : lw_okq (⟨"BorrowedBeatModel", "beatBehind", "(II)I"⟩, 50) := ⟨⟨by decide +kernel, by decide +kernel⟩, List.mem_of_getElem? (i := 1067) (by decide +kernel), List.mem_of_getElem? (i := 1444) (by decide +kernel), List.mem_of_getElem? (i := 1445) (by decide +kernel)⟩
theorem lw_p71 : lw_okq (⟨"BorrowedBeatModel", "spreadAt", "(I)I"⟩, 50) := ⟨⟨by decide +kernel, by decide +kernel⟩, List.mem_of_getElem? (i := 1067) (by decide +kernel), List.mem_of_getElem? (i := 1452) (by decide +kernel), List.mem_of_getElem? (i := 1453) (by decide +kernel)⟩
theorem lw_p72 : lw_okq (⟨"BorrowedBeatModel", "worstNow", "()I"⟩, 50) := ⟨⟨by decide +kernel, by decide +kernel⟩, List.mem_of_getElem? (i := 1067) (by decide +kernel), List.mem_of_getElem? (i := 1460) (by decide +kernel), List.mem_of_getElem? (i := 1461) (by decide +kernel)⟩
theorem lw_p73 : lw_okq (⟨"BorrowedBeatModel", "worstBar", "()I"⟩, 50) := ⟨⟨by decide +kernel, by decide +kernel⟩, List.mem_of_getElem? (i := 1067) (by decide +kernel), List.mem_of_getElem? (i := 1464) (by decide +kernel), List.mem_of_getElem? (i := 1465) (by decide +kernel)⟩
theorem lw_p74 : lw_okq (⟨"BorrowedBeatModel", "lastAt", "(I)I"⟩, 50) := ⟨⟨by decide +kernel, by decide +kernel⟩, List.mem_of_getElem? (i := 1067) (by decide +kernel), List.mem_of_getElem? (i := 1476) (by decide +kernel), List.mem_of_getElem? (i := 1477) (by decide +kernel)⟩
theorem lw_p75 : lw_okq (⟨"BorrowedBeatModel", "areLike", "(II)Z"⟩, 50) := ⟨⟨by decide +kernel, by decide +kernel⟩, List.mem_of_getElem? (i := 1067) (by decide +kernel), List.mem_of_getElem? (i := 1484) (by decide +kernel), List.mem_of_getElem? (i := 1485) (by decide +kernel)⟩
theorem lw_p76 : lw_okq (⟨"BorrowedBeatModel", "weekFrom", "(II)V"⟩, 50) := ⟨⟨by decide +kernel, by decide +kernel⟩, List.mem_of_getElem? (i := 1067) (by decide +kernel), List.mem_of_getElem? (i := 1500) (by decide +kernel), List.mem_of_getElem? (i := 1501) (by decide +kernel)⟩
theorem lw_p77 : lw_okq (⟨"BorrowedBeatModel", "keepBeats", "(I)V"⟩, 50) := ⟨⟨by decide +kernel, by decide +kernel⟩, List.mem_of_getElem? (i := 1067) (by decide +kernel), List.mem_of_getElem? (i := 1504) (by decide +kernel), List.mem_of_getElem? (i := 1505) (by decide +kernel)⟩
theorem lw_p78 : lw_okq (⟨"BorrowedBeatModel", "takeBeats", "(I)V"⟩, 50) := ⟨⟨by decide +kernel, by decide +kernel⟩, List.mem_of_getElem? (i := 1067) (by decide +kernel), List.mem_of_getElem? (i := 1508) (by decide +kernel), List.mem_of_getElem? (i := 1509) (by decide +kernel)⟩
theorem lw_p79 : lw_okq (⟨"BorrowedBeatModel", "marksFrom", "(I)V"⟩, 50) := ⟨⟨by decide +kernel, by decide +kernel⟩, List.mem_of_getElem? (i := 1067) (by decide +kernel), List.mem_of_getElem? (i := 1521) (by decide +kernel), List.mem_of_getElem? (i := 1522) (by decide +kernel)⟩
def lw_privs_5 : List (MethodName × Nat) := [(⟨"BorrowedBeatModel", "worthOf", "(I)I"⟩, 50), (⟨"BorrowedBeatModel", "workOut", "(III)I"⟩, 50), (⟨"BorrowedBeatModel", "pass", "(II)V"⟩, 50), (⟨"BorrowedBeatModel", "isBar", "(I)Z"⟩, 50), (⟨"BorrowedBeatModel", "play", "()V"⟩, 50), (⟨"BorrowedBeatModel", "layBeats", "(I)V"⟩, 50), (⟨"BorrowedBeatModel", "beatBehind", "(II)I"⟩, 50), (⟨"BorrowedBeatModel", "spreadAt", "(I)I"⟩, 50), (⟨"BorrowedBeatModel", "worstNow", "()I"⟩, 50), (⟨"BorrowedBeatModel", "worstBar", "()I"⟩, 50), (⟨"BorrowedBeatModel", "lastAt", "(I)I"⟩, 50), (⟨"BorrowedBeatModel", "areLike", "(II)Z"⟩, 50), (⟨"BorrowedBeatModel", "weekFrom", "(II)V"⟩, 50), (⟨"BorrowedBeatModel", "keepBeats", "(I)V"⟩, 50), (⟨"BorrowedBeatModel", "takeBeats", "(I)V"⟩, 50), (⟨"BorrowedBeatModel", "marksFrom", "(I)V"⟩, 50)]
theorem lw_r5 : ∀ q ∈ lw_privs_5, lw_okq q := List.forall_mem_cons.mpr ⟨lw_p64, List.forall_mem_cons.mpr ⟨lw_p65, List.forall_mem_cons.mpr ⟨lw_p66, List.forall_mem_cons.mpr ⟨lw_p67, List.forall_mem_cons.mpr ⟨lw_p68, List.forall_mem_cons.mpr ⟨lw_p69, List.forall_mem_cons.mpr ⟨lw_p70, List.forall_mem_cons.mpr ⟨lw_p71, List.forall_mem_cons.mpr ⟨lw_p72, List.forall_mem_cons.mpr ⟨lw_p73, List.forall_mem_cons.mpr ⟨lw_p74, List.forall_mem_cons.mpr ⟨lw_p75, List.forall_mem_cons.mpr ⟨lw_p76, List.forall_mem_cons.mpr ⟨lw_p77, List.forall_mem_cons.mpr ⟨lw_p78, List.forall_mem_cons.mpr ⟨lw_p79, fun _ h => absurd h List.not_mem_nil⟩⟩⟩⟩⟩⟩⟩⟩⟩⟩⟩⟩⟩⟩⟩⟩
theorem lw_p80 : lw_okq (⟨"BorrowedBeatModel", "oddsFrom", "(III)I"⟩, 50) := ⟨⟨by decide +kernel, by decide +kernel⟩, List.mem_of_getElem? (i := 1067) (by decide +kernel), List.mem_of_getElem? (i := 1529) (by decide +kernel), List.mem_of_getElem? (i := 1530) (by decide +kernel)⟩
theorem lw_p81 : lw_okq (⟨"BorrowedBeatModel", "isAloneLast", "(I)Z"⟩, 50) := ⟨⟨by decide +kernel, by decide +kernel⟩, List.mem_of_getElem? (i := 1067) (by decide +kernel), List.mem_of_getElem? (i := 1537) (by decide +kernel), List.mem_of_getElem? (i := 1538) (by decide +kernel)⟩
theorem lw_p82 : lw_okq (⟨"BorrowedBeatModel", "agrees", "()Z"⟩, 50) := ⟨⟨by decide +kernel, by decide +kernel⟩, List.mem_of_getElem? (i := 1067) (by decide +kernel), List.mem_of_getElem? (i := 1549) (by decide +kernel), List.mem_of_getElem? (i := 1550) (by decide +kernel)⟩
theorem lw_p83 : lw_okq (⟨"BorrowedBeatModel", "aheadAt", "(III)I"⟩, 50) := ⟨⟨by decide +kernel, by decide +kernel⟩, List.mem_of_getElem? (i := 1067) (by decide +kernel), List.mem_of_getElem? (i := 1578) (by decide +kernel), List.mem_of_getElem? (i := 1579) (by decide +kernel)⟩
def lw_privs_6 : List (MethodName × Nat) := [(⟨"BorrowedBeatModel", "oddsFrom", "(III)I"⟩, 50), (⟨"BorrowedBeatModel", "isAloneLast", "(I)Z"⟩, 50), (⟨"BorrowedBeatModel", "agrees", "()Z"⟩, 50), (⟨"BorrowedBeatModel", "aheadAt", "(III)I"⟩, 50)]
theorem lw_r6 : ∀ q ∈ lw_privs_6, lw_okq q := List.forall_mem_cons.mpr ⟨lw_p80, List.forall_mem_cons.mpr ⟨lw_p81, List.forall_mem_cons.mpr ⟨lw_p82, List.forall_mem_cons.mpr ⟨lw_p83, fun _ h => absurd h List.not_mem_nil⟩⟩⟩⟩
def lw_privs : List (MethodName × Nat) := lw_privs_1 ++ (lw_privs_2 ++ (lw_privs_3 ++ (lw_privs_4 ++ (lw_privs_5 ++ (lw_privs_6)))))
def lw_tbl : List Cond := k2_sels lw_privs ++ tables_1
theorem lw_privs_ok : ∀ q ∈ lw_privs, lw_okq q := by
  show ∀ q ∈ lw_privs_1 ++ (lw_privs_2 ++ (lw_privs_3 ++ (lw_privs_4 ++ (lw_privs_5 ++ (lw_privs_6))))), lw_okq q
  exact List.forall_mem_append.mpr ⟨lw_r1, List.forall_mem_append.mpr ⟨lw_r2, List.forall_mem_append.mpr ⟨lw_r3, List.forall_mem_append.mpr ⟨lw_r4, List.forall_mem_append.mpr ⟨lw_r5, lw_r6⟩⟩⟩⟩⟩
def RX0 : String := "BorrowedBeat$Diary"
def TX0 : u_T := fun k => match k with
  | 0 => ("BorrowedBeat$Diary", "today", "I", false)
  | 1 => ("BorrowedBeat$Diary", "undoable", "I", false)
  | 2 => ("BorrowedBeat$Diary", "hasImage", "Z", false)
  | 3 => ("BorrowedBeat$Diary", "imageDay", "I", false)
  | 4 => ("BorrowedBeat$Diary", "next", "I", false)
  | 5 => ("BorrowedBeat$Diary", "imageBeats", "[I", true)
  | _ => ("BorrowedBeat$Diary", "rows", "[I", true)
def tyX0 : Nat → FieldType := fun k => match k with
  | 0 => .int
  | 1 => .int
  | 2 => .boolean
  | 3 => .int
  | 4 => .int
  | 5 => .array .int
  | _ => .array .int
theorem nmX0 : ∀ a, a < 7 → ∀ b, b < 7 → a ≠ b → (TX0 a).2.1 ≠ (TX0 b).2.1 := by decide +kernel
theorem tyX0_ok : ∀ k, k < 7 → parseFieldDescriptor (TX0 k).2.2.1 = some (tyX0 k) := by decide +kernel
abbrev cX0_init : ByteArray := prog_2_method_1_code
def yX0_init : MethodName := ⟨RX0, "<init>", "()V"⟩
abbrev cX0_open : ByteArray := prog_2_method_2_code
def yX0_open : MethodName := ⟨RX0, "open", "()V"⟩
abbrev cX0_keep : ByteArray := prog_2_method_3_code
def yX0_keep : MethodName := ⟨RX0, "keep", "([I)V"⟩
abbrev cX0_takeBack : ByteArray := prog_2_method_4_code
def yX0_takeBack : MethodName := ⟨RX0, "takeBack", "([I)V"⟩
abbrev cX0_takeImage : ByteArray := prog_2_method_5_code
def yX0_takeImage : MethodName := ⟨RX0, "takeImage", "([I)V"⟩
abbrev cX0_comeBack : ByteArray := prog_2_method_6_code
def yX0_comeBack : MethodName := ⟨RX0, "comeBack", "([I)V"⟩
def RX1 : String := "BorrowedBeat$Law"
def TX1 : u_T := fun k => match k with
  | 0 => ("BorrowedBeat$Law", "code", "[I", true)
  | 1 => ("BorrowedBeat$Law", "stack", "[I", true)
  | 2 => ("BorrowedBeat$Law", "kept", "[I", true)
  | 3 => ("BorrowedBeat$Law", "top", "I", false)
  | _ => ("BorrowedBeat$Law", "known", "I", false)
def tyX1 : Nat → FieldType := fun k => match k with
  | 0 => .array .int
  | 1 => .array .int
  | 2 => .array .int
  | 3 => .int
  | _ => .int
theorem nmX1 : ∀ a, a < 5 → ∀ b, b < 5 → a ≠ b → (TX1 a).2.1 ≠ (TX1 b).2.1 := by decide +kernel
theorem tyX1_ok : ∀ k, k < 5 → parseFieldDescriptor (TX1 k).2.2.1 = some (tyX1 k) := by decide +kernel
abbrev cX1_init : ByteArray := prog_3_method_1_code
def yX1_init : MethodName := ⟨RX1, "<init>", "([I)V"⟩
abbrev cX1_forget : ByteArray := prog_3_method_2_code
def yX1_forget : MethodName := ⟨RX1, "forget", "()V"⟩
abbrev cX1_wetness : ByteArray := prog_3_method_3_code
def yX1_wetness : MethodName := ⟨RX1, "wetness", "(ILBorrowedBeat$Town;)I"⟩
abbrev cX1_worth : ByteArray := prog_3_method_4_code
def yX1_worth : MethodName := ⟨RX1, "worth", "(IILBorrowedBeat$Town;)I"⟩
abbrev cX1_work : ByteArray := prog_3_method_5_code
def yX1_work : MethodName := ⟨RX1, "work", "(IIILBorrowedBeat$Town;)V"⟩
abbrev cX1_joined : ByteArray := prog_3_method_6_code
def yX1_joined : MethodName := ⟨RX1, "joined", "(III)I"⟩
abbrev cX1_push : ByteArray := prog_3_method_7_code
def yX1_push : MethodName := ⟨RX1, "push", "(I)V"⟩
abbrev cX1_pop : ByteArray := prog_3_method_8_code
def yX1_pop : MethodName := ⟨RX1, "pop", "()I"⟩
def RX2 : String := "BorrowedBeat$LawReader"
def TX2 : u_T := fun k => match k with
  | 0 => ("BorrowedBeat$Reader", "tape", "LBorrowedBeat$Tape;", true)
  | 1 => ("BorrowedBeat$Reader", "at", "I", false)
  | 2 => ("BorrowedBeat$Reader", "faultAt", "I", false)
  | 3 => ("BorrowedBeat$LawReader", "code", "[I", true)
  | _ => ("BorrowedBeat$LawReader", "length", "I", false)
def tyX2 : Nat → FieldType := fun k => match k with
  | 0 => .object "BorrowedBeat$Tape"
  | 1 => .int
  | 2 => .int
  | 3 => .array .int
  | _ => .int
theorem nmX2 : ∀ a, a < 5 → ∀ b, b < 5 → a ≠ b → (TX2 a).2.1 ≠ (TX2 b).2.1 := by decide +kernel
theorem tyX2_ok : ∀ k, k < 5 → parseFieldDescriptor (TX2 k).2.2.1 = some (tyX2 k) := by decide +kernel
abbrev cX2_init : ByteArray := prog_4_method_1_code
def yX2_init : MethodName := ⟨RX2, "<init>", "(LBorrowedBeat$Tape;)V"⟩
abbrev cX2_clear : ByteArray := prog_4_method_2_code
def yX2_clear : MethodName := ⟨RX2, "clear", "()V"⟩
abbrev cX2_isWhole : ByteArray := prog_4_method_3_code
def yX2_isWhole : MethodName := ⟨RX2, "isWhole", "()Z"⟩
abbrev cX2_toLaw : ByteArray := prog_4_method_4_code
def yX2_toLaw : MethodName := ⟨RX2, "toLaw", "()LBorrowedBeat$Law;"⟩
abbrev cX2_emit : ByteArray := prog_4_method_5_code
def yX2_emit : MethodName := ⟨RX2, "emit", "(I)Z"⟩
abbrev cX2_readClause : ByteArray := prog_4_method_6_code
def yX2_readClause : MethodName := ⟨RX2, "readClause", "()Z"⟩
abbrev cX2_sumBehindCondition : ByteArray := prog_4_method_7_code
def yX2_sumBehindCondition : MethodName := ⟨RX2, "sumBehindCondition", "()Z"⟩
abbrev cX2_condition : ByteArray := prog_4_method_8_code
def yX2_condition : MethodName := ⟨RX2, "condition", "(I)Z"⟩
abbrev cX2_moreUnits : ByteArray := prog_4_method_9_code
def yX2_moreUnits : MethodName := ⟨RX2, "moreUnits", "(I)Z"⟩
abbrev cX2_unit : ByteArray := prog_4_method_10_code
def yX2_unit : MethodName := ⟨RX2, "unit", "(I)Z"⟩
abbrev cX2_negated : ByteArray := prog_4_method_11_code
def yX2_negated : MethodName := ⟨RX2, "negated", "(I)Z"⟩
abbrev cX2_comparison : ByteArray := prog_4_method_12_code
def yX2_comparison : MethodName := ⟨RX2, "comparison", "(I)Z"⟩
abbrev cX2_isComparison : ByteArray := prog_4_method_13_code
def yX2_isComparison : MethodName := ⟨RX2, "isComparison", "(I)Z"⟩
abbrev cX2_sum : ByteArray := prog_4_method_14_code
def yX2_sum : MethodName := ⟨RX2, "sum", "(I)Z"⟩
abbrev cX2_atom : ByteArray := prog_4_method_15_code
def yX2_atom : MethodName := ⟨RX2, "atom", "(I)Z"⟩
def RX3 : String := "BorrowedBeat$MarkSearch"
def TX3 : u_T := fun k => match k with
  | 0 => ("BorrowedBeat$MarkSearch", "fewest", "I", false)
  | 1 => ("BorrowedBeat$MarkSearch", "bits", "I", false)
  | 2 => ("BorrowedBeat$MarkSearch", "counts", "[I", true)
  | 3 => ("BorrowedBeat$MarkSearch", "masks", "[I", true)
  | _ => ("BorrowedBeat$MarkSearch", "sums", "[I", true)
def tyX3 : Nat → FieldType := fun k => match k with
  | 0 => .int
  | 1 => .int
  | 2 => .array .int
  | 3 => .array .int
  | _ => .array .int
theorem nmX3 : ∀ a, a < 5 → ∀ b, b < 5 → a ≠ b → (TX3 a).2.1 ≠ (TX3 b).2.1 := by decide +kernel
theorem tyX3_ok : ∀ k, k < 5 → parseFieldDescriptor (TX3 k).2.2.1 = some (tyX3 k) := by decide +kernel
abbrev cX3_init : ByteArray := prog_5_method_1_code
def yX3_init : MethodName := ⟨RX3, "<init>", "()V"⟩
abbrev cX3_find : ByteArray := prog_5_method_2_code
def yX3_find : MethodName := ⟨RX3, "find", "(LBorrowedBeat$Play;LBorrowedBeat$Score;I)Z"⟩
abbrev cX3_goOnFrom : ByteArray := prog_5_method_3_code
def yX3_goOnFrom : MethodName := ⟨RX3, "goOnFrom", "(ILBorrowedBeat$Play;LBorrowedBeat$Score;I)V"⟩
abbrev cX3_spreadBehind : ByteArray := prog_5_method_4_code
def yX3_spreadBehind : MethodName := ⟨RX3, "spreadBehind", "(ILBorrowedBeat$Play;LBorrowedBeat$Score;)I"⟩
abbrev cX3_endBetter : ByteArray := prog_5_method_5_code
def yX3_endBetter : MethodName := ⟨RX3, "endBetter", "(II)V"⟩
abbrev cX3_markBetter : ByteArray := prog_5_method_6_code
def yX3_markBetter : MethodName := ⟨RX3, "markBetter", "(III)V"⟩
def RX4 : String := "BorrowedBeat$Play"
def TX4 : u_T := fun k => match k with
  | 0 => ("BorrowedBeat$Play", "beats", "[I", true)
  | 1 => ("BorrowedBeat$Play", "times", "[I", true)
  | 2 => ("BorrowedBeat$Play", "waited", "[I", true)
  | 3 => ("BorrowedBeat$Play", "spreads", "[I", true)
  | 4 => ("BorrowedBeat$Play", "settledFrom", "I", false)
  | 5 => ("BorrowedBeat$Play", "settledLength", "I", false)
  | 6 => ("BorrowedBeat$Play", "players", "I", false)
  | 7 => ("BorrowedBeat$Play", "bars", "I", false)
  | _ => ("BorrowedBeat$Play", "marked", "I", false)
def tyX4 : Nat → FieldType := fun k => match k with
  | 0 => .array .int
  | 1 => .array .int
  | 2 => .array .int
  | 3 => .array .int
  | 4 => .int
  | 5 => .int
  | 6 => .int
  | 7 => .int
  | _ => .int
theorem nmX4 : ∀ a, a < 9 → ∀ b, b < 9 → a ≠ b → (TX4 a).2.1 ≠ (TX4 b).2.1 := by decide +kernel
theorem tyX4_ok : ∀ k, k < 9 → parseFieldDescriptor (TX4 k).2.2.1 = some (tyX4 k) := by decide +kernel
abbrev cX4_init : ByteArray := prog_6_method_1_code
def yX4_init : MethodName := ⟨RX4, "<init>", "()V"⟩
abbrev cX4_perform : ByteArray := prog_6_method_2_code
def yX4_perform : MethodName := ⟨RX4, "perform", "(LBorrowedBeat$Score;I)I"⟩
abbrev cX4_open : ByteArray := prog_6_method_3_code
def yX4_open : MethodName := ⟨RX4, "open", "(LBorrowedBeat$Score;)V"⟩
abbrev cX4_goOn : ByteArray := prog_6_method_4_code
def yX4_goOn : MethodName := ⟨RX4, "goOn", "(LBorrowedBeat$Score;I)V"⟩
abbrev cX4_playBar : ByteArray := prog_6_method_5_code
def yX4_playBar : MethodName := ⟨RX4, "playBar", "(LBorrowedBeat$Score;I)I"⟩
abbrev cX4_beatIn : ByteArray := prog_6_method_6_code
def yX4_beatIn : MethodName := ⟨RX4, "beatIn", "(II)I"⟩
abbrev cX4_aheadOfWaiting : ByteArray := prog_6_method_7_code
def yX4_aheadOfWaiting : MethodName := ⟨RX4, "aheadOfWaiting", "(II)I"⟩
abbrev cX4_behindWaiting : ByteArray := prog_6_method_8_code
def yX4_behindWaiting : MethodName := ⟨RX4, "behindWaiting", "(II)I"⟩
abbrev cX4_greatestIn : ByteArray := prog_6_method_9_code
def yX4_greatestIn : MethodName := ⟨RX4, "greatestIn", "(I)I"⟩
abbrev cX4_lastIn : ByteArray := prog_6_method_10_code
def yX4_lastIn : MethodName := ⟨RX4, "lastIn", "(I)I"⟩
abbrev cX4_isAloneLast : ByteArray := prog_6_method_11_code
def yX4_isAloneLast : MethodName := ⟨RX4, "isAloneLast", "(II)Z"⟩
abbrev cX4_firstSpreadAbove : ByteArray := prog_6_method_12_code
def yX4_firstSpreadAbove : MethodName := ⟨RX4, "firstSpreadAbove", "(I)I"⟩
abbrev cX4_inPlace : ByteArray := prog_6_method_13_code
def yX4_inPlace : MethodName := ⟨RX4, "inPlace", "(II)I"⟩
abbrev cX4_placeOf : ByteArray := prog_6_method_14_code
def yX4_placeOf : MethodName := ⟨RX4, "placeOf", "(II)I"⟩
abbrev cX4_turns : ByteArray := prog_6_method_15_code
def yX4_turns : MethodName := ⟨RX4, "turns", "(II)I"⟩
abbrev cX4_order : ByteArray := prog_6_method_16_code
def yX4_order : MethodName := ⟨RX4, "order", "(III)I"⟩
abbrev cX4_innermost : ByteArray := prog_6_method_17_code
def yX4_innermost : MethodName := ⟨RX4, "innermost", "()I"⟩
abbrev cX4_apartFromAll : ByteArray := prog_6_method_18_code
def yX4_apartFromAll : MethodName := ⟨RX4, "apartFromAll", "(II)I"⟩
abbrev cX4_firstChange : ByteArray := prog_6_method_19_code
def yX4_firstChange : MethodName := ⟨RX4, "firstChange", "(II)I"⟩
abbrev cX4_settles : ByteArray := prog_6_method_20_code
def yX4_settles : MethodName := ⟨RX4, "settles", "(LBorrowedBeat$Score;)Z"⟩
abbrev cX4_soundsLike : ByteArray := prog_6_method_21_code
def yX4_soundsLike : MethodName := ⟨RX4, "soundsLike", "(II)Z"⟩
def RX5 : String := "BorrowedBeat$Reader"
def TX5 : u_T := fun k => match k with
  | _ => ("", "", "", false)
def tyX5 : Nat → FieldType := fun k => match k with
  | _ => .int
theorem nmX5 : ∀ a, a < 0 → ∀ b, b < 0 → a ≠ b → (TX5 a).2.1 ≠ (TX5 b).2.1 := by decide +kernel
theorem tyX5_ok : ∀ k, k < 0 → parseFieldDescriptor (TX5 k).2.2.1 = some (tyX5 k) := by decide +kernel
abbrev cX5_init : ByteArray := prog_7_method_1_code
def yX5_init : MethodName := ⟨RX5, "<init>", "(LBorrowedBeat$Tape;)V"⟩
abbrev cX5_read : ByteArray := prog_7_method_5_code
def yX5_read : MethodName := ⟨RX5, "read", "()I"⟩
abbrev cX5_nextClause : ByteArray := prog_7_method_6_code
def yX5_nextClause : MethodName := ⟨RX5, "nextClause", "()Z"⟩
abbrev cX5_peek : ByteArray := prog_7_method_7_code
def yX5_peek : MethodName := ⟨RX5, "peek", "()I"⟩
abbrev cX5_take : ByteArray := prog_7_method_8_code
def yX5_take : MethodName := ⟨RX5, "take", "(I)Z"⟩
abbrev cX5_fail : ByteArray := prog_7_method_9_code
def yX5_fail : MethodName := ⟨RX5, "fail", "()Z"⟩
abbrev cX5_readNumber : ByteArray := prog_7_method_10_code
def yX5_readNumber : MethodName := ⟨RX5, "readNumber", "(III)I"⟩
abbrev cX5_isDigit : ByteArray := prog_7_method_11_code
def yX5_isDigit : MethodName := ⟨RX5, "isDigit", "(I)Z"⟩
def RX6 : String := "BorrowedBeat$Score"
def TX6 : u_T := fun k => match k with
  | 0 => ("BorrowedBeat$Score", "players", "I", false)
  | 1 => ("BorrowedBeat$Score", "bars", "I", false)
  | 2 => ("BorrowedBeat$Score", "echo", "I", false)
  | 3 => ("BorrowedBeat$Score", "marked", "I", false)
  | 4 => ("BorrowedBeat$Score", "beats", "[I", true)
  | 5 => ("BorrowedBeat$Score", "follows", "[I", true)
  | 6 => ("BorrowedBeat$Score", "hows", "[I", true)
  | _ => ("BorrowedBeat$Score", "lates", "[I", true)
def tyX6 : Nat → FieldType := fun k => match k with
  | 0 => .int
  | 1 => .int
  | 2 => .int
  | 3 => .int
  | 4 => .array .int
  | 5 => .array .int
  | 6 => .array .int
  | _ => .array .int
theorem nmX6 : ∀ a, a < 8 → ∀ b, b < 8 → a ≠ b → (TX6 a).2.1 ≠ (TX6 b).2.1 := by decide +kernel
theorem tyX6_ok : ∀ k, k < 8 → parseFieldDescriptor (TX6 k).2.2.1 = some (tyX6 k) := by decide +kernel
abbrev cX6_init : ByteArray := prog_8_method_1_code
def yX6_init : MethodName := ⟨RX6, "<init>", "()V"⟩
abbrev cX6_open : ByteArray := prog_8_method_2_code
def yX6_open : MethodName := ⟨RX6, "open", "(LBorrowedBeat$Town;)V"⟩
abbrev cX6_copyFrom : ByteArray := prog_8_method_3_code
def yX6_copyFrom : MethodName := ⟨RX6, "copyFrom", "(LBorrowedBeat$Score;)V"⟩
abbrev cX6_isMarked : ByteArray := prog_8_method_4_code
def yX6_isMarked : MethodName := ⟨RX6, "isMarked", "(I)Z"⟩
abbrev cX6_aheadOf : ByteArray := prog_8_method_5_code
def yX6_aheadOf : MethodName := ⟨RX6, "aheadOf", "(II)I"⟩
def RX7 : String := "BorrowedBeat$Tape"
def TX7 : u_T := fun k => match k with
  | 0 => ("BorrowedBeat$Tape", "bytes", "[I", true)
  | _ => ("BorrowedBeat$Tape", "length", "I", false)
def tyX7 : Nat → FieldType := fun k => match k with
  | 0 => .array .int
  | _ => .int
theorem nmX7 : ∀ a, a < 2 → ∀ b, b < 2 → a ≠ b → (TX7 a).2.1 ≠ (TX7 b).2.1 := by decide +kernel
theorem tyX7_ok : ∀ k, k < 2 → parseFieldDescriptor (TX7 k).2.2.1 = some (tyX7 k) := by decide +kernel
abbrev cX7_init : ByteArray := prog_9_method_1_code
def yX7_init : MethodName := ⟨RX7, "<init>", "()V"⟩
abbrev cX7_bytesIn : ByteArray := prog_9_method_2_code
def yX7_bytesIn : MethodName := ⟨RX7, "bytesIn", "(I)I"⟩
abbrev cX7_push : ByteArray := prog_9_method_3_code
def yX7_push : MethodName := ⟨RX7, "push", "(I)V"⟩
def RX8 : String := "BorrowedBeat$Town"
def TX8 : u_T := fun k => match k with
  | 0 => ("BorrowedBeat$Town", "players", "I", false)
  | 1 => ("BorrowedBeat$Town", "metronome", "I", false)
  | 2 => ("BorrowedBeat$Town", "beats", "[I", true)
  | 3 => ("BorrowedBeat$Town", "drifts", "[I", true)
  | 4 => ("BorrowedBeat$Town", "kinds", "[I", true)
  | 5 => ("BorrowedBeat$Town", "follows", "[I", true)
  | _ => ("BorrowedBeat$Town", "hows", "[I", true)
def tyX8 : Nat → FieldType := fun k => match k with
  | 0 => .int
  | 1 => .int
  | 2 => .array .int
  | 3 => .array .int
  | 4 => .array .int
  | 5 => .array .int
  | _ => .array .int
theorem nmX8 : ∀ a, a < 7 → ∀ b, b < 7 → a ≠ b → (TX8 a).2.1 ≠ (TX8 b).2.1 := by decide +kernel
theorem tyX8_ok : ∀ k, k < 7 → parseFieldDescriptor (TX8 k).2.2.1 = some (tyX8 k) := by decide +kernel
abbrev cX8_init : ByteArray := prog_10_method_1_code
def yX8_init : MethodName := ⟨RX8, "<init>", "()V"⟩
abbrev cX8_clear : ByteArray := prog_10_method_2_code
def yX8_clear : MethodName := ⟨RX8, "clear", "()V"⟩
abbrev cX8_addPlayer : ByteArray := prog_10_method_3_code
def yX8_addPlayer : MethodName := ⟨RX8, "addPlayer", "()V"⟩
abbrev cX8_put : ByteArray := prog_10_method_4_code
def yX8_put : MethodName := ⟨RX8, "put", "(III)V"⟩
abbrev cX8_copyFrom : ByteArray := prog_10_method_5_code
def yX8_copyFrom : MethodName := ⟨RX8, "copyFrom", "(LBorrowedBeat$Town;)V"⟩
abbrev cX8_drifted : ByteArray := prog_10_method_6_code
def yX8_drifted : MethodName := ⟨RX8, "drifted", "(IIII)I"⟩
abbrev cX8_goThroughDay : ByteArray := prog_10_method_7_code
def yX8_goThroughDay : MethodName := ⟨RX8, "goThroughDay", "([III)V"⟩
def RX9 : String := "BorrowedBeat$TownReader"
def TX9 : u_T := fun k => match k with
  | 0 => ("BorrowedBeat$Reader", "tape", "LBorrowedBeat$Tape;", true)
  | 1 => ("BorrowedBeat$Reader", "at", "I", false)
  | 2 => ("BorrowedBeat$Reader", "faultAt", "I", false)
  | 3 => ("BorrowedBeat$TownReader", "draft", "LBorrowedBeat$Town;", true)
  | _ => ("BorrowedBeat$TownReader", "hasMetronome", "Z", false)
def tyX9 : Nat → FieldType := fun k => match k with
  | 0 => .object "BorrowedBeat$Tape"
  | 1 => .int
  | 2 => .int
  | 3 => .object "BorrowedBeat$Town"
  | _ => .boolean
theorem nmX9 : ∀ a, a < 5 → ∀ b, b < 5 → a ≠ b → (TX9 a).2.1 ≠ (TX9 b).2.1 := by decide +kernel
theorem tyX9_ok : ∀ k, k < 5 → parseFieldDescriptor (TX9 k).2.2.1 = some (tyX9 k) := by decide +kernel
abbrev cX9_init : ByteArray := prog_11_method_1_code
def yX9_init : MethodName := ⟨RX9, "<init>", "(LBorrowedBeat$Tape;)V"⟩
abbrev cX9_clear : ByteArray := prog_11_method_2_code
def yX9_clear : MethodName := ⟨RX9, "clear", "()V"⟩
abbrev cX9_readClause : ByteArray := prog_11_method_3_code
def yX9_readClause : MethodName := ⟨RX9, "readClause", "()Z"⟩
abbrev cX9_readItems : ByteArray := prog_11_method_4_code
def yX9_readItems : MethodName := ⟨RX9, "readItems", "(Z)Z"⟩
abbrev cX9_itemOf : ByteArray := prog_11_method_5_code
def yX9_itemOf : MethodName := ⟨RX9, "itemOf", "(I)I"⟩
abbrev cX9_keep : ByteArray := prog_11_method_6_code
def yX9_keep : MethodName := ⟨RX9, "keep", "(ZII)V"⟩
abbrev cX9_isWhole : ByteArray := prog_11_method_7_code
def yX9_isWhole : MethodName := ⟨RX9, "isWhole", "()Z"⟩
def RX10 : String := "BorrowedBeat$WeekSearch"
def TX10 : u_T := fun k => match k with
  | 0 => ("BorrowedBeat$WeekSearch", "known", "Z", false)
  | 1 => ("BorrowedBeat$WeekSearch", "row", "I", false)
  | 2 => ("BorrowedBeat$WeekSearch", "least", "I", false)
  | 3 => ("BorrowedBeat$WeekSearch", "play", "LBorrowedBeat$Play;", true)
  | 4 => ("BorrowedBeat$WeekSearch", "trial", "LBorrowedBeat$Score;", true)
  | 5 => ("BorrowedBeat$WeekSearch", "wets", "[I", true)
  | _ => ("BorrowedBeat$WeekSearch", "behind", "[I", true)
def tyX10 : Nat → FieldType := fun k => match k with
  | 0 => .boolean
  | 1 => .int
  | 2 => .int
  | 3 => .object "BorrowedBeat$Play"
  | 4 => .object "BorrowedBeat$Score"
  | 5 => .array .int
  | _ => .array .int
theorem nmX10 : ∀ a, a < 7 → ∀ b, b < 7 → a ≠ b → (TX10 a).2.1 ≠ (TX10 b).2.1 := by decide +kernel
theorem tyX10_ok : ∀ k, k < 7 → parseFieldDescriptor (TX10 k).2.2.1 = some (tyX10 k) := by decide +kernel
abbrev cX10_init : ByteArray := prog_12_method_1_code
def yX10_init : MethodName := ⟨RX10, "<init>", "(LBorrowedBeat$Play;LBorrowedBeat$Score;)V"⟩
abbrev cX10_find : ByteArray := prog_12_method_2_code
def yX10_find : MethodName := ⟨RX10, "find", "(LBorrowedBeat$Town;LBorrowedBeat$Score;)V"⟩
abbrev cX10_foresee : ByteArray := prog_12_method_3_code
def yX10_foresee : MethodName := ⟨RX10, "foresee", "(LBorrowedBeat$Town;LBorrowedBeat$Score;)V"⟩
abbrev cX10_slot : ByteArray := prog_12_method_4_code
def yX10_slot : MethodName := ⟨RX10, "slot", "(II)I"⟩
abbrev cX10_choose : ByteArray := prog_12_method_5_code
def yX10_choose : MethodName := ⟨RX10, "choose", "(LBorrowedBeat$WeekSearch;IIII)V"⟩
abbrev cX10_weigh : ByteArray := prog_12_method_6_code
def yX10_weigh : MethodName := ⟨RX10, "weigh", "(I)V"⟩
def RX11 : String := "BorrowedBeat"
def TX11 : u_T := fun k => match k with
  | 0 => ("BorrowedBeat", "tape", "LBorrowedBeat$Tape;", true)
  | 1 => ("BorrowedBeat", "townReader", "LBorrowedBeat$TownReader;", true)
  | 2 => ("BorrowedBeat", "lawReader", "LBorrowedBeat$LawReader;", true)
  | 3 => ("BorrowedBeat", "town", "LBorrowedBeat$Town;", true)
  | 4 => ("BorrowedBeat", "laws", "[LBorrowedBeat$Law;", true)
  | 5 => ("BorrowedBeat", "diary", "LBorrowedBeat$Diary;", true)
  | 6 => ("BorrowedBeat", "told", "[I", true)
  | 7 => ("BorrowedBeat", "score", "LBorrowedBeat$Score;", true)
  | 8 => ("BorrowedBeat", "trial", "LBorrowedBeat$Score;", true)
  | 9 => ("BorrowedBeat", "play", "LBorrowedBeat$Play;", true)
  | 10 => ("BorrowedBeat", "markSearch", "LBorrowedBeat$MarkSearch;", true)
  | 11 => ("BorrowedBeat", "weekSearch", "LBorrowedBeat$WeekSearch;", true)
  | 12 => ("BorrowedBeat", "limit", "I", false)
  | 13 => ("BorrowedBeat", "lawCount", "I", false)
  | 14 => ("BorrowedBeat", "holding", "I", false)
  | _ => ("BorrowedBeat", "toldCount", "I", false)
def tyX11 : Nat → FieldType := fun k => match k with
  | 0 => .object "BorrowedBeat$Tape"
  | 1 => .object "BorrowedBeat$TownReader"
  | 2 => .object "BorrowedBeat$LawReader"
  | 3 => .object "BorrowedBeat$Town"
  | 4 => .array (.object "BorrowedBeat$Law")
  | 5 => .object "BorrowedBeat$Diary"
  | 6 => .array .int
  | 7 => .object "BorrowedBeat$Score"
  | 8 => .object "BorrowedBeat$Score"
  | 9 => .object "BorrowedBeat$Play"
  | 10 => .object "BorrowedBeat$MarkSearch"
  | 11 => .object "BorrowedBeat$WeekSearch"
  | 12 => .int
  | 13 => .int
  | 14 => .int
  | _ => .int
theorem nmX11 : ∀ a, a < 16 → ∀ b, b < 16 → a ≠ b → (TX11 a).2.1 ≠ (TX11 b).2.1 := by decide +kernel
theorem tyX11_ok : ∀ k, k < 16 → parseFieldDescriptor (TX11 k).2.2.1 = some (tyX11 k) := by decide +kernel
abbrev cX11_init : ByteArray := prog_1_method_1_code
def yX11_init : MethodName := ⟨RX11, "<init>", "()V"⟩
abbrev cX11_feed : ByteArray := prog_1_method_2_code
def yX11_feed : MethodName := ⟨RX11, "feed", "(IIIII)I"⟩
abbrev cX11_end : ByteArray := prog_1_method_3_code
def yX11_end : MethodName := ⟨RX11, "end", "(I)Z"⟩
abbrev cX11_fault : ByteArray := prog_1_method_4_code
def yX11_fault : MethodName := ⟨RX11, "fault", "(I)I"⟩
abbrev cX11_text : ByteArray := prog_1_method_5_code
def yX11_text : MethodName := ⟨RX11, "text", "(I)I"⟩
abbrev cX11_openTown : ByteArray := prog_1_method_6_code
def yX11_openTown : MethodName := ⟨RX11, "openTown", "()V"⟩
abbrev cX11_player : ByteArray := prog_1_method_7_code
def yX11_player : MethodName := ⟨RX11, "player", "(II)I"⟩
abbrev cX11_set : ByteArray := prog_1_method_8_code
def yX11_set : MethodName := ⟨RX11, "set", "(II)Z"⟩
abbrev cX11_mostOf : ByteArray := prog_1_method_9_code
def yX11_mostOf : MethodName := ⟨RX11, "mostOf", "(I)I"⟩
abbrev cX11_tell : ByteArray := prog_1_method_10_code
def yX11_tell : MethodName := ⟨RX11, "tell", "(III)Z"⟩
abbrev cX11_mayTell : ByteArray := prog_1_method_11_code
def yX11_mayTell : MethodName := ⟨RX11, "mayTell", "(III)Z"⟩
abbrev cX11_mark : ByteArray := prog_1_method_12_code
def yX11_mark : MethodName := ⟨RX11, "mark", "(IZ)Z"⟩
abbrev cX11_isPlayer : ByteArray := prog_1_method_13_code
def yX11_isPlayer : MethodName := ⟨RX11, "isPlayer", "(I)Z"⟩
abbrev cX11_isBar : ByteArray := prog_1_method_14_code
def yX11_isBar : MethodName := ⟨RX11, "isBar", "(I)Z"⟩
abbrev cX11_isOneOfTwo : ByteArray := prog_1_method_15_code
def yX11_isOneOfTwo : MethodName := ⟨RX11, "isOneOfTwo", "(I)Z"⟩
abbrev cX11_damp : ByteArray := prog_1_method_16_code
def yX11_damp : MethodName := ⟨RX11, "damp", "(I)I"⟩
abbrev cX11_wetness : ByteArray := prog_1_method_17_code
def yX11_wetness : MethodName := ⟨RX11, "wetness", "(I)I"⟩
abbrev cX11_day : ByteArray := prog_1_method_18_code
def yX11_day : MethodName := ⟨RX11, "day", "(I)I"⟩
abbrev cX11_undo : ByteArray := prog_1_method_19_code
def yX11_undo : MethodName := ⟨RX11, "undo", "()I"⟩
abbrev cX11_image : ByteArray := prog_1_method_20_code
def yX11_image : MethodName := ⟨RX11, "image", "()I"⟩
abbrev cX11_back : ByteArray := prog_1_method_21_code
def yX11_back : MethodName := ⟨RX11, "back", "()I"⟩
abbrev cX11_time : ByteArray := prog_1_method_22_code
def yX11_time : MethodName := ⟨RX11, "time", "(III)I"⟩
abbrev cX11_spread : ByteArray := prog_1_method_23_code
def yX11_spread : MethodName := ⟨RX11, "spread", "(I)I"⟩
abbrev cX11_worst : ByteArray := prog_1_method_24_code
def yX11_worst : MethodName := ⟨RX11, "worst", "(I)I"⟩
abbrev cX11_parts : ByteArray := prog_1_method_25_code
def yX11_parts : MethodName := ⟨RX11, "parts", "()I"⟩
abbrev cX11_last : ByteArray := prog_1_method_26_code
def yX11_last : MethodName := ⟨RX11, "last", "(I)I"⟩
abbrev cX11_settle : ByteArray := prog_1_method_27_code
def yX11_settle : MethodName := ⟨RX11, "settle", "(I)I"⟩
abbrev cX11_place : ByteArray := prog_1_method_28_code
def yX11_place : MethodName := ⟨RX11, "place", "(II)I"⟩
abbrev cX11_overtakes : ByteArray := prog_1_method_29_code
def yX11_overtakes : MethodName := ⟨RX11, "overtakes", "(II)I"⟩
abbrev cX11_middle : ByteArray := prog_1_method_30_code
def yX11_middle : MethodName := ⟨RX11, "middle", "()I"⟩
abbrev cX11_ends : ByteArray := prog_1_method_31_code
def yX11_ends : MethodName := ⟨RX11, "ends", "(I)I"⟩
abbrev cX11_stray : ByteArray := prog_1_method_32_code
def yX11_stray : MethodName := ⟨RX11, "stray", "(II)I"⟩
abbrev cX11_ring : ByteArray := prog_1_method_33_code
def yX11_ring : MethodName := ⟨RX11, "ring", "(I)I"⟩
abbrev cX11_head : ByteArray := prog_1_method_34_code
def yX11_head : MethodName := ⟨RX11, "head", "(I)I"⟩
abbrev cX11_leader : ByteArray := prog_1_method_35_code
def yX11_leader : MethodName := ⟨RX11, "leader", "(II)I"⟩
abbrev cX11_deaf : ByteArray := prog_1_method_36_code
def yX11_deaf : MethodName := ⟨RX11, "deaf", "(I)I"⟩
abbrev cX11_roll : ByteArray := prog_1_method_37_code
def yX11_roll : MethodName := ⟨RX11, "roll", "(III)I"⟩
abbrev cX11_fits : ByteArray := prog_1_method_38_code
def yX11_fits : MethodName := ⟨RX11, "fits", "(I)I"⟩
abbrev cX11_isToldSo : ByteArray := prog_1_method_39_code
def yX11_isToldSo : MethodName := ⟨RX11, "isToldSo", "()Z"⟩
abbrev cX11_echoes : ByteArray := prog_1_method_40_code
def yX11_echoes : MethodName := ⟨RX11, "echoes", "(I)I"⟩
abbrev cX11_tune : ByteArray := prog_1_method_41_code
def yX11_tune : MethodName := ⟨RX11, "tune", "(II)I"⟩
abbrev cX11_paid : ByteArray := prog_1_method_42_code
def yX11_paid : MethodName := ⟨RX11, "paid", "(I)I"⟩
abbrev cX11_marks : ByteArray := prog_1_method_43_code
def yX11_marks : MethodName := ⟨RX11, "marks", "(I)I"⟩
abbrev cX11_week : ByteArray := prog_1_method_44_code
def yX11_week : MethodName := ⟨RX11, "week", "(I)I"⟩
abbrev cX11_gift : ByteArray := prog_1_method_45_code
def yX11_gift : MethodName := ⟨RX11, "gift", "(I)I"⟩
abbrev cX11_odds : ByteArray := prog_1_method_46_code
def yX11_odds : MethodName := ⟨RX11, "odds", "(II)I"⟩
abbrev cX11_rowsWithSum : ByteArray := prog_1_method_47_code
def yX11_rowsWithSum : MethodName := ⟨RX11, "rowsWithSum", "(II)I"⟩
abbrev cX11_count : ByteArray := prog_1_method_48_code
def yX11_count : MethodName := ⟨RX11, "count", "(I)I"⟩
abbrev cX11_held : ByteArray := prog_1_method_49_code
def yX11_held : MethodName := ⟨RX11, "held", "(III)I"⟩
def RX12 : String := "BorrowedBeatModel"
def TX12 : u_T := fun k => match k with
  | 0 => ("BorrowedBeatModel", "thrown", "I", false)
  | 1 => ("BorrowedBeatModel", "tape", "[I", true)
  | 2 => ("BorrowedBeatModel", "size", "I", false)
  | 3 => ("BorrowedBeatModel", "at", "I", false)
  | 4 => ("BorrowedBeatModel", "wrong", "I", false)
  | 5 => ("BorrowedBeatModel", "deep", "I", false)
  | 6 => ("BorrowedBeatModel", "code", "[I", true)
  | 7 => ("BorrowedBeatModel", "value", "[I", true)
  | 8 => ("BorrowedBeatModel", "codes", "[I", true)
  | 9 => ("BorrowedBeatModel", "clauses", "[I", true)
  | 10 => ("BorrowedBeatModel", "testFrom", "[I", true)
  | 11 => ("BorrowedBeatModel", "sumFrom", "[I", true)
  | 12 => ("BorrowedBeatModel", "sumTo", "[I", true)
  | 13 => ("BorrowedBeatModel", "laws", "I", false)
  | 14 => ("BorrowedBeatModel", "text", "I", false)
  | 15 => ("BorrowedBeatModel", "letters", "[I", true)
  | 16 => ("BorrowedBeatModel", "stack", "[I", true)
  | 17 => ("BorrowedBeatModel", "readRow", "[I", true)
  | 18 => ("BorrowedBeatModel", "readPlayers", "I", false)
  | 19 => ("BorrowedBeatModel", "readMetronome", "I", false)
  | 20 => ("BorrowedBeatModel", "row", "[I", true)
  | 21 => ("BorrowedBeatModel", "players", "I", false)
  | 22 => ("BorrowedBeatModel", "metronome", "I", false)
  | 23 => ("BorrowedBeatModel", "beats", "[I", true)
  | 24 => ("BorrowedBeatModel", "late", "[I", true)
  | 25 => ("BorrowedBeatModel", "day", "I", false)
  | 26 => ("BorrowedBeatModel", "marks", "I", false)
  | 27 => ("BorrowedBeatModel", "holding", "I", false)
  | 28 => ("BorrowedBeatModel", "bars", "I", false)
  | 29 => ("BorrowedBeatModel", "echo", "I", false)
  | 30 => ("BorrowedBeatModel", "limit", "I", false)
  | 31 => ("BorrowedBeatModel", "kept", "[I", true)
  | 32 => ("BorrowedBeatModel", "acts", "I", false)
  | 33 => ("BorrowedBeatModel", "beatAt", "[I", true)
  | 34 => ("BorrowedBeatModel", "timeAt", "[I", true)
  | 35 => ("BorrowedBeatModel", "waitAt", "[I", true)
  | 36 => ("BorrowedBeatModel", "weekBeats", "[I", true)
  | 37 => ("BorrowedBeatModel", "weekDamp", "[I", true)
  | 38 => ("BorrowedBeatModel", "weekRow", "I", false)
  | 39 => ("BorrowedBeatModel", "weekLeast", "I", false)
  | 40 => ("BorrowedBeatModel", "fewFrom", "[I", true)
  | 41 => ("BorrowedBeatModel", "bitsFrom", "[I", true)
  | 42 => ("BorrowedBeatModel", "sums", "[I", true)
  | 43 => ("BorrowedBeatModel", "rollPlayer", "[I", true)
  | 44 => ("BorrowedBeatModel", "rollBar", "[I", true)
  | 45 => ("BorrowedBeatModel", "rollTime", "[I", true)
  | 46 => ("BorrowedBeatModel", "rolls", "I", false)
  | 47 => ("BorrowedBeatModel", "imageBeats", "[I", true)
  | 48 => ("BorrowedBeatModel", "imageDay", "I", false)
  | _ => ("BorrowedBeatModel", "hasImage", "Z", false)
def tyX12 : Nat → FieldType := fun k => match k with
  | 0 => .int
  | 1 => .array .int
  | 2 => .int
  | 3 => .int
  | 4 => .int
  | 5 => .int
  | 6 => .array .int
  | 7 => .array .int
  | 8 => .array .int
  | 9 => .array .int
  | 10 => .array .int
  | 11 => .array .int
  | 12 => .array .int
  | 13 => .int
  | 14 => .int
  | 15 => .array .int
  | 16 => .array .int
  | 17 => .array .int
  | 18 => .int
  | 19 => .int
  | 20 => .array .int
  | 21 => .int
  | 22 => .int
  | 23 => .array .int
  | 24 => .array .int
  | 25 => .int
  | 26 => .int
  | 27 => .int
  | 28 => .int
  | 29 => .int
  | 30 => .int
  | 31 => .array .int
  | 32 => .int
  | 33 => .array .int
  | 34 => .array .int
  | 35 => .array .int
  | 36 => .array .int
  | 37 => .array .int
  | 38 => .int
  | 39 => .int
  | 40 => .array .int
  | 41 => .array .int
  | 42 => .array .int
  | 43 => .array .int
  | 44 => .array .int
  | 45 => .array .int
  | 46 => .int
  | 47 => .array .int
  | 48 => .int
  | _ => .boolean
theorem nmX12 : ∀ a, a < 50 → ∀ b, b < 50 → a ≠ b → (TX12 a).2.1 ≠ (TX12 b).2.1 := by decide +kernel
theorem tyX12_ok : ∀ k, k < 50 → parseFieldDescriptor (TX12 k).2.2.1 = some (tyX12 k) := by decide +kernel
abbrev cX12_in : ByteArray := prog_14_method_1_code
def yX12_in : MethodName := ⟨RX12, "in", "(III)Z"⟩
abbrev cX12_has : ByteArray := prog_14_method_2_code
def yX12_has : MethodName := ⟨RX12, "has", "(II)Z"⟩
abbrev cX12_init : ByteArray := prog_14_method_3_code
def yX12_init : MethodName := ⟨RX12, "<init>", "()V"⟩
abbrev cX12_thrown : ByteArray := prog_14_method_4_code
def yX12_thrown : MethodName := ⟨RX12, "thrown", "()I"⟩
abbrev cX12_byteOf : ByteArray := prog_14_method_5_code
def yX12_byteOf : MethodName := ⟨RX12, "byteOf", "(IIIIII)I"⟩
abbrev cX12_feed : ByteArray := prog_14_method_6_code
def yX12_feed : MethodName := ⟨RX12, "feed", "(IIIII)I"⟩
abbrev cX12_end : ByteArray := prog_14_method_7_code
def yX12_end : MethodName := ⟨RX12, "end", "(I)Z"⟩
abbrev cX12_here : ByteArray := prog_14_method_8_code
def yX12_here : MethodName := ⟨RX12, "here", "()I"⟩
abbrev cX12_look : ByteArray := prog_14_method_9_code
def yX12_look : MethodName := ⟨RX12, "look", "()I"⟩
abbrev cX12_bad : ByteArray := prog_14_method_10_code
def yX12_bad : MethodName := ⟨RX12, "bad", "()V"⟩
abbrev cX12_isDigit : ByteArray := prog_14_method_11_code
def yX12_isDigit : MethodName := ⟨RX12, "isDigit", "(I)Z"⟩
abbrev cX12_put : ByteArray := prog_14_method_12_code
def yX12_put : MethodName := ⟨RX12, "put", "(II)V"⟩
abbrev cX12_letterOf : ByteArray := prog_14_method_13_code
def yX12_letterOf : MethodName := ⟨RX12, "letterOf", "(I)I"⟩
abbrev cX12_opens : ByteArray := prog_14_method_14_code
def yX12_opens : MethodName := ⟨RX12, "opens", "()V"⟩
abbrev cX12_closes : ByteArray := prog_14_method_15_code
def yX12_closes : MethodName := ⟨RX12, "closes", "(I)V"⟩
abbrev cX12_plainNumber : ByteArray := prog_14_method_16_code
def yX12_plainNumber : MethodName := ⟨RX12, "plainNumber", "()I"⟩
abbrev cX12_atom : ByteArray := prog_14_method_17_code
def yX12_atom : MethodName := ⟨RX12, "atom", "()V"⟩
abbrev cX12_term : ByteArray := prog_14_method_18_code
def yX12_term : MethodName := ⟨RX12, "term", "()V"⟩
abbrev cX12_sum : ByteArray := prog_14_method_19_code
def yX12_sum : MethodName := ⟨RX12, "sum", "()V"⟩
abbrev cX12_isSign : ByteArray := prog_14_method_20_code
def yX12_isSign : MethodName := ⟨RX12, "isSign", "(I)Z"⟩
abbrev cX12_compare : ByteArray := prog_14_method_21_code
def yX12_compare : MethodName := ⟨RX12, "compare", "()V"⟩
abbrev cX12_unit : ByteArray := prog_14_method_22_code
def yX12_unit : MethodName := ⟨RX12, "unit", "()V"⟩
abbrev cX12_goOnAnd : ByteArray := prog_14_method_23_code
def yX12_goOnAnd : MethodName := ⟨RX12, "goOnAnd", "()V"⟩
abbrev cX12_goOnOr : ByteArray := prog_14_method_24_code
def yX12_goOnOr : MethodName := ⟨RX12, "goOnOr", "()V"⟩
abbrev cX12_condition : ByteArray := prog_14_method_25_code
def yX12_condition : MethodName := ⟨RX12, "condition", "()V"⟩
abbrev cX12_clause : ByteArray := prog_14_method_26_code
def yX12_clause : MethodName := ⟨RX12, "clause", "()V"⟩
abbrev cX12_open : ByteArray := prog_14_method_27_code
def yX12_open : MethodName := ⟨RX12, "open", "(I)V"⟩
abbrev cX12_atEnd : ByteArray := prog_14_method_28_code
def yX12_atEnd : MethodName := ⟨RX12, "atEnd", "()I"⟩
abbrev cX12_readLaw : ByteArray := prog_14_method_29_code
def yX12_readLaw : MethodName := ⟨RX12, "readLaw", "(I)I"⟩
abbrev cX12_bounded : ByteArray := prog_14_method_30_code
def yX12_bounded : MethodName := ⟨RX12, "bounded", "(J)I"⟩
abbrev cX12_worked : ByteArray := prog_14_method_31_code
def yX12_worked : MethodName := ⟨RX12, "worked", "(IJJ)I"⟩
abbrev cX12_workOut : ByteArray := prog_14_method_32_code
def yX12_workOut : MethodName := ⟨RX12, "workOut", "(III)I"⟩
abbrev cX12_worthOf : ByteArray := prog_14_method_33_code
def yX12_worthOf : MethodName := ⟨RX12, "worthOf", "(I)I"⟩
abbrev cX12_number : ByteArray := prog_14_method_34_code
def yX12_number : MethodName := ⟨RX12, "number", "(II)I"⟩
abbrev cX12_itemOf : ByteArray := prog_14_method_35_code
def yX12_itemOf : MethodName := ⟨RX12, "itemOf", "(I)I"⟩
abbrev cX12_highest : ByteArray := prog_14_method_36_code
def yX12_highest : MethodName := ⟨RX12, "highest", "(I)I"⟩
abbrev cX12_playerText : ByteArray := prog_14_method_37_code
def yX12_playerText : MethodName := ⟨RX12, "playerText", "()V"⟩
abbrev cX12_areTold : ByteArray := prog_14_method_38_code
def yX12_areTold : MethodName := ⟨RX12, "areTold", "()Z"⟩
abbrev cX12_readTown : ByteArray := prog_14_method_39_code
def yX12_readTown : MethodName := ⟨RX12, "readTown", "()I"⟩
abbrev cX12_fault : ByteArray := prog_14_method_40_code
def yX12_fault : MethodName := ⟨RX12, "fault", "(I)I"⟩
abbrev cX12_takeTown : ByteArray := prog_14_method_41_code
def yX12_takeTown : MethodName := ⟨RX12, "takeTown", "()I"⟩
abbrev cX12_text : ByteArray := prog_14_method_42_code
def yX12_text : MethodName := ⟨RX12, "text", "(I)I"⟩
abbrev cX12_isPlayer : ByteArray := prog_14_method_43_code
def yX12_isPlayer : MethodName := ⟨RX12, "isPlayer", "(I)Z"⟩
abbrev cX12_of : ByteArray := prog_14_method_44_code
def yX12_of : MethodName := ⟨RX12, "of", "(II)I"⟩
abbrev cX12_player : ByteArray := prog_14_method_45_code
def yX12_player : MethodName := ⟨RX12, "player", "(II)I"⟩
abbrev cX12_set : ByteArray := prog_14_method_46_code
def yX12_set : MethodName := ⟨RX12, "set", "(II)Z"⟩
abbrev cX12_tell : ByteArray := prog_14_method_47_code
def yX12_tell : MethodName := ⟨RX12, "tell", "(III)Z"⟩
abbrev cX12_mark : ByteArray := prog_14_method_48_code
def yX12_mark : MethodName := ⟨RX12, "mark", "(IZ)Z"⟩
abbrev cX12_dampOf : ByteArray := prog_14_method_49_code
def yX12_dampOf : MethodName := ⟨RX12, "dampOf", "(I)I"⟩
abbrev cX12_damp : ByteArray := prog_14_method_50_code
def yX12_damp : MethodName := ⟨RX12, "damp", "(I)I"⟩
abbrev cX12_pass : ByteArray := prog_14_method_51_code
def yX12_pass : MethodName := ⟨RX12, "pass", "(II)V"⟩
abbrev cX12_day : ByteArray := prog_14_method_52_code
def yX12_day : MethodName := ⟨RX12, "day", "(I)I"⟩
abbrev cX12_undo : ByteArray := prog_14_method_53_code
def yX12_undo : MethodName := ⟨RX12, "undo", "()I"⟩
abbrev cX12_layBeats : ByteArray := prog_14_method_54_code
def yX12_layBeats : MethodName := ⟨RX12, "layBeats", "(I)V"⟩
abbrev cX12_beatBehind : ByteArray := prog_14_method_55_code
def yX12_beatBehind : MethodName := ⟨RX12, "beatBehind", "(II)I"⟩
abbrev cX12_play : ByteArray := prog_14_method_56_code
def yX12_play : MethodName := ⟨RX12, "play", "()V"⟩
abbrev cX12_isBar : ByteArray := prog_14_method_57_code
def yX12_isBar : MethodName := ⟨RX12, "isBar", "(I)Z"⟩
abbrev cX12_time : ByteArray := prog_14_method_58_code
def yX12_time : MethodName := ⟨RX12, "time", "(III)I"⟩
abbrev cX12_spreadAt : ByteArray := prog_14_method_59_code
def yX12_spreadAt : MethodName := ⟨RX12, "spreadAt", "(I)I"⟩
abbrev cX12_spread : ByteArray := prog_14_method_60_code
def yX12_spread : MethodName := ⟨RX12, "spread", "(I)I"⟩
abbrev cX12_worstBar : ByteArray := prog_14_method_61_code
def yX12_worstBar : MethodName := ⟨RX12, "worstBar", "()I"⟩
abbrev cX12_worstNow : ByteArray := prog_14_method_62_code
def yX12_worstNow : MethodName := ⟨RX12, "worstNow", "()I"⟩
abbrev cX12_worst : ByteArray := prog_14_method_63_code
def yX12_worst : MethodName := ⟨RX12, "worst", "(I)I"⟩
abbrev cX12_parts : ByteArray := prog_14_method_64_code
def yX12_parts : MethodName := ⟨RX12, "parts", "()I"⟩
abbrev cX12_lastAt : ByteArray := prog_14_method_65_code
def yX12_lastAt : MethodName := ⟨RX12, "lastAt", "(I)I"⟩
abbrev cX12_last : ByteArray := prog_14_method_66_code
def yX12_last : MethodName := ⟨RX12, "last", "(I)I"⟩
abbrev cX12_areLike : ByteArray := prog_14_method_67_code
def yX12_areLike : MethodName := ⟨RX12, "areLike", "(II)Z"⟩
abbrev cX12_settle : ByteArray := prog_14_method_68_code
def yX12_settle : MethodName := ⟨RX12, "settle", "(I)I"⟩
abbrev cX12_ring : ByteArray := prog_14_method_69_code
def yX12_ring : MethodName := ⟨RX12, "ring", "(I)I"⟩
abbrev cX12_head : ByteArray := prog_14_method_70_code
def yX12_head : MethodName := ⟨RX12, "head", "(I)I"⟩
abbrev cX12_keepBeats : ByteArray := prog_14_method_71_code
def yX12_keepBeats : MethodName := ⟨RX12, "keepBeats", "(I)V"⟩
abbrev cX12_takeBeats : ByteArray := prog_14_method_72_code
def yX12_takeBeats : MethodName := ⟨RX12, "takeBeats", "(I)V"⟩
abbrev cX12_weekFrom : ByteArray := prog_14_method_73_code
def yX12_weekFrom : MethodName := ⟨RX12, "weekFrom", "(II)V"⟩
abbrev cX12_week : ByteArray := prog_14_method_74_code
def yX12_week : MethodName := ⟨RX12, "week", "(I)I"⟩
abbrev cX12_leader : ByteArray := prog_14_method_75_code
def yX12_leader : MethodName := ⟨RX12, "leader", "(II)I"⟩
abbrev cX12_marksFrom : ByteArray := prog_14_method_76_code
def yX12_marksFrom : MethodName := ⟨RX12, "marksFrom", "(I)V"⟩
abbrev cX12_marks : ByteArray := prog_14_method_77_code
def yX12_marks : MethodName := ⟨RX12, "marks", "(I)I"⟩
abbrev cX12_oddsFrom : ByteArray := prog_14_method_78_code
def yX12_oddsFrom : MethodName := ⟨RX12, "oddsFrom", "(III)I"⟩
abbrev cX12_odds : ByteArray := prog_14_method_79_code
def yX12_odds : MethodName := ⟨RX12, "odds", "(II)I"⟩
abbrev cX12_isAloneLast : ByteArray := prog_14_method_80_code
def yX12_isAloneLast : MethodName := ⟨RX12, "isAloneLast", "(I)Z"⟩
abbrev cX12_paid : ByteArray := prog_14_method_81_code
def yX12_paid : MethodName := ⟨RX12, "paid", "(I)I"⟩
abbrev cX12_roll : ByteArray := prog_14_method_82_code
def yX12_roll : MethodName := ⟨RX12, "roll", "(III)I"⟩
abbrev cX12_agrees : ByteArray := prog_14_method_83_code
def yX12_agrees : MethodName := ⟨RX12, "agrees", "()Z"⟩
abbrev cX12_fits : ByteArray := prog_14_method_84_code
def yX12_fits : MethodName := ⟨RX12, "fits", "(I)I"⟩
abbrev cX12_deaf : ByteArray := prog_14_method_85_code
def yX12_deaf : MethodName := ⟨RX12, "deaf", "(I)I"⟩
abbrev cX12_echoes : ByteArray := prog_14_method_86_code
def yX12_echoes : MethodName := ⟨RX12, "echoes", "(I)I"⟩
abbrev cX12_gift : ByteArray := prog_14_method_87_code
def yX12_gift : MethodName := ⟨RX12, "gift", "(I)I"⟩
abbrev cX12_tune : ByteArray := prog_14_method_88_code
def yX12_tune : MethodName := ⟨RX12, "tune", "(II)I"⟩
abbrev cX12_place : ByteArray := prog_14_method_89_code
def yX12_place : MethodName := ⟨RX12, "place", "(II)I"⟩
abbrev cX12_aheadAt : ByteArray := prog_14_method_90_code
def yX12_aheadAt : MethodName := ⟨RX12, "aheadAt", "(III)I"⟩
abbrev cX12_overtakes : ByteArray := prog_14_method_91_code
def yX12_overtakes : MethodName := ⟨RX12, "overtakes", "(II)I"⟩
abbrev cX12_middle : ByteArray := prog_14_method_92_code
def yX12_middle : MethodName := ⟨RX12, "middle", "()I"⟩
abbrev cX12_ends : ByteArray := prog_14_method_93_code
def yX12_ends : MethodName := ⟨RX12, "ends", "(I)I"⟩
abbrev cX12_stray : ByteArray := prog_14_method_94_code
def yX12_stray : MethodName := ⟨RX12, "stray", "(II)I"⟩
abbrev cX12_image : ByteArray := prog_14_method_95_code
def yX12_image : MethodName := ⟨RX12, "image", "()I"⟩
abbrev cX12_back : ByteArray := prog_14_method_96_code
def yX12_back : MethodName := ⟨RX12, "back", "()I"⟩
abbrev cX12_count : ByteArray := prog_14_method_97_code
def yX12_count : MethodName := ⟨RX12, "count", "(I)I"⟩
def RJ6 : String := "java/lang/Integer"
def TJ6 : u_T := fun k => match k with
  | _ => ("", "", "", false)
def tyJ6 : Nat → FieldType := fun k => match k with
  | _ => .int
theorem nmJ6 : ∀ a, a < 0 → ∀ b, b < 0 → a ≠ b → (TJ6 a).2.1 ≠ (TJ6 b).2.1 := by decide +kernel
theorem tyJ6_ok : ∀ k, k < 0 → parseFieldDescriptor (TJ6 k).2.2.1 = some (tyJ6 k) := by decide +kernel
abbrev cJ6_compare_7cf53 : ByteArray := prog_18_method_40_code
def yJ6_compare_7cf53 : MethodName := ⟨RJ6, "compare", "(II)I"⟩
def RJ9 : String := "java/lang/Math"
def TJ9 : u_T := fun k => match k with
  | _ => ("", "", "", false)
def tyJ9 : Nat → FieldType := fun k => match k with
  | _ => .int
theorem nmJ9 : ∀ a, a < 0 → ∀ b, b < 0 → a ≠ b → (TJ9 a).2.1 ≠ (TJ9 b).2.1 := by decide +kernel
theorem tyJ9_ok : ∀ k, k < 0 → parseFieldDescriptor (TJ9 k).2.2.1 = some (tyJ9 k) := by decide +kernel
abbrev cJ9_abs_0f7a4 : ByteArray := prog_19_method_59_code
def yJ9_abs_0f7a4 : MethodName := ⟨RJ9, "abs", "(I)I"⟩
abbrev cJ9_max_7cf53 : ByteArray := prog_19_method_65_code
def yJ9_max_7cf53 : MethodName := ⟨RJ9, "max", "(II)I"⟩
abbrev cJ9_max_f86c9 : ByteArray := prog_19_method_66_code
def yJ9_max_f86c9 : MethodName := ⟨RJ9, "max", "(JJ)J"⟩
abbrev cJ9_min_7cf53 : ByteArray := prog_19_method_69_code
def yJ9_min_7cf53 : MethodName := ⟨RJ9, "min", "(II)I"⟩
abbrev cJ9_min_f86c9 : ByteArray := prog_19_method_70_code
def yJ9_min_f86c9 : MethodName := ⟨RJ9, "min", "(JJ)J"⟩
def RJ0 : String := "java/lang/String"
def TJ0 : u_T := fun k => match k with
  | _ => ("", "", "", false)
def tyJ0 : Nat → FieldType := fun k => match k with
  | _ => .int
theorem nmJ0 : ∀ a, a < 0 → ∀ b, b < 0 → a ≠ b → (TJ0 a).2.1 ≠ (TJ0 b).2.1 := by decide +kernel
theorem tyJ0_ok : ∀ k, k < 0 → parseFieldDescriptor (TJ0 k).2.2.1 = some (tyJ0 k) := by decide +kernel
def RJ10 : String := "java/lang/System"
def TJ10 : u_T := fun k => match k with
  | _ => ("", "", "", false)
def tyJ10 : Nat → FieldType := fun k => match k with
  | _ => .int
theorem nmJ10 : ∀ a, a < 0 → ∀ b, b < 0 → a ≠ b → (TJ10 a).2.1 ≠ (TJ10 b).2.1 := by decide +kernel
theorem tyJ10_ok : ∀ k, k < 0 → parseFieldDescriptor (TJ10 k).2.2.1 = some (tyJ10 k) := by decide +kernel
def RJ7 : String := "java/util/Arrays"
def TJ7 : u_T := fun k => match k with
  | _ => ("", "", "", false)
def tyJ7 : Nat → FieldType := fun k => match k with
  | _ => .int
theorem nmJ7 : ∀ a, a < 0 → ∀ b, b < 0 → a ≠ b → (TJ7 a).2.1 ≠ (TJ7 b).2.1 := by decide +kernel
theorem tyJ7_ok : ∀ k, k < 0 → parseFieldDescriptor (TJ7 k).2.2.1 = some (tyJ7 k) := by decide +kernel
abbrev cJ7_fill_53178 : ByteArray := prog_24_method_103_code
def yJ7_fill_53178 : MethodName := ⟨RJ7, "fill", "([II)V"⟩
abbrev cJ7_copyOf_59c91 : ByteArray := prog_24_method_123_code
def yJ7_copyOf_59c91 : MethodName := ⟨RJ7, "copyOf", "([II)[I"⟩
def RL : String := "BorrowedBeatLaw"
abbrev cL_player : ByteArray := method_3_code
def yL_player : MethodName := ⟨RL, "player", "(LBorrowedBeat;II[J)I"⟩
abbrev cL_law : ByteArray := code
def yL_law : MethodName := ⟨RL, "law", "([I)Z"⟩
abbrev vwCl : List vw_C := [(RX0, TX0, 7), (RX1, TX1, 5), (RX2, TX2, 5), (RX3, TX3, 5), (RX4, TX4, 9), (RX6, TX6, 8), (RX7, TX7, 2), (RX8, TX8, 7), (RX9, TX9, 5), (RX10, TX10, 7), (RX11, TX11, 16), (RX12, TX12, 50)]
