/- 01.names.lean.txt -/
section pt_01names
-- ===== PART A: goes FIRST, ahead of the names: the tables' words, and 'selects' of the private methods out of them =====
/-- a private method of a class that the tables say can be made, by its rows of tables_1 -/
def lw_okq (q : MethodName × Nat) : Prop := (q.1.cls ≠ "java/lang/invoke/MethodHandle" ∧ q.1.cls ≠ "java/lang/invoke/VarHandle") ∧ Cond.instantiable q.1.cls q.2 ∈ tables_1 ∧ Cond.privateMethod q.1 ∈ tables_1 ∧ Cond.instanceMethod q.1 ∈ tables_1
theorem lw_p0 : lw_okq (⟨"BorrowedBeat$LawReader", "condition", "(I)Z"⟩, 5) := ⟨⟨by decide +kernel, by decide +kernel⟩, List.mem_of_getElem? (i := 122) (by decide +kernel), List.mem_of_getElem? (i := 432) (by decide +kernel), List.mem_of_getElem? (i := 433) (by decide +kernel)⟩
theorem lw_p1 : lw_okq (⟨"BorrowedBeat$LawReader", "unit", "(I)Z"⟩, 5) := ⟨⟨by decide +kernel, by decide +kernel⟩, List.mem_of_getElem? (i := 122) (by decide +kernel), List.mem_of_getElem? (i := 436) (by decide +kernel), List.mem_of_getElem? (i := 437) (by decide +kernel)⟩
theorem lw_p2 : lw_okq (⟨"BorrowedBeat$LawReader", "sum", "(I)Z"⟩, 5) := ⟨⟨by decide +kernel, by decide +kernel⟩, List.mem_of_getElem? (i := 122) (by decide +kernel), List.mem_of_getElem? (i := 440) (by decide +kernel), List.mem_of_getElem? (i := 441) (by decide +kernel)⟩
theorem lw_p3 : lw_okq (⟨"BorrowedBeat$LawReader", "atom", "(I)Z"⟩, 5) := ⟨⟨by decide +kernel, by decide +kernel⟩, List.mem_of_getElem? (i := 122) (by decide +kernel), List.mem_of_getElem? (i := 444) (by decide +kernel), List.mem_of_getElem? (i := 445) (by decide +kernel)⟩
theorem lw_p4 : lw_okq (⟨"BorrowedBeat$LawReader", "emit", "(I)Z"⟩, 5) := ⟨⟨by decide +kernel, by decide +kernel⟩, List.mem_of_getElem? (i := 122) (by decide +kernel), List.mem_of_getElem? (i := 460) (by decide +kernel), List.mem_of_getElem? (i := 461) (by decide +kernel)⟩
theorem lw_p5 : lw_okq (⟨"BorrowedBeat$LawReader", "comparison", "(I)Z"⟩, 5) := ⟨⟨by decide +kernel, by decide +kernel⟩, List.mem_of_getElem? (i := 122) (by decide +kernel), List.mem_of_getElem? (i := 464) (by decide +kernel), List.mem_of_getElem? (i := 465) (by decide +kernel)⟩
theorem lw_p6 : lw_okq (⟨"BorrowedBeat$LawReader", "negated", "(I)Z"⟩, 5) := ⟨⟨by decide +kernel, by decide +kernel⟩, List.mem_of_getElem? (i := 122) (by decide +kernel), List.mem_of_getElem? (i := 471) (by decide +kernel), List.mem_of_getElem? (i := 472) (by decide +kernel)⟩
theorem lw_p7 : lw_okq (⟨"BorrowedBeat$LawReader", "moreUnits", "(I)Z"⟩, 5) := ⟨⟨by decide +kernel, by decide +kernel⟩, List.mem_of_getElem? (i := 122) (by decide +kernel), List.mem_of_getElem? (i := 475) (by decide +kernel), List.mem_of_getElem? (i := 476) (by decide +kernel)⟩
theorem lw_p8 : lw_okq (⟨"BorrowedBeat$LawReader", "sumBehindCondition", "()Z"⟩, 5) := ⟨⟨by decide +kernel, by decide +kernel⟩, List.mem_of_getElem? (i := 122) (by decide +kernel), List.mem_of_getElem? (i := 479) (by decide +kernel), List.mem_of_getElem? (i := 480) (by decide +kernel)⟩
theorem lw_p9 : lw_okq (⟨"BorrowedBeat$TownReader", "readItems", "(Z)Z"⟩, 5) := ⟨⟨by decide +kernel, by decide +kernel⟩, List.mem_of_getElem? (i := 48) (by decide +kernel), List.mem_of_getElem? (i := 493) (by decide +kernel), List.mem_of_getElem? (i := 494) (by decide +kernel)⟩
theorem lw_p10 : lw_okq (⟨"BorrowedBeat$TownReader", "keep", "(ZII)V"⟩, 5) := ⟨⟨by decide +kernel, by decide +kernel⟩, List.mem_of_getElem? (i := 48) (by decide +kernel), List.mem_of_getElem? (i := 510) (by decide +kernel), List.mem_of_getElem? (i := 511) (by decide +kernel)⟩
theorem lw_p11 : lw_okq (⟨"BorrowedBeat", "openTown", "()V"⟩, 16) := ⟨⟨by decide +kernel, by decide +kernel⟩, List.mem_of_getElem? (i := 23) (by decide +kernel), List.mem_of_getElem? (i := 539) (by decide +kernel), List.mem_of_getElem? (i := 540) (by decide +kernel)⟩
theorem lw_p12 : lw_okq (⟨"BorrowedBeat", "mostOf", "(I)I"⟩, 16) := ⟨⟨by decide +kernel, by decide +kernel⟩, List.mem_of_getElem? (i := 23) (by decide +kernel), List.mem_of_getElem? (i := 610) (by decide +kernel), List.mem_of_getElem? (i := 611) (by decide +kernel)⟩
theorem lw_p13 : lw_okq (⟨"BorrowedBeat", "isPlayer", "(I)Z"⟩, 16) := ⟨⟨by decide +kernel, by decide +kernel⟩, List.mem_of_getElem? (i := 23) (by decide +kernel), List.mem_of_getElem? (i := 619) (by decide +kernel), List.mem_of_getElem? (i := 620) (by decide +kernel)⟩
theorem lw_p14 : lw_okq (⟨"BorrowedBeat", "mayTell", "(III)Z"⟩, 16) := ⟨⟨by decide +kernel, by decide +kernel⟩, List.mem_of_getElem? (i := 23) (by decide +kernel), List.mem_of_getElem? (i := 623) (by decide +kernel), List.mem_of_getElem? (i := 624) (by decide +kernel)⟩
theorem lw_p15 : lw_okq (⟨"BorrowedBeat", "wetness", "(I)I"⟩, 16) := ⟨⟨by decide +kernel, by decide +kernel⟩, List.mem_of_getElem? (i := 23) (by decide +kernel), List.mem_of_getElem? (i := 639) (by decide +kernel), List.mem_of_getElem? (i := 640) (by decide +kernel)⟩
def lw_privs_1 : List (MethodName × Nat) := [(⟨"BorrowedBeat$LawReader", "condition", "(I)Z"⟩, 5), (⟨"BorrowedBeat$LawReader", "unit", "(I)Z"⟩, 5), (⟨"BorrowedBeat$LawReader", "sum", "(I)Z"⟩, 5), (⟨"BorrowedBeat$LawReader", "atom", "(I)Z"⟩, 5), (⟨"BorrowedBeat$LawReader", "emit", "(I)Z"⟩, 5), (⟨"BorrowedBeat$LawReader", "comparison", "(I)Z"⟩, 5), (⟨"BorrowedBeat$LawReader", "negated", "(I)Z"⟩, 5), (⟨"BorrowedBeat$LawReader", "moreUnits", "(I)Z"⟩, 5), (⟨"BorrowedBeat$LawReader", "sumBehindCondition", "()Z"⟩, 5), (⟨"BorrowedBeat$TownReader", "readItems", "(Z)Z"⟩, 5), (⟨"BorrowedBeat$TownReader", "keep", "(ZII)V"⟩, 5), (⟨"BorrowedBeat", "openTown", "()V"⟩, 16), (⟨"BorrowedBeat", "mostOf", "(I)I"⟩, 16), (⟨"BorrowedBeat", "isPlayer", "(I)Z"⟩, 16), (⟨"BorrowedBeat", "mayTell", "(III)Z"⟩, 16), (⟨"BorrowedBeat", "wetness", "(I)I"⟩, 16)]
theorem lw_r1 : ∀ q ∈ lw_privs_1, lw_okq q := List.forall_mem_cons.mpr ⟨lw_p0, List.forall_mem_cons.mpr ⟨lw_p1, List.forall_mem_cons.mpr ⟨lw_p2, List.forall_mem_cons.mpr ⟨lw_p3, List.forall_mem_cons.mpr ⟨lw_p4, List.forall_mem_cons.mpr ⟨lw_p5, List.forall_mem_cons.mpr ⟨lw_p6, List.forall_mem_cons.mpr ⟨lw_p7, List.forall_mem_cons.mpr ⟨lw_p8, List.forall_mem_cons.mpr ⟨lw_p9, List.forall_mem_cons.mpr ⟨lw_p10, List.forall_mem_cons.mpr ⟨lw_p11, List.forall_mem_cons.mpr ⟨lw_p12, List.forall_mem_cons.mpr ⟨lw_p13, List.forall_mem_cons.mpr ⟨lw_p14, List.forall_mem_cons.mpr ⟨lw_p15, fun _ h => absurd h List.not_mem_nil⟩⟩⟩⟩⟩⟩⟩⟩⟩⟩⟩⟩⟩⟩⟩⟩
theorem lw_p16 : lw_okq (⟨"BorrowedBeat$Law", "worth", "(IILBorrowedBeat$Town;)I"⟩, 5) := ⟨⟨by decide +kernel, by decide +kernel⟩, List.mem_of_getElem? (i := 570) (by decide +kernel), List.mem_of_getElem? (i := 647) (by decide +kernel), List.mem_of_getElem? (i := 648) (by decide +kernel)⟩
theorem lw_p17 : lw_okq (⟨"BorrowedBeat$Law", "push", "(I)V"⟩, 5) := ⟨⟨by decide +kernel, by decide +kernel⟩, List.mem_of_getElem? (i := 570) (by decide +kernel), List.mem_of_getElem? (i := 651) (by decide +kernel), List.mem_of_getElem? (i := 652) (by decide +kernel)⟩
theorem lw_p18 : lw_okq (⟨"BorrowedBeat$Law", "pop", "()I"⟩, 5) := ⟨⟨by decide +kernel, by decide +kernel⟩, List.mem_of_getElem? (i := 570) (by decide +kernel), List.mem_of_getElem? (i := 655) (by decide +kernel), List.mem_of_getElem? (i := 656) (by decide +kernel)⟩
theorem lw_p19 : lw_okq (⟨"BorrowedBeat$Law", "work", "(IIILBorrowedBeat$Town;)V"⟩, 5) := ⟨⟨by decide +kernel, by decide +kernel⟩, List.mem_of_getElem? (i := 570) (by decide +kernel), List.mem_of_getElem? (i := 659) (by decide +kernel), List.mem_of_getElem? (i := 660) (by decide +kernel)⟩
theorem lw_p20 : lw_okq (⟨"BorrowedBeat", "isBar", "(I)Z"⟩, 16) := ⟨⟨by decide +kernel, by decide +kernel⟩, List.mem_of_getElem? (i := 23) (by decide +kernel), List.mem_of_getElem? (i := 726) (by decide +kernel), List.mem_of_getElem? (i := 727) (by decide +kernel)⟩
theorem lw_p21 : lw_okq (⟨"BorrowedBeat$Play", "open", "(LBorrowedBeat$Score;)V"⟩, 9) := ⟨⟨by decide +kernel, by decide +kernel⟩, List.mem_of_getElem? (i := 224) (by decide +kernel), List.mem_of_getElem? (i := 735) (by decide +kernel), List.mem_of_getElem? (i := 736) (by decide +kernel)⟩
theorem lw_p22 : lw_okq (⟨"BorrowedBeat$Play", "goOn", "(LBorrowedBeat$Score;I)V"⟩, 9) := ⟨⟨by decide +kernel, by decide +kernel⟩, List.mem_of_getElem? (i := 224) (by decide +kernel), List.mem_of_getElem? (i := 739) (by decide +kernel), List.mem_of_getElem? (i := 740) (by decide +kernel)⟩
theorem lw_p23 : lw_okq (⟨"BorrowedBeat$Play", "playBar", "(LBorrowedBeat$Score;I)I"⟩, 9) := ⟨⟨by decide +kernel, by decide +kernel⟩, List.mem_of_getElem? (i := 224) (by decide +kernel), List.mem_of_getElem? (i := 747) (by decide +kernel), List.mem_of_getElem? (i := 748) (by decide +kernel)⟩
theorem lw_p24 : lw_okq (⟨"BorrowedBeat", "isOneOfTwo", "(I)Z"⟩, 16) := ⟨⟨by decide +kernel, by decide +kernel⟩, List.mem_of_getElem? (i := 23) (by decide +kernel), List.mem_of_getElem? (i := 783) (by decide +kernel), List.mem_of_getElem? (i := 784) (by decide +kernel)⟩
theorem lw_p25 : lw_okq (⟨"BorrowedBeat$Play", "soundsLike", "(II)Z"⟩, 9) := ⟨⟨by decide +kernel, by decide +kernel⟩, List.mem_of_getElem? (i := 224) (by decide +kernel), List.mem_of_getElem? (i := 808) (by decide +kernel), List.mem_of_getElem? (i := 809) (by decide +kernel)⟩
theorem lw_p26 : lw_okq (⟨"BorrowedBeat$Play", "placeOf", "(II)I"⟩, 9) := ⟨⟨by decide +kernel, by decide +kernel⟩, List.mem_of_getElem? (i := 224) (by decide +kernel), List.mem_of_getElem? (i := 820) (by decide +kernel), List.mem_of_getElem? (i := 821) (by decide +kernel)⟩
theorem lw_p27 : lw_okq (⟨"BorrowedBeat$Play", "order", "(III)I"⟩, 9) := ⟨⟨by decide +kernel, by decide +kernel⟩, List.mem_of_getElem? (i := 224) (by decide +kernel), List.mem_of_getElem? (i := 832) (by decide +kernel), List.mem_of_getElem? (i := 833) (by decide +kernel)⟩
theorem lw_p28 : lw_okq (⟨"BorrowedBeat$Play", "apartFromAll", "(II)I"⟩, 9) := ⟨⟨by decide +kernel, by decide +kernel⟩, List.mem_of_getElem? (i := 224) (by decide +kernel), List.mem_of_getElem? (i := 847) (by decide +kernel), List.mem_of_getElem? (i := 848) (by decide +kernel)⟩
theorem lw_p29 : lw_okq (⟨"BorrowedBeat", "isToldSo", "()Z"⟩, 16) := ⟨⟨by decide +kernel, by decide +kernel⟩, List.mem_of_getElem? (i := 23) (by decide +kernel), List.mem_of_getElem? (i := 900) (by decide +kernel), List.mem_of_getElem? (i := 901) (by decide +kernel)⟩
theorem lw_p30 : lw_okq (⟨"BorrowedBeat$MarkSearch", "goOnFrom", "(ILBorrowedBeat$Play;LBorrowedBeat$Score;I)V"⟩, 5) := ⟨⟨by decide +kernel, by decide +kernel⟩, List.mem_of_getElem? (i := 261) (by decide +kernel), List.mem_of_getElem? (i := 930) (by decide +kernel), List.mem_of_getElem? (i := 931) (by decide +kernel)⟩
theorem lw_p31 : lw_okq (⟨"BorrowedBeat$MarkSearch", "spreadBehind", "(ILBorrowedBeat$Play;LBorrowedBeat$Score;)I"⟩, 5) := ⟨⟨by decide +kernel, by decide +kernel⟩, List.mem_of_getElem? (i := 261) (by decide +kernel), List.mem_of_getElem? (i := 934) (by decide +kernel), List.mem_of_getElem? (i := 935) (by decide +kernel)⟩
def lw_privs_2 : List (MethodName × Nat) := [(⟨"BorrowedBeat$Law", "worth", "(IILBorrowedBeat$Town;)I"⟩, 5), (⟨"BorrowedBeat$Law", "push", "(I)V"⟩, 5), (⟨"BorrowedBeat$Law", "pop", "()I"⟩, 5), (⟨"BorrowedBeat$Law", "work", "(IIILBorrowedBeat$Town;)V"⟩, 5), (⟨"BorrowedBeat", "isBar", "(I)Z"⟩, 16), (⟨"BorrowedBeat$Play", "open", "(LBorrowedBeat$Score;)V"⟩, 9), (⟨"BorrowedBeat$Play", "goOn", "(LBorrowedBeat$Score;I)V"⟩, 9), (⟨"BorrowedBeat$Play", "playBar", "(LBorrowedBeat$Score;I)I"⟩, 9), (⟨"BorrowedBeat", "isOneOfTwo", "(I)Z"⟩, 16), (⟨"BorrowedBeat$Play", "soundsLike", "(II)Z"⟩, 9), (⟨"BorrowedBeat$Play", "placeOf", "(II)I"⟩, 9), (⟨"BorrowedBeat$Play", "order", "(III)I"⟩, 9), (⟨"BorrowedBeat$Play", "apartFromAll", "(II)I"⟩, 9), (⟨"BorrowedBeat", "isToldSo", "()Z"⟩, 16), (⟨"BorrowedBeat$MarkSearch", "goOnFrom", "(ILBorrowedBeat$Play;LBorrowedBeat$Score;I)V"⟩, 5), (⟨"BorrowedBeat$MarkSearch", "spreadBehind", "(ILBorrowedBeat$Play;LBorrowedBeat$Score;)I"⟩, 5)]
theorem lw_r2 : ∀ q ∈ lw_privs_2, lw_okq q := List.forall_mem_cons.mpr ⟨lw_p16, List.forall_mem_cons.mpr ⟨lw_p17, List.forall_mem_cons.mpr ⟨lw_p18, List.forall_mem_cons.mpr ⟨lw_p19, List.forall_mem_cons.mpr ⟨lw_p20, List.forall_mem_cons.mpr ⟨lw_p21, List.forall_mem_cons.mpr ⟨lw_p22, List.forall_mem_cons.mpr ⟨lw_p23, List.forall_mem_cons.mpr ⟨lw_p24, List.forall_mem_cons.mpr ⟨lw_p25, List.forall_mem_cons.mpr ⟨lw_p26, List.forall_mem_cons.mpr ⟨lw_p27, List.forall_mem_cons.mpr ⟨lw_p28, List.forall_mem_cons.mpr ⟨lw_p29, List.forall_mem_cons.mpr ⟨lw_p30, List.forall_mem_cons.mpr ⟨lw_p31, fun _ h => absurd h List.not_mem_nil⟩⟩⟩⟩⟩⟩⟩⟩⟩⟩⟩⟩⟩⟩⟩⟩
theorem lw_p32 : lw_okq (⟨"BorrowedBeat$MarkSearch", "endBetter", "(II)V"⟩, 5) := ⟨⟨by decide +kernel, by decide +kernel⟩, List.mem_of_getElem? (i := 261) (by decide +kernel), List.mem_of_getElem? (i := 941) (by decide +kernel), List.mem_of_getElem? (i := 942) (by decide +kernel)⟩
theorem lw_p33 : lw_okq (⟨"BorrowedBeat$MarkSearch", "markBetter", "(III)V"⟩, 5) := ⟨⟨by decide +kernel, by decide +kernel⟩, List.mem_of_getElem? (i := 261) (by decide +kernel), List.mem_of_getElem? (i := 945) (by decide +kernel), List.mem_of_getElem? (i := 946) (by decide +kernel)⟩
theorem lw_p34 : lw_okq (⟨"BorrowedBeat$WeekSearch", "foresee", "(LBorrowedBeat$Town;LBorrowedBeat$Score;)V"⟩, 7) := ⟨⟨by decide +kernel, by decide +kernel⟩, List.mem_of_getElem? (i := 285) (by decide +kernel), List.mem_of_getElem? (i := 958) (by decide +kernel), List.mem_of_getElem? (i := 959) (by decide +kernel)⟩
theorem lw_p35 : lw_okq (⟨"BorrowedBeat$WeekSearch", "weigh", "(I)V"⟩, 7) := ⟨⟨by decide +kernel, by decide +kernel⟩, List.mem_of_getElem? (i := 285) (by decide +kernel), List.mem_of_getElem? (i := 970) (by decide +kernel), List.mem_of_getElem? (i := 971) (by decide +kernel)⟩
theorem lw_p36 : lw_okq (⟨"java/lang/Throwable", "fillInStackTrace", "(I)Ljava/lang/Throwable;"⟩, 6) := ⟨⟨by decide +kernel, by decide +kernel⟩, List.mem_of_getElem? (i := 1036) (by decide +kernel), List.mem_of_getElem? (i := 1034) (by decide +kernel), List.mem_of_getElem? (i := 1035) (by decide +kernel)⟩
theorem lw_p37 : lw_okq (⟨"BorrowedBeatModel", "readTown", "()I"⟩, 50) := ⟨⟨by decide +kernel, by decide +kernel⟩, List.mem_of_getElem? (i := 1067) (by decide +kernel), List.mem_of_getElem? (i := 1239) (by decide +kernel), List.mem_of_getElem? (i := 1240) (by decide +kernel)⟩
theorem lw_p38 : lw_okq (⟨"BorrowedBeatModel", "look", "()I"⟩, 50) := ⟨⟨by decide +kernel, by decide +kernel⟩, List.mem_of_getElem? (i := 1067) (by decide +kernel), List.mem_of_getElem? (i := 1243) (by decide +kernel), List.mem_of_getElem? (i := 1244) (by decide +kernel)⟩
theorem lw_p39 : lw_okq (⟨"BorrowedBeatModel", "here", "()I"⟩, 50) := ⟨⟨by decide +kernel, by decide +kernel⟩, List.mem_of_getElem? (i := 1067) (by decide +kernel), List.mem_of_getElem? (i := 1247) (by decide +kernel), List.mem_of_getElem? (i := 1248) (by decide +kernel)⟩
theorem lw_p40 : lw_okq (⟨"BorrowedBeatModel", "playerText", "()V"⟩, 50) := ⟨⟨by decide +kernel, by decide +kernel⟩, List.mem_of_getElem? (i := 1067) (by decide +kernel), List.mem_of_getElem? (i := 1251) (by decide +kernel), List.mem_of_getElem? (i := 1252) (by decide +kernel)⟩
theorem lw_p41 : lw_okq (⟨"BorrowedBeatModel", "bad", "()V"⟩, 50) := ⟨⟨by decide +kernel, by decide +kernel⟩, List.mem_of_getElem? (i := 1067) (by decide +kernel), List.mem_of_getElem? (i := 1255) (by decide +kernel), List.mem_of_getElem? (i := 1256) (by decide +kernel)⟩
theorem lw_p42 : lw_okq (⟨"BorrowedBeatModel", "number", "(II)I"⟩, 50) := ⟨⟨by decide +kernel, by decide +kernel⟩, List.mem_of_getElem? (i := 1067) (by decide +kernel), List.mem_of_getElem? (i := 1268) (by decide +kernel), List.mem_of_getElem? (i := 1269) (by decide +kernel)⟩
theorem lw_p43 : lw_okq (⟨"BorrowedBeatModel", "areTold", "()Z"⟩, 50) := ⟨⟨by decide +kernel, by decide +kernel⟩, List.mem_of_getElem? (i := 1067) (by decide +kernel), List.mem_of_getElem? (i := 1278) (by decide +kernel), List.mem_of_getElem? (i := 1279) (by decide +kernel)⟩
theorem lw_p44 : lw_okq (⟨"BorrowedBeatModel", "readLaw", "(I)I"⟩, 50) := ⟨⟨by decide +kernel, by decide +kernel⟩, List.mem_of_getElem? (i := 1067) (by decide +kernel), List.mem_of_getElem? (i := 1282) (by decide +kernel), List.mem_of_getElem? (i := 1283) (by decide +kernel)⟩
theorem lw_p45 : lw_okq (⟨"BorrowedBeatModel", "open", "(I)V"⟩, 50) := ⟨⟨by decide +kernel, by decide +kernel⟩, List.mem_of_getElem? (i := 1067) (by decide +kernel), List.mem_of_getElem? (i := 1286) (by decide +kernel), List.mem_of_getElem? (i := 1287) (by decide +kernel)⟩
theorem lw_p46 : lw_okq (⟨"BorrowedBeatModel", "clause", "()V"⟩, 50) := ⟨⟨by decide +kernel, by decide +kernel⟩, List.mem_of_getElem? (i := 1067) (by decide +kernel), List.mem_of_getElem? (i := 1290) (by decide +kernel), List.mem_of_getElem? (i := 1291) (by decide +kernel)⟩
theorem lw_p47 : lw_okq (⟨"BorrowedBeatModel", "condition", "()V"⟩, 50) := ⟨⟨by decide +kernel, by decide +kernel⟩, List.mem_of_getElem? (i := 1067) (by decide +kernel), List.mem_of_getElem? (i := 1294) (by decide +kernel), List.mem_of_getElem? (i := 1295) (by decide +kernel)⟩
def lw_privs_3 : List (MethodName × Nat) := [(⟨"BorrowedBeat$MarkSearch", "endBetter", "(II)V"⟩, 5), (⟨"BorrowedBeat$MarkSearch", "markBetter", "(III)V"⟩, 5), (⟨"BorrowedBeat$WeekSearch", "foresee", "(LBorrowedBeat$Town;LBorrowedBeat$Score;)V"⟩, 7), (⟨"BorrowedBeat$WeekSearch", "weigh", "(I)V"⟩, 7), (⟨"java/lang/Throwable", "fillInStackTrace", "(I)Ljava/lang/Throwable;"⟩, 6), (⟨"BorrowedBeatModel", "readTown", "()I"⟩, 50), (⟨"BorrowedBeatModel", "look", "()I"⟩, 50), (⟨"BorrowedBeatModel", "here", "()I"⟩, 50), (⟨"BorrowedBeatModel", "playerText", "()V"⟩, 50), (⟨"BorrowedBeatModel", "bad", "()V"⟩, 50), (⟨"BorrowedBeatModel", "number", "(II)I"⟩, 50), (⟨"BorrowedBeatModel", "areTold", "()Z"⟩, 50), (⟨"BorrowedBeatModel", "readLaw", "(I)I"⟩, 50), (⟨"BorrowedBeatModel", "open", "(I)V"⟩, 50), (⟨"BorrowedBeatModel", "clause", "()V"⟩, 50), (⟨"BorrowedBeatModel", "condition", "()V"⟩, 50)]
theorem lw_r3 : ∀ q ∈ lw_privs_3, lw_okq q := List.forall_mem_cons.mpr ⟨lw_p32, List.forall_mem_cons.mpr ⟨lw_p33, List.forall_mem_cons.mpr ⟨lw_p34, List.forall_mem_cons.mpr ⟨lw_p35, List.forall_mem_cons.mpr ⟨lw_p36, List.forall_mem_cons.mpr ⟨lw_p37, List.forall_mem_cons.mpr ⟨lw_p38, List.forall_mem_cons.mpr ⟨lw_p39, List.forall_mem_cons.mpr ⟨lw_p40, List.forall_mem_cons.mpr ⟨lw_p41, List.forall_mem_cons.mpr ⟨lw_p42, List.forall_mem_cons.mpr ⟨lw_p43, List.forall_mem_cons.mpr ⟨lw_p44, List.forall_mem_cons.mpr ⟨lw_p45, List.forall_mem_cons.mpr ⟨lw_p46, List.forall_mem_cons.mpr ⟨lw_p47, fun _ h => absurd h List.not_mem_nil⟩⟩⟩⟩⟩⟩⟩⟩⟩⟩⟩⟩⟩⟩⟩⟩
theorem lw_p48 : lw_okq (⟨"BorrowedBeatModel", "unit", "()V"⟩, 50) := ⟨⟨by decide +kernel, by decide +kernel⟩, List.mem_of_getElem? (i := 1067) (by decide +kernel), List.mem_of_getElem? (i := 1298) (by decide +kernel), List.mem_of_getElem? (i := 1299) (by decide +kernel)⟩
theorem lw_p49 : lw_okq (⟨"BorrowedBeatModel", "opens", "()V"⟩, 50) := ⟨⟨by decide +kernel, by decide +kernel⟩, List.mem_of_getElem? (i := 1067) (by decide +kernel), List.mem_of_getElem? (i := 1302) (by decide +kernel), List.mem_of_getElem? (i := 1303) (by decide +kernel)⟩
theorem lw_p50 : lw_okq (⟨"BorrowedBeatModel", "put", "(II)V"⟩, 50) := ⟨⟨by decide +kernel, by decide +kernel⟩, List.mem_of_getElem? (i := 1067) (by decide +kernel), List.mem_of_getElem? (i := 1306) (by decide +kernel), List.mem_of_getElem? (i := 1307) (by decide +kernel)⟩
theorem lw_p51 : lw_okq (⟨"BorrowedBeatModel", "closes", "(I)V"⟩, 50) := ⟨⟨by decide +kernel, by decide +kernel⟩, List.mem_of_getElem? (i := 1067) (by decide +kernel), List.mem_of_getElem? (i := 1310) (by decide +kernel), List.mem_of_getElem? (i := 1311) (by decide +kernel)⟩
theorem lw_p52 : lw_okq (⟨"BorrowedBeatModel", "sum", "()V"⟩, 50) := ⟨⟨by decide +kernel, by decide +kernel⟩, List.mem_of_getElem? (i := 1067) (by decide +kernel), List.mem_of_getElem? (i := 1314) (by decide +kernel), List.mem_of_getElem? (i := 1315) (by decide +kernel)⟩
theorem lw_p53 : lw_okq (⟨"BorrowedBeatModel", "term", "()V"⟩, 50) := ⟨⟨by decide +kernel, by decide +kernel⟩, List.mem_of_getElem? (i := 1067) (by decide +kernel), List.mem_of_getElem? (i := 1318) (by decide +kernel), List.mem_of_getElem? (i := 1319) (by decide +kernel)⟩
theorem lw_p54 : lw_okq (⟨"BorrowedBeatModel", "atom", "()V"⟩, 50) := ⟨⟨by decide +kernel, by decide +kernel⟩, List.mem_of_getElem? (i := 1067) (by decide +kernel), List.mem_of_getElem? (i := 1322) (by decide +kernel), List.mem_of_getElem? (i := 1323) (by decide +kernel)⟩
theorem lw_p55 : lw_okq (⟨"BorrowedBeatModel", "plainNumber", "()I"⟩, 50) := ⟨⟨by decide +kernel, by decide +kernel⟩, List.mem_of_getElem? (i := 1067) (by decide +kernel), List.mem_of_getElem? (i := 1326) (by decide +kernel), List.mem_of_getElem? (i := 1327) (by decide +kernel)⟩
theorem lw_p56 : lw_okq (⟨"BorrowedBeatModel", "compare", "()V"⟩, 50) := ⟨⟨by decide +kernel, by decide +kernel⟩, List.mem_of_getElem? (i := 1067) (by decide +kernel), List.mem_of_getElem? (i := 1333) (by decide +kernel), List.mem_of_getElem? (i := 1334) (by decide +kernel)⟩
theorem lw_p57 : lw_okq (⟨"BorrowedBeatModel", "goOnAnd", "()V"⟩, 50) := ⟨⟨by decide +kernel, by decide +kernel⟩, List.mem_of_getElem? (i := 1067) (by decide +kernel), List.mem_of_getElem? (i := 1340) (by decide +kernel), List.mem_of_getElem? (i := 1341) (by decide +kernel)⟩
theorem lw_p58 : lw_okq (⟨"BorrowedBeatModel", "goOnOr", "()V"⟩, 50) := ⟨⟨by decide +kernel, by decide +kernel⟩, List.mem_of_getElem? (i := 1067) (by decide +kernel), List.mem_of_getElem? (i := 1344) (by decide +kernel), List.mem_of_getElem? (i := 1345) (by decide +kernel)⟩
theorem lw_p59 : lw_okq (⟨"BorrowedBeatModel", "atEnd", "()I"⟩, 50) := ⟨⟨by decide +kernel, by decide +kernel⟩, List.mem_of_getElem? (i := 1067) (by decide +kernel), List.mem_of_getElem? (i := 1348) (by decide +kernel), List.mem_of_getElem? (i := 1349) (by decide +kernel)⟩
theorem lw_p60 : lw_okq (⟨"BorrowedBeatModel", "takeTown", "()I"⟩, 50) := ⟨⟨by decide +kernel, by decide +kernel⟩, List.mem_of_getElem? (i := 1067) (by decide +kernel), List.mem_of_getElem? (i := 1356) (by decide +kernel), List.mem_of_getElem? (i := 1357) (by decide +kernel)⟩
theorem lw_p61 : lw_okq (⟨"BorrowedBeatModel", "isPlayer", "(I)Z"⟩, 50) := ⟨⟨by decide +kernel, by decide +kernel⟩, List.mem_of_getElem? (i := 1067) (by decide +kernel), List.mem_of_getElem? (i := 1364) (by decide +kernel), List.mem_of_getElem? (i := 1365) (by decide +kernel)⟩
theorem lw_p62 : lw_okq (⟨"BorrowedBeatModel", "of", "(II)I"⟩, 50) := ⟨⟨by decide +kernel, by decide +kernel⟩, List.mem_of_getElem? (i := 1067) (by decide +kernel), List.mem_of_getElem? (i := 1368) (by decide +kernel), List.mem_of_getElem? (i := 1369) (by decide +kernel)⟩
theorem lw_p63 : lw_okq (⟨"BorrowedBeatModel", "dampOf", "(I)I"⟩, 50) := ⟨⟨by decide +kernel, by decide +kernel⟩, List.mem_of_getElem? (i := 1067) (by decide +kernel), List.mem_of_getElem? (i := 1388) (by decide +kernel), List.mem_of_getElem? (i := 1389) (by decide +kernel)⟩
def lw_privs_4 : List (MethodName × Nat) := [(⟨"BorrowedBeatModel", "unit", "()V"⟩, 50), (⟨"BorrowedBeatModel", "opens", "()V"⟩, 50), (⟨"BorrowedBeatModel", "put", "(II)V"⟩, 50), (⟨"BorrowedBeatModel", "closes", "(I)V"⟩, 50), (⟨"BorrowedBeatModel", "sum", "()V"⟩, 50), (⟨"BorrowedBeatModel", "term", "()V"⟩, 50), (⟨"BorrowedBeatModel", "atom", "()V"⟩, 50), (⟨"BorrowedBeatModel", "plainNumber", "()I"⟩, 50), (⟨"BorrowedBeatModel", "compare", "()V"⟩, 50), (⟨"BorrowedBeatModel", "goOnAnd", "()V"⟩, 50), (⟨"BorrowedBeatModel", "goOnOr", "()V"⟩, 50), (⟨"BorrowedBeatModel", "atEnd", "()I"⟩, 50), (⟨"BorrowedBeatModel", "takeTown", "()I"⟩, 50), (⟨"BorrowedBeatModel", "isPlayer", "(I)Z"⟩, 50), (⟨"BorrowedBeatModel", "of", "(II)I"⟩, 50), (⟨"BorrowedBeatModel", "dampOf", "(I)I"⟩, 50)]
theorem lw_r4 : ∀ q ∈ lw_privs_4, lw_okq q := List.forall_mem_cons.mpr ⟨lw_p48, List.forall_mem_cons.mpr ⟨lw_p49, List.forall_mem_cons.mpr ⟨lw_p50, List.forall_mem_cons.mpr ⟨lw_p51, List.forall_mem_cons.mpr ⟨lw_p52, List.forall_mem_cons.mpr ⟨lw_p53, List.forall_mem_cons.mpr ⟨lw_p54, List.forall_mem_cons.mpr ⟨lw_p55, List.forall_mem_cons.mpr ⟨lw_p56, List.forall_mem_cons.mpr ⟨lw_p57, List.forall_mem_cons.mpr ⟨lw_p58, List.forall_mem_cons.mpr ⟨lw_p59, List.forall_mem_cons.mpr ⟨lw_p60, List.forall_mem_cons.mpr ⟨lw_p61, List.forall_mem_cons.mpr ⟨lw_p62, List.forall_mem_cons.mpr ⟨lw_p63, fun _ h => absurd h List.not_mem_nil⟩⟩⟩⟩⟩⟩⟩⟩⟩⟩⟩⟩⟩⟩⟩⟩
theorem lw_p64 : lw_okq (⟨"BorrowedBeatModel", "worthOf", "(I)I"⟩, 50) := ⟨⟨by decide +kernel, by decide +kernel⟩, List.mem_of_getElem? (i := 1067) (by decide +kernel), List.mem_of_getElem? (i := 1392) (by decide +kernel), List.mem_of_getElem? (i := 1393) (by decide +kernel)⟩
theorem lw_p65 : lw_okq (⟨"BorrowedBeatModel", "workOut", "(III)I"⟩, 50) := ⟨⟨by decide +kernel, by decide +kernel⟩, List.mem_of_getElem? (i := 1067) (by decide +kernel), List.mem_of_getElem? (i := 1396) (by decide +kernel), List.mem_of_getElem? (i := 1397) (by decide +kernel)⟩
theorem lw_p66 : lw_okq (⟨"BorrowedBeatModel", "pass", "(II)V"⟩, 50) := ⟨⟨by decide +kernel, by decide +kernel⟩, List.mem_of_getElem? (i := 1067) (by decide +kernel), List.mem_of_getElem? (i := 1416) (by decide +kernel), List.mem_of_getElem? (i := 1417) (by decide +kernel)⟩
theorem lw_p67 : lw_okq (⟨"BorrowedBeatModel", "isBar", "(I)Z"⟩, 50) := ⟨⟨by decide +kernel, by decide +kernel⟩, List.mem_of_getElem? (i := 1067) (by decide +kernel), List.mem_of_getElem? (i := 1428) (by decide +kernel), List.mem_of_getElem? (i := 1429) (by decide +kernel)⟩
theorem lw_p68 : lw_okq (⟨"BorrowedBeatModel", "play", "()V"⟩, 50) := ⟨⟨by decide +kernel, by decide +kernel⟩, List.mem_of_getElem? (i := 1067) (by decide +kernel), List.mem_of_getElem? (i := 1432) (by decide +kernel), List.mem_of_getElem? (i := 1433) (by decide +kernel)⟩
theorem lw_p69 : lw_okq (⟨"BorrowedBeatModel", "layBeats", "(I)V"⟩, 50) := ⟨⟨by decide +kernel, by decide +kernel⟩, List.mem_of_getElem? (i := 1067) (by decide +kernel), List.mem_of_getElem? (i := 1436) (by decide +kernel), List.mem_of_getElem? (i := 1437) (by decide +kernel)⟩
theorem lw_p70 : lw_okq (⟨"BorrowedBeatModel", "beatBehind", "(II)I"⟩, 50) := ⟨⟨by decide +kernel, by decide +kernel⟩, List.mem_of_getElem? (i := 1067) (by decide +kernel), List.mem_of_getElem? (i := 1440) (by decide +kernel), List.mem_of_getElem? (i := 1441) (by decide +kernel)⟩
theorem lw_p71 : lw_okq (⟨"BorrowedBeatModel", "spreadAt", "(I)I"⟩, 50) := ⟨⟨by decide +kernel, by decide +kernel⟩, List.mem_of_getElem? (i := 1067) (by decide +kernel), List.mem_of_getElem? (i := 1448) (by decide +kernel), List.mem_of_getElem? (i := 1449) (by decide +kernel)⟩
theorem lw_p72 : lw_okq (⟨"BorrowedBeatModel", "worstNow", "()I"⟩, 50) := ⟨⟨by decide +kernel, by decide +kernel⟩, List.mem_of_getElem? (i := 1067) (by decide +kernel), List.mem_of_getElem? (i := 1456) (by decide +kernel), List.mem_of_getElem? (i := 1457) (by decide +kernel)⟩
theorem lw_p73 : lw_okq (⟨"BorrowedBeatModel", "worstBar", "()I"⟩, 50) := ⟨⟨by decide +kernel, by decide +kernel⟩, List.mem_of_getElem? (i := 1067) (by decide +kernel), List.mem_of_getElem? (i := 1460) (by decide +kernel), List.mem_of_getElem? (i := 1461) (by decide +kernel)⟩
theorem lw_p74 : lw_okq (⟨"BorrowedBeatModel", "lastAt", "(I)I"⟩, 50) := ⟨⟨by decide +kernel, by decide +kernel⟩, List.mem_of_getElem? (i := 1067) (by decide +kernel), List.mem_of_getElem? (i := 1472) (by decide +kernel), List.mem_of_getElem? (i := 1473) (by decide +kernel)⟩
theorem lw_p75 : lw_okq (⟨"BorrowedBeatModel", "areLike", "(II)Z"⟩, 50) := ⟨⟨by decide +kernel, by decide +kernel⟩, List.mem_of_getElem? (i := 1067) (by decide +kernel), List.mem_of_getElem? (i := 1480) (by decide +kernel), List.mem_of_getElem? (i := 1481) (by decide +kernel)⟩
theorem lw_p76 : lw_okq (⟨"BorrowedBeatModel", "weekFrom", "(II)V"⟩, 50) := ⟨⟨by decide +kernel, by decide +kernel⟩, List.mem_of_getElem? (i := 1067) (by decide +kernel), List.mem_of_getElem? (i := 1496) (by decide +kernel), List.mem_of_getElem? (i := 1497) (by decide +kernel)⟩
theorem lw_p77 : lw_okq (⟨"BorrowedBeatModel", "keepBeats", "(I)V"⟩, 50) := ⟨⟨by decide +kernel, by decide +kernel⟩, List.mem_of_getElem? (i := 1067) (by decide +kernel), List.mem_of_getElem? (i := 1500) (by decide +kernel), List.mem_of_getElem? (i := 1501) (by decide +kernel)⟩
theorem lw_p78 : lw_okq (⟨"BorrowedBeatModel", "takeBeats", "(I)V"⟩, 50) := ⟨⟨by decide +kernel, by decide +kernel⟩, List.mem_of_getElem? (i := 1067) (by decide +kernel), List.mem_of_getElem? (i := 1504) (by decide +kernel), List.mem_of_getElem? (i := 1505) (by decide +kernel)⟩
theorem lw_p79 : lw_okq (⟨"BorrowedBeatModel", "marksFrom", "(I)V"⟩, 50) := ⟨⟨by decide +kernel, by decide +kernel⟩, List.mem_of_getElem? (i := 1067) (by decide +kernel), List.mem_of_getElem? (i := 1517) (by decide +kernel), List.mem_of_getElem? (i := 1518) (by decide +kernel)⟩
def lw_privs_5 : List (MethodName × Nat) := [(⟨"BorrowedBeatModel", "worthOf", "(I)I"⟩, 50), (⟨"BorrowedBeatModel", "workOut", "(III)I"⟩, 50), (⟨"BorrowedBeatModel", "pass", "(II)V"⟩, 50), (⟨"BorrowedBeatModel", "isBar", "(I)Z"⟩, 50), (⟨"BorrowedBeatModel", "play", "()V"⟩, 50), (⟨"BorrowedBeatModel", "layBeats", "(I)V"⟩, 50), (⟨"BorrowedBeatModel", "beatBehind", "(II)I"⟩, 50), (⟨"BorrowedBeatModel", "spreadAt", "(I)I"⟩, 50), (⟨"BorrowedBeatModel", "worstNow", "()I"⟩, 50), (⟨"BorrowedBeatModel", "worstBar", "()I"⟩, 50), (⟨"BorrowedBeatModel", "lastAt", "(I)I"⟩, 50), (⟨"BorrowedBeatModel", "areLike", "(II)Z"⟩, 50), (⟨"BorrowedBeatModel", "weekFrom", "(II)V"⟩, 50), (⟨"BorrowedBeatModel", "keepBeats", "(I)V"⟩, 50), (⟨"BorrowedBeatModel", "takeBeats", "(I)V"⟩, 50), (⟨"BorrowedBeatModel", "marksFrom", "(I)V"⟩, 50)]
theorem lw_r5 : ∀ q ∈ lw_privs_5, lw_okq q := List.forall_mem_cons.mpr ⟨lw_p64, List.forall_mem_cons.mpr ⟨lw_p65, List.forall_mem_cons.mpr ⟨lw_p66, List.forall_mem_cons.mpr ⟨lw_p67, List.forall_mem_cons.mpr ⟨lw_p68, List.forall_mem_cons.mpr ⟨lw_p69, List.forall_mem_cons.mpr ⟨lw_p70, List.forall_mem_cons.mpr ⟨lw_p71, List.forall_mem_cons.mpr ⟨lw_p72, List.forall_mem_cons.mpr ⟨lw_p73, List.forall_mem_cons.mpr ⟨lw_p74, List.forall_mem_cons.mpr ⟨lw_p75, List.forall_mem_cons.mpr ⟨lw_p76, List.forall_mem_cons.mpr ⟨lw_p77, List.forall_mem_cons.mpr ⟨lw_p78, List.forall_mem_cons.mpr ⟨lw_p79, fun _ h => absurd h List.not_mem_nil⟩⟩⟩⟩⟩⟩⟩⟩⟩⟩⟩⟩⟩⟩⟩⟩
theorem lw_p80 : lw_okq (⟨"BorrowedBeatModel", "oddsFrom", "(III)I"⟩, 50) := ⟨⟨by decide +kernel, by decide +kernel⟩, List.mem_of_getElem? (i := 1067) (by decide +kernel), List.mem_of_getElem? (i := 1525) (by decide +kernel), List.mem_of_getElem? (i := 1526) (by decide +kernel)⟩
theorem lw_p81 : lw_okq (⟨"BorrowedBeatModel", "isAloneLast", "(I)Z"⟩, 50) := ⟨⟨by decide +kernel, by decide +kernel⟩, List.mem_of_getElem? (i := 1067) (by decide +kernel), List.mem_of_getElem? (i := 1533) (by decide +kernel), List.mem_of_getElem? (i := 1534) (by decide +kernel)⟩
theorem lw_p82 : lw_okq (⟨"BorrowedBeatModel", "agrees", "()Z"⟩, 50) := ⟨⟨by decide +kernel, by decide +kernel⟩, List.mem_of_getElem? (i := 1067) (by decide +kernel), List.mem_of_getElem? (i := 1545) (by decide +kernel), List.mem_of_getElem? (i := 1546) (by decide +kernel)⟩
theorem lw_p83 : lw_okq (⟨"BorrowedBeatModel", "aheadAt", "(III)I"⟩, 50) := ⟨⟨by decide +kernel, by decide +kernel⟩, List.mem_of_getElem? (i := 1067) (by decide +kernel), List.mem_of_getElem? (i := 1574) (by decide +kernel), List.mem_of_getElem? (i := 1575) (by decide +kernel)⟩
def lw_privs_6 : List (MethodName × Nat) := [(⟨"BorrowedBeatModel", "oddsFrom", "(III)I"⟩, 50), (⟨"BorrowedBeatModel", "isAloneLast", "(I)Z"⟩, 50), (⟨"BorrowedBeatModel", "agrees", "()Z"⟩, 50), (⟨"BorrowedBeatModel", "aheadAt", "(III)I"⟩, 50)]
theorem lw_r6 : ∀ q ∈ lw_privs_6, lw_okq q := List.forall_mem_cons.mpr ⟨lw_p80, List.forall_mem_cons.mpr ⟨lw_p81, List.forall_mem_cons.mpr ⟨lw_p82, List.forall_mem_cons.mpr ⟨lw_p83, fun _ h => absurd h List.not_mem_nil⟩⟩⟩⟩
def lw_privs : List (MethodName × Nat) := lw_privs_1 ++ (lw_privs_2 ++ (lw_privs_3 ++ (lw_privs_4 ++ (lw_privs_5 ++ (lw_privs_6)))))
def lw_tbl : List Cond := k2_sels lw_privs ++ tables_1
theorem lw_privs_ok : ∀ q ∈ lw_privs, lw_okq q := by
  show ∀ q ∈ lw_privs_1 ++ (lw_privs_2 ++ (lw_privs_3 ++ (lw_privs_4 ++ (lw_privs_5 ++ (lw_privs_6))))), lw_okq q
  exact List.forall_mem_append.mpr ⟨lw_r1, List.forall_mem_append.mpr ⟨lw_r2, List.forall_mem_append.mpr ⟨lw_r3, List.forall_mem_append.mpr ⟨lw_r4, List.forall_mem_append.mpr ⟨lw_r5, lw_r6⟩⟩⟩⟩⟩
def RX0 : String := "BorrowedBeat$Diary"
def TX0 : u_T := fun k => match k with
  | 0 => ("BorrowedBeat$Diary", "today", "I", false)
  | 1 => ("BorrowedBeat$Diary", "undoable", "I", false)
  | 2 => ("BorrowedBeat$Diary", "hasImage", "Z", false)
  | 3 => ("BorrowedBeat$Diary", "imageDay", "I", false)
  | 4 => ("BorrowedBeat$Diary", "next", "I", false)
  | 5 => ("BorrowedBeat$Diary", "imageBeats", "[I", true)
  | _ => ("BorrowedBeat$Diary", "rows", "[I", true)
def tyX0 : Nat → FieldType := fun k => match k with
  | 0 => .int
  | 1 => .int
  | 2 => .boolean
  | 3 => .int
  | 4 => .int
  | 5 => .array .int
  | _ => .array .int
theorem nmX0 : ∀ a, a < 7 → ∀ b, b < 7 → a ≠ b → (TX0 a).2.1 ≠ (TX0 b).2.1 := by decide +kernel
theorem tyX0_ok : ∀ k, k < 7 → parseFieldDescriptor (TX0 k).2.2.1 = some (tyX0 k) := by decide +kernel
abbrev cX0_init : ByteArray := prog_2_method_1_code
def yX0_init : MethodName := ⟨RX0, "<init>", "()V"⟩
abbrev cX0_open : ByteArray := prog_2_method_2_code
def yX0_open : MethodName := ⟨RX0, "open", "()V"⟩
abbrev cX0_keep : ByteArray := prog_2_method_3_code
def yX0_keep : MethodName := ⟨RX0, "keep", "([I)V"⟩
abbrev cX0_takeBack : ByteArray := prog_2_method_4_code
def yX0_takeBack : MethodName := ⟨RX0, "takeBack", "([I)V"⟩
abbrev cX0_takeImage : ByteArray := prog_2_method_5_code
def yX0_takeImage : MethodName := ⟨RX0, "takeImage", "([I)V"⟩
abbrev cX0_comeBack : ByteArray := prog_2_method_6_code
def yX0_comeBack : MethodName := ⟨RX0, "comeBack", "([I)V"⟩
def RX1 : String := "BorrowedBeat$Law"
def TX1 : u_T := fun k => match k with
  | 0 => ("BorrowedBeat$Law", "code", "[I", true)
  | 1 => ("BorrowedBeat$Law", "stack", "[I", true)
  | 2 => ("BorrowedBeat$Law", "kept", "[I", true)
  | 3 => ("BorrowedBeat$Law", "top", "I", false)
  | _ => ("BorrowedBeat$Law", "known", "I", false)
def tyX1 : Nat → FieldType := fun k => match k with
  | 0 => .array .int
  | 1 => .array .int
  | 2 => .array .int
  | 3 => .int
  | _ => .int
theorem nmX1 : ∀ a, a < 5 → ∀ b, b < 5 → a ≠ b → (TX1 a).2.1 ≠ (TX1 b).2.1 := by decide +kernel
theorem tyX1_ok : ∀ k, k < 5 → parseFieldDescriptor (TX1 k).2.2.1 = some (tyX1 k) := by decide +kernel
abbrev cX1_init : ByteArray := prog_3_method_1_code
def yX1_init : MethodName := ⟨RX1, "<init>", "([I)V"⟩
abbrev cX1_forget : ByteArray := prog_3_method_2_code
def yX1_forget : MethodName := ⟨RX1, "forget", "()V"⟩
abbrev cX1_wetness : ByteArray := prog_3_method_3_code
def yX1_wetness : MethodName := ⟨RX1, "wetness", "(ILBorrowedBeat$Town;)I"⟩
abbrev cX1_worth : ByteArray := prog_3_method_4_code
def yX1_worth : MethodName := ⟨RX1, "worth", "(IILBorrowedBeat$Town;)I"⟩
abbrev cX1_work : ByteArray := prog_3_method_5_code
def yX1_work : MethodName := ⟨RX1, "work", "(IIILBorrowedBeat$Town;)V"⟩
abbrev cX1_joined : ByteArray := prog_3_method_6_code
def yX1_joined : MethodName := ⟨RX1, "joined", "(III)I"⟩
abbrev cX1_push : ByteArray := prog_3_method_7_code
def yX1_push : MethodName := ⟨RX1, "push", "(I)V"⟩
abbrev cX1_pop : ByteArray := prog_3_method_8_code
def yX1_pop : MethodName := ⟨RX1, "pop", "()I"⟩
def RX2 : String := "BorrowedBeat$LawReader"
def TX2 : u_T := fun k => match k with
  | 0 => ("BorrowedBeat$Reader", "tape", "LBorrowedBeat$Tape;", true)
  | 1 => ("BorrowedBeat$Reader", "at", "I", false)
  | 2 => ("BorrowedBeat$Reader", "faultAt", "I", false)
  | 3 => ("BorrowedBeat$LawReader", "code", "[I", true)
  | _ => ("BorrowedBeat$LawReader", "length", "I", false)
def tyX2 : Nat → FieldType := fun k => match k with
  | 0 => .object "BorrowedBeat$Tape"
  | 1 => .int
  | 2 => .int
  | 3 => .array .int
  | _ => .int
theorem nmX2 : ∀ a, a < 5 → ∀ b, b < 5 → a ≠ b → (TX2 a).2.1 ≠ (TX2 b).2.1 := by decide +kernel
theorem tyX2_ok : ∀ k, k < 5 → parseFieldDescriptor (TX2 k).2.2.1 = some (tyX2 k) := by decide +kernel
abbrev cX2_init : ByteArray := prog_4_method_1_code
def yX2_init : MethodName := ⟨RX2, "<init>", "(LBorrowedBeat$Tape;)V"⟩
abbrev cX2_clear : ByteArray := prog_4_method_2_code
def yX2_clear : MethodName := ⟨RX2, "clear", "()V"⟩
abbrev cX2_isWhole : ByteArray := prog_4_method_3_code
def yX2_isWhole : MethodName := ⟨RX2, "isWhole", "()Z"⟩
abbrev cX2_toLaw : ByteArray := prog_4_method_4_code
def yX2_toLaw : MethodName := ⟨RX2, "toLaw", "()LBorrowedBeat$Law;"⟩
abbrev cX2_emit : ByteArray := prog_4_method_5_code
def yX2_emit : MethodName := ⟨RX2, "emit", "(I)Z"⟩
abbrev cX2_readClause : ByteArray := prog_4_method_6_code
def yX2_readClause : MethodName := ⟨RX2, "readClause", "()Z"⟩
abbrev cX2_sumBehindCondition : ByteArray := prog_4_method_7_code
def yX2_sumBehindCondition : MethodName := ⟨RX2, "sumBehindCondition", "()Z"⟩
abbrev cX2_condition : ByteArray := prog_4_method_8_code
def yX2_condition : MethodName := ⟨RX2, "condition", "(I)Z"⟩
abbrev cX2_moreUnits : ByteArray := prog_4_method_9_code
def yX2_moreUnits : MethodName := ⟨RX2, "moreUnits", "(I)Z"⟩
abbrev cX2_unit : ByteArray := prog_4_method_10_code
def yX2_unit : MethodName := ⟨RX2, "unit", "(I)Z"⟩
abbrev cX2_negated : ByteArray := prog_4_method_11_code
def yX2_negated : MethodName := ⟨RX2, "negated", "(I)Z"⟩
abbrev cX2_comparison : ByteArray := prog_4_method_12_code
def yX2_comparison : MethodName := ⟨RX2, "comparison", "(I)Z"⟩
abbrev cX2_isComparison : ByteArray := prog_4_method_13_code
def yX2_isComparison : MethodName := ⟨RX2, "isComparison", "(I)Z"⟩
abbrev cX2_sum : ByteArray := prog_4_method_14_code
def yX2_sum : MethodName := ⟨RX2, "sum", "(I)Z"⟩
abbrev cX2_atom : ByteArray := prog_4_method_15_code
def yX2_atom : MethodName := ⟨RX2, "atom", "(I)Z"⟩
def RX3 : String := "BorrowedBeat$MarkSearch"
def TX3 : u_T := fun k => match k with
  | 0 => ("BorrowedBeat$MarkSearch", "fewest", "I", false)
  | 1 => ("BorrowedBeat$MarkSearch", "bits", "I", false)
  | 2 => ("BorrowedBeat$MarkSearch", "counts", "[I", true)
  | 3 => ("BorrowedBeat$MarkSearch", "masks", "[I", true)
  | _ => ("BorrowedBeat$MarkSearch", "sums", "[I", true)
def tyX3 : Nat → FieldType := fun k => match k with
  | 0 => .int
  | 1 => .int
  | 2 => .array .int
  | 3 => .array .int
  | _ => .array .int
theorem nmX3 : ∀ a, a < 5 → ∀ b, b < 5 → a ≠ b → (TX3 a).2.1 ≠ (TX3 b).2.1 := by decide +kernel
theorem tyX3_ok : ∀ k, k < 5 → parseFieldDescriptor (TX3 k).2.2.1 = some (tyX3 k) := by decide +kernel
abbrev cX3_init : ByteArray := prog_5_method_1_code
def yX3_init : MethodName := ⟨RX3, "<init>", "()V"⟩
abbrev cX3_find : ByteArray := prog_5_method_2_code
def yX3_find : MethodName := ⟨RX3, "find", "(LBorrowedBeat$Play;LBorrowedBeat$Score;I)Z"⟩
abbrev cX3_goOnFrom : ByteArray := prog_5_method_3_code
def yX3_goOnFrom : MethodName := ⟨RX3, "goOnFrom", "(ILBorrowedBeat$Play;LBorrowedBeat$Score;I)V"⟩
abbrev cX3_spreadBehind : ByteArray := prog_5_method_4_code
def yX3_spreadBehind : MethodName := ⟨RX3, "spreadBehind", "(ILBorrowedBeat$Play;LBorrowedBeat$Score;)I"⟩
abbrev cX3_endBetter : ByteArray := prog_5_method_5_code
def yX3_endBetter : MethodName := ⟨RX3, "endBetter", "(II)V"⟩
abbrev cX3_markBetter : ByteArray := prog_5_method_6_code
def yX3_markBetter : MethodName := ⟨RX3, "markBetter", "(III)V"⟩
def RX4 : String := "BorrowedBeat$Play"
def TX4 : u_T := fun k => match k with
  | 0 => ("BorrowedBeat$Play", "beats", "[I", true)
  | 1 => ("BorrowedBeat$Play", "times", "[I", true)
  | 2 => ("BorrowedBeat$Play", "waited", "[I", true)
  | 3 => ("BorrowedBeat$Play", "spreads", "[I", true)
  | 4 => ("BorrowedBeat$Play", "settledFrom", "I", false)
  | 5 => ("BorrowedBeat$Play", "settledLength", "I", false)
  | 6 => ("BorrowedBeat$Play", "players", "I", false)
  | 7 => ("BorrowedBeat$Play", "bars", "I", false)
  | _ => ("BorrowedBeat$Play", "marked", "I", false)
def tyX4 : Nat → FieldType := fun k => match k with
  | 0 => .array .int
  | 1 => .array .int
  | 2 => .array .int
  | 3 => .array .int
  | 4 => .int
  | 5 => .int
  | 6 => .int
  | 7 => .int
  | _ => .int
theorem nmX4 : ∀ a, a < 9 → ∀ b, b < 9 → a ≠ b → (TX4 a).2.1 ≠ (TX4 b).2.1 := by decide +kernel
theorem tyX4_ok : ∀ k, k < 9 → parseFieldDescriptor (TX4 k).2.2.1 = some (tyX4 k) := by decide +kernel
abbrev cX4_init : ByteArray := prog_6_method_1_code
def yX4_init : MethodName := ⟨RX4, "<init>", "()V"⟩
abbrev cX4_perform : ByteArray := prog_6_method_2_code
def yX4_perform : MethodName := ⟨RX4, "perform", "(LBorrowedBeat$Score;I)I"⟩
abbrev cX4_open : ByteArray := prog_6_method_3_code
def yX4_open : MethodName := ⟨RX4, "open", "(LBorrowedBeat$Score;)V"⟩
abbrev cX4_goOn : ByteArray := prog_6_method_4_code
def yX4_goOn : MethodName := ⟨RX4, "goOn", "(LBorrowedBeat$Score;I)V"⟩
abbrev cX4_playBar : ByteArray := prog_6_method_5_code
def yX4_playBar : MethodName := ⟨RX4, "playBar", "(LBorrowedBeat$Score;I)I"⟩
abbrev cX4_beatIn : ByteArray := prog_6_method_6_code
def yX4_beatIn : MethodName := ⟨RX4, "beatIn", "(II)I"⟩
abbrev cX4_aheadOfWaiting : ByteArray := prog_6_method_7_code
def yX4_aheadOfWaiting : MethodName := ⟨RX4, "aheadOfWaiting", "(II)I"⟩
abbrev cX4_behindWaiting : ByteArray := prog_6_method_8_code
def yX4_behindWaiting : MethodName := ⟨RX4, "behindWaiting", "(II)I"⟩
abbrev cX4_greatestIn : ByteArray := prog_6_method_9_code
def yX4_greatestIn : MethodName := ⟨RX4, "greatestIn", "(I)I"⟩
abbrev cX4_lastIn : ByteArray := prog_6_method_10_code
def yX4_lastIn : MethodName := ⟨RX4, "lastIn", "(I)I"⟩
abbrev cX4_isAloneLast : ByteArray := prog_6_method_11_code
def yX4_isAloneLast : MethodName := ⟨RX4, "isAloneLast", "(II)Z"⟩
abbrev cX4_firstSpreadAbove : ByteArray := prog_6_method_12_code
def yX4_firstSpreadAbove : MethodName := ⟨RX4, "firstSpreadAbove", "(I)I"⟩
abbrev cX4_inPlace : ByteArray := prog_6_method_13_code
def yX4_inPlace : MethodName := ⟨RX4, "inPlace", "(II)I"⟩
abbrev cX4_placeOf : ByteArray := prog_6_method_14_code
def yX4_placeOf : MethodName := ⟨RX4, "placeOf", "(II)I"⟩
abbrev cX4_turns : ByteArray := prog_6_method_15_code
def yX4_turns : MethodName := ⟨RX4, "turns", "(II)I"⟩
abbrev cX4_order : ByteArray := prog_6_method_16_code
def yX4_order : MethodName := ⟨RX4, "order", "(III)I"⟩
abbrev cX4_innermost : ByteArray := prog_6_method_17_code
def yX4_innermost : MethodName := ⟨RX4, "innermost", "()I"⟩
abbrev cX4_apartFromAll : ByteArray := prog_6_method_18_code
def yX4_apartFromAll : MethodName := ⟨RX4, "apartFromAll", "(II)I"⟩
abbrev cX4_firstChange : ByteArray := prog_6_method_19_code
def yX4_firstChange : MethodName := ⟨RX4, "firstChange", "(II)I"⟩
abbrev cX4_settles : ByteArray := prog_6_method_20_code
def yX4_settles : MethodName := ⟨RX4, "settles", "(LBorrowedBeat$Score;)Z"⟩
abbrev cX4_soundsLike : ByteArray := prog_6_method_21_code
def yX4_soundsLike : MethodName := ⟨RX4, "soundsLike", "(II)Z"⟩
def RX5 : String := "BorrowedBeat$Reader"
def TX5 : u_T := fun k => match k with
  | _ => ("", "", "", false)
def tyX5 : Nat → FieldType := fun k => match k with
  | _ => .int
theorem nmX5 : ∀ a, a < 0 → ∀ b, b < 0 → a ≠ b → (TX5 a).2.1 ≠ (TX5 b).2.1 := by decide +kernel
theorem tyX5_ok : ∀ k, k < 0 → parseFieldDescriptor (TX5 k).2.2.1 = some (tyX5 k) := by decide +kernel
abbrev cX5_init : ByteArray := prog_7_method_1_code
def yX5_init : MethodName := ⟨RX5, "<init>", "(LBorrowedBeat$Tape;)V"⟩
abbrev cX5_read : ByteArray := prog_7_method_5_code
def yX5_read : MethodName := ⟨RX5, "read", "()I"⟩
abbrev cX5_nextClause : ByteArray := prog_7_method_6_code
def yX5_nextClause : MethodName := ⟨RX5, "nextClause", "()Z"⟩
abbrev cX5_peek : ByteArray := prog_7_method_7_code
def yX5_peek : MethodName := ⟨RX5, "peek", "()I"⟩
abbrev cX5_take : ByteArray := prog_7_method_8_code
def yX5_take : MethodName := ⟨RX5, "take", "(I)Z"⟩
abbrev cX5_fail : ByteArray := prog_7_method_9_code
def yX5_fail : MethodName := ⟨RX5, "fail", "()Z"⟩
abbrev cX5_readNumber : ByteArray := prog_7_method_10_code
def yX5_readNumber : MethodName := ⟨RX5, "readNumber", "(III)I"⟩
abbrev cX5_isDigit : ByteArray := prog_7_method_11_code
def yX5_isDigit : MethodName := ⟨RX5, "isDigit", "(I)Z"⟩
def RX6 : String := "BorrowedBeat$Score"
def TX6 : u_T := fun k => match k with
  | 0 => ("BorrowedBeat$Score", "players", "I", false)
  | 1 => ("BorrowedBeat$Score", "bars", "I", false)
  | 2 => ("BorrowedBeat$Score", "echo", "I", false)
  | 3 => ("BorrowedBeat$Score", "marked", "I", false)
  | 4 => ("BorrowedBeat$Score", "beats", "[I", true)
  | 5 => ("BorrowedBeat$Score", "follows", "[I", true)
  | 6 => ("BorrowedBeat$Score", "hows", "[I", true)
  | _ => ("BorrowedBeat$Score", "lates", "[I", true)
def tyX6 : Nat → FieldType := fun k => match k with
  | 0 => .int
  | 1 => .int
  | 2 => .int
  | 3 => .int
  | 4 => .array .int
  | 5 => .array .int
  | 6 => .array .int
  | _ => .array .int
theorem nmX6 : ∀ a, a < 8 → ∀ b, b < 8 → a ≠ b → (TX6 a).2.1 ≠ (TX6 b).2.1 := by decide +kernel
theorem tyX6_ok : ∀ k, k < 8 → parseFieldDescriptor (TX6 k).2.2.1 = some (tyX6 k) := by decide +kernel
abbrev cX6_init : ByteArray := prog_8_method_1_code
def yX6_init : MethodName := ⟨RX6, "<init>", "()V"⟩
abbrev cX6_open : ByteArray := prog_8_method_2_code
def yX6_open : MethodName := ⟨RX6, "open", "(LBorrowedBeat$Town;)V"⟩
abbrev cX6_copyFrom : ByteArray := prog_8_method_3_code
def yX6_copyFrom : MethodName := ⟨RX6, "copyFrom", "(LBorrowedBeat$Score;)V"⟩
abbrev cX6_isMarked : ByteArray := prog_8_method_4_code
def yX6_isMarked : MethodName := ⟨RX6, "isMarked", "(I)Z"⟩
abbrev cX6_aheadOf : ByteArray := prog_8_method_5_code
def yX6_aheadOf : MethodName := ⟨RX6, "aheadOf", "(II)I"⟩
def RX7 : String := "BorrowedBeat$Tape"
def TX7 : u_T := fun k => match k with
  | 0 => ("BorrowedBeat$Tape", "bytes", "[I", true)
  | _ => ("BorrowedBeat$Tape", "length", "I", false)
def tyX7 : Nat → FieldType := fun k => match k with
  | 0 => .array .int
  | _ => .int
theorem nmX7 : ∀ a, a < 2 → ∀ b, b < 2 → a ≠ b → (TX7 a).2.1 ≠ (TX7 b).2.1 := by decide +kernel
theorem tyX7_ok : ∀ k, k < 2 → parseFieldDescriptor (TX7 k).2.2.1 = some (tyX7 k) := by decide +kernel
abbrev cX7_init : ByteArray := prog_9_method_1_code
def yX7_init : MethodName := ⟨RX7, "<init>", "()V"⟩
abbrev cX7_bytesIn : ByteArray := prog_9_method_2_code
def yX7_bytesIn : MethodName := ⟨RX7, "bytesIn", "(I)I"⟩
abbrev cX7_push : ByteArray := prog_9_method_3_code
def yX7_push : MethodName := ⟨RX7, "push", "(I)V"⟩
def RX8 : String := "BorrowedBeat$Town"
def TX8 : u_T := fun k => match k with
  | 0 => ("BorrowedBeat$Town", "players", "I", false)
  | 1 => ("BorrowedBeat$Town", "metronome", "I", false)
  | 2 => ("BorrowedBeat$Town", "beats", "[I", true)
  | 3 => ("BorrowedBeat$Town", "drifts", "[I", true)
  | 4 => ("BorrowedBeat$Town", "kinds", "[I", true)
  | 5 => ("BorrowedBeat$Town", "follows", "[I", true)
  | _ => ("BorrowedBeat$Town", "hows", "[I", true)
def tyX8 : Nat → FieldType := fun k => match k with
  | 0 => .int
  | 1 => .int
  | 2 => .array .int
  | 3 => .array .int
  | 4 => .array .int
  | 5 => .array .int
  | _ => .array .int
theorem nmX8 : ∀ a, a < 7 → ∀ b, b < 7 → a ≠ b → (TX8 a).2.1 ≠ (TX8 b).2.1 := by decide +kernel
theorem tyX8_ok : ∀ k, k < 7 → parseFieldDescriptor (TX8 k).2.2.1 = some (tyX8 k) := by decide +kernel
abbrev cX8_init : ByteArray := prog_10_method_1_code
def yX8_init : MethodName := ⟨RX8, "<init>", "()V"⟩
abbrev cX8_clear : ByteArray := prog_10_method_2_code
def yX8_clear : MethodName := ⟨RX8, "clear", "()V"⟩
abbrev cX8_addPlayer : ByteArray := prog_10_method_3_code
def yX8_addPlayer : MethodName := ⟨RX8, "addPlayer", "()V"⟩
abbrev cX8_put : ByteArray := prog_10_method_4_code
def yX8_put : MethodName := ⟨RX8, "put", "(III)V"⟩
abbrev cX8_copyFrom : ByteArray := prog_10_method_5_code
def yX8_copyFrom : MethodName := ⟨RX8, "copyFrom", "(LBorrowedBeat$Town;)V"⟩
abbrev cX8_drifted : ByteArray := prog_10_method_6_code
def yX8_drifted : MethodName := ⟨RX8, "drifted", "(IIII)I"⟩
abbrev cX8_goThroughDay : ByteArray := prog_10_method_7_code
def yX8_goThroughDay : MethodName := ⟨RX8, "goThroughDay", "([III)V"⟩
def RX9 : String := "BorrowedBeat$TownReader"
def TX9 : u_T := fun k => match k with
  | 0 => ("BorrowedBeat$Reader", "tape", "LBorrowedBeat$Tape;", true)
  | 1 => ("BorrowedBeat$Reader", "at", "I", false)
  | 2 => ("BorrowedBeat$Reader", "faultAt", "I", false)
  | 3 => ("BorrowedBeat$TownReader", "draft", "LBorrowedBeat$Town;", true)
  | _ => ("BorrowedBeat$TownReader", "hasMetronome", "Z", false)
def tyX9 : Nat → FieldType := fun k => match k with
  | 0 => .object "BorrowedBeat$Tape"
  | 1 => .int
  | 2 => .int
  | 3 => .object "BorrowedBeat$Town"
  | _ => .boolean
theorem nmX9 : ∀ a, a < 5 → ∀ b, b < 5 → a ≠ b → (TX9 a).2.1 ≠ (TX9 b).2.1 := by decide +kernel
theorem tyX9_ok : ∀ k, k < 5 → parseFieldDescriptor (TX9 k).2.2.1 = some (tyX9 k) := by decide +kernel
abbrev cX9_init : ByteArray := prog_11_method_1_code
def yX9_init : MethodName := ⟨RX9, "<init>", "(LBorrowedBeat$Tape;)V"⟩
abbrev cX9_clear : ByteArray := prog_11_method_2_code
def yX9_clear : MethodName := ⟨RX9, "clear", "()V"⟩
abbrev cX9_readClause : ByteArray := prog_11_method_3_code
def yX9_readClause : MethodName := ⟨RX9, "readClause", "()Z"⟩
abbrev cX9_readItems : ByteArray := prog_11_method_4_code
def yX9_readItems : MethodName := ⟨RX9, "readItems", "(Z)Z"⟩
abbrev cX9_itemOf : ByteArray := prog_11_method_5_code
def yX9_itemOf : MethodName := ⟨RX9, "itemOf", "(I)I"⟩
abbrev cX9_keep : ByteArray := prog_11_method_6_code
def yX9_keep : MethodName := ⟨RX9, "keep", "(ZII)V"⟩
abbrev cX9_isWhole : ByteArray := prog_11_method_7_code
def yX9_isWhole : MethodName := ⟨RX9, "isWhole", "()Z"⟩
def RX10 : String := "BorrowedBeat$WeekSearch"
def TX10 : u_T := fun k => match k with
  | 0 => ("BorrowedBeat$WeekSearch", "known", "Z", false)
  | 1 => ("BorrowedBeat$WeekSearch", "row", "I", false)
  | 2 => ("BorrowedBeat$WeekSearch", "least", "I", false)
  | 3 => ("BorrowedBeat$WeekSearch", "play", "LBorrowedBeat$Play;", true)
  | 4 => ("BorrowedBeat$WeekSearch", "trial", "LBorrowedBeat$Score;", true)
  | 5 => ("BorrowedBeat$WeekSearch", "wets", "[I", true)
  | _ => ("BorrowedBeat$WeekSearch", "behind", "[I", true)
def tyX10 : Nat → FieldType := fun k => match k with
  | 0 => .boolean
  | 1 => .int
  | 2 => .int
  | 3 => .object "BorrowedBeat$Play"
  | 4 => .object "BorrowedBeat$Score"
  | 5 => .array .int
  | _ => .array .int
theorem nmX10 : ∀ a, a < 7 → ∀ b, b < 7 → a ≠ b → (TX10 a).2.1 ≠ (TX10 b).2.1 := by decide +kernel
theorem tyX10_ok : ∀ k, k < 7 → parseFieldDescriptor (TX10 k).2.2.1 = some (tyX10 k) := by decide +kernel
abbrev cX10_init : ByteArray := prog_12_method_1_code
def yX10_init : MethodName := ⟨RX10, "<init>", "(LBorrowedBeat$Play;LBorrowedBeat$Score;)V"⟩
abbrev cX10_find : ByteArray := prog_12_method_2_code
def yX10_find : MethodName := ⟨RX10, "find", "(LBorrowedBeat$Town;LBorrowedBeat$Score;)V"⟩
abbrev cX10_foresee : ByteArray := prog_12_method_3_code
def yX10_foresee : MethodName := ⟨RX10, "foresee", "(LBorrowedBeat$Town;LBorrowedBeat$Score;)V"⟩
abbrev cX10_slot : ByteArray := prog_12_method_4_code
def yX10_slot : MethodName := ⟨RX10, "slot", "(II)I"⟩
abbrev cX10_choose : ByteArray := prog_12_method_5_code
def yX10_choose : MethodName := ⟨RX10, "choose", "(LBorrowedBeat$WeekSearch;IIII)V"⟩
abbrev cX10_weigh : ByteArray := prog_12_method_6_code
def yX10_weigh : MethodName := ⟨RX10, "weigh", "(I)V"⟩
def RX11 : String := "BorrowedBeat"
def TX11 : u_T := fun k => match k with
  | 0 => ("BorrowedBeat", "tape", "LBorrowedBeat$Tape;", true)
  | 1 => ("BorrowedBeat", "townReader", "LBorrowedBeat$TownReader;", true)
  | 2 => ("BorrowedBeat", "lawReader", "LBorrowedBeat$LawReader;", true)
  | 3 => ("BorrowedBeat", "town", "LBorrowedBeat$Town;", true)
  | 4 => ("BorrowedBeat", "laws", "[LBorrowedBeat$Law;", true)
  | 5 => ("BorrowedBeat", "diary", "LBorrowedBeat$Diary;", true)
  | 6 => ("BorrowedBeat", "told", "[I", true)
  | 7 => ("BorrowedBeat", "score", "LBorrowedBeat$Score;", true)
  | 8 => ("BorrowedBeat", "trial", "LBorrowedBeat$Score;", true)
  | 9 => ("BorrowedBeat", "play", "LBorrowedBeat$Play;", true)
  | 10 => ("BorrowedBeat", "markSearch", "LBorrowedBeat$MarkSearch;", true)
  | 11 => ("BorrowedBeat", "weekSearch", "LBorrowedBeat$WeekSearch;", true)
  | 12 => ("BorrowedBeat", "limit", "I", false)
  | 13 => ("BorrowedBeat", "lawCount", "I", false)
  | 14 => ("BorrowedBeat", "holding", "I", false)
  | _ => ("BorrowedBeat", "toldCount", "I", false)
def tyX11 : Nat → FieldType := fun k => match k with
  | 0 => .object "BorrowedBeat$Tape"
  | 1 => .object "BorrowedBeat$TownReader"
  | 2 => .object "BorrowedBeat$LawReader"
  | 3 => .object "BorrowedBeat$Town"
  | 4 => .array (.object "BorrowedBeat$Law")
  | 5 => .object "BorrowedBeat$Diary"
  | 6 => .array .int
  | 7 => .object "BorrowedBeat$Score"
  | 8 => .object "BorrowedBeat$Score"
  | 9 => .object "BorrowedBeat$Play"
  | 10 => .object "BorrowedBeat$MarkSearch"
  | 11 => .object "BorrowedBeat$WeekSearch"
  | 12 => .int
  | 13 => .int
  | 14 => .int
  | _ => .int
theorem nmX11 : ∀ a, a < 16 → ∀ b, b < 16 → a ≠ b → (TX11 a).2.1 ≠ (TX11 b).2.1 := by decide +kernel
theorem tyX11_ok : ∀ k, k < 16 → parseFieldDescriptor (TX11 k).2.2.1 = some (tyX11 k) := by decide +kernel
abbrev cX11_init : ByteArray := prog_1_method_1_code
def yX11_init : MethodName := ⟨RX11, "<init>", "()V"⟩
abbrev cX11_feed : ByteArray := prog_1_method_2_code
def yX11_feed : MethodName := ⟨RX11, "feed", "(IIIII)I"⟩
abbrev cX11_end : ByteArray := prog_1_method_3_code
def yX11_end : MethodName := ⟨RX11, "end", "(I)Z"⟩
abbrev cX11_fault : ByteArray := prog_1_method_4_code
def yX11_fault : MethodName := ⟨RX11, "fault", "(I)I"⟩
abbrev cX11_text : ByteArray := prog_1_method_5_code
def yX11_text : MethodName := ⟨RX11, "text", "(I)I"⟩
abbrev cX11_openTown : ByteArray := prog_1_method_6_code
def yX11_openTown : MethodName := ⟨RX11, "openTown", "()V"⟩
abbrev cX11_player : ByteArray := prog_1_method_7_code
def yX11_player : MethodName := ⟨RX11, "player", "(II)I"⟩
abbrev cX11_set : ByteArray := prog_1_method_8_code
def yX11_set : MethodName := ⟨RX11, "set", "(II)Z"⟩
abbrev cX11_mostOf : ByteArray := prog_1_method_9_code
def yX11_mostOf : MethodName := ⟨RX11, "mostOf", "(I)I"⟩
abbrev cX11_tell : ByteArray := prog_1_method_10_code
def yX11_tell : MethodName := ⟨RX11, "tell", "(III)Z"⟩
abbrev cX11_mayTell : ByteArray := prog_1_method_11_code
def yX11_mayTell : MethodName := ⟨RX11, "mayTell", "(III)Z"⟩
abbrev cX11_mark : ByteArray := prog_1_method_12_code
def yX11_mark : MethodName := ⟨RX11, "mark", "(IZ)Z"⟩
abbrev cX11_isPlayer : ByteArray := prog_1_method_13_code
def yX11_isPlayer : MethodName := ⟨RX11, "isPlayer", "(I)Z"⟩
abbrev cX11_isBar : ByteArray := prog_1_method_14_code
def yX11_isBar : MethodName := ⟨RX11, "isBar", "(I)Z"⟩
abbrev cX11_isOneOfTwo : ByteArray := prog_1_method_15_code
def yX11_isOneOfTwo : MethodName := ⟨RX11, "isOneOfTwo", "(I)Z"⟩
abbrev cX11_damp : ByteArray := prog_1_method_16_code
def yX11_damp : MethodName := ⟨RX11, "damp", "(I)I"⟩
abbrev cX11_wetness : ByteArray := prog_1_method_17_code
def yX11_wetness : MethodName := ⟨RX11, "wetness", "(I)I"⟩
abbrev cX11_day : ByteArray := prog_1_method_18_code
def yX11_day : MethodName := ⟨RX11, "day", "(I)I"⟩
abbrev cX11_undo : ByteArray := prog_1_method_19_code
def yX11_undo : MethodName := ⟨RX11, "undo", "()I"⟩
abbrev cX11_image : ByteArray := prog_1_method_20_code
def yX11_image : MethodName := ⟨RX11, "image", "()I"⟩
abbrev cX11_back : ByteArray := prog_1_method_21_code
def yX11_back : MethodName := ⟨RX11, "back", "()I"⟩
abbrev cX11_time : ByteArray := prog_1_method_22_code
def yX11_time : MethodName := ⟨RX11, "time", "(III)I"⟩
abbrev cX11_spread : ByteArray := prog_1_method_23_code
def yX11_spread : MethodName := ⟨RX11, "spread", "(I)I"⟩
abbrev cX11_worst : ByteArray := prog_1_method_24_code
def yX11_worst : MethodName := ⟨RX11, "worst", "(I)I"⟩
abbrev cX11_parts : ByteArray := prog_1_method_25_code
def yX11_parts : MethodName := ⟨RX11, "parts", "()I"⟩
abbrev cX11_last : ByteArray := prog_1_method_26_code
def yX11_last : MethodName := ⟨RX11, "last", "(I)I"⟩
abbrev cX11_settle : ByteArray := prog_1_method_27_code
def yX11_settle : MethodName := ⟨RX11, "settle", "(I)I"⟩
abbrev cX11_place : ByteArray := prog_1_method_28_code
def yX11_place : MethodName := ⟨RX11, "place", "(II)I"⟩
abbrev cX11_overtakes : ByteArray := prog_1_method_29_code
def yX11_overtakes : MethodName := ⟨RX11, "overtakes", "(II)I"⟩
abbrev cX11_middle : ByteArray := prog_1_method_30_code
def yX11_middle : MethodName := ⟨RX11, "middle", "()I"⟩
abbrev cX11_ends : ByteArray := prog_1_method_31_code
def yX11_ends : MethodName := ⟨RX11, "ends", "(I)I"⟩
abbrev cX11_stray : ByteArray := prog_1_method_32_code
def yX11_stray : MethodName := ⟨RX11, "stray", "(II)I"⟩
abbrev cX11_ring : ByteArray := prog_1_method_33_code
def yX11_ring : MethodName := ⟨RX11, "ring", "(I)I"⟩
abbrev cX11_head : ByteArray := prog_1_method_34_code
def yX11_head : MethodName := ⟨RX11, "head", "(I)I"⟩
abbrev cX11_leader : ByteArray := prog_1_method_35_code
def yX11_leader : MethodName := ⟨RX11, "leader", "(II)I"⟩
abbrev cX11_deaf : ByteArray := prog_1_method_36_code
def yX11_deaf : MethodName := ⟨RX11, "deaf", "(I)I"⟩
abbrev cX11_roll : ByteArray := prog_1_method_37_code
def yX11_roll : MethodName := ⟨RX11, "roll", "(III)I"⟩
abbrev cX11_fits : ByteArray := prog_1_method_38_code
def yX11_fits : MethodName := ⟨RX11, "fits", "(I)I"⟩
abbrev cX11_isToldSo : ByteArray := prog_1_method_39_code
def yX11_isToldSo : MethodName := ⟨RX11, "isToldSo", "()Z"⟩
abbrev cX11_echoes : ByteArray := prog_1_method_40_code
def yX11_echoes : MethodName := ⟨RX11, "echoes", "(I)I"⟩
abbrev cX11_tune : ByteArray := prog_1_method_41_code
def yX11_tune : MethodName := ⟨RX11, "tune", "(II)I"⟩
abbrev cX11_paid : ByteArray := prog_1_method_42_code
def yX11_paid : MethodName := ⟨RX11, "paid", "(I)I"⟩
abbrev cX11_marks : ByteArray := prog_1_method_43_code
def yX11_marks : MethodName := ⟨RX11, "marks", "(I)I"⟩
abbrev cX11_week : ByteArray := prog_1_method_44_code
def yX11_week : MethodName := ⟨RX11, "week", "(I)I"⟩
abbrev cX11_gift : ByteArray := prog_1_method_45_code
def yX11_gift : MethodName := ⟨RX11, "gift", "(I)I"⟩
abbrev cX11_odds : ByteArray := prog_1_method_46_code
def yX11_odds : MethodName := ⟨RX11, "odds", "(II)I"⟩
abbrev cX11_rowsWithSum : ByteArray := prog_1_method_47_code
def yX11_rowsWithSum : MethodName := ⟨RX11, "rowsWithSum", "(II)I"⟩
abbrev cX11_count : ByteArray := prog_1_method_48_code
def yX11_count : MethodName := ⟨RX11, "count", "(I)I"⟩
abbrev cX11_held : ByteArray := prog_1_method_49_code
def yX11_held : MethodName := ⟨RX11, "held", "(III)I"⟩
def RX12 : String := "BorrowedBeatModel"
def TX12 : u_T := fun k => match k with
  | 0 => ("BorrowedBeatModel", "thrown", "I", false)
  | 1 => ("BorrowedBeatModel", "tape", "[I", true)
  | 2 => ("BorrowedBeatModel", "size", "I", false)
  | 3 => ("BorrowedBeatModel", "at", "I", false)
  | 4 => ("BorrowedBeatModel", "wrong", "I", false)
  | 5 => ("BorrowedBeatModel", "deep", "I", false)
  | 6 => ("BorrowedBeatModel", "code", "[I", true)
  | 7 => ("BorrowedBeatModel", "value", "[I", true)
  | 8 => ("BorrowedBeatModel", "codes", "[I", true)
  | 9 => ("BorrowedBeatModel", "clauses", "[I", true)
  | 10 => ("BorrowedBeatModel", "testFrom", "[I", true)
  | 11 => ("BorrowedBeatModel", "sumFrom", "[I", true)
  | 12 => ("BorrowedBeatModel", "sumTo", "[I", true)
  | 13 => ("BorrowedBeatModel", "laws", "I", false)
  | 14 => ("BorrowedBeatModel", "text", "I", false)
  | 15 => ("BorrowedBeatModel", "letters", "[I", true)
  | 16 => ("BorrowedBeatModel", "stack", "[I", true)
  | 17 => ("BorrowedBeatModel", "readRow", "[I", true)
  | 18 => ("BorrowedBeatModel", "readPlayers", "I", false)
  | 19 => ("BorrowedBeatModel", "readMetronome", "I", false)
  | 20 => ("BorrowedBeatModel", "row", "[I", true)
  | 21 => ("BorrowedBeatModel", "players", "I", false)
  | 22 => ("BorrowedBeatModel", "metronome", "I", false)
  | 23 => ("BorrowedBeatModel", "beats", "[I", true)
  | 24 => ("BorrowedBeatModel", "late", "[I", true)
  | 25 => ("BorrowedBeatModel", "day", "I", false)
  | 26 => ("BorrowedBeatModel", "marks", "I", false)
  | 27 => ("BorrowedBeatModel", "holding", "I", false)
  | 28 => ("BorrowedBeatModel", "bars", "I", false)
  | 29 => ("BorrowedBeatModel", "echo", "I", false)
  | 30 => ("BorrowedBeatModel", "limit", "I", false)
  | 31 => ("BorrowedBeatModel", "kept", "[I", true)
  | 32 => ("BorrowedBeatModel", "acts", "I", false)
  | 33 => ("BorrowedBeatModel", "beatAt", "[I", true)
  | 34 => ("BorrowedBeatModel", "timeAt", "[I", true)
  | 35 => ("BorrowedBeatModel", "waitAt", "[I", true)
  | 36 => ("BorrowedBeatModel", "weekBeats", "[I", true)
  | 37 => ("BorrowedBeatModel", "weekDamp", "[I", true)
  | 38 => ("BorrowedBeatModel", "weekRow", "I", false)
  | 39 => ("BorrowedBeatModel", "weekLeast", "I", false)
  | 40 => ("BorrowedBeatModel", "fewFrom", "[I", true)
  | 41 => ("BorrowedBeatModel", "bitsFrom", "[I", true)
  | 42 => ("BorrowedBeatModel", "sums", "[I", true)
  | 43 => ("BorrowedBeatModel", "rollPlayer", "[I", true)
  | 44 => ("BorrowedBeatModel", "rollBar", "[I", true)
  | 45 => ("BorrowedBeatModel", "rollTime", "[I", true)
  | 46 => ("BorrowedBeatModel", "rolls", "I", false)
  | 47 => ("BorrowedBeatModel", "imageBeats", "[I", true)
  | 48 => ("BorrowedBeatModel", "imageDay", "I", false)
  | _ => ("BorrowedBeatModel", "hasImage", "Z", false)
def tyX12 : Nat → FieldType := fun k => match k with
  | 0 => .int
  | 1 => .array .int
  | 2 => .int
  | 3 => .int
  | 4 => .int
  | 5 => .int
  | 6 => .array .int
  | 7 => .array .int
  | 8 => .array .int
  | 9 => .array .int
  | 10 => .array .int
  | 11 => .array .int
  | 12 => .array .int
  | 13 => .int
  | 14 => .int
  | 15 => .array .int
  | 16 => .array .int
  | 17 => .array .int
  | 18 => .int
  | 19 => .int
  | 20 => .array .int
  | 21 => .int
  | 22 => .int
  | 23 => .array .int
  | 24 => .array .int
  | 25 => .int
  | 26 => .int
  | 27 => .int
  | 28 => .int
  | 29 => .int
  | 30 => .int
  | 31 => .array .int
  | 32 => .int
  | 33 => .array .int
  | 34 => .array .int
  | 35 => .array .int
  | 36 => .array .int
  | 37 => .array .int
  | 38 => .int
  | 39 => .int
  | 40 => .array .int
  | 41 => .array .int
  | 42 => .array .int
  | 43 => .array .int
  | 44 => .array .int
  | 45 => .array .int
  | 46 => .int
  | 47 => .array .int
  | 48 => .int
  | _ => .boolean
theorem nmX12 : ∀ a, a < 50 → ∀ b, b < 50 → a ≠ b → (TX12 a).2.1 ≠ (TX12 b).2.1 := by decide +kernel
theorem tyX12_ok : ∀ k, k < 50 → parseFieldDescriptor (TX12 k).2.2.1 = some (tyX12 k) := by decide +kernel
abbrev cX12_in : ByteArray := prog_14_method_1_code
def yX12_in : MethodName := ⟨RX12, "in", "(III)Z"⟩
abbrev cX12_has : ByteArray := prog_14_method_2_code
def yX12_has : MethodName := ⟨RX12, "has", "(II)Z"⟩
abbrev cX12_init : ByteArray := prog_14_method_3_code
def yX12_init : MethodName := ⟨RX12, "<init>", "()V"⟩
abbrev cX12_byteOf : ByteArray := prog_14_method_5_code
def yX12_byteOf : MethodName := ⟨RX12, "byteOf", "(IIIIII)I"⟩
abbrev cX12_feed : ByteArray := prog_14_method_6_code
def yX12_feed : MethodName := ⟨RX12, "feed", "(IIIII)I"⟩
abbrev cX12_end : ByteArray := prog_14_method_7_code
def yX12_end : MethodName := ⟨RX12, "end", "(I)Z"⟩
abbrev cX12_here : ByteArray := prog_14_method_8_code
def yX12_here : MethodName := ⟨RX12, "here", "()I"⟩
abbrev cX12_look : ByteArray := prog_14_method_9_code
def yX12_look : MethodName := ⟨RX12, "look", "()I"⟩
abbrev cX12_bad : ByteArray := prog_14_method_10_code
def yX12_bad : MethodName := ⟨RX12, "bad", "()V"⟩
abbrev cX12_isDigit : ByteArray := prog_14_method_11_code
def yX12_isDigit : MethodName := ⟨RX12, "isDigit", "(I)Z"⟩
abbrev cX12_put : ByteArray := prog_14_method_12_code
def yX12_put : MethodName := ⟨RX12, "put", "(II)V"⟩
abbrev cX12_letterOf : ByteArray := prog_14_method_13_code
def yX12_letterOf : MethodName := ⟨RX12, "letterOf", "(I)I"⟩
abbrev cX12_opens : ByteArray := prog_14_method_14_code
def yX12_opens : MethodName := ⟨RX12, "opens", "()V"⟩
abbrev cX12_closes : ByteArray := prog_14_method_15_code
def yX12_closes : MethodName := ⟨RX12, "closes", "(I)V"⟩
abbrev cX12_plainNumber : ByteArray := prog_14_method_16_code
def yX12_plainNumber : MethodName := ⟨RX12, "plainNumber", "()I"⟩
abbrev cX12_atom : ByteArray := prog_14_method_17_code
def yX12_atom : MethodName := ⟨RX12, "atom", "()V"⟩
abbrev cX12_term : ByteArray := prog_14_method_18_code
def yX12_term : MethodName := ⟨RX12, "term", "()V"⟩
abbrev cX12_sum : ByteArray := prog_14_method_19_code
def yX12_sum : MethodName := ⟨RX12, "sum", "()V"⟩
abbrev cX12_isSign : ByteArray := prog_14_method_20_code
def yX12_isSign : MethodName := ⟨RX12, "isSign", "(I)Z"⟩
abbrev cX12_compare : ByteArray := prog_14_method_21_code
def yX12_compare : MethodName := ⟨RX12, "compare", "()V"⟩
abbrev cX12_unit : ByteArray := prog_14_method_22_code
def yX12_unit : MethodName := ⟨RX12, "unit", "()V"⟩
abbrev cX12_goOnAnd : ByteArray := prog_14_method_23_code
def yX12_goOnAnd : MethodName := ⟨RX12, "goOnAnd", "()V"⟩
abbrev cX12_goOnOr : ByteArray := prog_14_method_24_code
def yX12_goOnOr : MethodName := ⟨RX12, "goOnOr", "()V"⟩
abbrev cX12_condition : ByteArray := prog_14_method_25_code
def yX12_condition : MethodName := ⟨RX12, "condition", "()V"⟩
abbrev cX12_clause : ByteArray := prog_14_method_26_code
def yX12_clause : MethodName := ⟨RX12, "clause", "()V"⟩
abbrev cX12_open : ByteArray := prog_14_method_27_code
def yX12_open : MethodName := ⟨RX12, "open", "(I)V"⟩
abbrev cX12_atEnd : ByteArray := prog_14_method_28_code
def yX12_atEnd : MethodName := ⟨RX12, "atEnd", "()I"⟩
abbrev cX12_readLaw : ByteArray := prog_14_method_29_code
def yX12_readLaw : MethodName := ⟨RX12, "readLaw", "(I)I"⟩
abbrev cX12_bounded : ByteArray := prog_14_method_30_code
def yX12_bounded : MethodName := ⟨RX12, "bounded", "(J)I"⟩
abbrev cX12_worked : ByteArray := prog_14_method_31_code
def yX12_worked : MethodName := ⟨RX12, "worked", "(IJJ)I"⟩
abbrev cX12_workOut : ByteArray := prog_14_method_32_code
def yX12_workOut : MethodName := ⟨RX12, "workOut", "(III)I"⟩
abbrev cX12_worthOf : ByteArray := prog_14_method_33_code
def yX12_worthOf : MethodName := ⟨RX12, "worthOf", "(I)I"⟩
abbrev cX12_number : ByteArray := prog_14_method_34_code
def yX12_number : MethodName := ⟨RX12, "number", "(II)I"⟩
abbrev cX12_itemOf : ByteArray := prog_14_method_35_code
def yX12_itemOf : MethodName := ⟨RX12, "itemOf", "(I)I"⟩
abbrev cX12_highest : ByteArray := prog_14_method_36_code
def yX12_highest : MethodName := ⟨RX12, "highest", "(I)I"⟩
abbrev cX12_playerText : ByteArray := prog_14_method_37_code
def yX12_playerText : MethodName := ⟨RX12, "playerText", "()V"⟩
abbrev cX12_areTold : ByteArray := prog_14_method_38_code
def yX12_areTold : MethodName := ⟨RX12, "areTold", "()Z"⟩
abbrev cX12_readTown : ByteArray := prog_14_method_39_code
def yX12_readTown : MethodName := ⟨RX12, "readTown", "()I"⟩
abbrev cX12_fault : ByteArray := prog_14_method_40_code
def yX12_fault : MethodName := ⟨RX12, "fault", "(I)I"⟩
abbrev cX12_takeTown : ByteArray := prog_14_method_41_code
def yX12_takeTown : MethodName := ⟨RX12, "takeTown", "()I"⟩
abbrev cX12_text : ByteArray := prog_14_method_42_code
def yX12_text : MethodName := ⟨RX12, "text", "(I)I"⟩
abbrev cX12_isPlayer : ByteArray := prog_14_method_43_code
def yX12_isPlayer : MethodName := ⟨RX12, "isPlayer", "(I)Z"⟩
abbrev cX12_of : ByteArray := prog_14_method_44_code
def yX12_of : MethodName := ⟨RX12, "of", "(II)I"⟩
abbrev cX12_player : ByteArray := prog_14_method_45_code
def yX12_player : MethodName := ⟨RX12, "player", "(II)I"⟩
abbrev cX12_set : ByteArray := prog_14_method_46_code
def yX12_set : MethodName := ⟨RX12, "set", "(II)Z"⟩
abbrev cX12_tell : ByteArray := prog_14_method_47_code
def yX12_tell : MethodName := ⟨RX12, "tell", "(III)Z"⟩
abbrev cX12_mark : ByteArray := prog_14_method_48_code
def yX12_mark : MethodName := ⟨RX12, "mark", "(IZ)Z"⟩
abbrev cX12_dampOf : ByteArray := prog_14_method_49_code
def yX12_dampOf : MethodName := ⟨RX12, "dampOf", "(I)I"⟩
abbrev cX12_damp : ByteArray := prog_14_method_50_code
def yX12_damp : MethodName := ⟨RX12, "damp", "(I)I"⟩
abbrev cX12_pass : ByteArray := prog_14_method_51_code
def yX12_pass : MethodName := ⟨RX12, "pass", "(II)V"⟩
abbrev cX12_day : ByteArray := prog_14_method_52_code
def yX12_day : MethodName := ⟨RX12, "day", "(I)I"⟩
abbrev cX12_undo : ByteArray := prog_14_method_53_code
def yX12_undo : MethodName := ⟨RX12, "undo", "()I"⟩
abbrev cX12_layBeats : ByteArray := prog_14_method_54_code
def yX12_layBeats : MethodName := ⟨RX12, "layBeats", "(I)V"⟩
abbrev cX12_beatBehind : ByteArray := prog_14_method_55_code
def yX12_beatBehind : MethodName := ⟨RX12, "beatBehind", "(II)I"⟩
abbrev cX12_play : ByteArray := prog_14_method_56_code
def yX12_play : MethodName := ⟨RX12, "play", "()V"⟩
abbrev cX12_isBar : ByteArray := prog_14_method_57_code
def yX12_isBar : MethodName := ⟨RX12, "isBar", "(I)Z"⟩
abbrev cX12_time : ByteArray := prog_14_method_58_code
def yX12_time : MethodName := ⟨RX12, "time", "(III)I"⟩
abbrev cX12_spreadAt : ByteArray := prog_14_method_59_code
def yX12_spreadAt : MethodName := ⟨RX12, "spreadAt", "(I)I"⟩
abbrev cX12_spread : ByteArray := prog_14_method_60_code
def yX12_spread : MethodName := ⟨RX12, "spread", "(I)I"⟩
abbrev cX12_worstBar : ByteArray := prog_14_method_61_code
def yX12_worstBar : MethodName := ⟨RX12, "worstBar", "()I"⟩
abbrev cX12_worstNow : ByteArray := prog_14_method_62_code
def yX12_worstNow : MethodName := ⟨RX12, "worstNow", "()I"⟩
abbrev cX12_worst : ByteArray := prog_14_method_63_code
def yX12_worst : MethodName := ⟨RX12, "worst", "(I)I"⟩
abbrev cX12_parts : ByteArray := prog_14_method_64_code
def yX12_parts : MethodName := ⟨RX12, "parts", "()I"⟩
abbrev cX12_lastAt : ByteArray := prog_14_method_65_code
def yX12_lastAt : MethodName := ⟨RX12, "lastAt", "(I)I"⟩
abbrev cX12_last : ByteArray := prog_14_method_66_code
def yX12_last : MethodName := ⟨RX12, "last", "(I)I"⟩
abbrev cX12_areLike : ByteArray := prog_14_method_67_code
def yX12_areLike : MethodName := ⟨RX12, "areLike", "(II)Z"⟩
abbrev cX12_settle : ByteArray := prog_14_method_68_code
def yX12_settle : MethodName := ⟨RX12, "settle", "(I)I"⟩
abbrev cX12_ring : ByteArray := prog_14_method_69_code
def yX12_ring : MethodName := ⟨RX12, "ring", "(I)I"⟩
abbrev cX12_head : ByteArray := prog_14_method_70_code
def yX12_head : MethodName := ⟨RX12, "head", "(I)I"⟩
abbrev cX12_keepBeats : ByteArray := prog_14_method_71_code
def yX12_keepBeats : MethodName := ⟨RX12, "keepBeats", "(I)V"⟩
abbrev cX12_takeBeats : ByteArray := prog_14_method_72_code
def yX12_takeBeats : MethodName := ⟨RX12, "takeBeats", "(I)V"⟩
abbrev cX12_weekFrom : ByteArray := prog_14_method_73_code
def yX12_weekFrom : MethodName := ⟨RX12, "weekFrom", "(II)V"⟩
abbrev cX12_week : ByteArray := prog_14_method_74_code
def yX12_week : MethodName := ⟨RX12, "week", "(I)I"⟩
abbrev cX12_leader : ByteArray := prog_14_method_75_code
def yX12_leader : MethodName := ⟨RX12, "leader", "(II)I"⟩
abbrev cX12_marksFrom : ByteArray := prog_14_method_76_code
def yX12_marksFrom : MethodName := ⟨RX12, "marksFrom", "(I)V"⟩
abbrev cX12_marks : ByteArray := prog_14_method_77_code
def yX12_marks : MethodName := ⟨RX12, "marks", "(I)I"⟩
abbrev cX12_oddsFrom : ByteArray := prog_14_method_78_code
def yX12_oddsFrom : MethodName := ⟨RX12, "oddsFrom", "(III)I"⟩
abbrev cX12_odds : ByteArray := prog_14_method_79_code
def yX12_odds : MethodName := ⟨RX12, "odds", "(II)I"⟩
abbrev cX12_isAloneLast : ByteArray := prog_14_method_80_code
def yX12_isAloneLast : MethodName := ⟨RX12, "isAloneLast", "(I)Z"⟩
abbrev cX12_paid : ByteArray := prog_14_method_81_code
def yX12_paid : MethodName := ⟨RX12, "paid", "(I)I"⟩
abbrev cX12_roll : ByteArray := prog_14_method_82_code
def yX12_roll : MethodName := ⟨RX12, "roll", "(III)I"⟩
abbrev cX12_agrees : ByteArray := prog_14_method_83_code
def yX12_agrees : MethodName := ⟨RX12, "agrees", "()Z"⟩
abbrev cX12_fits : ByteArray := prog_14_method_84_code
def yX12_fits : MethodName := ⟨RX12, "fits", "(I)I"⟩
abbrev cX12_deaf : ByteArray := prog_14_method_85_code
def yX12_deaf : MethodName := ⟨RX12, "deaf", "(I)I"⟩
abbrev cX12_echoes : ByteArray := prog_14_method_86_code
def yX12_echoes : MethodName := ⟨RX12, "echoes", "(I)I"⟩
abbrev cX12_gift : ByteArray := prog_14_method_87_code
def yX12_gift : MethodName := ⟨RX12, "gift", "(I)I"⟩
abbrev cX12_tune : ByteArray := prog_14_method_88_code
def yX12_tune : MethodName := ⟨RX12, "tune", "(II)I"⟩
abbrev cX12_place : ByteArray := prog_14_method_89_code
def yX12_place : MethodName := ⟨RX12, "place", "(II)I"⟩
abbrev cX12_aheadAt : ByteArray := prog_14_method_90_code
def yX12_aheadAt : MethodName := ⟨RX12, "aheadAt", "(III)I"⟩
abbrev cX12_overtakes : ByteArray := prog_14_method_91_code
def yX12_overtakes : MethodName := ⟨RX12, "overtakes", "(II)I"⟩
abbrev cX12_middle : ByteArray := prog_14_method_92_code
def yX12_middle : MethodName := ⟨RX12, "middle", "()I"⟩
abbrev cX12_ends : ByteArray := prog_14_method_93_code
def yX12_ends : MethodName := ⟨RX12, "ends", "(I)I"⟩
abbrev cX12_stray : ByteArray := prog_14_method_94_code
def yX12_stray : MethodName := ⟨RX12, "stray", "(II)I"⟩
abbrev cX12_image : ByteArray := prog_14_method_95_code
def yX12_image : MethodName := ⟨RX12, "image", "()I"⟩
abbrev cX12_back : ByteArray := prog_14_method_96_code
def yX12_back : MethodName := ⟨RX12, "back", "()I"⟩
abbrev cX12_count : ByteArray := prog_14_method_97_code
def yX12_count : MethodName := ⟨RX12, "count", "(I)I"⟩
def RJ6 : String := "java/lang/Integer"
def TJ6 : u_T := fun k => match k with
  | _ => ("", "", "", false)
def tyJ6 : Nat → FieldType := fun k => match k with
  | _ => .int
theorem nmJ6 : ∀ a, a < 0 → ∀ b, b < 0 → a ≠ b → (TJ6 a).2.1 ≠ (TJ6 b).2.1 := by decide +kernel
theorem tyJ6_ok : ∀ k, k < 0 → parseFieldDescriptor (TJ6 k).2.2.1 = some (tyJ6 k) := by decide +kernel
abbrev cJ6_compare_7cf53 : ByteArray := prog_18_method_40_code
def yJ6_compare_7cf53 : MethodName := ⟨RJ6, "compare", "(II)I"⟩
def RJ9 : String := "java/lang/Math"
def TJ9 : u_T := fun k => match k with
  | _ => ("", "", "", false)
def tyJ9 : Nat → FieldType := fun k => match k with
  | _ => .int
theorem nmJ9 : ∀ a, a < 0 → ∀ b, b < 0 → a ≠ b → (TJ9 a).2.1 ≠ (TJ9 b).2.1 := by decide +kernel
theorem tyJ9_ok : ∀ k, k < 0 → parseFieldDescriptor (TJ9 k).2.2.1 = some (tyJ9 k) := by decide +kernel
abbrev cJ9_abs_0f7a4 : ByteArray := prog_19_method_59_code
def yJ9_abs_0f7a4 : MethodName := ⟨RJ9, "abs", "(I)I"⟩
abbrev cJ9_max_7cf53 : ByteArray := prog_19_method_65_code
def yJ9_max_7cf53 : MethodName := ⟨RJ9, "max", "(II)I"⟩
abbrev cJ9_max_f86c9 : ByteArray := prog_19_method_66_code
def yJ9_max_f86c9 : MethodName := ⟨RJ9, "max", "(JJ)J"⟩
abbrev cJ9_min_7cf53 : ByteArray := prog_19_method_69_code
def yJ9_min_7cf53 : MethodName := ⟨RJ9, "min", "(II)I"⟩
abbrev cJ9_min_f86c9 : ByteArray := prog_19_method_70_code
def yJ9_min_f86c9 : MethodName := ⟨RJ9, "min", "(JJ)J"⟩
def RJ0 : String := "java/lang/String"
def TJ0 : u_T := fun k => match k with
  | _ => ("", "", "", false)
def tyJ0 : Nat → FieldType := fun k => match k with
  | _ => .int
theorem nmJ0 : ∀ a, a < 0 → ∀ b, b < 0 → a ≠ b → (TJ0 a).2.1 ≠ (TJ0 b).2.1 := by decide +kernel
theorem tyJ0_ok : ∀ k, k < 0 → parseFieldDescriptor (TJ0 k).2.2.1 = some (tyJ0 k) := by decide +kernel
def RJ10 : String := "java/lang/System"
def TJ10 : u_T := fun k => match k with
  | _ => ("", "", "", false)
def tyJ10 : Nat → FieldType := fun k => match k with
  | _ => .int
theorem nmJ10 : ∀ a, a < 0 → ∀ b, b < 0 → a ≠ b → (TJ10 a).2.1 ≠ (TJ10 b).2.1 := by decide +kernel
theorem tyJ10_ok : ∀ k, k < 0 → parseFieldDescriptor (TJ10 k).2.2.1 = some (tyJ10 k) := by decide +kernel
def RJ7 : String := "java/util/Arrays"
def TJ7 : u_T := fun k => match k with
  | _ => ("", "", "", false)
def tyJ7 : Nat → FieldType := fun k => match k with
  | _ => .int
theorem nmJ7 : ∀ a, a < 0 → ∀ b, b < 0 → a ≠ b → (TJ7 a).2.1 ≠ (TJ7 b).2.1 := by decide +kernel
theorem tyJ7_ok : ∀ k, k < 0 → parseFieldDescriptor (TJ7 k).2.2.1 = some (tyJ7 k) := by decide +kernel
abbrev cJ7_fill_53178 : ByteArray := prog_24_method_103_code
def yJ7_fill_53178 : MethodName := ⟨RJ7, "fill", "([II)V"⟩
abbrev cJ7_copyOf_59c91 : ByteArray := prog_24_method_123_code
def yJ7_copyOf_59c91 : MethodName := ⟨RJ7, "copyOf", "([II)[I"⟩
def RL : String := "BorrowedBeatLaw"
abbrev cL_player : ByteArray := method_3_code
def yL_player : MethodName := ⟨RL, "player", "(LBorrowedBeat;II[J)I"⟩
abbrev cL_law : ByteArray := code
def yL_law : MethodName := ⟨RL, "law", "([I)Z"⟩
abbrev vwCl : List vw_C := [(RX0, TX0, 7), (RX1, TX1, 5), (RX2, TX2, 5), (RX3, TX3, 5), (RX4, TX4, 9), (RX6, TX6, 8), (RX7, TX7, 2), (RX8, TX8, 7), (RX9, TX9, 5), (RX10, TX10, 7), (RX11, TX11, 16), (RX12, TX12, 50)]
end pt_01names
/- 01.zdz.lean.txt -/
section pt_01zdz
/-! DECODING by the opcode: a row asks for the bytes alone -/
noncomputable def nthL (l : List UInt8) : Nat → Option UInt8 := List.rec (motive := fun _ => Nat → Option UInt8) (fun _ => none) (fun a _ ih k => Nat.rec (motive := fun _ => Option UInt8) (some a) (fun k2 _ => ih k2) k) l
theorem nthL_e : ∀ (l : List UInt8) (k : Nat), nthL l k = l[k]? := by
  intro l
  induction l with
  | nil => exact fun k => rfl
  | cons a r ih =>
    intro k
    cases k with
    | zero => rfl
    | succ k => exact ih k
noncomputable def zb (c : ByteArray) (k : Nat) : Option Nat := (nthL c.data.toList k).map UInt8.toNat
theorem zb_u1 {c : ByteArray} {k x : Nat} (h : zb c k = some x) : (Jvm.ClassFile.Reader.u1 : Jvm.ClassFile.Decoder Nat) c k = .ok (x, k + 1) := by
  unfold zb at h
  rw [nthL_e] at h
  obtain ⟨y, hy, hx⟩ := Option.map_eq_some_iff.mp h
  obtain ⟨hk, hy2⟩ := List.getElem?_eq_some_iff.mp hy
  have hk2 : k < c.size := hk
  change (dite (k < c.size) (fun h => (do set (k + 1); Pure.pure (c[k]'h).toNat : Jvm.ClassFile.Decoder Nat)) (fun _ => throw (Jvm.ClassFile.HasTruncated.truncated k))) c k = _
  rw [dif_pos hk2]
  change Except.ok ((c[k]'hk2).toNat, k + 1) = _
  have e : c[k]'hk2 = y := hy2
  rw [e, hx]
theorem zb_u2 {c : ByteArray} {k x y : Nat} (h : zb c k = some x) (h2 : zb c (k + 1) = some y) : (Jvm.ClassFile.Reader.u2 : Jvm.ClassFile.Decoder Nat) c k = .ok (x * 256 + y, k + 2) := by
  change Except.bind ((Jvm.ClassFile.Reader.u1 : Jvm.ClassFile.Decoder Nat) c k) (fun p => Except.bind ((Jvm.ClassFile.Reader.u1 : Jvm.ClassFile.Decoder Nat) c p.2) (fun q => Except.ok (p.1 * 256 + q.1, q.2))) = _
  rw [zb_u1 h]
  change Except.bind ((Jvm.ClassFile.Reader.u1 : Jvm.ClassFile.Decoder Nat) c (k + 1)) (fun q => Except.ok (x * 256 + q.1, q.2)) = _
  rw [zb_u1 h2]
  rfl
section DZ
variable {c : ByteArray} {pc b n : Nat} {i : Instr} {f : Nat → Jvm.ClassFile.Decoder Instr}
theorem dz_run (hf : Jvm.ClassFile.Decoder.instr pc = (Jvm.ClassFile.Reader.u1 >>= f)) (h : zb c pc = some b) (hb : f b c (pc + 1) = .ok (i, n)) : decode c pc = .ok (i, n - pc) := by
  have e : (Jvm.ClassFile.Decoder.instr pc) c pc = .ok (i, n) := by
    rw [hf]
    change Except.bind ((Jvm.ClassFile.Reader.u1 : Jvm.ClassFile.Decoder Nat) c pc) (fun x => f x.1 c x.2) = _
    rw [zb_u1 h]
    exact hb
  change Except.bind ((Jvm.ClassFile.Decoder.instr pc) c pc) (fun x => Except.ok (x.1, x.2 - pc)) = _
  rw [e]
  rfl
theorem dz_0 (hf : Jvm.ClassFile.Decoder.instr pc = (Jvm.ClassFile.Reader.u1 >>= f)) (hb : f b = Pure.pure i) (h : zb c pc = some b) : decode c pc = .ok (i, 1) := by
  have := dz_run (n := pc + 1) hf h (by rw [hb]; rfl)
  rwa [Nat.add_sub_cancel_left] at this
noncomputable def zk1 (b v : Nat) (c : ByteArray) (pc : Nat) : Bool := match zb c pc, zb c (pc + 1) with
  | some o, some x => o == b && x == v
  | _, _ => false
theorem zk1_i {v : Nat} (h : zk1 b v c pc = true) : zb c pc = some b ∧ zb c (pc + 1) = some v := by
  unfold zk1 at h
  split at h
  · rename_i o x h1 h2
    simp only [Bool.and_eq_true, beq_iff_eq] at h
    rw [h1, h2, h.1, h.2]
    exact ⟨rfl, rfl⟩
  · cases h
theorem dz_1 {g : Nat → Instr} {v : Nat} (hf : Jvm.ClassFile.Decoder.instr pc = (Jvm.ClassFile.Reader.u1 >>= f)) (hb : f b = (Jvm.ClassFile.Reader.u1 >>= fun x => Pure.pure (g x))) (h : zk1 b v c pc = true) : decode c pc = .ok (g v, 2) := by
  obtain ⟨h1, h2⟩ := zk1_i h
  have := dz_run (n := pc + 2) (i := g v) hf h1 (by
    rw [hb]
    change Except.bind ((Jvm.ClassFile.Reader.u1 : Jvm.ClassFile.Decoder Nat) c (pc + 1)) (fun x => Except.ok (g x.1, x.2)) = _
    rw [zb_u1 h2]
    rfl)
  rwa [Nat.add_sub_cancel_left] at this
noncomputable def zks1 (b : Nat) (v : Int) (c : ByteArray) (pc : Nat) : Bool := match zb c pc, zb c (pc + 1) with
  | some o, some x => o == b && Jvm.ClassFile.Reader.signed 8 x == v
  | _, _ => false
theorem dz_s1 {g : Int → Instr} {v : Int} (hf : Jvm.ClassFile.Decoder.instr pc = (Jvm.ClassFile.Reader.u1 >>= f)) (hb : f b = (Jvm.ClassFile.Reader.s1 >>= fun x => Pure.pure (g x))) (h : zks1 b v c pc = true) : decode c pc = .ok (g v, 2) := by
  unfold zks1 at h
  split at h
  · rename_i o x h1 h2
    simp only [Bool.and_eq_true, beq_iff_eq] at h
    rw [h.1] at h1
    have := dz_run (n := pc + 2) (i := g v) hf h1 (by
      rw [hb]
      change Except.bind (Except.bind ((Jvm.ClassFile.Reader.u1 : Jvm.ClassFile.Decoder Nat) c (pc + 1)) (fun x => Except.ok (Jvm.ClassFile.Reader.signed 8 x.1, x.2))) (fun x => Except.ok (g x.1, x.2)) = _
      rw [zb_u1 h2]
      change Except.ok (g (Jvm.ClassFile.Reader.signed 8 x), pc + 1 + 1) = _
      rw [h.2])
    rwa [Nat.add_sub_cancel_left] at this
  · cases h
noncomputable def zk2 (b v : Nat) (c : ByteArray) (pc : Nat) : Bool := match zb c pc, zb c (pc + 1), zb c (pc + 2) with
  | some o, some x, some y => o == b && x * 256 + y == v
  | _, _, _ => false
theorem dz_2 {g : Nat → Instr} {v : Nat} (hf : Jvm.ClassFile.Decoder.instr pc = (Jvm.ClassFile.Reader.u1 >>= f)) (hb : f b = (Jvm.ClassFile.Reader.u2 >>= fun x => Pure.pure (g x))) (h : zk2 b v c pc = true) : decode c pc = .ok (g v, 3) := by
  unfold zk2 at h
  split at h
  · rename_i o x y h1 h2 h3
    simp only [Bool.and_eq_true, beq_iff_eq] at h
    rw [h.1] at h1
    have := dz_run (n := pc + 3) (i := g v) hf h1 (by
      rw [hb]
      change Except.bind ((Jvm.ClassFile.Reader.u2 : Jvm.ClassFile.Decoder Nat) c (pc + 1)) (fun x => Except.ok (g x.1, x.2)) = _
      rw [zb_u2 h2 h3, h.2]
      rfl)
    rwa [Nat.add_sub_cancel_left] at this
  · cases h
noncomputable def zks2 (b : Nat) (v : Int) (c : ByteArray) (pc : Nat) : Bool := match zb c pc, zb c (pc + 1), zb c (pc + 2) with
  | some o, some x, some y => o == b && Jvm.ClassFile.Reader.signed 16 (x * 256 + y) == v
  | _, _, _ => false
theorem dz_s2 {g : Int → Instr} {v : Int} (hf : Jvm.ClassFile.Decoder.instr pc = (Jvm.ClassFile.Reader.u1 >>= f)) (hb : f b = (Jvm.ClassFile.Reader.s2 >>= fun x => Pure.pure (g x))) (h : zks2 b v c pc = true) : decode c pc = .ok (g v, 3) := by
  unfold zks2 at h
  split at h
  · rename_i o x y h1 h2 h3
    simp only [Bool.and_eq_true, beq_iff_eq] at h
    rw [h.1] at h1
    have := dz_run (n := pc + 3) (i := g v) hf h1 (by
      rw [hb]
      change Except.bind (Except.bind ((Jvm.ClassFile.Reader.u2 : Jvm.ClassFile.Decoder Nat) c (pc + 1)) (fun x => Except.ok (Jvm.ClassFile.Reader.signed 16 x.1, x.2))) (fun x => Except.ok (g x.1, x.2)) = _
      rw [zb_u2 h2 h3]
      change Except.ok (g (Jvm.ClassFile.Reader.signed 16 (x * 256 + y)), pc + 1 + 2) = _
      rw [h.2])
    rwa [Nat.add_sub_cancel_left] at this
  · cases h
theorem dz_b1 {c : ByteArray} {pc : Nat} (h : zb c pc = some 1) : decode c pc = .ok (.aconst_null, 1) := dz_0 rfl rfl h
theorem dz_b2 {c : ByteArray} {pc : Nat} (h : zb c pc = some 2) : decode c pc = .ok (.iconst (-1), 1) := dz_0 rfl rfl h
theorem dz_b3 {c : ByteArray} {pc : Nat} (h : zb c pc = some 3) : decode c pc = .ok (.iconst 0, 1) := dz_0 rfl rfl h
theorem dz_b4 {c : ByteArray} {pc : Nat} (h : zb c pc = some 4) : decode c pc = .ok (.iconst 1, 1) := dz_0 rfl rfl h
theorem dz_b5 {c : ByteArray} {pc : Nat} (h : zb c pc = some 5) : decode c pc = .ok (.iconst 2, 1) := dz_0 rfl rfl h
theorem dz_b6 {c : ByteArray} {pc : Nat} (h : zb c pc = some 6) : decode c pc = .ok (.iconst 3, 1) := dz_0 rfl rfl h
theorem dz_b7 {c : ByteArray} {pc : Nat} (h : zb c pc = some 7) : decode c pc = .ok (.iconst 4, 1) := dz_0 rfl rfl h
theorem dz_b8 {c : ByteArray} {pc : Nat} (h : zb c pc = some 8) : decode c pc = .ok (.iconst 5, 1) := dz_0 rfl rfl h
theorem dz_b9 {c : ByteArray} {pc : Nat} (h : zb c pc = some 9) : decode c pc = .ok (.lconst 0, 1) := dz_0 rfl rfl h
theorem dz_b16 {c : ByteArray} {pc : Nat} {v : Int} (h : zks1 16 v c pc = true) : decode c pc = .ok (.bipush v, 2) := dz_s1 (g := fun x => .bipush x) rfl rfl h
theorem dz_b17 {c : ByteArray} {pc : Nat} {v : Int} (h : zks2 17 v c pc = true) : decode c pc = .ok (.sipush v, 3) := dz_s2 (g := fun x => .sipush x) rfl rfl h
theorem dz_b18 {c : ByteArray} {pc : Nat} {v : Nat} (h : zk1 18 v c pc = true) : decode c pc = .ok (.ldc v, 2) := dz_1 (g := fun x => .ldc x) rfl rfl h
theorem dz_b19 {c : ByteArray} {pc : Nat} {v : Nat} (h : zk2 19 v c pc = true) : decode c pc = .ok (.ldc_w v, 3) := dz_2 (g := fun x => .ldc_w x) rfl rfl h
theorem dz_b20 {c : ByteArray} {pc : Nat} {v : Nat} (h : zk2 20 v c pc = true) : decode c pc = .ok (.ldc2_w v, 3) := dz_2 (g := fun x => .ldc2_w x) rfl rfl h
theorem dz_b21 {c : ByteArray} {pc : Nat} {v : Nat} (h : zk1 21 v c pc = true) : decode c pc = .ok (.iload v, 2) := dz_1 (g := fun x => .iload x) rfl rfl h
theorem dz_b25 {c : ByteArray} {pc : Nat} {v : Nat} (h : zk1 25 v c pc = true) : decode c pc = .ok (.aload v, 2) := dz_1 (g := fun x => .aload x) rfl rfl h
theorem dz_b26 {c : ByteArray} {pc : Nat} (h : zb c pc = some 26) : decode c pc = .ok (.iload_n 0, 1) := dz_0 rfl rfl h
theorem dz_b27 {c : ByteArray} {pc : Nat} (h : zb c pc = some 27) : decode c pc = .ok (.iload_n 1, 1) := dz_0 rfl rfl h
theorem dz_b28 {c : ByteArray} {pc : Nat} (h : zb c pc = some 28) : decode c pc = .ok (.iload_n 2, 1) := dz_0 rfl rfl h
theorem dz_b29 {c : ByteArray} {pc : Nat} (h : zb c pc = some 29) : decode c pc = .ok (.iload_n 3, 1) := dz_0 rfl rfl h
theorem dz_b30 {c : ByteArray} {pc : Nat} (h : zb c pc = some 30) : decode c pc = .ok (.lload_n 0, 1) := dz_0 rfl rfl h
theorem dz_b31 {c : ByteArray} {pc : Nat} (h : zb c pc = some 31) : decode c pc = .ok (.lload_n 1, 1) := dz_0 rfl rfl h
theorem dz_b32 {c : ByteArray} {pc : Nat} (h : zb c pc = some 32) : decode c pc = .ok (.lload_n 2, 1) := dz_0 rfl rfl h
theorem dz_b33 {c : ByteArray} {pc : Nat} (h : zb c pc = some 33) : decode c pc = .ok (.lload_n 3, 1) := dz_0 rfl rfl h
theorem dz_b42 {c : ByteArray} {pc : Nat} (h : zb c pc = some 42) : decode c pc = .ok (.aload_n 0, 1) := dz_0 rfl rfl h
theorem dz_b43 {c : ByteArray} {pc : Nat} (h : zb c pc = some 43) : decode c pc = .ok (.aload_n 1, 1) := dz_0 rfl rfl h
theorem dz_b44 {c : ByteArray} {pc : Nat} (h : zb c pc = some 44) : decode c pc = .ok (.aload_n 2, 1) := dz_0 rfl rfl h
theorem dz_b45 {c : ByteArray} {pc : Nat} (h : zb c pc = some 45) : decode c pc = .ok (.aload_n 3, 1) := dz_0 rfl rfl h
theorem dz_b46 {c : ByteArray} {pc : Nat} (h : zb c pc = some 46) : decode c pc = .ok (.iaload, 1) := dz_0 rfl rfl h
theorem dz_b50 {c : ByteArray} {pc : Nat} (h : zb c pc = some 50) : decode c pc = .ok (.aaload, 1) := dz_0 rfl rfl h
theorem dz_b54 {c : ByteArray} {pc : Nat} {v : Nat} (h : zk1 54 v c pc = true) : decode c pc = .ok (.istore v, 2) := dz_1 (g := fun x => .istore x) rfl rfl h
theorem dz_b58 {c : ByteArray} {pc : Nat} {v : Nat} (h : zk1 58 v c pc = true) : decode c pc = .ok (.astore v, 2) := dz_1 (g := fun x => .astore x) rfl rfl h
theorem dz_b60 {c : ByteArray} {pc : Nat} (h : zb c pc = some 60) : decode c pc = .ok (.istore_n 1, 1) := dz_0 rfl rfl h
theorem dz_b61 {c : ByteArray} {pc : Nat} (h : zb c pc = some 61) : decode c pc = .ok (.istore_n 2, 1) := dz_0 rfl rfl h
theorem dz_b62 {c : ByteArray} {pc : Nat} (h : zb c pc = some 62) : decode c pc = .ok (.istore_n 3, 1) := dz_0 rfl rfl h
theorem dz_b66 {c : ByteArray} {pc : Nat} (h : zb c pc = some 66) : decode c pc = .ok (.lstore_n 3, 1) := dz_0 rfl rfl h
theorem dz_b76 {c : ByteArray} {pc : Nat} (h : zb c pc = some 76) : decode c pc = .ok (.astore_n 1, 1) := dz_0 rfl rfl h
theorem dz_b77 {c : ByteArray} {pc : Nat} (h : zb c pc = some 77) : decode c pc = .ok (.astore_n 2, 1) := dz_0 rfl rfl h
theorem dz_b78 {c : ByteArray} {pc : Nat} (h : zb c pc = some 78) : decode c pc = .ok (.astore_n 3, 1) := dz_0 rfl rfl h
theorem dz_b79 {c : ByteArray} {pc : Nat} (h : zb c pc = some 79) : decode c pc = .ok (.iastore, 1) := dz_0 rfl rfl h
theorem dz_b80 {c : ByteArray} {pc : Nat} (h : zb c pc = some 80) : decode c pc = .ok (.lastore, 1) := dz_0 rfl rfl h
theorem dz_b83 {c : ByteArray} {pc : Nat} (h : zb c pc = some 83) : decode c pc = .ok (.aastore, 1) := dz_0 rfl rfl h
theorem dz_b87 {c : ByteArray} {pc : Nat} (h : zb c pc = some 87) : decode c pc = .ok (.pop, 1) := dz_0 rfl rfl h
theorem dz_b89 {c : ByteArray} {pc : Nat} (h : zb c pc = some 89) : decode c pc = .ok (.dup, 1) := dz_0 rfl rfl h
theorem dz_b92 {c : ByteArray} {pc : Nat} (h : zb c pc = some 92) : decode c pc = .ok (.dup2, 1) := dz_0 rfl rfl h
theorem dz_b96 {c : ByteArray} {pc : Nat} (h : zb c pc = some 96) : decode c pc = .ok (.iadd, 1) := dz_0 rfl rfl h
theorem dz_b97 {c : ByteArray} {pc : Nat} (h : zb c pc = some 97) : decode c pc = .ok (.ladd, 1) := dz_0 rfl rfl h
theorem dz_b100 {c : ByteArray} {pc : Nat} (h : zb c pc = some 100) : decode c pc = .ok (.isub, 1) := dz_0 rfl rfl h
theorem dz_b101 {c : ByteArray} {pc : Nat} (h : zb c pc = some 101) : decode c pc = .ok (.lsub, 1) := dz_0 rfl rfl h
theorem dz_b104 {c : ByteArray} {pc : Nat} (h : zb c pc = some 104) : decode c pc = .ok (.imul, 1) := dz_0 rfl rfl h
theorem dz_b105 {c : ByteArray} {pc : Nat} (h : zb c pc = some 105) : decode c pc = .ok (.lmul, 1) := dz_0 rfl rfl h
theorem dz_b108 {c : ByteArray} {pc : Nat} (h : zb c pc = some 108) : decode c pc = .ok (.idiv, 1) := dz_0 rfl rfl h
theorem dz_b109 {c : ByteArray} {pc : Nat} (h : zb c pc = some 109) : decode c pc = .ok (.ldiv, 1) := dz_0 rfl rfl h
theorem dz_b112 {c : ByteArray} {pc : Nat} (h : zb c pc = some 112) : decode c pc = .ok (.irem, 1) := dz_0 rfl rfl h
theorem dz_b116 {c : ByteArray} {pc : Nat} (h : zb c pc = some 116) : decode c pc = .ok (.ineg, 1) := dz_0 rfl rfl h
theorem dz_b120 {c : ByteArray} {pc : Nat} (h : zb c pc = some 120) : decode c pc = .ok (.ishl, 1) := dz_0 rfl rfl h
theorem dz_b122 {c : ByteArray} {pc : Nat} (h : zb c pc = some 122) : decode c pc = .ok (.ishr, 1) := dz_0 rfl rfl h
theorem dz_b124 {c : ByteArray} {pc : Nat} (h : zb c pc = some 124) : decode c pc = .ok (.iushr, 1) := dz_0 rfl rfl h
theorem dz_b126 {c : ByteArray} {pc : Nat} (h : zb c pc = some 126) : decode c pc = .ok (.iand, 1) := dz_0 rfl rfl h
theorem dz_b128 {c : ByteArray} {pc : Nat} (h : zb c pc = some 128) : decode c pc = .ok (.ior, 1) := dz_0 rfl rfl h
theorem dz_b130 {c : ByteArray} {pc : Nat} (h : zb c pc = some 130) : decode c pc = .ok (.ixor, 1) := dz_0 rfl rfl h
theorem dz_b133 {c : ByteArray} {pc : Nat} (h : zb c pc = some 133) : decode c pc = .ok (.i2l, 1) := dz_0 rfl rfl h
theorem dz_b136 {c : ByteArray} {pc : Nat} (h : zb c pc = some 136) : decode c pc = .ok (.l2i, 1) := dz_0 rfl rfl h
theorem dz_b148 {c : ByteArray} {pc : Nat} (h : zb c pc = some 148) : decode c pc = .ok (.lcmp, 1) := dz_0 rfl rfl h
theorem dz_b153 {c : ByteArray} {pc : Nat} {v : Int} (h : zks2 153 v c pc = true) : decode c pc = .ok (.ifCond .eq v, 3) := dz_s2 (g := fun x => .ifCond .eq x) rfl rfl h
theorem dz_b154 {c : ByteArray} {pc : Nat} {v : Int} (h : zks2 154 v c pc = true) : decode c pc = .ok (.ifCond .ne v, 3) := dz_s2 (g := fun x => .ifCond .ne x) rfl rfl h
theorem dz_b155 {c : ByteArray} {pc : Nat} {v : Int} (h : zks2 155 v c pc = true) : decode c pc = .ok (.ifCond .lt v, 3) := dz_s2 (g := fun x => .ifCond .lt x) rfl rfl h
theorem dz_b156 {c : ByteArray} {pc : Nat} {v : Int} (h : zks2 156 v c pc = true) : decode c pc = .ok (.ifCond .ge v, 3) := dz_s2 (g := fun x => .ifCond .ge x) rfl rfl h
theorem dz_b157 {c : ByteArray} {pc : Nat} {v : Int} (h : zks2 157 v c pc = true) : decode c pc = .ok (.ifCond .gt v, 3) := dz_s2 (g := fun x => .ifCond .gt x) rfl rfl h
theorem dz_b158 {c : ByteArray} {pc : Nat} {v : Int} (h : zks2 158 v c pc = true) : decode c pc = .ok (.ifCond .le v, 3) := dz_s2 (g := fun x => .ifCond .le x) rfl rfl h
theorem dz_b159 {c : ByteArray} {pc : Nat} {v : Int} (h : zks2 159 v c pc = true) : decode c pc = .ok (.if_icmp .eq v, 3) := dz_s2 (g := fun x => .if_icmp .eq x) rfl rfl h
theorem dz_b160 {c : ByteArray} {pc : Nat} {v : Int} (h : zks2 160 v c pc = true) : decode c pc = .ok (.if_icmp .ne v, 3) := dz_s2 (g := fun x => .if_icmp .ne x) rfl rfl h
theorem dz_b161 {c : ByteArray} {pc : Nat} {v : Int} (h : zks2 161 v c pc = true) : decode c pc = .ok (.if_icmp .lt v, 3) := dz_s2 (g := fun x => .if_icmp .lt x) rfl rfl h
theorem dz_b162 {c : ByteArray} {pc : Nat} {v : Int} (h : zks2 162 v c pc = true) : decode c pc = .ok (.if_icmp .ge v, 3) := dz_s2 (g := fun x => .if_icmp .ge x) rfl rfl h
theorem dz_b163 {c : ByteArray} {pc : Nat} {v : Int} (h : zks2 163 v c pc = true) : decode c pc = .ok (.if_icmp .gt v, 3) := dz_s2 (g := fun x => .if_icmp .gt x) rfl rfl h
theorem dz_b164 {c : ByteArray} {pc : Nat} {v : Int} (h : zks2 164 v c pc = true) : decode c pc = .ok (.if_icmp .le v, 3) := dz_s2 (g := fun x => .if_icmp .le x) rfl rfl h
theorem dz_b167 {c : ByteArray} {pc : Nat} {v : Int} (h : zks2 167 v c pc = true) : decode c pc = .ok (.goto v, 3) := dz_s2 (g := fun x => .goto x) rfl rfl h
theorem dz_b172 {c : ByteArray} {pc : Nat} (h : zb c pc = some 172) : decode c pc = .ok (.ireturn, 1) := dz_0 rfl rfl h
theorem dz_b173 {c : ByteArray} {pc : Nat} (h : zb c pc = some 173) : decode c pc = .ok (.lreturn, 1) := dz_0 rfl rfl h
theorem dz_b176 {c : ByteArray} {pc : Nat} (h : zb c pc = some 176) : decode c pc = .ok (.areturn, 1) := dz_0 rfl rfl h
theorem dz_b177 {c : ByteArray} {pc : Nat} (h : zb c pc = some 177) : decode c pc = .ok (.return_, 1) := dz_0 rfl rfl h
theorem dz_b178 {c : ByteArray} {pc : Nat} {v : Nat} (h : zk2 178 v c pc = true) : decode c pc = .ok (.getstatic v, 3) := dz_2 (g := fun x => .getstatic x) rfl rfl h
theorem dz_b180 {c : ByteArray} {pc : Nat} {v : Nat} (h : zk2 180 v c pc = true) : decode c pc = .ok (.getfield v, 3) := dz_2 (g := fun x => .getfield x) rfl rfl h
theorem dz_b181 {c : ByteArray} {pc : Nat} {v : Nat} (h : zk2 181 v c pc = true) : decode c pc = .ok (.putfield v, 3) := dz_2 (g := fun x => .putfield x) rfl rfl h
theorem dz_b182 {c : ByteArray} {pc : Nat} {v : Nat} (h : zk2 182 v c pc = true) : decode c pc = .ok (.invokevirtual v, 3) := dz_2 (g := fun x => .invokevirtual x) rfl rfl h
theorem dz_b183 {c : ByteArray} {pc : Nat} {v : Nat} (h : zk2 183 v c pc = true) : decode c pc = .ok (.invokespecial v, 3) := dz_2 (g := fun x => .invokespecial x) rfl rfl h
theorem dz_b184 {c : ByteArray} {pc : Nat} {v : Nat} (h : zk2 184 v c pc = true) : decode c pc = .ok (.invokestatic v, 3) := dz_2 (g := fun x => .invokestatic x) rfl rfl h
theorem dz_b187 {c : ByteArray} {pc : Nat} {v : Nat} (h : zk2 187 v c pc = true) : decode c pc = .ok (.new v, 3) := dz_2 (g := fun x => .new x) rfl rfl h
theorem dz_b189 {c : ByteArray} {pc : Nat} {v : Nat} (h : zk2 189 v c pc = true) : decode c pc = .ok (.anewarray v, 3) := dz_2 (g := fun x => .anewarray x) rfl rfl h
theorem dz_b190 {c : ByteArray} {pc : Nat} (h : zb c pc = some 190) : decode c pc = .ok (.arraylength, 1) := dz_0 rfl rfl h
theorem dz_b191 {c : ByteArray} {pc : Nat} (h : zb c pc = some 191) : decode c pc = .ok (.athrow, 1) := dz_0 rfl rfl h
theorem dz_b192 {c : ByteArray} {pc : Nat} {v : Nat} (h : zk2 192 v c pc = true) : decode c pc = .ok (.checkcast v, 3) := dz_2 (g := fun x => .checkcast x) rfl rfl h
theorem dz_b198 {c : ByteArray} {pc : Nat} {v : Int} (h : zks2 198 v c pc = true) : decode c pc = .ok (.ifnull v, 3) := dz_s2 (g := fun x => .ifnull x) rfl rfl h
theorem dz_b199 {c : ByteArray} {pc : Nat} {v : Int} (h : zks2 199 v c pc = true) : decode c pc = .ok (.ifnonnull v, 3) := dz_s2 (g := fun x => .ifnonnull x) rfl rfl h
end DZ
end pt_01zdz
/- 02.dec0.lean.txt -/
section pt_02dec0
theorem dX0_init_0 : decode cX0_init 0 = .ok (.aload_n 0, 1) := dz_b42 (by decide +kernel)
theorem dX0_init_1 : decode cX0_init 1 = .ok (.invokespecial 3, 3) := dz_b183 (by decide +kernel)
theorem dX0_init_4 : decode cX0_init 4 = .ok (.aload_n 0, 1) := dz_b42 (by decide +kernel)
theorem dX0_init_5 : decode cX0_init 5 = .ok (.bipush 6, 2) := dz_b16 (by decide +kernel)
theorem dX0_init_7 : decode cX0_init 7 = .ok (.newarray .int, 2) := by decide +kernel
theorem dX0_init_9 : decode cX0_init 9 = .ok (.putfield 9, 3) := dz_b181 (by decide +kernel)
theorem dX0_init_12 : decode cX0_init 12 = .ok (.aload_n 0, 1) := dz_b42 (by decide +kernel)
theorem dX0_init_13 : decode cX0_init 13 = .ok (.sipush 360, 3) := dz_b17 (by decide +kernel)
theorem dX0_init_16 : decode cX0_init 16 = .ok (.newarray .int, 2) := by decide +kernel
theorem dX0_init_18 : decode cX0_init 18 = .ok (.putfield 15, 3) := dz_b181 (by decide +kernel)
theorem dX0_init_21 : decode cX0_init 21 = .ok (.return_, 1) := dz_b177 (by decide +kernel)
theorem dX0_open_0 : decode cX0_open 0 = .ok (.aload_n 0, 1) := dz_b42 (by decide +kernel)
theorem dX0_open_1 : decode cX0_open 1 = .ok (.iconst 0, 1) := dz_b3 (by decide +kernel)
theorem dX0_open_2 : decode cX0_open 2 = .ok (.putfield 18, 3) := dz_b181 (by decide +kernel)
theorem dX0_open_5 : decode cX0_open 5 = .ok (.aload_n 0, 1) := dz_b42 (by decide +kernel)
theorem dX0_open_6 : decode cX0_open 6 = .ok (.iconst 0, 1) := dz_b3 (by decide +kernel)
theorem dX0_open_7 : decode cX0_open 7 = .ok (.putfield 22, 3) := dz_b181 (by decide +kernel)
theorem dX0_open_10 : decode cX0_open 10 = .ok (.aload_n 0, 1) := dz_b42 (by decide +kernel)
theorem dX0_open_11 : decode cX0_open 11 = .ok (.iconst 0, 1) := dz_b3 (by decide +kernel)
theorem dX0_open_12 : decode cX0_open 12 = .ok (.putfield 25, 3) := dz_b181 (by decide +kernel)
theorem dX0_open_15 : decode cX0_open 15 = .ok (.aload_n 0, 1) := dz_b42 (by decide +kernel)
theorem dX0_open_16 : decode cX0_open 16 = .ok (.iconst 0, 1) := dz_b3 (by decide +kernel)
theorem dX0_open_17 : decode cX0_open 17 = .ok (.putfield 28, 3) := dz_b181 (by decide +kernel)
theorem dX0_open_20 : decode cX0_open 20 = .ok (.return_, 1) := dz_b177 (by decide +kernel)
theorem dX0_keep_0 : decode cX0_keep 0 = .ok (.aload_n 1, 1) := dz_b43 (by decide +kernel)
theorem dX0_keep_1 : decode cX0_keep 1 = .ok (.iconst 0, 1) := dz_b3 (by decide +kernel)
theorem dX0_keep_2 : decode cX0_keep 2 = .ok (.aload_n 0, 1) := dz_b42 (by decide +kernel)
theorem dX0_keep_3 : decode cX0_keep 3 = .ok (.getfield 15, 3) := dz_b180 (by decide +kernel)
theorem dX0_keep_6 : decode cX0_keep 6 = .ok (.aload_n 0, 1) := dz_b42 (by decide +kernel)
theorem dX0_keep_7 : decode cX0_keep 7 = .ok (.getfield 25, 3) := dz_b180 (by decide +kernel)
theorem dX0_keep_10 : decode cX0_keep 10 = .ok (.bipush 6, 2) := dz_b16 (by decide +kernel)
theorem dX0_keep_12 : decode cX0_keep 12 = .ok (.imul, 1) := dz_b104 (by decide +kernel)
theorem dX0_keep_13 : decode cX0_keep 13 = .ok (.bipush 6, 2) := dz_b16 (by decide +kernel)
theorem dX0_keep_15 : decode cX0_keep 15 = .ok (.invokestatic 32, 3) := dz_b184 (by decide +kernel)
theorem dX0_keep_18 : decode cX0_keep 18 = .ok (.aload_n 0, 1) := dz_b42 (by decide +kernel)
theorem dX0_keep_19 : decode cX0_keep 19 = .ok (.aload_n 0, 1) := dz_b42 (by decide +kernel)
theorem dX0_keep_20 : decode cX0_keep 20 = .ok (.getfield 25, 3) := dz_b180 (by decide +kernel)
theorem dX0_keep_23 : decode cX0_keep 23 = .ok (.iconst 1, 1) := dz_b4 (by decide +kernel)
theorem dX0_keep_24 : decode cX0_keep 24 = .ok (.iadd, 1) := dz_b96 (by decide +kernel)
theorem dX0_keep_25 : decode cX0_keep 25 = .ok (.bipush 60, 2) := dz_b16 (by decide +kernel)
theorem dX0_keep_27 : decode cX0_keep 27 = .ok (.irem, 1) := dz_b112 (by decide +kernel)
theorem dX0_keep_28 : decode cX0_keep 28 = .ok (.putfield 25, 3) := dz_b181 (by decide +kernel)
theorem dX0_keep_31 : decode cX0_keep 31 = .ok (.aload_n 0, 1) := dz_b42 (by decide +kernel)
theorem dX0_keep_32 : decode cX0_keep 32 = .ok (.aload_n 0, 1) := dz_b42 (by decide +kernel)
theorem dX0_keep_33 : decode cX0_keep 33 = .ok (.getfield 22, 3) := dz_b180 (by decide +kernel)
theorem dX0_keep_36 : decode cX0_keep 36 = .ok (.iconst 1, 1) := dz_b4 (by decide +kernel)
theorem dX0_keep_37 : decode cX0_keep 37 = .ok (.iadd, 1) := dz_b96 (by decide +kernel)
theorem dX0_keep_38 : decode cX0_keep 38 = .ok (.bipush 60, 2) := dz_b16 (by decide +kernel)
theorem dX0_keep_40 : decode cX0_keep 40 = .ok (.invokestatic 38, 3) := dz_b184 (by decide +kernel)
theorem dX0_keep_43 : decode cX0_keep 43 = .ok (.putfield 22, 3) := dz_b181 (by decide +kernel)
theorem dX0_keep_46 : decode cX0_keep 46 = .ok (.return_, 1) := dz_b177 (by decide +kernel)
theorem dX0_takeBack_0 : decode cX0_takeBack 0 = .ok (.aload_n 0, 1) := dz_b42 (by decide +kernel)
theorem dX0_takeBack_1 : decode cX0_takeBack 1 = .ok (.aload_n 0, 1) := dz_b42 (by decide +kernel)
theorem dX0_takeBack_2 : decode cX0_takeBack 2 = .ok (.getfield 25, 3) := dz_b180 (by decide +kernel)
theorem dX0_takeBack_5 : decode cX0_takeBack 5 = .ok (.bipush 60, 2) := dz_b16 (by decide +kernel)
theorem dX0_takeBack_7 : decode cX0_takeBack 7 = .ok (.iadd, 1) := dz_b96 (by decide +kernel)
theorem dX0_takeBack_8 : decode cX0_takeBack 8 = .ok (.iconst 1, 1) := dz_b4 (by decide +kernel)
theorem dX0_takeBack_9 : decode cX0_takeBack 9 = .ok (.isub, 1) := dz_b100 (by decide +kernel)
theorem dX0_takeBack_10 : decode cX0_takeBack 10 = .ok (.bipush 60, 2) := dz_b16 (by decide +kernel)
theorem dX0_takeBack_12 : decode cX0_takeBack 12 = .ok (.irem, 1) := dz_b112 (by decide +kernel)
theorem dX0_takeBack_13 : decode cX0_takeBack 13 = .ok (.putfield 25, 3) := dz_b181 (by decide +kernel)
theorem dX0_takeBack_16 : decode cX0_takeBack 16 = .ok (.aload_n 0, 1) := dz_b42 (by decide +kernel)
theorem dX0_takeBack_17 : decode cX0_takeBack 17 = .ok (.getfield 15, 3) := dz_b180 (by decide +kernel)
theorem dX0_takeBack_20 : decode cX0_takeBack 20 = .ok (.aload_n 0, 1) := dz_b42 (by decide +kernel)
theorem dX0_takeBack_21 : decode cX0_takeBack 21 = .ok (.getfield 25, 3) := dz_b180 (by decide +kernel)
theorem dX0_takeBack_24 : decode cX0_takeBack 24 = .ok (.bipush 6, 2) := dz_b16 (by decide +kernel)
theorem dX0_takeBack_26 : decode cX0_takeBack 26 = .ok (.imul, 1) := dz_b104 (by decide +kernel)
theorem dX0_takeBack_27 : decode cX0_takeBack 27 = .ok (.aload_n 1, 1) := dz_b43 (by decide +kernel)
theorem dX0_takeBack_28 : decode cX0_takeBack 28 = .ok (.iconst 0, 1) := dz_b3 (by decide +kernel)
theorem dX0_takeBack_29 : decode cX0_takeBack 29 = .ok (.bipush 6, 2) := dz_b16 (by decide +kernel)
theorem dX0_takeBack_31 : decode cX0_takeBack 31 = .ok (.invokestatic 32, 3) := dz_b184 (by decide +kernel)
theorem dX0_takeBack_34 : decode cX0_takeBack 34 = .ok (.aload_n 0, 1) := dz_b42 (by decide +kernel)
theorem dX0_takeBack_35 : decode cX0_takeBack 35 = .ok (.dup, 1) := dz_b89 (by decide +kernel)
theorem dX0_takeBack_36 : decode cX0_takeBack 36 = .ok (.getfield 22, 3) := dz_b180 (by decide +kernel)
theorem dX0_takeBack_39 : decode cX0_takeBack 39 = .ok (.iconst 1, 1) := dz_b4 (by decide +kernel)
theorem dX0_takeBack_40 : decode cX0_takeBack 40 = .ok (.isub, 1) := dz_b100 (by decide +kernel)
theorem dX0_takeBack_41 : decode cX0_takeBack 41 = .ok (.putfield 22, 3) := dz_b181 (by decide +kernel)
theorem dX0_takeBack_44 : decode cX0_takeBack 44 = .ok (.aload_n 0, 1) := dz_b42 (by decide +kernel)
theorem dX0_takeBack_45 : decode cX0_takeBack 45 = .ok (.dup, 1) := dz_b89 (by decide +kernel)
theorem dX0_takeBack_46 : decode cX0_takeBack 46 = .ok (.getfield 18, 3) := dz_b180 (by decide +kernel)
theorem dX0_takeBack_49 : decode cX0_takeBack 49 = .ok (.iconst 1, 1) := dz_b4 (by decide +kernel)
theorem dX0_takeBack_50 : decode cX0_takeBack 50 = .ok (.isub, 1) := dz_b100 (by decide +kernel)
theorem dX0_takeBack_51 : decode cX0_takeBack 51 = .ok (.putfield 18, 3) := dz_b181 (by decide +kernel)
theorem dX0_takeBack_54 : decode cX0_takeBack 54 = .ok (.return_, 1) := dz_b177 (by decide +kernel)
theorem dX0_takeImage_0 : decode cX0_takeImage 0 = .ok (.aload_n 1, 1) := dz_b43 (by decide +kernel)
theorem dX0_takeImage_1 : decode cX0_takeImage 1 = .ok (.iconst 0, 1) := dz_b3 (by decide +kernel)
theorem dX0_takeImage_2 : decode cX0_takeImage 2 = .ok (.aload_n 0, 1) := dz_b42 (by decide +kernel)
theorem dX0_takeImage_3 : decode cX0_takeImage 3 = .ok (.getfield 9, 3) := dz_b180 (by decide +kernel)
theorem dX0_takeImage_6 : decode cX0_takeImage 6 = .ok (.iconst 0, 1) := dz_b3 (by decide +kernel)
theorem dX0_takeImage_7 : decode cX0_takeImage 7 = .ok (.bipush 6, 2) := dz_b16 (by decide +kernel)
theorem dX0_takeImage_9 : decode cX0_takeImage 9 = .ok (.invokestatic 32, 3) := dz_b184 (by decide +kernel)
theorem dX0_takeImage_12 : decode cX0_takeImage 12 = .ok (.aload_n 0, 1) := dz_b42 (by decide +kernel)
theorem dX0_takeImage_13 : decode cX0_takeImage 13 = .ok (.aload_n 0, 1) := dz_b42 (by decide +kernel)
theorem dX0_takeImage_14 : decode cX0_takeImage 14 = .ok (.getfield 18, 3) := dz_b180 (by decide +kernel)
theorem dX0_takeImage_17 : decode cX0_takeImage 17 = .ok (.putfield 44, 3) := dz_b181 (by decide +kernel)
theorem dX0_takeImage_20 : decode cX0_takeImage 20 = .ok (.aload_n 0, 1) := dz_b42 (by decide +kernel)
theorem dX0_takeImage_21 : decode cX0_takeImage 21 = .ok (.iconst 1, 1) := dz_b4 (by decide +kernel)
theorem dX0_takeImage_22 : decode cX0_takeImage 22 = .ok (.putfield 28, 3) := dz_b181 (by decide +kernel)
theorem dX0_takeImage_25 : decode cX0_takeImage 25 = .ok (.return_, 1) := dz_b177 (by decide +kernel)
theorem dX0_comeBack_0 : decode cX0_comeBack 0 = .ok (.aload_n 0, 1) := dz_b42 (by decide +kernel)
theorem dX0_comeBack_1 : decode cX0_comeBack 1 = .ok (.getfield 9, 3) := dz_b180 (by decide +kernel)
theorem dX0_comeBack_4 : decode cX0_comeBack 4 = .ok (.iconst 0, 1) := dz_b3 (by decide +kernel)
theorem dX0_comeBack_5 : decode cX0_comeBack 5 = .ok (.aload_n 1, 1) := dz_b43 (by decide +kernel)
theorem dX0_comeBack_6 : decode cX0_comeBack 6 = .ok (.iconst 0, 1) := dz_b3 (by decide +kernel)
theorem dX0_comeBack_7 : decode cX0_comeBack 7 = .ok (.bipush 6, 2) := dz_b16 (by decide +kernel)
theorem dX0_comeBack_9 : decode cX0_comeBack 9 = .ok (.invokestatic 32, 3) := dz_b184 (by decide +kernel)
theorem dX0_comeBack_12 : decode cX0_comeBack 12 = .ok (.aload_n 0, 1) := dz_b42 (by decide +kernel)
theorem dX0_comeBack_13 : decode cX0_comeBack 13 = .ok (.aload_n 0, 1) := dz_b42 (by decide +kernel)
theorem dX0_comeBack_14 : decode cX0_comeBack 14 = .ok (.getfield 44, 3) := dz_b180 (by decide +kernel)
theorem dX0_comeBack_17 : decode cX0_comeBack 17 = .ok (.putfield 18, 3) := dz_b181 (by decide +kernel)
theorem dX0_comeBack_20 : decode cX0_comeBack 20 = .ok (.aload_n 0, 1) := dz_b42 (by decide +kernel)
theorem dX0_comeBack_21 : decode cX0_comeBack 21 = .ok (.iconst 0, 1) := dz_b3 (by decide +kernel)
theorem dX0_comeBack_22 : decode cX0_comeBack 22 = .ok (.putfield 22, 3) := dz_b181 (by decide +kernel)
theorem dX0_comeBack_25 : decode cX0_comeBack 25 = .ok (.return_, 1) := dz_b177 (by decide +kernel)
theorem dX1_init_0 : decode cX1_init 0 = .ok (.aload_n 0, 1) := dz_b42 (by decide +kernel)
theorem dX1_init_1 : decode cX1_init 1 = .ok (.invokespecial 3, 3) := dz_b183 (by decide +kernel)
theorem dX1_init_4 : decode cX1_init 4 = .ok (.iconst 0, 1) := dz_b3 (by decide +kernel)
theorem dX1_init_5 : decode cX1_init 5 = .ok (.istore_n 2, 1) := dz_b61 (by decide +kernel)
theorem dX1_init_6 : decode cX1_init 6 = .ok (.iconst 0, 1) := dz_b3 (by decide +kernel)
theorem dX1_init_7 : decode cX1_init 7 = .ok (.istore_n 3, 1) := dz_b62 (by decide +kernel)
theorem dX1_init_8 : decode cX1_init 8 = .ok (.iload_n 3, 1) := dz_b29 (by decide +kernel)
theorem dX1_init_9 : decode cX1_init 9 = .ok (.aload_n 1, 1) := dz_b43 (by decide +kernel)
theorem dX1_init_10 : decode cX1_init 10 = .ok (.arraylength, 1) := dz_b190 (by decide +kernel)
theorem dX1_init_11 : decode cX1_init 11 = .ok (.if_icmp .ge 19, 3) := dz_b162 (by decide +kernel)
theorem dX1_init_14 : decode cX1_init 14 = .ok (.aload_n 1, 1) := dz_b43 (by decide +kernel)
theorem dX1_init_15 : decode cX1_init 15 = .ok (.iload_n 3, 1) := dz_b29 (by decide +kernel)
theorem dX1_init_16 : decode cX1_init 16 = .ok (.iaload, 1) := dz_b46 (by decide +kernel)
theorem dX1_init_17 : decode cX1_init 17 = .ok (.bipush (-111), 2) := dz_b16 (by decide +kernel)
theorem dX1_init_19 : decode cX1_init 19 = .ok (.if_icmp .ne 5, 3) := dz_b160 (by decide +kernel)
theorem dX1_init_22 : decode cX1_init 22 = .ok (.iconst 1, 1) := dz_b4 (by decide +kernel)
theorem dX1_init_23 : decode cX1_init 23 = .ok (.istore_n 2, 1) := dz_b61 (by decide +kernel)
theorem dX1_init_24 : decode cX1_init 24 = .ok (.iinc 3 1, 3) := by decide +kernel
theorem dX1_init_27 : decode cX1_init 27 = .ok (.goto (-19), 3) := dz_b167 (by decide +kernel)
theorem dX1_init_30 : decode cX1_init 30 = .ok (.aload_n 0, 1) := dz_b42 (by decide +kernel)
theorem dX1_init_31 : decode cX1_init 31 = .ok (.aload_n 1, 1) := dz_b43 (by decide +kernel)
theorem dX1_init_32 : decode cX1_init 32 = .ok (.putfield 9, 3) := dz_b181 (by decide +kernel)
theorem dX1_init_35 : decode cX1_init 35 = .ok (.aload_n 0, 1) := dz_b42 (by decide +kernel)
theorem dX1_init_36 : decode cX1_init 36 = .ok (.aload_n 1, 1) := dz_b43 (by decide +kernel)
theorem dX1_init_37 : decode cX1_init 37 = .ok (.arraylength, 1) := dz_b190 (by decide +kernel)
theorem dX1_init_38 : decode cX1_init 38 = .ok (.newarray .int, 2) := by decide +kernel
theorem dX1_init_40 : decode cX1_init 40 = .ok (.putfield 15, 3) := dz_b181 (by decide +kernel)
theorem dX1_init_43 : decode cX1_init 43 = .ok (.aload_n 0, 1) := dz_b42 (by decide +kernel)
theorem dX1_init_44 : decode cX1_init 44 = .ok (.iload_n 2, 1) := dz_b28 (by decide +kernel)
theorem dX1_init_45 : decode cX1_init 45 = .ok (.ifCond .eq 9, 3) := dz_b153 (by decide +kernel)
theorem dX1_init_48 : decode cX1_init 48 = .ok (.sipush 1000, 3) := dz_b17 (by decide +kernel)
theorem dX1_init_51 : decode cX1_init 51 = .ok (.goto 4, 3) := dz_b167 (by decide +kernel)
theorem dX1_init_54 : decode cX1_init 54 = .ok (.iconst 0, 1) := dz_b3 (by decide +kernel)
theorem dX1_init_55 : decode cX1_init 55 = .ok (.newarray .int, 2) := by decide +kernel
theorem dX1_init_57 : decode cX1_init 57 = .ok (.putfield 18, 3) := dz_b181 (by decide +kernel)
theorem dX1_init_60 : decode cX1_init 60 = .ok (.return_, 1) := dz_b177 (by decide +kernel)
theorem dX1_forget_0 : decode cX1_forget 0 = .ok (.aload_n 0, 1) := dz_b42 (by decide +kernel)
theorem dX1_forget_1 : decode cX1_forget 1 = .ok (.iconst 0, 1) := dz_b3 (by decide +kernel)
theorem dX1_forget_2 : decode cX1_forget 2 = .ok (.putfield 21, 3) := dz_b181 (by decide +kernel)
theorem dX1_forget_5 : decode cX1_forget 5 = .ok (.return_, 1) := dz_b177 (by decide +kernel)
theorem dX1_wetness_0 : decode cX1_wetness 0 = .ok (.iload_n 1, 1) := dz_b27 (by decide +kernel)
theorem dX1_wetness_1 : decode cX1_wetness 1 = .ok (.ifCond .lt 12, 3) := dz_b155 (by decide +kernel)
theorem dX1_wetness_4 : decode cX1_wetness 4 = .ok (.iload_n 1, 1) := dz_b27 (by decide +kernel)
theorem dX1_wetness_5 : decode cX1_wetness 5 = .ok (.aload_n 0, 1) := dz_b42 (by decide +kernel)
theorem dX1_wetness_6 : decode cX1_wetness 6 = .ok (.getfield 18, 3) := dz_b180 (by decide +kernel)
theorem dX1_wetness_9 : decode cX1_wetness 9 = .ok (.arraylength, 1) := dz_b190 (by decide +kernel)
theorem dX1_wetness_10 : decode cX1_wetness 10 = .ok (.if_icmp .lt 17, 3) := dz_b161 (by decide +kernel)
theorem dX1_wetness_13 : decode cX1_wetness 13 = .ok (.aload_n 0, 1) := dz_b42 (by decide +kernel)
theorem dX1_wetness_14 : decode cX1_wetness 14 = .ok (.iload_n 1, 1) := dz_b27 (by decide +kernel)
theorem dX1_wetness_15 : decode cX1_wetness 15 = .ok (.iconst 0, 1) := dz_b3 (by decide +kernel)
theorem dX1_wetness_16 : decode cX1_wetness 16 = .ok (.aload_n 2, 1) := dz_b44 (by decide +kernel)
theorem dX1_wetness_17 : decode cX1_wetness 17 = .ok (.invokevirtual 25, 3) := dz_b182 (by decide +kernel)
theorem dX1_wetness_20 : decode cX1_wetness 20 = .ok (.iconst 0, 1) := dz_b3 (by decide +kernel)
theorem dX1_wetness_21 : decode cX1_wetness 21 = .ok (.bipush 9, 2) := dz_b16 (by decide +kernel)
theorem dX1_wetness_23 : decode cX1_wetness 23 = .ok (.invokestatic 29, 3) := dz_b184 (by decide +kernel)
theorem dX1_wetness_26 : decode cX1_wetness 26 = .ok (.ireturn, 1) := dz_b172 (by decide +kernel)
theorem dX1_wetness_27 : decode cX1_wetness 27 = .ok (.aload_n 0, 1) := dz_b42 (by decide +kernel)
theorem dX1_wetness_28 : decode cX1_wetness 28 = .ok (.getfield 21, 3) := dz_b180 (by decide +kernel)
theorem dX1_wetness_31 : decode cX1_wetness 31 = .ok (.iload_n 1, 1) := dz_b27 (by decide +kernel)
theorem dX1_wetness_32 : decode cX1_wetness 32 = .ok (.if_icmp .gt 76, 3) := dz_b163 (by decide +kernel)
theorem dX1_wetness_35 : decode cX1_wetness 35 = .ok (.aload_n 0, 1) := dz_b42 (by decide +kernel)
theorem dX1_wetness_36 : decode cX1_wetness 36 = .ok (.getfield 21, 3) := dz_b180 (by decide +kernel)
theorem dX1_wetness_39 : decode cX1_wetness 39 = .ok (.aload_n 0, 1) := dz_b42 (by decide +kernel)
theorem dX1_wetness_40 : decode cX1_wetness 40 = .ok (.getfield 18, 3) := dz_b180 (by decide +kernel)
theorem dX1_wetness_43 : decode cX1_wetness 43 = .ok (.arraylength, 1) := dz_b190 (by decide +kernel)
theorem dX1_wetness_44 : decode cX1_wetness 44 = .ok (.if_icmp .ge 64, 3) := dz_b162 (by decide +kernel)
theorem dX1_wetness_47 : decode cX1_wetness 47 = .ok (.aload_n 0, 1) := dz_b42 (by decide +kernel)
theorem dX1_wetness_48 : decode cX1_wetness 48 = .ok (.getfield 21, 3) := dz_b180 (by decide +kernel)
theorem dX1_wetness_51 : decode cX1_wetness 51 = .ok (.ifCond .le 17, 3) := dz_b158 (by decide +kernel)
theorem dX1_wetness_54 : decode cX1_wetness 54 = .ok (.aload_n 0, 1) := dz_b42 (by decide +kernel)
theorem dX1_wetness_55 : decode cX1_wetness 55 = .ok (.getfield 18, 3) := dz_b180 (by decide +kernel)
theorem dX1_wetness_58 : decode cX1_wetness 58 = .ok (.aload_n 0, 1) := dz_b42 (by decide +kernel)
theorem dX1_wetness_59 : decode cX1_wetness 59 = .ok (.getfield 21, 3) := dz_b180 (by decide +kernel)
theorem dX1_wetness_62 : decode cX1_wetness 62 = .ok (.iconst 1, 1) := dz_b4 (by decide +kernel)
theorem dX1_wetness_63 : decode cX1_wetness 63 = .ok (.isub, 1) := dz_b100 (by decide +kernel)
theorem dX1_wetness_64 : decode cX1_wetness 64 = .ok (.iaload, 1) := dz_b46 (by decide +kernel)
theorem dX1_wetness_65 : decode cX1_wetness 65 = .ok (.goto 4, 3) := dz_b167 (by decide +kernel)
theorem dX1_wetness_68 : decode cX1_wetness 68 = .ok (.iconst 0, 1) := dz_b3 (by decide +kernel)
theorem dX1_wetness_69 : decode cX1_wetness 69 = .ok (.istore_n 3, 1) := dz_b62 (by decide +kernel)
theorem dX1_wetness_70 : decode cX1_wetness 70 = .ok (.aload_n 0, 1) := dz_b42 (by decide +kernel)
theorem dX1_wetness_71 : decode cX1_wetness 71 = .ok (.getfield 18, 3) := dz_b180 (by decide +kernel)
theorem dX1_wetness_74 : decode cX1_wetness 74 = .ok (.aload_n 0, 1) := dz_b42 (by decide +kernel)
theorem dX1_wetness_75 : decode cX1_wetness 75 = .ok (.getfield 21, 3) := dz_b180 (by decide +kernel)
theorem dX1_wetness_78 : decode cX1_wetness 78 = .ok (.aload_n 0, 1) := dz_b42 (by decide +kernel)
theorem dX1_wetness_79 : decode cX1_wetness 79 = .ok (.aload_n 0, 1) := dz_b42 (by decide +kernel)
theorem dX1_wetness_80 : decode cX1_wetness 80 = .ok (.getfield 21, 3) := dz_b180 (by decide +kernel)
theorem dX1_wetness_83 : decode cX1_wetness 83 = .ok (.iload_n 3, 1) := dz_b29 (by decide +kernel)
theorem dX1_wetness_84 : decode cX1_wetness 84 = .ok (.aload_n 2, 1) := dz_b44 (by decide +kernel)
theorem dX1_wetness_85 : decode cX1_wetness 85 = .ok (.invokevirtual 25, 3) := dz_b182 (by decide +kernel)
theorem dX1_wetness_88 : decode cX1_wetness 88 = .ok (.iconst 0, 1) := dz_b3 (by decide +kernel)
theorem dX1_wetness_89 : decode cX1_wetness 89 = .ok (.bipush 9, 2) := dz_b16 (by decide +kernel)
theorem dX1_wetness_91 : decode cX1_wetness 91 = .ok (.invokestatic 29, 3) := dz_b184 (by decide +kernel)
theorem dX1_wetness_94 : decode cX1_wetness 94 = .ok (.iastore, 1) := dz_b79 (by decide +kernel)
theorem dX1_wetness_95 : decode cX1_wetness 95 = .ok (.aload_n 0, 1) := dz_b42 (by decide +kernel)
theorem dX1_wetness_96 : decode cX1_wetness 96 = .ok (.dup, 1) := dz_b89 (by decide +kernel)
theorem dX1_wetness_97 : decode cX1_wetness 97 = .ok (.getfield 21, 3) := dz_b180 (by decide +kernel)
theorem dX1_wetness_100 : decode cX1_wetness 100 = .ok (.iconst 1, 1) := dz_b4 (by decide +kernel)
theorem dX1_wetness_101 : decode cX1_wetness 101 = .ok (.iadd, 1) := dz_b96 (by decide +kernel)
theorem dX1_wetness_102 : decode cX1_wetness 102 = .ok (.putfield 21, 3) := dz_b181 (by decide +kernel)
theorem dX1_wetness_105 : decode cX1_wetness 105 = .ok (.goto (-78), 3) := dz_b167 (by decide +kernel)
theorem dX1_wetness_108 : decode cX1_wetness 108 = .ok (.aload_n 0, 1) := dz_b42 (by decide +kernel)
theorem dX1_wetness_109 : decode cX1_wetness 109 = .ok (.getfield 18, 3) := dz_b180 (by decide +kernel)
theorem dX1_wetness_112 : decode cX1_wetness 112 = .ok (.iload_n 1, 1) := dz_b27 (by decide +kernel)
theorem dX1_wetness_113 : decode cX1_wetness 113 = .ok (.iaload, 1) := dz_b46 (by decide +kernel)
theorem dX1_wetness_114 : decode cX1_wetness 114 = .ok (.ireturn, 1) := dz_b172 (by decide +kernel)
theorem dX1_worth_0 : decode cX1_worth 0 = .ok (.aload_n 0, 1) := dz_b42 (by decide +kernel)
theorem dX1_worth_1 : decode cX1_worth 1 = .ok (.iconst 0, 1) := dz_b3 (by decide +kernel)
theorem dX1_worth_2 : decode cX1_worth 2 = .ok (.putfield 33, 3) := dz_b181 (by decide +kernel)
theorem dX1_worth_5 : decode cX1_worth 5 = .ok (.iconst 0, 1) := dz_b3 (by decide +kernel)
theorem dX1_worth_6 : decode cX1_worth 6 = .ok (.istore 4, 2) := dz_b54 (by decide +kernel)
theorem dX1_worth_8 : decode cX1_worth 8 = .ok (.iconst 0, 1) := dz_b3 (by decide +kernel)
theorem dX1_worth_9 : decode cX1_worth 9 = .ok (.istore 5, 2) := dz_b54 (by decide +kernel)
theorem dX1_worth_11 : decode cX1_worth 11 = .ok (.iload 5, 2) := dz_b21 (by decide +kernel)
theorem dX1_worth_13 : decode cX1_worth 13 = .ok (.aload_n 0, 1) := dz_b42 (by decide +kernel)
theorem dX1_worth_14 : decode cX1_worth 14 = .ok (.getfield 9, 3) := dz_b180 (by decide +kernel)
theorem dX1_worth_17 : decode cX1_worth 17 = .ok (.arraylength, 1) := dz_b190 (by decide +kernel)
theorem dX1_worth_18 : decode cX1_worth 18 = .ok (.if_icmp .ge 100, 3) := dz_b162 (by decide +kernel)
theorem dX1_worth_21 : decode cX1_worth 21 = .ok (.aload_n 0, 1) := dz_b42 (by decide +kernel)
theorem dX1_worth_22 : decode cX1_worth 22 = .ok (.getfield 9, 3) := dz_b180 (by decide +kernel)
theorem dX1_worth_25 : decode cX1_worth 25 = .ok (.iload 5, 2) := dz_b21 (by decide +kernel)
theorem dX1_worth_27 : decode cX1_worth 27 = .ok (.iaload, 1) := dz_b46 (by decide +kernel)
theorem dX1_worth_28 : decode cX1_worth 28 = .ok (.istore 6, 2) := dz_b54 (by decide +kernel)
theorem dX1_worth_30 : decode cX1_worth 30 = .ok (.iload 4, 2) := dz_b21 (by decide +kernel)
theorem dX1_worth_32 : decode cX1_worth 32 = .ok (.ifCond .eq 20, 3) := dz_b153 (by decide +kernel)
theorem dX1_worth_35 : decode cX1_worth 35 = .ok (.iload 6, 2) := dz_b21 (by decide +kernel)
theorem dX1_worth_37 : decode cX1_worth 37 = .ok (.bipush (-59), 2) := dz_b16 (by decide +kernel)
theorem dX1_worth_39 : decode cX1_worth 39 = .ok (.if_icmp .eq 7, 3) := dz_b159 (by decide +kernel)
theorem dX1_worth_42 : decode cX1_worth 42 = .ok (.iconst 1, 1) := dz_b4 (by decide +kernel)
theorem dX1_worth_43 : decode cX1_worth 43 = .ok (.goto 4, 3) := dz_b167 (by decide +kernel)
theorem dX1_worth_46 : decode cX1_worth 46 = .ok (.iconst 0, 1) := dz_b3 (by decide +kernel)
theorem dX1_worth_47 : decode cX1_worth 47 = .ok (.istore 4, 2) := dz_b54 (by decide +kernel)
theorem dX1_worth_49 : decode cX1_worth 49 = .ok (.goto 63, 3) := dz_b167 (by decide +kernel)
theorem dX1_worth_52 : decode cX1_worth 52 = .ok (.iload 6, 2) := dz_b21 (by decide +kernel)
theorem dX1_worth_54 : decode cX1_worth 54 = .ok (.ifCond .lt 12, 3) := dz_b155 (by decide +kernel)
theorem dX1_worth_57 : decode cX1_worth 57 = .ok (.aload_n 0, 1) := dz_b42 (by decide +kernel)
theorem dX1_worth_58 : decode cX1_worth 58 = .ok (.iload 6, 2) := dz_b21 (by decide +kernel)
theorem dX1_worth_60 : decode cX1_worth 60 = .ok (.invokevirtual 36, 3) := dz_b182 (by decide +kernel)
theorem dX1_worth_63 : decode cX1_worth 63 = .ok (.goto 49, 3) := dz_b167 (by decide +kernel)
theorem dX1_worth_66 : decode cX1_worth 66 = .ok (.iload 6, 2) := dz_b21 (by decide +kernel)
theorem dX1_worth_68 : decode cX1_worth 68 = .ok (.bipush (-59), 2) := dz_b16 (by decide +kernel)
theorem dX1_worth_70 : decode cX1_worth 70 = .ok (.if_icmp .ne 8, 3) := dz_b160 (by decide +kernel)
theorem dX1_worth_73 : decode cX1_worth 73 = .ok (.aload_n 0, 1) := dz_b42 (by decide +kernel)
theorem dX1_worth_74 : decode cX1_worth 74 = .ok (.invokevirtual 40, 3) := dz_b182 (by decide +kernel)
theorem dX1_worth_77 : decode cX1_worth 77 = .ok (.ireturn, 1) := dz_b172 (by decide +kernel)
theorem dX1_worth_78 : decode cX1_worth 78 = .ok (.iload 6, 2) := dz_b21 (by decide +kernel)
theorem dX1_worth_80 : decode cX1_worth 80 = .ok (.bipush (-63), 2) := dz_b16 (by decide +kernel)
theorem dX1_worth_82 : decode cX1_worth 82 = .ok (.if_icmp .ne 20, 3) := dz_b160 (by decide +kernel)
theorem dX1_worth_85 : decode cX1_worth 85 = .ok (.aload_n 0, 1) := dz_b42 (by decide +kernel)
theorem dX1_worth_86 : decode cX1_worth 86 = .ok (.invokevirtual 40, 3) := dz_b182 (by decide +kernel)
theorem dX1_worth_89 : decode cX1_worth 89 = .ok (.ifCond .ne 7, 3) := dz_b154 (by decide +kernel)
theorem dX1_worth_92 : decode cX1_worth 92 = .ok (.iconst 1, 1) := dz_b4 (by decide +kernel)
theorem dX1_worth_93 : decode cX1_worth 93 = .ok (.goto 4, 3) := dz_b167 (by decide +kernel)
theorem dX1_worth_96 : decode cX1_worth 96 = .ok (.iconst 0, 1) := dz_b3 (by decide +kernel)
theorem dX1_worth_97 : decode cX1_worth 97 = .ok (.istore 4, 2) := dz_b54 (by decide +kernel)
theorem dX1_worth_99 : decode cX1_worth 99 = .ok (.goto 13, 3) := dz_b167 (by decide +kernel)
theorem dX1_worth_102 : decode cX1_worth 102 = .ok (.aload_n 0, 1) := dz_b42 (by decide +kernel)
theorem dX1_worth_103 : decode cX1_worth 103 = .ok (.iload 6, 2) := dz_b21 (by decide +kernel)
theorem dX1_worth_105 : decode cX1_worth 105 = .ok (.ineg, 1) := dz_b116 (by decide +kernel)
theorem dX1_worth_106 : decode cX1_worth 106 = .ok (.iload_n 1, 1) := dz_b27 (by decide +kernel)
theorem dX1_worth_107 : decode cX1_worth 107 = .ok (.iload_n 2, 1) := dz_b28 (by decide +kernel)
theorem dX1_worth_108 : decode cX1_worth 108 = .ok (.aload_n 3, 1) := dz_b45 (by decide +kernel)
theorem dX1_worth_109 : decode cX1_worth 109 = .ok (.invokevirtual 44, 3) := dz_b182 (by decide +kernel)
theorem dX1_worth_112 : decode cX1_worth 112 = .ok (.iinc 5 1, 3) := by decide +kernel
theorem dX1_worth_115 : decode cX1_worth 115 = .ok (.goto (-104), 3) := dz_b167 (by decide +kernel)
theorem dX1_worth_118 : decode cX1_worth 118 = .ok (.iconst 0, 1) := dz_b3 (by decide +kernel)
theorem dX1_worth_119 : decode cX1_worth 119 = .ok (.ireturn, 1) := dz_b172 (by decide +kernel)
theorem dX1_work_0 : decode cX1_work 0 = .ok (.iload_n 1, 1) := dz_b27 (by decide +kernel)
theorem dX1_work_1 : decode cX1_work 1 = .ok (.lookupswitch 129 #[(33, 110), (100, 59), (109, 78), (110, 90), (111, 102), (119, 67)], 59) := by decide +kernel
theorem dX1_work_60 : decode cX1_work 60 = .ok (.aload_n 0, 1) := dz_b42 (by decide +kernel)
theorem dX1_work_61 : decode cX1_work 61 = .ok (.iload_n 2, 1) := dz_b28 (by decide +kernel)
theorem dX1_work_62 : decode cX1_work 62 = .ok (.invokevirtual 36, 3) := dz_b182 (by decide +kernel)
theorem dX1_work_65 : decode cX1_work 65 = .ok (.goto 85, 3) := dz_b167 (by decide +kernel)
theorem dX1_work_68 : decode cX1_work 68 = .ok (.aload_n 0, 1) := dz_b42 (by decide +kernel)
theorem dX1_work_69 : decode cX1_work 69 = .ok (.iload_n 2, 1) := dz_b28 (by decide +kernel)
theorem dX1_work_70 : decode cX1_work 70 = .ok (.bipush 7, 2) := dz_b16 (by decide +kernel)
theorem dX1_work_72 : decode cX1_work 72 = .ok (.irem, 1) := dz_b112 (by decide +kernel)
theorem dX1_work_73 : decode cX1_work 73 = .ok (.invokevirtual 36, 3) := dz_b182 (by decide +kernel)
theorem dX1_work_76 : decode cX1_work 76 = .ok (.goto 74, 3) := dz_b167 (by decide +kernel)
theorem dX1_work_79 : decode cX1_work 79 = .ok (.aload_n 0, 1) := dz_b42 (by decide +kernel)
theorem dX1_work_80 : decode cX1_work 80 = .ok (.aload 4, 2) := dz_b25 (by decide +kernel)
theorem dX1_work_82 : decode cX1_work 82 = .ok (.getfield 48, 3) := dz_b180 (by decide +kernel)
theorem dX1_work_85 : decode cX1_work 85 = .ok (.invokevirtual 36, 3) := dz_b182 (by decide +kernel)
theorem dX1_work_88 : decode cX1_work 88 = .ok (.goto 62, 3) := dz_b167 (by decide +kernel)
theorem dX1_work_91 : decode cX1_work 91 = .ok (.aload_n 0, 1) := dz_b42 (by decide +kernel)
theorem dX1_work_92 : decode cX1_work 92 = .ok (.aload 4, 2) := dz_b25 (by decide +kernel)
theorem dX1_work_94 : decode cX1_work 94 = .ok (.getfield 53, 3) := dz_b180 (by decide +kernel)
theorem dX1_work_97 : decode cX1_work 97 = .ok (.invokevirtual 36, 3) := dz_b182 (by decide +kernel)
theorem dX1_work_100 : decode cX1_work 100 = .ok (.goto 50, 3) := dz_b167 (by decide +kernel)
theorem dX1_work_103 : decode cX1_work 103 = .ok (.aload_n 0, 1) := dz_b42 (by decide +kernel)
theorem dX1_work_104 : decode cX1_work 104 = .ok (.iload_n 3, 1) := dz_b29 (by decide +kernel)
theorem dX1_work_105 : decode cX1_work 105 = .ok (.invokevirtual 36, 3) := dz_b182 (by decide +kernel)
theorem dX1_work_108 : decode cX1_work 108 = .ok (.goto 42, 3) := dz_b167 (by decide +kernel)
theorem dX1_work_111 : decode cX1_work 111 = .ok (.aload_n 0, 1) := dz_b42 (by decide +kernel)
theorem dX1_work_112 : decode cX1_work 112 = .ok (.aload_n 0, 1) := dz_b42 (by decide +kernel)
theorem dX1_work_113 : decode cX1_work 113 = .ok (.invokevirtual 40, 3) := dz_b182 (by decide +kernel)
theorem dX1_work_116 : decode cX1_work 116 = .ok (.ifCond .ne 7, 3) := dz_b154 (by decide +kernel)
theorem dX1_work_119 : decode cX1_work 119 = .ok (.iconst 1, 1) := dz_b4 (by decide +kernel)
theorem dX1_work_120 : decode cX1_work 120 = .ok (.goto 4, 3) := dz_b167 (by decide +kernel)
theorem dX1_work_123 : decode cX1_work 123 = .ok (.iconst 0, 1) := dz_b3 (by decide +kernel)
theorem dX1_work_124 : decode cX1_work 124 = .ok (.invokevirtual 36, 3) := dz_b182 (by decide +kernel)
theorem dX1_work_127 : decode cX1_work 127 = .ok (.goto 23, 3) := dz_b167 (by decide +kernel)
theorem dX1_work_130 : decode cX1_work 130 = .ok (.aload_n 0, 1) := dz_b42 (by decide +kernel)
theorem dX1_work_131 : decode cX1_work 131 = .ok (.invokevirtual 40, 3) := dz_b182 (by decide +kernel)
theorem dX1_work_134 : decode cX1_work 134 = .ok (.istore 5, 2) := dz_b54 (by decide +kernel)
theorem dX1_work_136 : decode cX1_work 136 = .ok (.aload_n 0, 1) := dz_b42 (by decide +kernel)
theorem dX1_work_137 : decode cX1_work 137 = .ok (.iload_n 1, 1) := dz_b27 (by decide +kernel)
theorem dX1_work_138 : decode cX1_work 138 = .ok (.aload_n 0, 1) := dz_b42 (by decide +kernel)
theorem dX1_work_139 : decode cX1_work 139 = .ok (.invokevirtual 40, 3) := dz_b182 (by decide +kernel)
theorem dX1_work_142 : decode cX1_work 142 = .ok (.iload 5, 2) := dz_b21 (by decide +kernel)
theorem dX1_work_144 : decode cX1_work 144 = .ok (.invokestatic 56, 3) := dz_b184 (by decide +kernel)
theorem dX1_work_147 : decode cX1_work 147 = .ok (.invokevirtual 36, 3) := dz_b182 (by decide +kernel)
theorem dX1_work_150 : decode cX1_work 150 = .ok (.return_, 1) := dz_b177 (by decide +kernel)
theorem dX1_joined_0 : decode cX1_joined 0 = .ok (.iload_n 0, 1) := dz_b26 (by decide +kernel)
theorem dX1_joined_1 : decode cX1_joined 1 = .ok (.tableswitch 207 38 62 #[203, 207, 207, 207, 137, 115, 207, 126, 207, 158, 207, 207, 207, 207, 207, 207, 207, 207, 207, 207, 207, 207, 181, 170, 192], 115) := by decide +kernel
theorem dX1_joined_116 : decode cX1_joined 116 = .ok (.iload_n 1, 1) := dz_b27 (by decide +kernel)
theorem dX1_joined_117 : decode cX1_joined 117 = .ok (.iload_n 2, 1) := dz_b28 (by decide +kernel)
theorem dX1_joined_118 : decode cX1_joined 118 = .ok (.iadd, 1) := dz_b96 (by decide +kernel)
theorem dX1_joined_119 : decode cX1_joined 119 = .ok (.ldc 59, 2) := dz_b18 (by decide +kernel)
theorem dX1_joined_121 : decode cX1_joined 121 = .ok (.ldc 60, 2) := dz_b18 (by decide +kernel)
theorem dX1_joined_123 : decode cX1_joined 123 = .ok (.invokestatic 29, 3) := dz_b184 (by decide +kernel)
theorem dX1_joined_126 : decode cX1_joined 126 = .ok (.ireturn, 1) := dz_b172 (by decide +kernel)
theorem dX1_joined_127 : decode cX1_joined 127 = .ok (.iload_n 1, 1) := dz_b27 (by decide +kernel)
theorem dX1_joined_128 : decode cX1_joined 128 = .ok (.iload_n 2, 1) := dz_b28 (by decide +kernel)
theorem dX1_joined_129 : decode cX1_joined 129 = .ok (.isub, 1) := dz_b100 (by decide +kernel)
theorem dX1_joined_130 : decode cX1_joined 130 = .ok (.ldc 59, 2) := dz_b18 (by decide +kernel)
theorem dX1_joined_132 : decode cX1_joined 132 = .ok (.ldc 60, 2) := dz_b18 (by decide +kernel)
theorem dX1_joined_134 : decode cX1_joined 134 = .ok (.invokestatic 29, 3) := dz_b184 (by decide +kernel)
theorem dX1_joined_137 : decode cX1_joined 137 = .ok (.ireturn, 1) := dz_b172 (by decide +kernel)
theorem dX1_joined_138 : decode cX1_joined 138 = .ok (.iload_n 1, 1) := dz_b27 (by decide +kernel)
theorem dX1_joined_139 : decode cX1_joined 139 = .ok (.i2l, 1) := dz_b133 (by decide +kernel)
theorem dX1_joined_140 : decode cX1_joined 140 = .ok (.iload_n 2, 1) := dz_b28 (by decide +kernel)
theorem dX1_joined_141 : decode cX1_joined 141 = .ok (.i2l, 1) := dz_b133 (by decide +kernel)
theorem dX1_joined_142 : decode cX1_joined 142 = .ok (.lmul, 1) := dz_b105 (by decide +kernel)
theorem dX1_joined_143 : decode cX1_joined 143 = .ok (.lstore_n 3, 1) := dz_b66 (by decide +kernel)
theorem dX1_joined_144 : decode cX1_joined 144 = .ok (.ldc2_w 61, 3) := dz_b20 (by decide +kernel)
theorem dX1_joined_147 : decode cX1_joined 147 = .ok (.ldc2_w 63, 3) := dz_b20 (by decide +kernel)
theorem dX1_joined_150 : decode cX1_joined 150 = .ok (.lload_n 3, 1) := dz_b33 (by decide +kernel)
theorem dX1_joined_151 : decode cX1_joined 151 = .ok (.invokestatic 65, 3) := dz_b184 (by decide +kernel)
theorem dX1_joined_154 : decode cX1_joined 154 = .ok (.invokestatic 71, 3) := dz_b184 (by decide +kernel)
theorem dX1_joined_157 : decode cX1_joined 157 = .ok (.l2i, 1) := dz_b136 (by decide +kernel)
theorem dX1_joined_158 : decode cX1_joined 158 = .ok (.ireturn, 1) := dz_b172 (by decide +kernel)
theorem dX1_joined_159 : decode cX1_joined 159 = .ok (.iload_n 2, 1) := dz_b28 (by decide +kernel)
theorem dX1_joined_160 : decode cX1_joined 160 = .ok (.ifCond .ne 7, 3) := dz_b154 (by decide +kernel)
theorem dX1_joined_163 : decode cX1_joined 163 = .ok (.iconst 0, 1) := dz_b3 (by decide +kernel)
theorem dX1_joined_164 : decode cX1_joined 164 = .ok (.goto 6, 3) := dz_b167 (by decide +kernel)
theorem dX1_joined_167 : decode cX1_joined 167 = .ok (.iload_n 1, 1) := dz_b27 (by decide +kernel)
theorem dX1_joined_168 : decode cX1_joined 168 = .ok (.iload_n 2, 1) := dz_b28 (by decide +kernel)
theorem dX1_joined_169 : decode cX1_joined 169 = .ok (.idiv, 1) := dz_b108 (by decide +kernel)
theorem dX1_joined_170 : decode cX1_joined 170 = .ok (.ireturn, 1) := dz_b172 (by decide +kernel)
theorem dX1_joined_171 : decode cX1_joined 171 = .ok (.iload_n 1, 1) := dz_b27 (by decide +kernel)
theorem dX1_joined_172 : decode cX1_joined 172 = .ok (.iload_n 2, 1) := dz_b28 (by decide +kernel)
theorem dX1_joined_173 : decode cX1_joined 173 = .ok (.if_icmp .ne 7, 3) := dz_b160 (by decide +kernel)
theorem dX1_joined_176 : decode cX1_joined 176 = .ok (.iconst 1, 1) := dz_b4 (by decide +kernel)
theorem dX1_joined_177 : decode cX1_joined 177 = .ok (.goto 4, 3) := dz_b167 (by decide +kernel)
theorem dX1_joined_180 : decode cX1_joined 180 = .ok (.iconst 0, 1) := dz_b3 (by decide +kernel)
theorem dX1_joined_181 : decode cX1_joined 181 = .ok (.ireturn, 1) := dz_b172 (by decide +kernel)
theorem dX1_joined_182 : decode cX1_joined 182 = .ok (.iload_n 1, 1) := dz_b27 (by decide +kernel)
theorem dX1_joined_183 : decode cX1_joined 183 = .ok (.iload_n 2, 1) := dz_b28 (by decide +kernel)
theorem dX1_joined_184 : decode cX1_joined 184 = .ok (.if_icmp .ge 7, 3) := dz_b162 (by decide +kernel)
theorem dX1_joined_187 : decode cX1_joined 187 = .ok (.iconst 1, 1) := dz_b4 (by decide +kernel)
theorem dX1_joined_188 : decode cX1_joined 188 = .ok (.goto 4, 3) := dz_b167 (by decide +kernel)
theorem dX1_joined_191 : decode cX1_joined 191 = .ok (.iconst 0, 1) := dz_b3 (by decide +kernel)
theorem dX1_joined_192 : decode cX1_joined 192 = .ok (.ireturn, 1) := dz_b172 (by decide +kernel)
theorem dX1_joined_193 : decode cX1_joined 193 = .ok (.iload_n 1, 1) := dz_b27 (by decide +kernel)
theorem dX1_joined_194 : decode cX1_joined 194 = .ok (.iload_n 2, 1) := dz_b28 (by decide +kernel)
theorem dX1_joined_195 : decode cX1_joined 195 = .ok (.if_icmp .le 7, 3) := dz_b164 (by decide +kernel)
theorem dX1_joined_198 : decode cX1_joined 198 = .ok (.iconst 1, 1) := dz_b4 (by decide +kernel)
theorem dX1_joined_199 : decode cX1_joined 199 = .ok (.goto 4, 3) := dz_b167 (by decide +kernel)
theorem dX1_joined_202 : decode cX1_joined 202 = .ok (.iconst 0, 1) := dz_b3 (by decide +kernel)
theorem dX1_joined_203 : decode cX1_joined 203 = .ok (.ireturn, 1) := dz_b172 (by decide +kernel)
theorem dX1_joined_204 : decode cX1_joined 204 = .ok (.iload_n 1, 1) := dz_b27 (by decide +kernel)
theorem dX1_joined_205 : decode cX1_joined 205 = .ok (.iload_n 2, 1) := dz_b28 (by decide +kernel)
theorem dX1_joined_206 : decode cX1_joined 206 = .ok (.iand, 1) := dz_b126 (by decide +kernel)
theorem dX1_joined_207 : decode cX1_joined 207 = .ok (.ireturn, 1) := dz_b172 (by decide +kernel)
theorem dX1_joined_208 : decode cX1_joined 208 = .ok (.iload_n 1, 1) := dz_b27 (by decide +kernel)
theorem dX1_joined_209 : decode cX1_joined 209 = .ok (.iload_n 2, 1) := dz_b28 (by decide +kernel)
theorem dX1_joined_210 : decode cX1_joined 210 = .ok (.ior, 1) := dz_b128 (by decide +kernel)
theorem dX1_joined_211 : decode cX1_joined 211 = .ok (.ireturn, 1) := dz_b172 (by decide +kernel)
theorem dX1_push_0 : decode cX1_push 0 = .ok (.aload_n 0, 1) := dz_b42 (by decide +kernel)
theorem dX1_push_1 : decode cX1_push 1 = .ok (.getfield 33, 3) := dz_b180 (by decide +kernel)
theorem dX1_push_4 : decode cX1_push 4 = .ok (.ifCond .lt 35, 3) := dz_b155 (by decide +kernel)
theorem dX1_push_7 : decode cX1_push 7 = .ok (.aload_n 0, 1) := dz_b42 (by decide +kernel)
theorem dX1_push_8 : decode cX1_push 8 = .ok (.getfield 33, 3) := dz_b180 (by decide +kernel)
theorem dX1_push_11 : decode cX1_push 11 = .ok (.aload_n 0, 1) := dz_b42 (by decide +kernel)
theorem dX1_push_12 : decode cX1_push 12 = .ok (.getfield 15, 3) := dz_b180 (by decide +kernel)
theorem dX1_push_15 : decode cX1_push 15 = .ok (.arraylength, 1) := dz_b190 (by decide +kernel)
theorem dX1_push_16 : decode cX1_push 16 = .ok (.if_icmp .ge 23, 3) := dz_b162 (by decide +kernel)
theorem dX1_push_19 : decode cX1_push 19 = .ok (.aload_n 0, 1) := dz_b42 (by decide +kernel)
theorem dX1_push_20 : decode cX1_push 20 = .ok (.getfield 15, 3) := dz_b180 (by decide +kernel)
theorem dX1_push_23 : decode cX1_push 23 = .ok (.aload_n 0, 1) := dz_b42 (by decide +kernel)
theorem dX1_push_24 : decode cX1_push 24 = .ok (.getfield 33, 3) := dz_b180 (by decide +kernel)
theorem dX1_push_27 : decode cX1_push 27 = .ok (.iload_n 1, 1) := dz_b27 (by decide +kernel)
theorem dX1_push_28 : decode cX1_push 28 = .ok (.iastore, 1) := dz_b79 (by decide +kernel)
theorem dX1_push_29 : decode cX1_push 29 = .ok (.aload_n 0, 1) := dz_b42 (by decide +kernel)
theorem dX1_push_30 : decode cX1_push 30 = .ok (.dup, 1) := dz_b89 (by decide +kernel)
theorem dX1_push_31 : decode cX1_push 31 = .ok (.getfield 33, 3) := dz_b180 (by decide +kernel)
theorem dX1_push_34 : decode cX1_push 34 = .ok (.iconst 1, 1) := dz_b4 (by decide +kernel)
theorem dX1_push_35 : decode cX1_push 35 = .ok (.iadd, 1) := dz_b96 (by decide +kernel)
theorem dX1_push_36 : decode cX1_push 36 = .ok (.putfield 33, 3) := dz_b181 (by decide +kernel)
theorem dX1_push_39 : decode cX1_push 39 = .ok (.return_, 1) := dz_b177 (by decide +kernel)
theorem dX1_pop_0 : decode cX1_pop 0 = .ok (.aload_n 0, 1) := dz_b42 (by decide +kernel)
theorem dX1_pop_1 : decode cX1_pop 1 = .ok (.getfield 33, 3) := dz_b180 (by decide +kernel)
theorem dX1_pop_4 : decode cX1_pop 4 = .ok (.ifCond .le 15, 3) := dz_b158 (by decide +kernel)
theorem dX1_pop_7 : decode cX1_pop 7 = .ok (.aload_n 0, 1) := dz_b42 (by decide +kernel)
theorem dX1_pop_8 : decode cX1_pop 8 = .ok (.getfield 33, 3) := dz_b180 (by decide +kernel)
theorem dX1_pop_11 : decode cX1_pop 11 = .ok (.aload_n 0, 1) := dz_b42 (by decide +kernel)
theorem dX1_pop_12 : decode cX1_pop 12 = .ok (.getfield 15, 3) := dz_b180 (by decide +kernel)
theorem dX1_pop_15 : decode cX1_pop 15 = .ok (.arraylength, 1) := dz_b190 (by decide +kernel)
theorem dX1_pop_16 : decode cX1_pop 16 = .ok (.if_icmp .le 5, 3) := dz_b164 (by decide +kernel)
theorem dX1_pop_19 : decode cX1_pop 19 = .ok (.iconst 0, 1) := dz_b3 (by decide +kernel)
theorem dX1_pop_20 : decode cX1_pop 20 = .ok (.ireturn, 1) := dz_b172 (by decide +kernel)
theorem dX1_pop_21 : decode cX1_pop 21 = .ok (.aload_n 0, 1) := dz_b42 (by decide +kernel)
theorem dX1_pop_22 : decode cX1_pop 22 = .ok (.dup, 1) := dz_b89 (by decide +kernel)
theorem dX1_pop_23 : decode cX1_pop 23 = .ok (.getfield 33, 3) := dz_b180 (by decide +kernel)
theorem dX1_pop_26 : decode cX1_pop 26 = .ok (.iconst 1, 1) := dz_b4 (by decide +kernel)
theorem dX1_pop_27 : decode cX1_pop 27 = .ok (.isub, 1) := dz_b100 (by decide +kernel)
theorem dX1_pop_28 : decode cX1_pop 28 = .ok (.putfield 33, 3) := dz_b181 (by decide +kernel)
theorem dX1_pop_31 : decode cX1_pop 31 = .ok (.aload_n 0, 1) := dz_b42 (by decide +kernel)
theorem dX1_pop_32 : decode cX1_pop 32 = .ok (.getfield 15, 3) := dz_b180 (by decide +kernel)
theorem dX1_pop_35 : decode cX1_pop 35 = .ok (.aload_n 0, 1) := dz_b42 (by decide +kernel)
theorem dX1_pop_36 : decode cX1_pop 36 = .ok (.getfield 33, 3) := dz_b180 (by decide +kernel)
theorem dX1_pop_39 : decode cX1_pop 39 = .ok (.iaload, 1) := dz_b46 (by decide +kernel)
theorem dX1_pop_40 : decode cX1_pop 40 = .ok (.ireturn, 1) := dz_b172 (by decide +kernel)
theorem dX2_init_0 : decode cX2_init 0 = .ok (.aload_n 0, 1) := dz_b42 (by decide +kernel)
theorem dX2_init_1 : decode cX2_init 1 = .ok (.aload_n 1, 1) := dz_b43 (by decide +kernel)
theorem dX2_init_2 : decode cX2_init 2 = .ok (.invokespecial 3, 3) := dz_b183 (by decide +kernel)
theorem dX2_init_5 : decode cX2_init 5 = .ok (.aload_n 0, 1) := dz_b42 (by decide +kernel)
theorem dX2_init_6 : decode cX2_init 6 = .ok (.sipush 160, 3) := dz_b17 (by decide +kernel)
theorem dX2_init_9 : decode cX2_init 9 = .ok (.newarray .int, 2) := by decide +kernel
theorem dX2_init_11 : decode cX2_init 11 = .ok (.putfield 11, 3) := dz_b181 (by decide +kernel)
theorem dX2_init_14 : decode cX2_init 14 = .ok (.return_, 1) := dz_b177 (by decide +kernel)
theorem dX2_clear_0 : decode cX2_clear 0 = .ok (.aload_n 0, 1) := dz_b42 (by decide +kernel)
theorem dX2_clear_1 : decode cX2_clear 1 = .ok (.iconst 0, 1) := dz_b3 (by decide +kernel)
theorem dX2_clear_2 : decode cX2_clear 2 = .ok (.putfield 17, 3) := dz_b181 (by decide +kernel)
theorem dX2_clear_5 : decode cX2_clear 5 = .ok (.return_, 1) := dz_b177 (by decide +kernel)
theorem dX2_isWhole_0 : decode cX2_isWhole 0 = .ok (.iconst 1, 1) := dz_b4 (by decide +kernel)
theorem dX2_isWhole_1 : decode cX2_isWhole 1 = .ok (.ireturn, 1) := dz_b172 (by decide +kernel)
theorem dX2_toLaw_0 : decode cX2_toLaw 0 = .ok (.new 21, 3) := dz_b187 (by decide +kernel)
theorem dX2_toLaw_3 : decode cX2_toLaw 3 = .ok (.dup, 1) := dz_b89 (by decide +kernel)
theorem dX2_toLaw_4 : decode cX2_toLaw 4 = .ok (.aload_n 0, 1) := dz_b42 (by decide +kernel)
theorem dX2_toLaw_5 : decode cX2_toLaw 5 = .ok (.getfield 11, 3) := dz_b180 (by decide +kernel)
theorem dX2_toLaw_8 : decode cX2_toLaw 8 = .ok (.aload_n 0, 1) := dz_b42 (by decide +kernel)
theorem dX2_toLaw_9 : decode cX2_toLaw 9 = .ok (.getfield 17, 3) := dz_b180 (by decide +kernel)
theorem dX2_toLaw_12 : decode cX2_toLaw 12 = .ok (.invokestatic 23, 3) := dz_b184 (by decide +kernel)
theorem dX2_toLaw_15 : decode cX2_toLaw 15 = .ok (.invokespecial 29, 3) := dz_b183 (by decide +kernel)
theorem dX2_toLaw_18 : decode cX2_toLaw 18 = .ok (.areturn, 1) := dz_b176 (by decide +kernel)
theorem dX2_emit_0 : decode cX2_emit 0 = .ok (.aload_n 0, 1) := dz_b42 (by decide +kernel)
theorem dX2_emit_1 : decode cX2_emit 1 = .ok (.getfield 17, 3) := dz_b180 (by decide +kernel)
theorem dX2_emit_4 : decode cX2_emit 4 = .ok (.sipush 160, 3) := dz_b17 (by decide +kernel)
theorem dX2_emit_7 : decode cX2_emit 7 = .ok (.if_icmp .ge 23, 3) := dz_b162 (by decide +kernel)
theorem dX2_emit_10 : decode cX2_emit 10 = .ok (.aload_n 0, 1) := dz_b42 (by decide +kernel)
theorem dX2_emit_11 : decode cX2_emit 11 = .ok (.getfield 11, 3) := dz_b180 (by decide +kernel)
theorem dX2_emit_14 : decode cX2_emit 14 = .ok (.aload_n 0, 1) := dz_b42 (by decide +kernel)
theorem dX2_emit_15 : decode cX2_emit 15 = .ok (.getfield 17, 3) := dz_b180 (by decide +kernel)
theorem dX2_emit_18 : decode cX2_emit 18 = .ok (.iload_n 1, 1) := dz_b27 (by decide +kernel)
theorem dX2_emit_19 : decode cX2_emit 19 = .ok (.iastore, 1) := dz_b79 (by decide +kernel)
theorem dX2_emit_20 : decode cX2_emit 20 = .ok (.aload_n 0, 1) := dz_b42 (by decide +kernel)
theorem dX2_emit_21 : decode cX2_emit 21 = .ok (.dup, 1) := dz_b89 (by decide +kernel)
theorem dX2_emit_22 : decode cX2_emit 22 = .ok (.getfield 17, 3) := dz_b180 (by decide +kernel)
theorem dX2_emit_25 : decode cX2_emit 25 = .ok (.iconst 1, 1) := dz_b4 (by decide +kernel)
theorem dX2_emit_26 : decode cX2_emit 26 = .ok (.iadd, 1) := dz_b96 (by decide +kernel)
theorem dX2_emit_27 : decode cX2_emit 27 = .ok (.putfield 17, 3) := dz_b181 (by decide +kernel)
theorem dX2_emit_30 : decode cX2_emit 30 = .ok (.iconst 1, 1) := dz_b4 (by decide +kernel)
theorem dX2_emit_31 : decode cX2_emit 31 = .ok (.ireturn, 1) := dz_b172 (by decide +kernel)
theorem dX2_readClause_0 : decode cX2_readClause 0 = .ok (.aload_n 0, 1) := dz_b42 (by decide +kernel)
theorem dX2_readClause_1 : decode cX2_readClause 1 = .ok (.bipush 121, 2) := dz_b16 (by decide +kernel)
theorem dX2_readClause_3 : decode cX2_readClause 3 = .ok (.invokevirtual 32, 3) := dz_b182 (by decide +kernel)
theorem dX2_readClause_6 : decode cX2_readClause 6 = .ok (.ifCond .eq 12, 3) := dz_b153 (by decide +kernel)
theorem dX2_readClause_9 : decode cX2_readClause 9 = .ok (.aload_n 0, 1) := dz_b42 (by decide +kernel)
theorem dX2_readClause_10 : decode cX2_readClause 10 = .ok (.bipush 58, 2) := dz_b16 (by decide +kernel)
theorem dX2_readClause_12 : decode cX2_readClause 12 = .ok (.invokevirtual 32, 3) := dz_b182 (by decide +kernel)
theorem dX2_readClause_15 : decode cX2_readClause 15 = .ok (.ifCond .ne 8, 3) := dz_b154 (by decide +kernel)
theorem dX2_readClause_18 : decode cX2_readClause 18 = .ok (.aload_n 0, 1) := dz_b42 (by decide +kernel)
theorem dX2_readClause_19 : decode cX2_readClause 19 = .ok (.invokevirtual 36, 3) := dz_b182 (by decide +kernel)
theorem dX2_readClause_22 : decode cX2_readClause 22 = .ok (.ireturn, 1) := dz_b172 (by decide +kernel)
theorem dX2_readClause_23 : decode cX2_readClause 23 = .ok (.aload_n 0, 1) := dz_b42 (by decide +kernel)
theorem dX2_readClause_24 : decode cX2_readClause 24 = .ok (.invokevirtual 40, 3) := dz_b182 (by decide +kernel)
theorem dX2_readClause_27 : decode cX2_readClause 27 = .ok (.istore_n 1, 1) := dz_b60 (by decide +kernel)
theorem dX2_readClause_28 : decode cX2_readClause 28 = .ok (.iload_n 1, 1) := dz_b27 (by decide +kernel)
theorem dX2_readClause_29 : decode cX2_readClause 29 = .ok (.bipush 33, 2) := dz_b16 (by decide +kernel)
theorem dX2_readClause_31 : decode cX2_readClause 31 = .ok (.if_icmp .eq 9, 3) := dz_b159 (by decide +kernel)
theorem dX2_readClause_34 : decode cX2_readClause 34 = .ok (.iload_n 1, 1) := dz_b27 (by decide +kernel)
theorem dX2_readClause_35 : decode cX2_readClause 35 = .ok (.bipush 40, 2) := dz_b16 (by decide +kernel)
theorem dX2_readClause_37 : decode cX2_readClause 37 = .ok (.if_icmp .ne 24, 3) := dz_b160 (by decide +kernel)
theorem dX2_readClause_40 : decode cX2_readClause 40 = .ok (.aload_n 0, 1) := dz_b42 (by decide +kernel)
theorem dX2_readClause_41 : decode cX2_readClause 41 = .ok (.iconst 0, 1) := dz_b3 (by decide +kernel)
theorem dX2_readClause_42 : decode cX2_readClause 42 = .ok (.invokevirtual 44, 3) := dz_b182 (by decide +kernel)
theorem dX2_readClause_45 : decode cX2_readClause 45 = .ok (.ifCond .eq 14, 3) := dz_b153 (by decide +kernel)
theorem dX2_readClause_48 : decode cX2_readClause 48 = .ok (.aload_n 0, 1) := dz_b42 (by decide +kernel)
theorem dX2_readClause_49 : decode cX2_readClause 49 = .ok (.invokevirtual 47, 3) := dz_b182 (by decide +kernel)
theorem dX2_readClause_52 : decode cX2_readClause 52 = .ok (.ifCond .eq 7, 3) := dz_b153 (by decide +kernel)
theorem dX2_readClause_55 : decode cX2_readClause 55 = .ok (.iconst 1, 1) := dz_b4 (by decide +kernel)
theorem dX2_readClause_56 : decode cX2_readClause 56 = .ok (.goto 4, 3) := dz_b167 (by decide +kernel)
theorem dX2_readClause_59 : decode cX2_readClause 59 = .ok (.iconst 0, 1) := dz_b3 (by decide +kernel)
theorem dX2_readClause_60 : decode cX2_readClause 60 = .ok (.ireturn, 1) := dz_b172 (by decide +kernel)
theorem dX2_readClause_61 : decode cX2_readClause 61 = .ok (.aload_n 0, 1) := dz_b42 (by decide +kernel)
theorem dX2_readClause_62 : decode cX2_readClause 62 = .ok (.iconst 0, 1) := dz_b3 (by decide +kernel)
theorem dX2_readClause_63 : decode cX2_readClause 63 = .ok (.invokevirtual 50, 3) := dz_b182 (by decide +kernel)
theorem dX2_readClause_66 : decode cX2_readClause 66 = .ok (.ifCond .ne 5, 3) := dz_b154 (by decide +kernel)
theorem dX2_readClause_69 : decode cX2_readClause 69 = .ok (.iconst 0, 1) := dz_b3 (by decide +kernel)
theorem dX2_readClause_70 : decode cX2_readClause 70 = .ok (.ireturn, 1) := dz_b172 (by decide +kernel)
theorem dX2_readClause_71 : decode cX2_readClause 71 = .ok (.aload_n 0, 1) := dz_b42 (by decide +kernel)
theorem dX2_readClause_72 : decode cX2_readClause 72 = .ok (.invokevirtual 40, 3) := dz_b182 (by decide +kernel)
theorem dX2_readClause_75 : decode cX2_readClause 75 = .ok (.invokestatic 53, 3) := dz_b184 (by decide +kernel)
theorem dX2_readClause_78 : decode cX2_readClause 78 = .ok (.ifCond .ne 10, 3) := dz_b154 (by decide +kernel)
theorem dX2_readClause_81 : decode cX2_readClause 81 = .ok (.aload_n 0, 1) := dz_b42 (by decide +kernel)
theorem dX2_readClause_82 : decode cX2_readClause 82 = .ok (.bipush (-59), 2) := dz_b16 (by decide +kernel)
theorem dX2_readClause_84 : decode cX2_readClause 84 = .ok (.invokevirtual 56, 3) := dz_b182 (by decide +kernel)
theorem dX2_readClause_87 : decode cX2_readClause 87 = .ok (.ireturn, 1) := dz_b172 (by decide +kernel)
theorem dX2_readClause_88 : decode cX2_readClause 88 = .ok (.aload_n 0, 1) := dz_b42 (by decide +kernel)
theorem dX2_readClause_89 : decode cX2_readClause 89 = .ok (.iconst 0, 1) := dz_b3 (by decide +kernel)
theorem dX2_readClause_90 : decode cX2_readClause 90 = .ok (.invokevirtual 59, 3) := dz_b182 (by decide +kernel)
theorem dX2_readClause_93 : decode cX2_readClause 93 = .ok (.ifCond .eq 22, 3) := dz_b153 (by decide +kernel)
theorem dX2_readClause_96 : decode cX2_readClause 96 = .ok (.aload_n 0, 1) := dz_b42 (by decide +kernel)
theorem dX2_readClause_97 : decode cX2_readClause 97 = .ok (.iconst 0, 1) := dz_b3 (by decide +kernel)
theorem dX2_readClause_98 : decode cX2_readClause 98 = .ok (.invokevirtual 62, 3) := dz_b182 (by decide +kernel)
theorem dX2_readClause_101 : decode cX2_readClause 101 = .ok (.ifCond .eq 14, 3) := dz_b153 (by decide +kernel)
theorem dX2_readClause_104 : decode cX2_readClause 104 = .ok (.aload_n 0, 1) := dz_b42 (by decide +kernel)
theorem dX2_readClause_105 : decode cX2_readClause 105 = .ok (.invokevirtual 47, 3) := dz_b182 (by decide +kernel)
theorem dX2_readClause_108 : decode cX2_readClause 108 = .ok (.ifCond .eq 7, 3) := dz_b153 (by decide +kernel)
theorem dX2_readClause_111 : decode cX2_readClause 111 = .ok (.iconst 1, 1) := dz_b4 (by decide +kernel)
theorem dX2_readClause_112 : decode cX2_readClause 112 = .ok (.goto 4, 3) := dz_b167 (by decide +kernel)
theorem dX2_readClause_115 : decode cX2_readClause 115 = .ok (.iconst 0, 1) := dz_b3 (by decide +kernel)
theorem dX2_readClause_116 : decode cX2_readClause 116 = .ok (.ireturn, 1) := dz_b172 (by decide +kernel)
theorem dX2_sumBehindCondition_0 : decode cX2_sumBehindCondition 0 = .ok (.aload_n 0, 1) := dz_b42 (by decide +kernel)
theorem dX2_sumBehindCondition_1 : decode cX2_sumBehindCondition 1 = .ok (.bipush 63, 2) := dz_b16 (by decide +kernel)
theorem dX2_sumBehindCondition_3 : decode cX2_sumBehindCondition 3 = .ok (.invokevirtual 32, 3) := dz_b182 (by decide +kernel)
theorem dX2_sumBehindCondition_6 : decode cX2_sumBehindCondition 6 = .ok (.ifCond .ne 8, 3) := dz_b154 (by decide +kernel)
theorem dX2_sumBehindCondition_9 : decode cX2_sumBehindCondition 9 = .ok (.aload_n 0, 1) := dz_b42 (by decide +kernel)
theorem dX2_sumBehindCondition_10 : decode cX2_sumBehindCondition 10 = .ok (.invokevirtual 36, 3) := dz_b182 (by decide +kernel)
theorem dX2_sumBehindCondition_13 : decode cX2_sumBehindCondition 13 = .ok (.ireturn, 1) := dz_b172 (by decide +kernel)
theorem dX2_sumBehindCondition_14 : decode cX2_sumBehindCondition 14 = .ok (.aload_n 0, 1) := dz_b42 (by decide +kernel)
theorem dX2_sumBehindCondition_15 : decode cX2_sumBehindCondition 15 = .ok (.bipush (-63), 2) := dz_b16 (by decide +kernel)
theorem dX2_sumBehindCondition_17 : decode cX2_sumBehindCondition 17 = .ok (.invokevirtual 56, 3) := dz_b182 (by decide +kernel)
theorem dX2_sumBehindCondition_20 : decode cX2_sumBehindCondition 20 = .ok (.ifCond .eq 24, 3) := dz_b153 (by decide +kernel)
theorem dX2_sumBehindCondition_23 : decode cX2_sumBehindCondition 23 = .ok (.aload_n 0, 1) := dz_b42 (by decide +kernel)
theorem dX2_sumBehindCondition_24 : decode cX2_sumBehindCondition 24 = .ok (.iconst 0, 1) := dz_b3 (by decide +kernel)
theorem dX2_sumBehindCondition_25 : decode cX2_sumBehindCondition 25 = .ok (.invokevirtual 50, 3) := dz_b182 (by decide +kernel)
theorem dX2_sumBehindCondition_28 : decode cX2_sumBehindCondition 28 = .ok (.ifCond .eq 16, 3) := dz_b153 (by decide +kernel)
theorem dX2_sumBehindCondition_31 : decode cX2_sumBehindCondition 31 = .ok (.aload_n 0, 1) := dz_b42 (by decide +kernel)
theorem dX2_sumBehindCondition_32 : decode cX2_sumBehindCondition 32 = .ok (.bipush (-59), 2) := dz_b16 (by decide +kernel)
theorem dX2_sumBehindCondition_34 : decode cX2_sumBehindCondition 34 = .ok (.invokevirtual 56, 3) := dz_b182 (by decide +kernel)
theorem dX2_sumBehindCondition_37 : decode cX2_sumBehindCondition 37 = .ok (.ifCond .eq 7, 3) := dz_b153 (by decide +kernel)
theorem dX2_sumBehindCondition_40 : decode cX2_sumBehindCondition 40 = .ok (.iconst 1, 1) := dz_b4 (by decide +kernel)
theorem dX2_sumBehindCondition_41 : decode cX2_sumBehindCondition 41 = .ok (.goto 4, 3) := dz_b167 (by decide +kernel)
theorem dX2_sumBehindCondition_44 : decode cX2_sumBehindCondition 44 = .ok (.iconst 0, 1) := dz_b3 (by decide +kernel)
theorem dX2_sumBehindCondition_45 : decode cX2_sumBehindCondition 45 = .ok (.ireturn, 1) := dz_b172 (by decide +kernel)
theorem dX2_condition_0 : decode cX2_condition 0 = .ok (.aload_n 0, 1) := dz_b42 (by decide +kernel)
theorem dX2_condition_1 : decode cX2_condition 1 = .ok (.iload_n 1, 1) := dz_b27 (by decide +kernel)
theorem dX2_condition_2 : decode cX2_condition 2 = .ok (.invokevirtual 65, 3) := dz_b182 (by decide +kernel)
theorem dX2_condition_5 : decode cX2_condition 5 = .ok (.ifCond .eq 15, 3) := dz_b153 (by decide +kernel)
theorem dX2_condition_8 : decode cX2_condition 8 = .ok (.aload_n 0, 1) := dz_b42 (by decide +kernel)
theorem dX2_condition_9 : decode cX2_condition 9 = .ok (.iload_n 1, 1) := dz_b27 (by decide +kernel)
theorem dX2_condition_10 : decode cX2_condition 10 = .ok (.invokevirtual 62, 3) := dz_b182 (by decide +kernel)
theorem dX2_condition_13 : decode cX2_condition 13 = .ok (.ifCond .eq 7, 3) := dz_b153 (by decide +kernel)
theorem dX2_condition_16 : decode cX2_condition 16 = .ok (.iconst 1, 1) := dz_b4 (by decide +kernel)
theorem dX2_condition_17 : decode cX2_condition 17 = .ok (.goto 4, 3) := dz_b167 (by decide +kernel)
theorem dX2_condition_20 : decode cX2_condition 20 = .ok (.iconst 0, 1) := dz_b3 (by decide +kernel)
theorem dX2_condition_21 : decode cX2_condition 21 = .ok (.ireturn, 1) := dz_b172 (by decide +kernel)
theorem dX2_moreUnits_0 : decode cX2_moreUnits 0 = .ok (.iconst 0, 1) := dz_b3 (by decide +kernel)
theorem dX2_moreUnits_1 : decode cX2_moreUnits 1 = .ok (.istore_n 2, 1) := dz_b61 (by decide +kernel)
theorem dX2_moreUnits_2 : decode cX2_moreUnits 2 = .ok (.iconst 0, 1) := dz_b3 (by decide +kernel)
theorem dX2_moreUnits_3 : decode cX2_moreUnits 3 = .ok (.istore_n 3, 1) := dz_b62 (by decide +kernel)
theorem dX2_moreUnits_4 : decode cX2_moreUnits 4 = .ok (.iload_n 3, 1) := dz_b29 (by decide +kernel)
theorem dX2_moreUnits_5 : decode cX2_moreUnits 5 = .ok (.sipush 160, 3) := dz_b17 (by decide +kernel)
theorem dX2_moreUnits_8 : decode cX2_moreUnits 8 = .ok (.if_icmp .gt 125, 3) := dz_b163 (by decide +kernel)
theorem dX2_moreUnits_11 : decode cX2_moreUnits 11 = .ok (.aload_n 0, 1) := dz_b42 (by decide +kernel)
theorem dX2_moreUnits_12 : decode cX2_moreUnits 12 = .ok (.invokevirtual 40, 3) := dz_b182 (by decide +kernel)
theorem dX2_moreUnits_15 : decode cX2_moreUnits 15 = .ok (.istore 4, 2) := dz_b54 (by decide +kernel)
theorem dX2_moreUnits_17 : decode cX2_moreUnits 17 = .ok (.iload 4, 2) := dz_b21 (by decide +kernel)
theorem dX2_moreUnits_19 : decode cX2_moreUnits 19 = .ok (.bipush 124, 2) := dz_b16 (by decide +kernel)
theorem dX2_moreUnits_21 : decode cX2_moreUnits 21 = .ok (.if_icmp .eq 29, 3) := dz_b159 (by decide +kernel)
theorem dX2_moreUnits_24 : decode cX2_moreUnits 24 = .ok (.iload 4, 2) := dz_b21 (by decide +kernel)
theorem dX2_moreUnits_26 : decode cX2_moreUnits 26 = .ok (.bipush 38, 2) := dz_b16 (by decide +kernel)
theorem dX2_moreUnits_28 : decode cX2_moreUnits 28 = .ok (.if_icmp .eq 22, 3) := dz_b159 (by decide +kernel)
theorem dX2_moreUnits_31 : decode cX2_moreUnits 31 = .ok (.iload_n 2, 1) := dz_b28 (by decide +kernel)
theorem dX2_moreUnits_32 : decode cX2_moreUnits 32 = .ok (.ifCond .eq 12, 3) := dz_b153 (by decide +kernel)
theorem dX2_moreUnits_35 : decode cX2_moreUnits 35 = .ok (.aload_n 0, 1) := dz_b42 (by decide +kernel)
theorem dX2_moreUnits_36 : decode cX2_moreUnits 36 = .ok (.bipush (-124), 2) := dz_b16 (by decide +kernel)
theorem dX2_moreUnits_38 : decode cX2_moreUnits 38 = .ok (.invokevirtual 56, 3) := dz_b182 (by decide +kernel)
theorem dX2_moreUnits_41 : decode cX2_moreUnits 41 = .ok (.ifCond .eq 7, 3) := dz_b153 (by decide +kernel)
theorem dX2_moreUnits_44 : decode cX2_moreUnits 44 = .ok (.iconst 1, 1) := dz_b4 (by decide +kernel)
theorem dX2_moreUnits_45 : decode cX2_moreUnits 45 = .ok (.goto 4, 3) := dz_b167 (by decide +kernel)
theorem dX2_moreUnits_48 : decode cX2_moreUnits 48 = .ok (.iconst 0, 1) := dz_b3 (by decide +kernel)
theorem dX2_moreUnits_49 : decode cX2_moreUnits 49 = .ok (.ireturn, 1) := dz_b172 (by decide +kernel)
theorem dX2_moreUnits_50 : decode cX2_moreUnits 50 = .ok (.iload 4, 2) := dz_b21 (by decide +kernel)
theorem dX2_moreUnits_52 : decode cX2_moreUnits 52 = .ok (.bipush 124, 2) := dz_b16 (by decide +kernel)
theorem dX2_moreUnits_54 : decode cX2_moreUnits 54 = .ok (.if_icmp .ne 7, 3) := dz_b160 (by decide +kernel)
theorem dX2_moreUnits_57 : decode cX2_moreUnits 57 = .ok (.iconst 1, 1) := dz_b4 (by decide +kernel)
theorem dX2_moreUnits_58 : decode cX2_moreUnits 58 = .ok (.goto 4, 3) := dz_b167 (by decide +kernel)
theorem dX2_moreUnits_61 : decode cX2_moreUnits 61 = .ok (.iconst 0, 1) := dz_b3 (by decide +kernel)
theorem dX2_moreUnits_62 : decode cX2_moreUnits 62 = .ok (.istore 5, 2) := dz_b54 (by decide +kernel)
theorem dX2_moreUnits_64 : decode cX2_moreUnits 64 = .ok (.iload 5, 2) := dz_b21 (by decide +kernel)
theorem dX2_moreUnits_66 : decode cX2_moreUnits 66 = .ok (.ifCond .eq 14, 3) := dz_b153 (by decide +kernel)
theorem dX2_moreUnits_69 : decode cX2_moreUnits 69 = .ok (.iload_n 2, 1) := dz_b28 (by decide +kernel)
theorem dX2_moreUnits_70 : decode cX2_moreUnits 70 = .ok (.ifCond .eq 10, 3) := dz_b153 (by decide +kernel)
theorem dX2_moreUnits_73 : decode cX2_moreUnits 73 = .ok (.aload_n 0, 1) := dz_b42 (by decide +kernel)
theorem dX2_moreUnits_74 : decode cX2_moreUnits 74 = .ok (.bipush (-124), 2) := dz_b16 (by decide +kernel)
theorem dX2_moreUnits_76 : decode cX2_moreUnits 76 = .ok (.invokevirtual 56, 3) := dz_b182 (by decide +kernel)
theorem dX2_moreUnits_79 : decode cX2_moreUnits 79 = .ok (.pop, 1) := dz_b87 (by decide +kernel)
theorem dX2_moreUnits_80 : decode cX2_moreUnits 80 = .ok (.iload 5, 2) := dz_b21 (by decide +kernel)
theorem dX2_moreUnits_82 : decode cX2_moreUnits 82 = .ok (.ifCond .ne 7, 3) := dz_b154 (by decide +kernel)
theorem dX2_moreUnits_85 : decode cX2_moreUnits 85 = .ok (.iload_n 2, 1) := dz_b28 (by decide +kernel)
theorem dX2_moreUnits_86 : decode cX2_moreUnits 86 = .ok (.ifCond .eq 7, 3) := dz_b153 (by decide +kernel)
theorem dX2_moreUnits_89 : decode cX2_moreUnits 89 = .ok (.iconst 1, 1) := dz_b4 (by decide +kernel)
theorem dX2_moreUnits_90 : decode cX2_moreUnits 90 = .ok (.goto 4, 3) := dz_b167 (by decide +kernel)
theorem dX2_moreUnits_93 : decode cX2_moreUnits 93 = .ok (.iconst 0, 1) := dz_b3 (by decide +kernel)
theorem dX2_moreUnits_94 : decode cX2_moreUnits 94 = .ok (.istore_n 2, 1) := dz_b61 (by decide +kernel)
theorem dX2_moreUnits_95 : decode cX2_moreUnits 95 = .ok (.aload_n 0, 1) := dz_b42 (by decide +kernel)
theorem dX2_moreUnits_96 : decode cX2_moreUnits 96 = .ok (.dup, 1) := dz_b89 (by decide +kernel)
theorem dX2_moreUnits_97 : decode cX2_moreUnits 97 = .ok (.getfield 68, 3) := dz_b180 (by decide +kernel)
theorem dX2_moreUnits_100 : decode cX2_moreUnits 100 = .ok (.iconst 1, 1) := dz_b4 (by decide +kernel)
theorem dX2_moreUnits_101 : decode cX2_moreUnits 101 = .ok (.iadd, 1) := dz_b96 (by decide +kernel)
theorem dX2_moreUnits_102 : decode cX2_moreUnits 102 = .ok (.putfield 68, 3) := dz_b181 (by decide +kernel)
theorem dX2_moreUnits_105 : decode cX2_moreUnits 105 = .ok (.aload_n 0, 1) := dz_b42 (by decide +kernel)
theorem dX2_moreUnits_106 : decode cX2_moreUnits 106 = .ok (.iload_n 1, 1) := dz_b27 (by decide +kernel)
theorem dX2_moreUnits_107 : decode cX2_moreUnits 107 = .ok (.invokevirtual 65, 3) := dz_b182 (by decide +kernel)
theorem dX2_moreUnits_110 : decode cX2_moreUnits 110 = .ok (.ifCond .ne 5, 3) := dz_b154 (by decide +kernel)
theorem dX2_moreUnits_113 : decode cX2_moreUnits 113 = .ok (.iconst 0, 1) := dz_b3 (by decide +kernel)
theorem dX2_moreUnits_114 : decode cX2_moreUnits 114 = .ok (.ireturn, 1) := dz_b172 (by decide +kernel)
theorem dX2_moreUnits_115 : decode cX2_moreUnits 115 = .ok (.iload 5, 2) := dz_b21 (by decide +kernel)
theorem dX2_moreUnits_117 : decode cX2_moreUnits 117 = .ok (.ifCond .ne 10, 3) := dz_b154 (by decide +kernel)
theorem dX2_moreUnits_120 : decode cX2_moreUnits 120 = .ok (.aload_n 0, 1) := dz_b42 (by decide +kernel)
theorem dX2_moreUnits_121 : decode cX2_moreUnits 121 = .ok (.bipush (-38), 2) := dz_b16 (by decide +kernel)
theorem dX2_moreUnits_123 : decode cX2_moreUnits 123 = .ok (.invokevirtual 56, 3) := dz_b182 (by decide +kernel)
theorem dX2_moreUnits_126 : decode cX2_moreUnits 126 = .ok (.pop, 1) := dz_b87 (by decide +kernel)
theorem dX2_moreUnits_127 : decode cX2_moreUnits 127 = .ok (.iinc 3 1, 3) := by decide +kernel
theorem dX2_moreUnits_130 : decode cX2_moreUnits 130 = .ok (.goto (-126), 3) := dz_b167 (by decide +kernel)
theorem dX2_moreUnits_133 : decode cX2_moreUnits 133 = .ok (.aload_n 0, 1) := dz_b42 (by decide +kernel)
theorem dX2_moreUnits_134 : decode cX2_moreUnits 134 = .ok (.invokevirtual 36, 3) := dz_b182 (by decide +kernel)
theorem dX2_moreUnits_137 : decode cX2_moreUnits 137 = .ok (.ireturn, 1) := dz_b172 (by decide +kernel)
theorem dX2_unit_0 : decode cX2_unit 0 = .ok (.aload_n 0, 1) := dz_b42 (by decide +kernel)
theorem dX2_unit_1 : decode cX2_unit 1 = .ok (.invokevirtual 40, 3) := dz_b182 (by decide +kernel)
theorem dX2_unit_4 : decode cX2_unit 4 = .ok (.istore_n 2, 1) := dz_b61 (by decide +kernel)
theorem dX2_unit_5 : decode cX2_unit 5 = .ok (.iload_n 2, 1) := dz_b28 (by decide +kernel)
theorem dX2_unit_6 : decode cX2_unit 6 = .ok (.bipush 33, 2) := dz_b16 (by decide +kernel)
theorem dX2_unit_8 : decode cX2_unit 8 = .ok (.if_icmp .eq 31, 3) := dz_b159 (by decide +kernel)
theorem dX2_unit_11 : decode cX2_unit 11 = .ok (.iload_n 2, 1) := dz_b28 (by decide +kernel)
theorem dX2_unit_12 : decode cX2_unit 12 = .ok (.bipush 40, 2) := dz_b16 (by decide +kernel)
theorem dX2_unit_14 : decode cX2_unit 14 = .ok (.if_icmp .eq 25, 3) := dz_b159 (by decide +kernel)
theorem dX2_unit_17 : decode cX2_unit 17 = .ok (.aload_n 0, 1) := dz_b42 (by decide +kernel)
theorem dX2_unit_18 : decode cX2_unit 18 = .ok (.iload_n 1, 1) := dz_b27 (by decide +kernel)
theorem dX2_unit_19 : decode cX2_unit 19 = .ok (.invokevirtual 50, 3) := dz_b182 (by decide +kernel)
theorem dX2_unit_22 : decode cX2_unit 22 = .ok (.ifCond .eq 15, 3) := dz_b153 (by decide +kernel)
theorem dX2_unit_25 : decode cX2_unit 25 = .ok (.aload_n 0, 1) := dz_b42 (by decide +kernel)
theorem dX2_unit_26 : decode cX2_unit 26 = .ok (.iload_n 1, 1) := dz_b27 (by decide +kernel)
theorem dX2_unit_27 : decode cX2_unit 27 = .ok (.invokevirtual 59, 3) := dz_b182 (by decide +kernel)
theorem dX2_unit_30 : decode cX2_unit 30 = .ok (.ifCond .eq 7, 3) := dz_b153 (by decide +kernel)
theorem dX2_unit_33 : decode cX2_unit 33 = .ok (.iconst 1, 1) := dz_b4 (by decide +kernel)
theorem dX2_unit_34 : decode cX2_unit 34 = .ok (.goto 4, 3) := dz_b167 (by decide +kernel)
theorem dX2_unit_37 : decode cX2_unit 37 = .ok (.iconst 0, 1) := dz_b3 (by decide +kernel)
theorem dX2_unit_38 : decode cX2_unit 38 = .ok (.ireturn, 1) := dz_b172 (by decide +kernel)
theorem dX2_unit_39 : decode cX2_unit 39 = .ok (.iload_n 1, 1) := dz_b27 (by decide +kernel)
theorem dX2_unit_40 : decode cX2_unit 40 = .ok (.bipush 6, 2) := dz_b16 (by decide +kernel)
theorem dX2_unit_42 : decode cX2_unit 42 = .ok (.if_icmp .lt 8, 3) := dz_b161 (by decide +kernel)
theorem dX2_unit_45 : decode cX2_unit 45 = .ok (.aload_n 0, 1) := dz_b42 (by decide +kernel)
theorem dX2_unit_46 : decode cX2_unit 46 = .ok (.invokevirtual 36, 3) := dz_b182 (by decide +kernel)
theorem dX2_unit_49 : decode cX2_unit 49 = .ok (.ireturn, 1) := dz_b172 (by decide +kernel)
theorem dX2_unit_50 : decode cX2_unit 50 = .ok (.aload_n 0, 1) := dz_b42 (by decide +kernel)
theorem dX2_unit_51 : decode cX2_unit 51 = .ok (.dup, 1) := dz_b89 (by decide +kernel)
theorem dX2_unit_52 : decode cX2_unit 52 = .ok (.getfield 68, 3) := dz_b180 (by decide +kernel)
theorem dX2_unit_55 : decode cX2_unit 55 = .ok (.iconst 1, 1) := dz_b4 (by decide +kernel)
theorem dX2_unit_56 : decode cX2_unit 56 = .ok (.iadd, 1) := dz_b96 (by decide +kernel)
theorem dX2_unit_57 : decode cX2_unit 57 = .ok (.putfield 68, 3) := dz_b181 (by decide +kernel)
theorem dX2_unit_60 : decode cX2_unit 60 = .ok (.iload_n 2, 1) := dz_b28 (by decide +kernel)
theorem dX2_unit_61 : decode cX2_unit 61 = .ok (.bipush 33, 2) := dz_b16 (by decide +kernel)
theorem dX2_unit_63 : decode cX2_unit 63 = .ok (.if_icmp .ne 11, 3) := dz_b160 (by decide +kernel)
theorem dX2_unit_66 : decode cX2_unit 66 = .ok (.aload_n 0, 1) := dz_b42 (by decide +kernel)
theorem dX2_unit_67 : decode cX2_unit 67 = .ok (.iload_n 1, 1) := dz_b27 (by decide +kernel)
theorem dX2_unit_68 : decode cX2_unit 68 = .ok (.iconst 1, 1) := dz_b4 (by decide +kernel)
theorem dX2_unit_69 : decode cX2_unit 69 = .ok (.iadd, 1) := dz_b96 (by decide +kernel)
theorem dX2_unit_70 : decode cX2_unit 70 = .ok (.invokevirtual 71, 3) := dz_b182 (by decide +kernel)
theorem dX2_unit_73 : decode cX2_unit 73 = .ok (.ireturn, 1) := dz_b172 (by decide +kernel)
theorem dX2_unit_74 : decode cX2_unit 74 = .ok (.aload_n 0, 1) := dz_b42 (by decide +kernel)
theorem dX2_unit_75 : decode cX2_unit 75 = .ok (.iload_n 1, 1) := dz_b27 (by decide +kernel)
theorem dX2_unit_76 : decode cX2_unit 76 = .ok (.iconst 1, 1) := dz_b4 (by decide +kernel)
theorem dX2_unit_77 : decode cX2_unit 77 = .ok (.iadd, 1) := dz_b96 (by decide +kernel)
theorem dX2_unit_78 : decode cX2_unit 78 = .ok (.invokevirtual 44, 3) := dz_b182 (by decide +kernel)
theorem dX2_unit_81 : decode cX2_unit 81 = .ok (.ifCond .eq 23, 3) := dz_b153 (by decide +kernel)
theorem dX2_unit_84 : decode cX2_unit 84 = .ok (.aload_n 0, 1) := dz_b42 (by decide +kernel)
theorem dX2_unit_85 : decode cX2_unit 85 = .ok (.bipush 41, 2) := dz_b16 (by decide +kernel)
theorem dX2_unit_87 : decode cX2_unit 87 = .ok (.invokevirtual 32, 3) := dz_b182 (by decide +kernel)
theorem dX2_unit_90 : decode cX2_unit 90 = .ok (.ifCond .ne 10, 3) := dz_b154 (by decide +kernel)
theorem dX2_unit_93 : decode cX2_unit 93 = .ok (.aload_n 0, 1) := dz_b42 (by decide +kernel)
theorem dX2_unit_94 : decode cX2_unit 94 = .ok (.invokevirtual 36, 3) := dz_b182 (by decide +kernel)
theorem dX2_unit_97 : decode cX2_unit 97 = .ok (.ifCond .eq 7, 3) := dz_b153 (by decide +kernel)
theorem dX2_unit_100 : decode cX2_unit 100 = .ok (.iconst 1, 1) := dz_b4 (by decide +kernel)
theorem dX2_unit_101 : decode cX2_unit 101 = .ok (.goto 4, 3) := dz_b167 (by decide +kernel)
theorem dX2_unit_104 : decode cX2_unit 104 = .ok (.iconst 0, 1) := dz_b3 (by decide +kernel)
theorem dX2_unit_105 : decode cX2_unit 105 = .ok (.ireturn, 1) := dz_b172 (by decide +kernel)
theorem dX2_negated_0 : decode cX2_negated 0 = .ok (.aload_n 0, 1) := dz_b42 (by decide +kernel)
theorem dX2_negated_1 : decode cX2_negated 1 = .ok (.iload_n 1, 1) := dz_b27 (by decide +kernel)
theorem dX2_negated_2 : decode cX2_negated 2 = .ok (.invokevirtual 65, 3) := dz_b182 (by decide +kernel)
theorem dX2_negated_5 : decode cX2_negated 5 = .ok (.ifCond .eq 16, 3) := dz_b153 (by decide +kernel)
theorem dX2_negated_8 : decode cX2_negated 8 = .ok (.aload_n 0, 1) := dz_b42 (by decide +kernel)
theorem dX2_negated_9 : decode cX2_negated 9 = .ok (.bipush (-33), 2) := dz_b16 (by decide +kernel)
theorem dX2_negated_11 : decode cX2_negated 11 = .ok (.invokevirtual 56, 3) := dz_b182 (by decide +kernel)
theorem dX2_negated_14 : decode cX2_negated 14 = .ok (.ifCond .eq 7, 3) := dz_b153 (by decide +kernel)
theorem dX2_negated_17 : decode cX2_negated 17 = .ok (.iconst 1, 1) := dz_b4 (by decide +kernel)
theorem dX2_negated_18 : decode cX2_negated 18 = .ok (.goto 4, 3) := dz_b167 (by decide +kernel)
theorem dX2_negated_21 : decode cX2_negated 21 = .ok (.iconst 0, 1) := dz_b3 (by decide +kernel)
theorem dX2_negated_22 : decode cX2_negated 22 = .ok (.ireturn, 1) := dz_b172 (by decide +kernel)
theorem dX2_comparison_0 : decode cX2_comparison 0 = .ok (.aload_n 0, 1) := dz_b42 (by decide +kernel)
theorem dX2_comparison_1 : decode cX2_comparison 1 = .ok (.invokevirtual 40, 3) := dz_b182 (by decide +kernel)
theorem dX2_comparison_4 : decode cX2_comparison 4 = .ok (.istore_n 2, 1) := dz_b61 (by decide +kernel)
theorem dX2_comparison_5 : decode cX2_comparison 5 = .ok (.iload_n 2, 1) := dz_b28 (by decide +kernel)
theorem dX2_comparison_6 : decode cX2_comparison 6 = .ok (.invokestatic 53, 3) := dz_b184 (by decide +kernel)
theorem dX2_comparison_9 : decode cX2_comparison 9 = .ok (.ifCond .ne 8, 3) := dz_b154 (by decide +kernel)
theorem dX2_comparison_12 : decode cX2_comparison 12 = .ok (.aload_n 0, 1) := dz_b42 (by decide +kernel)
theorem dX2_comparison_13 : decode cX2_comparison 13 = .ok (.invokevirtual 36, 3) := dz_b182 (by decide +kernel)
theorem dX2_comparison_16 : decode cX2_comparison 16 = .ok (.ireturn, 1) := dz_b172 (by decide +kernel)
theorem dX2_comparison_17 : decode cX2_comparison 17 = .ok (.aload_n 0, 1) := dz_b42 (by decide +kernel)
theorem dX2_comparison_18 : decode cX2_comparison 18 = .ok (.dup, 1) := dz_b89 (by decide +kernel)
theorem dX2_comparison_19 : decode cX2_comparison 19 = .ok (.getfield 68, 3) := dz_b180 (by decide +kernel)
theorem dX2_comparison_22 : decode cX2_comparison 22 = .ok (.iconst 1, 1) := dz_b4 (by decide +kernel)
theorem dX2_comparison_23 : decode cX2_comparison 23 = .ok (.iadd, 1) := dz_b96 (by decide +kernel)
theorem dX2_comparison_24 : decode cX2_comparison 24 = .ok (.putfield 68, 3) := dz_b181 (by decide +kernel)
theorem dX2_comparison_27 : decode cX2_comparison 27 = .ok (.aload_n 0, 1) := dz_b42 (by decide +kernel)
theorem dX2_comparison_28 : decode cX2_comparison 28 = .ok (.iload_n 1, 1) := dz_b27 (by decide +kernel)
theorem dX2_comparison_29 : decode cX2_comparison 29 = .ok (.invokevirtual 50, 3) := dz_b182 (by decide +kernel)
theorem dX2_comparison_32 : decode cX2_comparison 32 = .ok (.ifCond .eq 16, 3) := dz_b153 (by decide +kernel)
theorem dX2_comparison_35 : decode cX2_comparison 35 = .ok (.aload_n 0, 1) := dz_b42 (by decide +kernel)
theorem dX2_comparison_36 : decode cX2_comparison 36 = .ok (.iload_n 2, 1) := dz_b28 (by decide +kernel)
theorem dX2_comparison_37 : decode cX2_comparison 37 = .ok (.ineg, 1) := dz_b116 (by decide +kernel)
theorem dX2_comparison_38 : decode cX2_comparison 38 = .ok (.invokevirtual 56, 3) := dz_b182 (by decide +kernel)
theorem dX2_comparison_41 : decode cX2_comparison 41 = .ok (.ifCond .eq 7, 3) := dz_b153 (by decide +kernel)
theorem dX2_comparison_44 : decode cX2_comparison 44 = .ok (.iconst 1, 1) := dz_b4 (by decide +kernel)
theorem dX2_comparison_45 : decode cX2_comparison 45 = .ok (.goto 4, 3) := dz_b167 (by decide +kernel)
theorem dX2_comparison_48 : decode cX2_comparison 48 = .ok (.iconst 0, 1) := dz_b3 (by decide +kernel)
theorem dX2_comparison_49 : decode cX2_comparison 49 = .ok (.ireturn, 1) := dz_b172 (by decide +kernel)
theorem dX2_isComparison_0 : decode cX2_isComparison 0 = .ok (.iload_n 0, 1) := dz_b26 (by decide +kernel)
theorem dX2_isComparison_1 : decode cX2_isComparison 1 = .ok (.bipush 61, 2) := dz_b16 (by decide +kernel)
theorem dX2_isComparison_3 : decode cX2_isComparison 3 = .ok (.if_icmp .eq 15, 3) := dz_b159 (by decide +kernel)
theorem dX2_isComparison_6 : decode cX2_isComparison 6 = .ok (.iload_n 0, 1) := dz_b26 (by decide +kernel)
theorem dX2_isComparison_7 : decode cX2_isComparison 7 = .ok (.bipush 60, 2) := dz_b16 (by decide +kernel)
theorem dX2_isComparison_9 : decode cX2_isComparison 9 = .ok (.if_icmp .eq 9, 3) := dz_b159 (by decide +kernel)
theorem dX2_isComparison_12 : decode cX2_isComparison 12 = .ok (.iload_n 0, 1) := dz_b26 (by decide +kernel)
theorem dX2_isComparison_13 : decode cX2_isComparison 13 = .ok (.bipush 62, 2) := dz_b16 (by decide +kernel)
theorem dX2_isComparison_15 : decode cX2_isComparison 15 = .ok (.if_icmp .ne 7, 3) := dz_b160 (by decide +kernel)
theorem dX2_isComparison_18 : decode cX2_isComparison 18 = .ok (.iconst 1, 1) := dz_b4 (by decide +kernel)
theorem dX2_isComparison_19 : decode cX2_isComparison 19 = .ok (.goto 4, 3) := dz_b167 (by decide +kernel)
theorem dX2_isComparison_22 : decode cX2_isComparison 22 = .ok (.iconst 0, 1) := dz_b3 (by decide +kernel)
theorem dX2_isComparison_23 : decode cX2_isComparison 23 = .ok (.ireturn, 1) := dz_b172 (by decide +kernel)
theorem dX2_sum_0 : decode cX2_sum 0 = .ok (.iconst 0, 1) := dz_b3 (by decide +kernel)
theorem dX2_sum_1 : decode cX2_sum 1 = .ok (.istore_n 2, 1) := dz_b61 (by decide +kernel)
theorem dX2_sum_2 : decode cX2_sum 2 = .ok (.aload_n 0, 1) := dz_b42 (by decide +kernel)
theorem dX2_sum_3 : decode cX2_sum 3 = .ok (.iload_n 1, 1) := dz_b27 (by decide +kernel)
theorem dX2_sum_4 : decode cX2_sum 4 = .ok (.invokevirtual 74, 3) := dz_b182 (by decide +kernel)
theorem dX2_sum_7 : decode cX2_sum 7 = .ok (.ifCond .ne 5, 3) := dz_b154 (by decide +kernel)
theorem dX2_sum_10 : decode cX2_sum 10 = .ok (.iconst 0, 1) := dz_b3 (by decide +kernel)
theorem dX2_sum_11 : decode cX2_sum 11 = .ok (.ireturn, 1) := dz_b172 (by decide +kernel)
theorem dX2_sum_12 : decode cX2_sum 12 = .ok (.iconst 0, 1) := dz_b3 (by decide +kernel)
theorem dX2_sum_13 : decode cX2_sum 13 = .ok (.istore_n 3, 1) := dz_b62 (by decide +kernel)
theorem dX2_sum_14 : decode cX2_sum 14 = .ok (.iload_n 3, 1) := dz_b29 (by decide +kernel)
theorem dX2_sum_15 : decode cX2_sum 15 = .ok (.sipush 160, 3) := dz_b17 (by decide +kernel)
theorem dX2_sum_18 : decode cX2_sum 18 = .ok (.if_icmp .gt 135, 3) := dz_b163 (by decide +kernel)
theorem dX2_sum_21 : decode cX2_sum 21 = .ok (.aload_n 0, 1) := dz_b42 (by decide +kernel)
theorem dX2_sum_22 : decode cX2_sum 22 = .ok (.invokevirtual 40, 3) := dz_b182 (by decide +kernel)
theorem dX2_sum_25 : decode cX2_sum 25 = .ok (.istore 4, 2) := dz_b54 (by decide +kernel)
theorem dX2_sum_27 : decode cX2_sum 27 = .ok (.iload 4, 2) := dz_b21 (by decide +kernel)
theorem dX2_sum_29 : decode cX2_sum 29 = .ok (.bipush 43, 2) := dz_b16 (by decide +kernel)
theorem dX2_sum_31 : decode cX2_sum 31 = .ok (.if_icmp .eq 10, 3) := dz_b159 (by decide +kernel)
theorem dX2_sum_34 : decode cX2_sum 34 = .ok (.iload 4, 2) := dz_b21 (by decide +kernel)
theorem dX2_sum_36 : decode cX2_sum 36 = .ok (.bipush 45, 2) := dz_b16 (by decide +kernel)
theorem dX2_sum_38 : decode cX2_sum 38 = .ok (.if_icmp .ne 7, 3) := dz_b160 (by decide +kernel)
theorem dX2_sum_41 : decode cX2_sum 41 = .ok (.iconst 1, 1) := dz_b4 (by decide +kernel)
theorem dX2_sum_42 : decode cX2_sum 42 = .ok (.goto 4, 3) := dz_b167 (by decide +kernel)
theorem dX2_sum_45 : decode cX2_sum 45 = .ok (.iconst 0, 1) := dz_b3 (by decide +kernel)
theorem dX2_sum_46 : decode cX2_sum 46 = .ok (.istore 5, 2) := dz_b54 (by decide +kernel)
theorem dX2_sum_48 : decode cX2_sum 48 = .ok (.iload 5, 2) := dz_b21 (by decide +kernel)
theorem dX2_sum_50 : decode cX2_sum 50 = .ok (.ifCond .ne 36, 3) := dz_b154 (by decide +kernel)
theorem dX2_sum_53 : decode cX2_sum 53 = .ok (.iload 4, 2) := dz_b21 (by decide +kernel)
theorem dX2_sum_55 : decode cX2_sum 55 = .ok (.bipush 42, 2) := dz_b16 (by decide +kernel)
theorem dX2_sum_57 : decode cX2_sum 57 = .ok (.if_icmp .eq 29, 3) := dz_b159 (by decide +kernel)
theorem dX2_sum_60 : decode cX2_sum 60 = .ok (.iload 4, 2) := dz_b21 (by decide +kernel)
theorem dX2_sum_62 : decode cX2_sum 62 = .ok (.bipush 47, 2) := dz_b16 (by decide +kernel)
theorem dX2_sum_64 : decode cX2_sum 64 = .ok (.if_icmp .eq 22, 3) := dz_b159 (by decide +kernel)
theorem dX2_sum_67 : decode cX2_sum 67 = .ok (.iload_n 2, 1) := dz_b28 (by decide +kernel)
theorem dX2_sum_68 : decode cX2_sum 68 = .ok (.ifCond .eq 12, 3) := dz_b153 (by decide +kernel)
theorem dX2_sum_71 : decode cX2_sum 71 = .ok (.aload_n 0, 1) := dz_b42 (by decide +kernel)
theorem dX2_sum_72 : decode cX2_sum 72 = .ok (.iload_n 2, 1) := dz_b28 (by decide +kernel)
theorem dX2_sum_73 : decode cX2_sum 73 = .ok (.ineg, 1) := dz_b116 (by decide +kernel)
theorem dX2_sum_74 : decode cX2_sum 74 = .ok (.invokevirtual 56, 3) := dz_b182 (by decide +kernel)
theorem dX2_sum_77 : decode cX2_sum 77 = .ok (.ifCond .eq 7, 3) := dz_b153 (by decide +kernel)
theorem dX2_sum_80 : decode cX2_sum 80 = .ok (.iconst 1, 1) := dz_b4 (by decide +kernel)
theorem dX2_sum_81 : decode cX2_sum 81 = .ok (.goto 4, 3) := dz_b167 (by decide +kernel)
theorem dX2_sum_84 : decode cX2_sum 84 = .ok (.iconst 0, 1) := dz_b3 (by decide +kernel)
theorem dX2_sum_85 : decode cX2_sum 85 = .ok (.ireturn, 1) := dz_b172 (by decide +kernel)
theorem dX2_sum_86 : decode cX2_sum 86 = .ok (.iload 5, 2) := dz_b21 (by decide +kernel)
theorem dX2_sum_88 : decode cX2_sum 88 = .ok (.ifCond .eq 14, 3) := dz_b153 (by decide +kernel)
theorem dX2_sum_91 : decode cX2_sum 91 = .ok (.iload_n 2, 1) := dz_b28 (by decide +kernel)
theorem dX2_sum_92 : decode cX2_sum 92 = .ok (.ifCond .eq 10, 3) := dz_b153 (by decide +kernel)
theorem dX2_sum_95 : decode cX2_sum 95 = .ok (.aload_n 0, 1) := dz_b42 (by decide +kernel)
theorem dX2_sum_96 : decode cX2_sum 96 = .ok (.iload_n 2, 1) := dz_b28 (by decide +kernel)
theorem dX2_sum_97 : decode cX2_sum 97 = .ok (.ineg, 1) := dz_b116 (by decide +kernel)
theorem dX2_sum_98 : decode cX2_sum 98 = .ok (.invokevirtual 56, 3) := dz_b182 (by decide +kernel)
theorem dX2_sum_101 : decode cX2_sum 101 = .ok (.pop, 1) := dz_b87 (by decide +kernel)
theorem dX2_sum_102 : decode cX2_sum 102 = .ok (.iload 5, 2) := dz_b21 (by decide +kernel)
theorem dX2_sum_104 : decode cX2_sum 104 = .ok (.ifCond .eq 8, 3) := dz_b153 (by decide +kernel)
theorem dX2_sum_107 : decode cX2_sum 107 = .ok (.iload 4, 2) := dz_b21 (by decide +kernel)
theorem dX2_sum_109 : decode cX2_sum 109 = .ok (.goto 4, 3) := dz_b167 (by decide +kernel)
theorem dX2_sum_112 : decode cX2_sum 112 = .ok (.iload_n 2, 1) := dz_b28 (by decide +kernel)
theorem dX2_sum_113 : decode cX2_sum 113 = .ok (.istore_n 2, 1) := dz_b61 (by decide +kernel)
theorem dX2_sum_114 : decode cX2_sum 114 = .ok (.aload_n 0, 1) := dz_b42 (by decide +kernel)
theorem dX2_sum_115 : decode cX2_sum 115 = .ok (.dup, 1) := dz_b89 (by decide +kernel)
theorem dX2_sum_116 : decode cX2_sum 116 = .ok (.getfield 68, 3) := dz_b180 (by decide +kernel)
theorem dX2_sum_119 : decode cX2_sum 119 = .ok (.iconst 1, 1) := dz_b4 (by decide +kernel)
theorem dX2_sum_120 : decode cX2_sum 120 = .ok (.iadd, 1) := dz_b96 (by decide +kernel)
theorem dX2_sum_121 : decode cX2_sum 121 = .ok (.putfield 68, 3) := dz_b181 (by decide +kernel)
theorem dX2_sum_124 : decode cX2_sum 124 = .ok (.aload_n 0, 1) := dz_b42 (by decide +kernel)
theorem dX2_sum_125 : decode cX2_sum 125 = .ok (.iload_n 1, 1) := dz_b27 (by decide +kernel)
theorem dX2_sum_126 : decode cX2_sum 126 = .ok (.invokevirtual 74, 3) := dz_b182 (by decide +kernel)
theorem dX2_sum_129 : decode cX2_sum 129 = .ok (.ifCond .ne 5, 3) := dz_b154 (by decide +kernel)
theorem dX2_sum_132 : decode cX2_sum 132 = .ok (.iconst 0, 1) := dz_b3 (by decide +kernel)
theorem dX2_sum_133 : decode cX2_sum 133 = .ok (.ireturn, 1) := dz_b172 (by decide +kernel)
theorem dX2_sum_134 : decode cX2_sum 134 = .ok (.iload 5, 2) := dz_b21 (by decide +kernel)
theorem dX2_sum_136 : decode cX2_sum 136 = .ok (.ifCond .ne 11, 3) := dz_b154 (by decide +kernel)
theorem dX2_sum_139 : decode cX2_sum 139 = .ok (.aload_n 0, 1) := dz_b42 (by decide +kernel)
theorem dX2_sum_140 : decode cX2_sum 140 = .ok (.iload 4, 2) := dz_b21 (by decide +kernel)
theorem dX2_sum_142 : decode cX2_sum 142 = .ok (.ineg, 1) := dz_b116 (by decide +kernel)
theorem dX2_sum_143 : decode cX2_sum 143 = .ok (.invokevirtual 56, 3) := dz_b182 (by decide +kernel)
theorem dX2_sum_146 : decode cX2_sum 146 = .ok (.pop, 1) := dz_b87 (by decide +kernel)
theorem dX2_sum_147 : decode cX2_sum 147 = .ok (.iinc 3 1, 3) := by decide +kernel
theorem dX2_sum_150 : decode cX2_sum 150 = .ok (.goto (-136), 3) := dz_b167 (by decide +kernel)
theorem dX2_sum_153 : decode cX2_sum 153 = .ok (.aload_n 0, 1) := dz_b42 (by decide +kernel)
theorem dX2_sum_154 : decode cX2_sum 154 = .ok (.invokevirtual 36, 3) := dz_b182 (by decide +kernel)
theorem dX2_sum_157 : decode cX2_sum 157 = .ok (.ireturn, 1) := dz_b172 (by decide +kernel)
theorem dX2_atom_0 : decode cX2_atom 0 = .ok (.aload_n 0, 1) := dz_b42 (by decide +kernel)
theorem dX2_atom_1 : decode cX2_atom 1 = .ok (.invokevirtual 40, 3) := dz_b182 (by decide +kernel)
theorem dX2_atom_4 : decode cX2_atom 4 = .ok (.istore_n 2, 1) := dz_b61 (by decide +kernel)
theorem dX2_atom_5 : decode cX2_atom 5 = .ok (.iload_n 2, 1) := dz_b28 (by decide +kernel)
theorem dX2_atom_6 : decode cX2_atom 6 = .ok (.invokestatic 77, 3) := dz_b184 (by decide +kernel)
theorem dX2_atom_9 : decode cX2_atom 9 = .ok (.ifCond .eq 32, 3) := dz_b153 (by decide +kernel)
theorem dX2_atom_12 : decode cX2_atom 12 = .ok (.aload_n 0, 1) := dz_b42 (by decide +kernel)
theorem dX2_atom_13 : decode cX2_atom 13 = .ok (.iconst 4, 1) := dz_b7 (by decide +kernel)
theorem dX2_atom_14 : decode cX2_atom 14 = .ok (.iconst 0, 1) := dz_b3 (by decide +kernel)
theorem dX2_atom_15 : decode cX2_atom 15 = .ok (.sipush 9999, 3) := dz_b17 (by decide +kernel)
theorem dX2_atom_18 : decode cX2_atom 18 = .ok (.invokevirtual 80, 3) := dz_b182 (by decide +kernel)
theorem dX2_atom_21 : decode cX2_atom 21 = .ok (.istore_n 3, 1) := dz_b62 (by decide +kernel)
theorem dX2_atom_22 : decode cX2_atom 22 = .ok (.iload_n 3, 1) := dz_b29 (by decide +kernel)
theorem dX2_atom_23 : decode cX2_atom 23 = .ok (.iconst (-1), 1) := dz_b2 (by decide +kernel)
theorem dX2_atom_24 : decode cX2_atom 24 = .ok (.if_icmp .eq 15, 3) := dz_b159 (by decide +kernel)
theorem dX2_atom_27 : decode cX2_atom 27 = .ok (.aload_n 0, 1) := dz_b42 (by decide +kernel)
theorem dX2_atom_28 : decode cX2_atom 28 = .ok (.iload_n 3, 1) := dz_b29 (by decide +kernel)
theorem dX2_atom_29 : decode cX2_atom 29 = .ok (.invokevirtual 56, 3) := dz_b182 (by decide +kernel)
theorem dX2_atom_32 : decode cX2_atom 32 = .ok (.ifCond .eq 7, 3) := dz_b153 (by decide +kernel)
theorem dX2_atom_35 : decode cX2_atom 35 = .ok (.iconst 1, 1) := dz_b4 (by decide +kernel)
theorem dX2_atom_36 : decode cX2_atom 36 = .ok (.goto 4, 3) := dz_b167 (by decide +kernel)
theorem dX2_atom_39 : decode cX2_atom 39 = .ok (.iconst 0, 1) := dz_b3 (by decide +kernel)
theorem dX2_atom_40 : decode cX2_atom 40 = .ok (.ireturn, 1) := dz_b172 (by decide +kernel)
theorem dX2_atom_41 : decode cX2_atom 41 = .ok (.iload_n 2, 1) := dz_b28 (by decide +kernel)
theorem dX2_atom_42 : decode cX2_atom 42 = .ok (.bipush 100, 2) := dz_b16 (by decide +kernel)
theorem dX2_atom_44 : decode cX2_atom 44 = .ok (.if_icmp .eq 27, 3) := dz_b159 (by decide +kernel)
theorem dX2_atom_47 : decode cX2_atom 47 = .ok (.iload_n 2, 1) := dz_b28 (by decide +kernel)
theorem dX2_atom_48 : decode cX2_atom 48 = .ok (.bipush 119, 2) := dz_b16 (by decide +kernel)
theorem dX2_atom_50 : decode cX2_atom 50 = .ok (.if_icmp .eq 21, 3) := dz_b159 (by decide +kernel)
theorem dX2_atom_53 : decode cX2_atom 53 = .ok (.iload_n 2, 1) := dz_b28 (by decide +kernel)
theorem dX2_atom_54 : decode cX2_atom 54 = .ok (.bipush 109, 2) := dz_b16 (by decide +kernel)
theorem dX2_atom_56 : decode cX2_atom 56 = .ok (.if_icmp .eq 15, 3) := dz_b159 (by decide +kernel)
theorem dX2_atom_59 : decode cX2_atom 59 = .ok (.iload_n 2, 1) := dz_b28 (by decide +kernel)
theorem dX2_atom_60 : decode cX2_atom 60 = .ok (.bipush 110, 2) := dz_b16 (by decide +kernel)
theorem dX2_atom_62 : decode cX2_atom 62 = .ok (.if_icmp .eq 9, 3) := dz_b159 (by decide +kernel)
theorem dX2_atom_65 : decode cX2_atom 65 = .ok (.iload_n 2, 1) := dz_b28 (by decide +kernel)
theorem dX2_atom_66 : decode cX2_atom 66 = .ok (.bipush 111, 2) := dz_b16 (by decide +kernel)
theorem dX2_atom_68 : decode cX2_atom 68 = .ok (.if_icmp .ne 20, 3) := dz_b160 (by decide +kernel)
theorem dX2_atom_71 : decode cX2_atom 71 = .ok (.aload_n 0, 1) := dz_b42 (by decide +kernel)
theorem dX2_atom_72 : decode cX2_atom 72 = .ok (.dup, 1) := dz_b89 (by decide +kernel)
theorem dX2_atom_73 : decode cX2_atom 73 = .ok (.getfield 68, 3) := dz_b180 (by decide +kernel)
theorem dX2_atom_76 : decode cX2_atom 76 = .ok (.iconst 1, 1) := dz_b4 (by decide +kernel)
theorem dX2_atom_77 : decode cX2_atom 77 = .ok (.iadd, 1) := dz_b96 (by decide +kernel)
theorem dX2_atom_78 : decode cX2_atom 78 = .ok (.putfield 68, 3) := dz_b181 (by decide +kernel)
theorem dX2_atom_81 : decode cX2_atom 81 = .ok (.aload_n 0, 1) := dz_b42 (by decide +kernel)
theorem dX2_atom_82 : decode cX2_atom 82 = .ok (.iload_n 2, 1) := dz_b28 (by decide +kernel)
theorem dX2_atom_83 : decode cX2_atom 83 = .ok (.ineg, 1) := dz_b116 (by decide +kernel)
theorem dX2_atom_84 : decode cX2_atom 84 = .ok (.invokevirtual 56, 3) := dz_b182 (by decide +kernel)
theorem dX2_atom_87 : decode cX2_atom 87 = .ok (.ireturn, 1) := dz_b172 (by decide +kernel)
theorem dX2_atom_88 : decode cX2_atom 88 = .ok (.iload_n 2, 1) := dz_b28 (by decide +kernel)
theorem dX2_atom_89 : decode cX2_atom 89 = .ok (.bipush 91, 2) := dz_b16 (by decide +kernel)
theorem dX2_atom_91 : decode cX2_atom 91 = .ok (.if_icmp .ne 9, 3) := dz_b160 (by decide +kernel)
theorem dX2_atom_94 : decode cX2_atom 94 = .ok (.iload_n 1, 1) := dz_b27 (by decide +kernel)
theorem dX2_atom_95 : decode cX2_atom 95 = .ok (.bipush 6, 2) := dz_b16 (by decide +kernel)
theorem dX2_atom_97 : decode cX2_atom 97 = .ok (.if_icmp .lt 8, 3) := dz_b161 (by decide +kernel)
theorem dX2_atom_100 : decode cX2_atom 100 = .ok (.aload_n 0, 1) := dz_b42 (by decide +kernel)
theorem dX2_atom_101 : decode cX2_atom 101 = .ok (.invokevirtual 36, 3) := dz_b182 (by decide +kernel)
theorem dX2_atom_104 : decode cX2_atom 104 = .ok (.ireturn, 1) := dz_b172 (by decide +kernel)
theorem dX2_atom_105 : decode cX2_atom 105 = .ok (.aload_n 0, 1) := dz_b42 (by decide +kernel)
theorem dX2_atom_106 : decode cX2_atom 106 = .ok (.dup, 1) := dz_b89 (by decide +kernel)
theorem dX2_atom_107 : decode cX2_atom 107 = .ok (.getfield 68, 3) := dz_b180 (by decide +kernel)
theorem dX2_atom_110 : decode cX2_atom 110 = .ok (.iconst 1, 1) := dz_b4 (by decide +kernel)
theorem dX2_atom_111 : decode cX2_atom 111 = .ok (.iadd, 1) := dz_b96 (by decide +kernel)
theorem dX2_atom_112 : decode cX2_atom 112 = .ok (.putfield 68, 3) := dz_b181 (by decide +kernel)
theorem dX2_atom_115 : decode cX2_atom 115 = .ok (.aload_n 0, 1) := dz_b42 (by decide +kernel)
theorem dX2_atom_116 : decode cX2_atom 116 = .ok (.iload_n 1, 1) := dz_b27 (by decide +kernel)
theorem dX2_atom_117 : decode cX2_atom 117 = .ok (.iconst 1, 1) := dz_b4 (by decide +kernel)
theorem dX2_atom_118 : decode cX2_atom 118 = .ok (.iadd, 1) := dz_b96 (by decide +kernel)
theorem dX2_atom_119 : decode cX2_atom 119 = .ok (.invokevirtual 50, 3) := dz_b182 (by decide +kernel)
theorem dX2_atom_122 : decode cX2_atom 122 = .ok (.ifCond .eq 23, 3) := dz_b153 (by decide +kernel)
theorem dX2_atom_125 : decode cX2_atom 125 = .ok (.aload_n 0, 1) := dz_b42 (by decide +kernel)
theorem dX2_atom_126 : decode cX2_atom 126 = .ok (.bipush 93, 2) := dz_b16 (by decide +kernel)
theorem dX2_atom_128 : decode cX2_atom 128 = .ok (.invokevirtual 32, 3) := dz_b182 (by decide +kernel)
theorem dX2_atom_131 : decode cX2_atom 131 = .ok (.ifCond .ne 10, 3) := dz_b154 (by decide +kernel)
theorem dX2_atom_134 : decode cX2_atom 134 = .ok (.aload_n 0, 1) := dz_b42 (by decide +kernel)
theorem dX2_atom_135 : decode cX2_atom 135 = .ok (.invokevirtual 36, 3) := dz_b182 (by decide +kernel)
theorem dX2_atom_138 : decode cX2_atom 138 = .ok (.ifCond .eq 7, 3) := dz_b153 (by decide +kernel)
theorem dX2_atom_141 : decode cX2_atom 141 = .ok (.iconst 1, 1) := dz_b4 (by decide +kernel)
theorem dX2_atom_142 : decode cX2_atom 142 = .ok (.goto 4, 3) := dz_b167 (by decide +kernel)
theorem dX2_atom_145 : decode cX2_atom 145 = .ok (.iconst 0, 1) := dz_b3 (by decide +kernel)
theorem dX2_atom_146 : decode cX2_atom 146 = .ok (.ireturn, 1) := dz_b172 (by decide +kernel)
theorem dX3_init_0 : decode cX3_init 0 = .ok (.aload_n 0, 1) := dz_b42 (by decide +kernel)
theorem dX3_init_1 : decode cX3_init 1 = .ok (.invokespecial 3, 3) := dz_b183 (by decide +kernel)
theorem dX3_init_4 : decode cX3_init 4 = .ok (.aload_n 0, 1) := dz_b42 (by decide +kernel)
theorem dX3_init_5 : decode cX3_init 5 = .ok (.bipush 31, 2) := dz_b16 (by decide +kernel)
theorem dX3_init_7 : decode cX3_init 7 = .ok (.newarray .int, 2) := by decide +kernel
theorem dX3_init_9 : decode cX3_init 9 = .ok (.putfield 9, 3) := dz_b181 (by decide +kernel)
theorem dX3_init_12 : decode cX3_init 12 = .ok (.aload_n 0, 1) := dz_b42 (by decide +kernel)
theorem dX3_init_13 : decode cX3_init 13 = .ok (.bipush 31, 2) := dz_b16 (by decide +kernel)
theorem dX3_init_15 : decode cX3_init 15 = .ok (.newarray .int, 2) := by decide +kernel
theorem dX3_init_17 : decode cX3_init 17 = .ok (.putfield 15, 3) := dz_b181 (by decide +kernel)
theorem dX3_init_20 : decode cX3_init 20 = .ok (.aload_n 0, 1) := dz_b42 (by decide +kernel)
theorem dX3_init_21 : decode cX3_init 21 = .ok (.bipush 6, 2) := dz_b16 (by decide +kernel)
theorem dX3_init_23 : decode cX3_init 23 = .ok (.newarray .int, 2) := by decide +kernel
theorem dX3_init_25 : decode cX3_init 25 = .ok (.putfield 18, 3) := dz_b181 (by decide +kernel)
theorem dX3_init_28 : decode cX3_init 28 = .ok (.return_, 1) := dz_b177 (by decide +kernel)
theorem dX3_find_0 : decode cX3_find 0 = .ok (.aload_n 0, 1) := dz_b42 (by decide +kernel)
theorem dX3_find_1 : decode cX3_find 1 = .ok (.getfield 9, 3) := dz_b180 (by decide +kernel)
theorem dX3_find_4 : decode cX3_find 4 = .ok (.ldc 21, 2) := dz_b18 (by decide +kernel)
theorem dX3_find_6 : decode cX3_find 6 = .ok (.invokestatic 22, 3) := dz_b184 (by decide +kernel)
theorem dX3_find_9 : decode cX3_find 9 = .ok (.aload_n 0, 1) := dz_b42 (by decide +kernel)
theorem dX3_find_10 : decode cX3_find 10 = .ok (.getfield 9, 3) := dz_b180 (by decide +kernel)
theorem dX3_find_13 : decode cX3_find 13 = .ok (.iconst 0, 1) := dz_b3 (by decide +kernel)
theorem dX3_find_14 : decode cX3_find 14 = .ok (.iconst 0, 1) := dz_b3 (by decide +kernel)
theorem dX3_find_15 : decode cX3_find 15 = .ok (.iastore, 1) := dz_b79 (by decide +kernel)
theorem dX3_find_16 : decode cX3_find 16 = .ok (.aload_n 0, 1) := dz_b42 (by decide +kernel)
theorem dX3_find_17 : decode cX3_find 17 = .ok (.getfield 15, 3) := dz_b180 (by decide +kernel)
theorem dX3_find_20 : decode cX3_find 20 = .ok (.iconst 0, 1) := dz_b3 (by decide +kernel)
theorem dX3_find_21 : decode cX3_find 21 = .ok (.iconst 0, 1) := dz_b3 (by decide +kernel)
theorem dX3_find_22 : decode cX3_find 22 = .ok (.iastore, 1) := dz_b79 (by decide +kernel)
theorem dX3_find_23 : decode cX3_find 23 = .ok (.aload_n 0, 1) := dz_b42 (by decide +kernel)
theorem dX3_find_24 : decode cX3_find 24 = .ok (.ldc 21, 2) := dz_b18 (by decide +kernel)
theorem dX3_find_26 : decode cX3_find 26 = .ok (.putfield 28, 3) := dz_b181 (by decide +kernel)
theorem dX3_find_29 : decode cX3_find 29 = .ok (.aload_n 0, 1) := dz_b42 (by decide +kernel)
theorem dX3_find_30 : decode cX3_find 30 = .ok (.iconst 0, 1) := dz_b3 (by decide +kernel)
theorem dX3_find_31 : decode cX3_find 31 = .ok (.putfield 32, 3) := dz_b181 (by decide +kernel)
theorem dX3_find_34 : decode cX3_find 34 = .ok (.iconst 0, 1) := dz_b3 (by decide +kernel)
theorem dX3_find_35 : decode cX3_find 35 = .ok (.istore 4, 2) := dz_b54 (by decide +kernel)
theorem dX3_find_37 : decode cX3_find 37 = .ok (.iload 4, 2) := dz_b21 (by decide +kernel)
theorem dX3_find_39 : decode cX3_find 39 = .ok (.aload_n 2, 1) := dz_b44 (by decide +kernel)
theorem dX3_find_40 : decode cX3_find 40 = .ok (.getfield 35, 3) := dz_b180 (by decide +kernel)
theorem dX3_find_43 : decode cX3_find 43 = .ok (.if_icmp .ge 37, 3) := dz_b162 (by decide +kernel)
theorem dX3_find_46 : decode cX3_find 46 = .ok (.iload 4, 2) := dz_b21 (by decide +kernel)
theorem dX3_find_48 : decode cX3_find 48 = .ok (.bipush 30, 2) := dz_b16 (by decide +kernel)
theorem dX3_find_50 : decode cX3_find 50 = .ok (.if_icmp .ge 30, 3) := dz_b162 (by decide +kernel)
theorem dX3_find_53 : decode cX3_find 53 = .ok (.aload_n 0, 1) := dz_b42 (by decide +kernel)
theorem dX3_find_54 : decode cX3_find 54 = .ok (.getfield 9, 3) := dz_b180 (by decide +kernel)
theorem dX3_find_57 : decode cX3_find 57 = .ok (.iload 4, 2) := dz_b21 (by decide +kernel)
theorem dX3_find_59 : decode cX3_find 59 = .ok (.iaload, 1) := dz_b46 (by decide +kernel)
theorem dX3_find_60 : decode cX3_find 60 = .ok (.ldc 21, 2) := dz_b18 (by decide +kernel)
theorem dX3_find_62 : decode cX3_find 62 = .ok (.if_icmp .ge 12, 3) := dz_b162 (by decide +kernel)
theorem dX3_find_65 : decode cX3_find 65 = .ok (.aload_n 0, 1) := dz_b42 (by decide +kernel)
theorem dX3_find_66 : decode cX3_find 66 = .ok (.iload 4, 2) := dz_b21 (by decide +kernel)
theorem dX3_find_68 : decode cX3_find 68 = .ok (.aload_n 1, 1) := dz_b43 (by decide +kernel)
theorem dX3_find_69 : decode cX3_find 69 = .ok (.aload_n 2, 1) := dz_b44 (by decide +kernel)
theorem dX3_find_70 : decode cX3_find 70 = .ok (.iload_n 3, 1) := dz_b29 (by decide +kernel)
theorem dX3_find_71 : decode cX3_find 71 = .ok (.invokevirtual 40, 3) := dz_b182 (by decide +kernel)
theorem dX3_find_74 : decode cX3_find 74 = .ok (.iinc 4 1, 3) := by decide +kernel
theorem dX3_find_77 : decode cX3_find 77 = .ok (.goto (-40), 3) := dz_b167 (by decide +kernel)
theorem dX3_find_80 : decode cX3_find 80 = .ok (.aload_n 0, 1) := dz_b42 (by decide +kernel)
theorem dX3_find_81 : decode cX3_find 81 = .ok (.getfield 28, 3) := dz_b180 (by decide +kernel)
theorem dX3_find_84 : decode cX3_find 84 = .ok (.ldc 21, 2) := dz_b18 (by decide +kernel)
theorem dX3_find_86 : decode cX3_find 86 = .ok (.if_icmp .ge 7, 3) := dz_b162 (by decide +kernel)
theorem dX3_find_89 : decode cX3_find 89 = .ok (.iconst 1, 1) := dz_b4 (by decide +kernel)
theorem dX3_find_90 : decode cX3_find 90 = .ok (.goto 4, 3) := dz_b167 (by decide +kernel)
theorem dX3_find_93 : decode cX3_find 93 = .ok (.iconst 0, 1) := dz_b3 (by decide +kernel)
theorem dX3_find_94 : decode cX3_find 94 = .ok (.ireturn, 1) := dz_b172 (by decide +kernel)
theorem dX3_goOnFrom_0 : decode cX3_goOnFrom 0 = .ok (.aload_n 0, 1) := dz_b42 (by decide +kernel)
theorem dX3_goOnFrom_1 : decode cX3_goOnFrom 1 = .ok (.getfield 18, 3) := dz_b180 (by decide +kernel)
theorem dX3_goOnFrom_4 : decode cX3_goOnFrom 4 = .ok (.iconst 0, 1) := dz_b3 (by decide +kernel)
theorem dX3_goOnFrom_5 : decode cX3_goOnFrom 5 = .ok (.invokestatic 22, 3) := dz_b184 (by decide +kernel)
theorem dX3_goOnFrom_8 : decode cX3_goOnFrom 8 = .ok (.iload_n 1, 1) := dz_b27 (by decide +kernel)
theorem dX3_goOnFrom_9 : decode cX3_goOnFrom 9 = .ok (.istore 5, 2) := dz_b54 (by decide +kernel)
theorem dX3_goOnFrom_11 : decode cX3_goOnFrom 11 = .ok (.iload 5, 2) := dz_b21 (by decide +kernel)
theorem dX3_goOnFrom_13 : decode cX3_goOnFrom 13 = .ok (.aload_n 3, 1) := dz_b45 (by decide +kernel)
theorem dX3_goOnFrom_14 : decode cX3_goOnFrom 14 = .ok (.getfield 35, 3) := dz_b180 (by decide +kernel)
theorem dX3_goOnFrom_17 : decode cX3_goOnFrom 17 = .ok (.if_icmp .ge 85, 3) := dz_b162 (by decide +kernel)
theorem dX3_goOnFrom_20 : decode cX3_goOnFrom 20 = .ok (.iload 5, 2) := dz_b21 (by decide +kernel)
theorem dX3_goOnFrom_22 : decode cX3_goOnFrom 22 = .ok (.bipush 30, 2) := dz_b16 (by decide +kernel)
theorem dX3_goOnFrom_24 : decode cX3_goOnFrom 24 = .ok (.if_icmp .ge 78, 3) := dz_b162 (by decide +kernel)
theorem dX3_goOnFrom_27 : decode cX3_goOnFrom 27 = .ok (.aload_n 0, 1) := dz_b42 (by decide +kernel)
theorem dX3_goOnFrom_28 : decode cX3_goOnFrom 28 = .ok (.iload 5, 2) := dz_b21 (by decide +kernel)
theorem dX3_goOnFrom_30 : decode cX3_goOnFrom 30 = .ok (.aload_n 2, 1) := dz_b44 (by decide +kernel)
theorem dX3_goOnFrom_31 : decode cX3_goOnFrom 31 = .ok (.aload_n 3, 1) := dz_b45 (by decide +kernel)
theorem dX3_goOnFrom_32 : decode cX3_goOnFrom 32 = .ok (.invokevirtual 44, 3) := dz_b182 (by decide +kernel)
theorem dX3_goOnFrom_35 : decode cX3_goOnFrom 35 = .ok (.iload 4, 2) := dz_b21 (by decide +kernel)
theorem dX3_goOnFrom_37 : decode cX3_goOnFrom 37 = .ok (.if_icmp .le 4, 3) := dz_b164 (by decide +kernel)
theorem dX3_goOnFrom_40 : decode cX3_goOnFrom 40 = .ok (.return_, 1) := dz_b177 (by decide +kernel)
theorem dX3_goOnFrom_41 : decode cX3_goOnFrom 41 = .ok (.iload 5, 2) := dz_b21 (by decide +kernel)
theorem dX3_goOnFrom_43 : decode cX3_goOnFrom 43 = .ok (.aload_n 3, 1) := dz_b45 (by decide +kernel)
theorem dX3_goOnFrom_44 : decode cX3_goOnFrom 44 = .ok (.getfield 35, 3) := dz_b180 (by decide +kernel)
theorem dX3_goOnFrom_47 : decode cX3_goOnFrom 47 = .ok (.iconst 1, 1) := dz_b4 (by decide +kernel)
theorem dX3_goOnFrom_48 : decode cX3_goOnFrom 48 = .ok (.isub, 1) := dz_b100 (by decide +kernel)
theorem dX3_goOnFrom_49 : decode cX3_goOnFrom 49 = .ok (.if_icmp .ne 22, 3) := dz_b160 (by decide +kernel)
theorem dX3_goOnFrom_52 : decode cX3_goOnFrom 52 = .ok (.aload_n 0, 1) := dz_b42 (by decide +kernel)
theorem dX3_goOnFrom_53 : decode cX3_goOnFrom 53 = .ok (.aload_n 0, 1) := dz_b42 (by decide +kernel)
theorem dX3_goOnFrom_54 : decode cX3_goOnFrom 54 = .ok (.getfield 9, 3) := dz_b180 (by decide +kernel)
theorem dX3_goOnFrom_57 : decode cX3_goOnFrom 57 = .ok (.iload_n 1, 1) := dz_b27 (by decide +kernel)
theorem dX3_goOnFrom_58 : decode cX3_goOnFrom 58 = .ok (.iaload, 1) := dz_b46 (by decide +kernel)
theorem dX3_goOnFrom_59 : decode cX3_goOnFrom 59 = .ok (.aload_n 0, 1) := dz_b42 (by decide +kernel)
theorem dX3_goOnFrom_60 : decode cX3_goOnFrom 60 = .ok (.getfield 15, 3) := dz_b180 (by decide +kernel)
theorem dX3_goOnFrom_63 : decode cX3_goOnFrom 63 = .ok (.iload_n 1, 1) := dz_b27 (by decide +kernel)
theorem dX3_goOnFrom_64 : decode cX3_goOnFrom 64 = .ok (.iaload, 1) := dz_b46 (by decide +kernel)
theorem dX3_goOnFrom_65 : decode cX3_goOnFrom 65 = .ok (.invokevirtual 48, 3) := dz_b182 (by decide +kernel)
theorem dX3_goOnFrom_68 : decode cX3_goOnFrom 68 = .ok (.goto 28, 3) := dz_b167 (by decide +kernel)
theorem dX3_goOnFrom_71 : decode cX3_goOnFrom 71 = .ok (.aload_n 0, 1) := dz_b42 (by decide +kernel)
theorem dX3_goOnFrom_72 : decode cX3_goOnFrom 72 = .ok (.iload 5, 2) := dz_b21 (by decide +kernel)
theorem dX3_goOnFrom_74 : decode cX3_goOnFrom 74 = .ok (.aload_n 0, 1) := dz_b42 (by decide +kernel)
theorem dX3_goOnFrom_75 : decode cX3_goOnFrom 75 = .ok (.getfield 9, 3) := dz_b180 (by decide +kernel)
theorem dX3_goOnFrom_78 : decode cX3_goOnFrom 78 = .ok (.iload_n 1, 1) := dz_b27 (by decide +kernel)
theorem dX3_goOnFrom_79 : decode cX3_goOnFrom 79 = .ok (.iaload, 1) := dz_b46 (by decide +kernel)
theorem dX3_goOnFrom_80 : decode cX3_goOnFrom 80 = .ok (.iconst 1, 1) := dz_b4 (by decide +kernel)
theorem dX3_goOnFrom_81 : decode cX3_goOnFrom 81 = .ok (.iadd, 1) := dz_b96 (by decide +kernel)
theorem dX3_goOnFrom_82 : decode cX3_goOnFrom 82 = .ok (.aload_n 0, 1) := dz_b42 (by decide +kernel)
theorem dX3_goOnFrom_83 : decode cX3_goOnFrom 83 = .ok (.getfield 15, 3) := dz_b180 (by decide +kernel)
theorem dX3_goOnFrom_86 : decode cX3_goOnFrom 86 = .ok (.iload_n 1, 1) := dz_b27 (by decide +kernel)
theorem dX3_goOnFrom_87 : decode cX3_goOnFrom 87 = .ok (.iaload, 1) := dz_b46 (by decide +kernel)
theorem dX3_goOnFrom_88 : decode cX3_goOnFrom 88 = .ok (.iconst 1, 1) := dz_b4 (by decide +kernel)
theorem dX3_goOnFrom_89 : decode cX3_goOnFrom 89 = .ok (.iload 5, 2) := dz_b21 (by decide +kernel)
theorem dX3_goOnFrom_91 : decode cX3_goOnFrom 91 = .ok (.ishl, 1) := dz_b120 (by decide +kernel)
theorem dX3_goOnFrom_92 : decode cX3_goOnFrom 92 = .ok (.ior, 1) := dz_b128 (by decide +kernel)
theorem dX3_goOnFrom_93 : decode cX3_goOnFrom 93 = .ok (.invokevirtual 52, 3) := dz_b182 (by decide +kernel)
theorem dX3_goOnFrom_96 : decode cX3_goOnFrom 96 = .ok (.iinc 5 1, 3) := by decide +kernel
theorem dX3_goOnFrom_99 : decode cX3_goOnFrom 99 = .ok (.goto (-88), 3) := dz_b167 (by decide +kernel)
theorem dX3_goOnFrom_102 : decode cX3_goOnFrom 102 = .ok (.return_, 1) := dz_b177 (by decide +kernel)
theorem dX3_spreadBehind_0 : decode cX3_spreadBehind 0 = .ok (.iconst 0, 1) := dz_b3 (by decide +kernel)
theorem dX3_spreadBehind_1 : decode cX3_spreadBehind 1 = .ok (.istore 4, 2) := dz_b54 (by decide +kernel)
theorem dX3_spreadBehind_3 : decode cX3_spreadBehind 3 = .ok (.ldc 21, 2) := dz_b18 (by decide +kernel)
theorem dX3_spreadBehind_5 : decode cX3_spreadBehind 5 = .ok (.istore 5, 2) := dz_b54 (by decide +kernel)
theorem dX3_spreadBehind_7 : decode cX3_spreadBehind 7 = .ok (.iconst 0, 1) := dz_b3 (by decide +kernel)
theorem dX3_spreadBehind_8 : decode cX3_spreadBehind 8 = .ok (.istore 6, 2) := dz_b54 (by decide +kernel)
theorem dX3_spreadBehind_10 : decode cX3_spreadBehind 10 = .ok (.iload 6, 2) := dz_b21 (by decide +kernel)
theorem dX3_spreadBehind_12 : decode cX3_spreadBehind 12 = .ok (.aload_n 3, 1) := dz_b45 (by decide +kernel)
theorem dX3_spreadBehind_13 : decode cX3_spreadBehind 13 = .ok (.getfield 56, 3) := dz_b180 (by decide +kernel)
theorem dX3_spreadBehind_16 : decode cX3_spreadBehind 16 = .ok (.if_icmp .ge 62, 3) := dz_b162 (by decide +kernel)
theorem dX3_spreadBehind_19 : decode cX3_spreadBehind 19 = .ok (.aload_n 0, 1) := dz_b42 (by decide +kernel)
theorem dX3_spreadBehind_20 : decode cX3_spreadBehind 20 = .ok (.getfield 18, 3) := dz_b180 (by decide +kernel)
theorem dX3_spreadBehind_23 : decode cX3_spreadBehind 23 = .ok (.iload 6, 2) := dz_b21 (by decide +kernel)
theorem dX3_spreadBehind_25 : decode cX3_spreadBehind 25 = .ok (.dup2, 1) := dz_b92 (by decide +kernel)
theorem dX3_spreadBehind_26 : decode cX3_spreadBehind 26 = .ok (.iaload, 1) := dz_b46 (by decide +kernel)
theorem dX3_spreadBehind_27 : decode cX3_spreadBehind 27 = .ok (.aload_n 2, 1) := dz_b44 (by decide +kernel)
theorem dX3_spreadBehind_28 : decode cX3_spreadBehind 28 = .ok (.iload 6, 2) := dz_b21 (by decide +kernel)
theorem dX3_spreadBehind_30 : decode cX3_spreadBehind 30 = .ok (.iload_n 1, 1) := dz_b27 (by decide +kernel)
theorem dX3_spreadBehind_31 : decode cX3_spreadBehind 31 = .ok (.invokevirtual 59, 3) := dz_b182 (by decide +kernel)
theorem dX3_spreadBehind_34 : decode cX3_spreadBehind 34 = .ok (.aload_n 3, 1) := dz_b45 (by decide +kernel)
theorem dX3_spreadBehind_35 : decode cX3_spreadBehind 35 = .ok (.getfield 65, 3) := dz_b180 (by decide +kernel)
theorem dX3_spreadBehind_38 : decode cX3_spreadBehind 38 = .ok (.iload 6, 2) := dz_b21 (by decide +kernel)
theorem dX3_spreadBehind_40 : decode cX3_spreadBehind 40 = .ok (.iaload, 1) := dz_b46 (by decide +kernel)
theorem dX3_spreadBehind_41 : decode cX3_spreadBehind 41 = .ok (.iadd, 1) := dz_b96 (by decide +kernel)
theorem dX3_spreadBehind_42 : decode cX3_spreadBehind 42 = .ok (.iadd, 1) := dz_b96 (by decide +kernel)
theorem dX3_spreadBehind_43 : decode cX3_spreadBehind 43 = .ok (.iastore, 1) := dz_b79 (by decide +kernel)
theorem dX3_spreadBehind_44 : decode cX3_spreadBehind 44 = .ok (.iload 4, 2) := dz_b21 (by decide +kernel)
theorem dX3_spreadBehind_46 : decode cX3_spreadBehind 46 = .ok (.aload_n 0, 1) := dz_b42 (by decide +kernel)
theorem dX3_spreadBehind_47 : decode cX3_spreadBehind 47 = .ok (.getfield 18, 3) := dz_b180 (by decide +kernel)
theorem dX3_spreadBehind_50 : decode cX3_spreadBehind 50 = .ok (.iload 6, 2) := dz_b21 (by decide +kernel)
theorem dX3_spreadBehind_52 : decode cX3_spreadBehind 52 = .ok (.iaload, 1) := dz_b46 (by decide +kernel)
theorem dX3_spreadBehind_53 : decode cX3_spreadBehind 53 = .ok (.invokestatic 68, 3) := dz_b184 (by decide +kernel)
theorem dX3_spreadBehind_56 : decode cX3_spreadBehind 56 = .ok (.istore 4, 2) := dz_b54 (by decide +kernel)
theorem dX3_spreadBehind_58 : decode cX3_spreadBehind 58 = .ok (.iload 5, 2) := dz_b21 (by decide +kernel)
theorem dX3_spreadBehind_60 : decode cX3_spreadBehind 60 = .ok (.aload_n 0, 1) := dz_b42 (by decide +kernel)
theorem dX3_spreadBehind_61 : decode cX3_spreadBehind 61 = .ok (.getfield 18, 3) := dz_b180 (by decide +kernel)
theorem dX3_spreadBehind_64 : decode cX3_spreadBehind 64 = .ok (.iload 6, 2) := dz_b21 (by decide +kernel)
theorem dX3_spreadBehind_66 : decode cX3_spreadBehind 66 = .ok (.iaload, 1) := dz_b46 (by decide +kernel)
theorem dX3_spreadBehind_67 : decode cX3_spreadBehind 67 = .ok (.invokestatic 73, 3) := dz_b184 (by decide +kernel)
theorem dX3_spreadBehind_70 : decode cX3_spreadBehind 70 = .ok (.istore 5, 2) := dz_b54 (by decide +kernel)
theorem dX3_spreadBehind_72 : decode cX3_spreadBehind 72 = .ok (.iinc 6 1, 3) := by decide +kernel
theorem dX3_spreadBehind_75 : decode cX3_spreadBehind 75 = .ok (.goto (-65), 3) := dz_b167 (by decide +kernel)
theorem dX3_spreadBehind_78 : decode cX3_spreadBehind 78 = .ok (.iload 4, 2) := dz_b21 (by decide +kernel)
theorem dX3_spreadBehind_80 : decode cX3_spreadBehind 80 = .ok (.iload 5, 2) := dz_b21 (by decide +kernel)
theorem dX3_spreadBehind_82 : decode cX3_spreadBehind 82 = .ok (.isub, 1) := dz_b100 (by decide +kernel)
theorem dX3_spreadBehind_83 : decode cX3_spreadBehind 83 = .ok (.ireturn, 1) := dz_b172 (by decide +kernel)
theorem dX3_endBetter_0 : decode cX3_endBetter 0 = .ok (.iload_n 1, 1) := dz_b27 (by decide +kernel)
theorem dX3_endBetter_1 : decode cX3_endBetter 1 = .ok (.aload_n 0, 1) := dz_b42 (by decide +kernel)
theorem dX3_endBetter_2 : decode cX3_endBetter 2 = .ok (.getfield 28, 3) := dz_b180 (by decide +kernel)
theorem dX3_endBetter_5 : decode cX3_endBetter 5 = .ok (.if_icmp .lt 19, 3) := dz_b161 (by decide +kernel)
theorem dX3_endBetter_8 : decode cX3_endBetter 8 = .ok (.iload_n 1, 1) := dz_b27 (by decide +kernel)
theorem dX3_endBetter_9 : decode cX3_endBetter 9 = .ok (.aload_n 0, 1) := dz_b42 (by decide +kernel)
theorem dX3_endBetter_10 : decode cX3_endBetter 10 = .ok (.getfield 28, 3) := dz_b180 (by decide +kernel)
theorem dX3_endBetter_13 : decode cX3_endBetter 13 = .ok (.if_icmp .ne 21, 3) := dz_b160 (by decide +kernel)
theorem dX3_endBetter_16 : decode cX3_endBetter 16 = .ok (.iload_n 2, 1) := dz_b28 (by decide +kernel)
theorem dX3_endBetter_17 : decode cX3_endBetter 17 = .ok (.aload_n 0, 1) := dz_b42 (by decide +kernel)
theorem dX3_endBetter_18 : decode cX3_endBetter 18 = .ok (.getfield 32, 3) := dz_b180 (by decide +kernel)
theorem dX3_endBetter_21 : decode cX3_endBetter 21 = .ok (.if_icmp .ge 13, 3) := dz_b162 (by decide +kernel)
theorem dX3_endBetter_24 : decode cX3_endBetter 24 = .ok (.aload_n 0, 1) := dz_b42 (by decide +kernel)
theorem dX3_endBetter_25 : decode cX3_endBetter 25 = .ok (.iload_n 1, 1) := dz_b27 (by decide +kernel)
theorem dX3_endBetter_26 : decode cX3_endBetter 26 = .ok (.putfield 28, 3) := dz_b181 (by decide +kernel)
theorem dX3_endBetter_29 : decode cX3_endBetter 29 = .ok (.aload_n 0, 1) := dz_b42 (by decide +kernel)
theorem dX3_endBetter_30 : decode cX3_endBetter 30 = .ok (.iload_n 2, 1) := dz_b28 (by decide +kernel)
theorem dX3_endBetter_31 : decode cX3_endBetter 31 = .ok (.putfield 32, 3) := dz_b181 (by decide +kernel)
theorem dX3_endBetter_34 : decode cX3_endBetter 34 = .ok (.return_, 1) := dz_b177 (by decide +kernel)
theorem dX3_markBetter_0 : decode cX3_markBetter 0 = .ok (.iload_n 2, 1) := dz_b28 (by decide +kernel)
theorem dX3_markBetter_1 : decode cX3_markBetter 1 = .ok (.aload_n 0, 1) := dz_b42 (by decide +kernel)
theorem dX3_markBetter_2 : decode cX3_markBetter 2 = .ok (.getfield 9, 3) := dz_b180 (by decide +kernel)
theorem dX3_markBetter_5 : decode cX3_markBetter 5 = .ok (.iload_n 1, 1) := dz_b27 (by decide +kernel)
theorem dX3_markBetter_6 : decode cX3_markBetter 6 = .ok (.iconst 1, 1) := dz_b4 (by decide +kernel)
theorem dX3_markBetter_7 : decode cX3_markBetter 7 = .ok (.iadd, 1) := dz_b96 (by decide +kernel)
theorem dX3_markBetter_8 : decode cX3_markBetter 8 = .ok (.iaload, 1) := dz_b46 (by decide +kernel)
theorem dX3_markBetter_9 : decode cX3_markBetter 9 = .ok (.if_icmp .lt 27, 3) := dz_b161 (by decide +kernel)
theorem dX3_markBetter_12 : decode cX3_markBetter 12 = .ok (.iload_n 2, 1) := dz_b28 (by decide +kernel)
theorem dX3_markBetter_13 : decode cX3_markBetter 13 = .ok (.aload_n 0, 1) := dz_b42 (by decide +kernel)
theorem dX3_markBetter_14 : decode cX3_markBetter 14 = .ok (.getfield 9, 3) := dz_b180 (by decide +kernel)
theorem dX3_markBetter_17 : decode cX3_markBetter 17 = .ok (.iload_n 1, 1) := dz_b27 (by decide +kernel)
theorem dX3_markBetter_18 : decode cX3_markBetter 18 = .ok (.iconst 1, 1) := dz_b4 (by decide +kernel)
theorem dX3_markBetter_19 : decode cX3_markBetter 19 = .ok (.iadd, 1) := dz_b96 (by decide +kernel)
theorem dX3_markBetter_20 : decode cX3_markBetter 20 = .ok (.iaload, 1) := dz_b46 (by decide +kernel)
theorem dX3_markBetter_21 : decode cX3_markBetter 21 = .ok (.if_icmp .ne 33, 3) := dz_b160 (by decide +kernel)
theorem dX3_markBetter_24 : decode cX3_markBetter 24 = .ok (.iload_n 3, 1) := dz_b29 (by decide +kernel)
theorem dX3_markBetter_25 : decode cX3_markBetter 25 = .ok (.aload_n 0, 1) := dz_b42 (by decide +kernel)
theorem dX3_markBetter_26 : decode cX3_markBetter 26 = .ok (.getfield 15, 3) := dz_b180 (by decide +kernel)
theorem dX3_markBetter_29 : decode cX3_markBetter 29 = .ok (.iload_n 1, 1) := dz_b27 (by decide +kernel)
theorem dX3_markBetter_30 : decode cX3_markBetter 30 = .ok (.iconst 1, 1) := dz_b4 (by decide +kernel)
theorem dX3_markBetter_31 : decode cX3_markBetter 31 = .ok (.iadd, 1) := dz_b96 (by decide +kernel)
theorem dX3_markBetter_32 : decode cX3_markBetter 32 = .ok (.iaload, 1) := dz_b46 (by decide +kernel)
theorem dX3_markBetter_33 : decode cX3_markBetter 33 = .ok (.if_icmp .ge 21, 3) := dz_b162 (by decide +kernel)
theorem dX3_markBetter_36 : decode cX3_markBetter 36 = .ok (.aload_n 0, 1) := dz_b42 (by decide +kernel)
theorem dX3_markBetter_37 : decode cX3_markBetter 37 = .ok (.getfield 9, 3) := dz_b180 (by decide +kernel)
theorem dX3_markBetter_40 : decode cX3_markBetter 40 = .ok (.iload_n 1, 1) := dz_b27 (by decide +kernel)
theorem dX3_markBetter_41 : decode cX3_markBetter 41 = .ok (.iconst 1, 1) := dz_b4 (by decide +kernel)
theorem dX3_markBetter_42 : decode cX3_markBetter 42 = .ok (.iadd, 1) := dz_b96 (by decide +kernel)
theorem dX3_markBetter_43 : decode cX3_markBetter 43 = .ok (.iload_n 2, 1) := dz_b28 (by decide +kernel)
theorem dX3_markBetter_44 : decode cX3_markBetter 44 = .ok (.iastore, 1) := dz_b79 (by decide +kernel)
theorem dX3_markBetter_45 : decode cX3_markBetter 45 = .ok (.aload_n 0, 1) := dz_b42 (by decide +kernel)
theorem dX3_markBetter_46 : decode cX3_markBetter 46 = .ok (.getfield 15, 3) := dz_b180 (by decide +kernel)
theorem dX3_markBetter_49 : decode cX3_markBetter 49 = .ok (.iload_n 1, 1) := dz_b27 (by decide +kernel)
theorem dX3_markBetter_50 : decode cX3_markBetter 50 = .ok (.iconst 1, 1) := dz_b4 (by decide +kernel)
theorem dX3_markBetter_51 : decode cX3_markBetter 51 = .ok (.iadd, 1) := dz_b96 (by decide +kernel)
theorem dX3_markBetter_52 : decode cX3_markBetter 52 = .ok (.iload_n 3, 1) := dz_b29 (by decide +kernel)
theorem dX3_markBetter_53 : decode cX3_markBetter 53 = .ok (.iastore, 1) := dz_b79 (by decide +kernel)
theorem dX3_markBetter_54 : decode cX3_markBetter 54 = .ok (.return_, 1) := dz_b177 (by decide +kernel)
theorem dX4_init_0 : decode cX4_init 0 = .ok (.aload_n 0, 1) := dz_b42 (by decide +kernel)
theorem dX4_init_1 : decode cX4_init 1 = .ok (.invokespecial 3, 3) := dz_b183 (by decide +kernel)
theorem dX4_init_4 : decode cX4_init 4 = .ok (.aload_n 0, 1) := dz_b42 (by decide +kernel)
theorem dX4_init_5 : decode cX4_init 5 = .ok (.sipush 1206, 3) := dz_b17 (by decide +kernel)
theorem dX4_init_8 : decode cX4_init 8 = .ok (.newarray .int, 2) := by decide +kernel
theorem dX4_init_10 : decode cX4_init 10 = .ok (.putfield 11, 3) := dz_b181 (by decide +kernel)
theorem dX4_init_13 : decode cX4_init 13 = .ok (.aload_n 0, 1) := dz_b42 (by decide +kernel)
theorem dX4_init_14 : decode cX4_init 14 = .ok (.sipush 180, 3) := dz_b17 (by decide +kernel)
theorem dX4_init_17 : decode cX4_init 17 = .ok (.newarray .int, 2) := by decide +kernel
theorem dX4_init_19 : decode cX4_init 19 = .ok (.putfield 15, 3) := dz_b181 (by decide +kernel)
theorem dX4_init_22 : decode cX4_init 22 = .ok (.aload_n 0, 1) := dz_b42 (by decide +kernel)
theorem dX4_init_23 : decode cX4_init 23 = .ok (.bipush 6, 2) := dz_b16 (by decide +kernel)
theorem dX4_init_25 : decode cX4_init 25 = .ok (.newarray .int, 2) := by decide +kernel
theorem dX4_init_27 : decode cX4_init 27 = .ok (.putfield 18, 3) := dz_b181 (by decide +kernel)
theorem dX4_init_30 : decode cX4_init 30 = .ok (.aload_n 0, 1) := dz_b42 (by decide +kernel)
theorem dX4_init_31 : decode cX4_init 31 = .ok (.bipush 30, 2) := dz_b16 (by decide +kernel)
theorem dX4_init_33 : decode cX4_init 33 = .ok (.newarray .int, 2) := by decide +kernel
theorem dX4_init_35 : decode cX4_init 35 = .ok (.putfield 21, 3) := dz_b181 (by decide +kernel)
theorem dX4_init_38 : decode cX4_init 38 = .ok (.return_, 1) := dz_b177 (by decide +kernel)
theorem dX4_perform_0 : decode cX4_perform 0 = .ok (.aload_n 0, 1) := dz_b42 (by decide +kernel)
theorem dX4_perform_1 : decode cX4_perform 1 = .ok (.aload_n 1, 1) := dz_b43 (by decide +kernel)
theorem dX4_perform_2 : decode cX4_perform 2 = .ok (.invokevirtual 24, 3) := dz_b182 (by decide +kernel)
theorem dX4_perform_5 : decode cX4_perform 5 = .ok (.iconst 0, 1) := dz_b3 (by decide +kernel)
theorem dX4_perform_6 : decode cX4_perform 6 = .ok (.istore_n 3, 1) := dz_b62 (by decide +kernel)
theorem dX4_perform_7 : decode cX4_perform 7 = .ok (.iconst 0, 1) := dz_b3 (by decide +kernel)
theorem dX4_perform_8 : decode cX4_perform 8 = .ok (.istore 4, 2) := dz_b54 (by decide +kernel)
theorem dX4_perform_10 : decode cX4_perform 10 = .ok (.iload 4, 2) := dz_b21 (by decide +kernel)
theorem dX4_perform_12 : decode cX4_perform 12 = .ok (.aload_n 0, 1) := dz_b42 (by decide +kernel)
theorem dX4_perform_13 : decode cX4_perform 13 = .ok (.getfield 28, 3) := dz_b180 (by decide +kernel)
theorem dX4_perform_16 : decode cX4_perform 16 = .ok (.if_icmp .ge 52, 3) := dz_b162 (by decide +kernel)
theorem dX4_perform_19 : decode cX4_perform 19 = .ok (.iload 4, 2) := dz_b21 (by decide +kernel)
theorem dX4_perform_21 : decode cX4_perform 21 = .ok (.bipush 30, 2) := dz_b16 (by decide +kernel)
theorem dX4_perform_23 : decode cX4_perform 23 = .ok (.if_icmp .ge 45, 3) := dz_b162 (by decide +kernel)
theorem dX4_perform_26 : decode cX4_perform 26 = .ok (.iload 4, 2) := dz_b21 (by decide +kernel)
theorem dX4_perform_28 : decode cX4_perform 28 = .ok (.ifCond .le 10, 3) := dz_b158 (by decide +kernel)
theorem dX4_perform_31 : decode cX4_perform 31 = .ok (.aload_n 0, 1) := dz_b42 (by decide +kernel)
theorem dX4_perform_32 : decode cX4_perform 32 = .ok (.aload_n 1, 1) := dz_b43 (by decide +kernel)
theorem dX4_perform_33 : decode cX4_perform 33 = .ok (.iload 4, 2) := dz_b21 (by decide +kernel)
theorem dX4_perform_35 : decode cX4_perform 35 = .ok (.invokevirtual 32, 3) := dz_b182 (by decide +kernel)
theorem dX4_perform_38 : decode cX4_perform 38 = .ok (.aload_n 0, 1) := dz_b42 (by decide +kernel)
theorem dX4_perform_39 : decode cX4_perform 39 = .ok (.aload_n 1, 1) := dz_b43 (by decide +kernel)
theorem dX4_perform_40 : decode cX4_perform 40 = .ok (.iload 4, 2) := dz_b21 (by decide +kernel)
theorem dX4_perform_42 : decode cX4_perform 42 = .ok (.invokevirtual 36, 3) := dz_b182 (by decide +kernel)
theorem dX4_perform_45 : decode cX4_perform 45 = .ok (.istore 5, 2) := dz_b54 (by decide +kernel)
theorem dX4_perform_47 : decode cX4_perform 47 = .ok (.iload 5, 2) := dz_b21 (by decide +kernel)
theorem dX4_perform_49 : decode cX4_perform 49 = .ok (.iload_n 2, 1) := dz_b28 (by decide +kernel)
theorem dX4_perform_50 : decode cX4_perform 50 = .ok (.if_icmp .lt 5, 3) := dz_b161 (by decide +kernel)
theorem dX4_perform_53 : decode cX4_perform 53 = .ok (.iload_n 2, 1) := dz_b28 (by decide +kernel)
theorem dX4_perform_54 : decode cX4_perform 54 = .ok (.ireturn, 1) := dz_b172 (by decide +kernel)
theorem dX4_perform_55 : decode cX4_perform 55 = .ok (.iload_n 3, 1) := dz_b29 (by decide +kernel)
theorem dX4_perform_56 : decode cX4_perform 56 = .ok (.iload 5, 2) := dz_b21 (by decide +kernel)
theorem dX4_perform_58 : decode cX4_perform 58 = .ok (.invokestatic 40, 3) := dz_b184 (by decide +kernel)
theorem dX4_perform_61 : decode cX4_perform 61 = .ok (.istore_n 3, 1) := dz_b62 (by decide +kernel)
theorem dX4_perform_62 : decode cX4_perform 62 = .ok (.iinc 4 1, 3) := by decide +kernel
theorem dX4_perform_65 : decode cX4_perform 65 = .ok (.goto (-55), 3) := dz_b167 (by decide +kernel)
theorem dX4_perform_68 : decode cX4_perform 68 = .ok (.iload_n 3, 1) := dz_b29 (by decide +kernel)
theorem dX4_perform_69 : decode cX4_perform 69 = .ok (.ireturn, 1) := dz_b172 (by decide +kernel)
theorem dX4_open_0 : decode cX4_open 0 = .ok (.aload_n 0, 1) := dz_b42 (by decide +kernel)
theorem dX4_open_1 : decode cX4_open 1 = .ok (.aload_n 1, 1) := dz_b43 (by decide +kernel)
theorem dX4_open_2 : decode cX4_open 2 = .ok (.getfield 46, 3) := dz_b180 (by decide +kernel)
theorem dX4_open_5 : decode cX4_open 5 = .ok (.putfield 51, 3) := dz_b181 (by decide +kernel)
theorem dX4_open_8 : decode cX4_open 8 = .ok (.aload_n 0, 1) := dz_b42 (by decide +kernel)
theorem dX4_open_9 : decode cX4_open 9 = .ok (.aload_n 1, 1) := dz_b43 (by decide +kernel)
theorem dX4_open_10 : decode cX4_open 10 = .ok (.getfield 52, 3) := dz_b180 (by decide +kernel)
theorem dX4_open_13 : decode cX4_open 13 = .ok (.putfield 28, 3) := dz_b181 (by decide +kernel)
theorem dX4_open_16 : decode cX4_open 16 = .ok (.aload_n 0, 1) := dz_b42 (by decide +kernel)
theorem dX4_open_17 : decode cX4_open 17 = .ok (.aload_n 1, 1) := dz_b43 (by decide +kernel)
theorem dX4_open_18 : decode cX4_open 18 = .ok (.getfield 53, 3) := dz_b180 (by decide +kernel)
theorem dX4_open_21 : decode cX4_open 21 = .ok (.putfield 56, 3) := dz_b181 (by decide +kernel)
theorem dX4_open_24 : decode cX4_open 24 = .ok (.iconst 0, 1) := dz_b3 (by decide +kernel)
theorem dX4_open_25 : decode cX4_open 25 = .ok (.istore_n 2, 1) := dz_b61 (by decide +kernel)
theorem dX4_open_26 : decode cX4_open 26 = .ok (.iload_n 2, 1) := dz_b28 (by decide +kernel)
theorem dX4_open_27 : decode cX4_open 27 = .ok (.bipush 6, 2) := dz_b16 (by decide +kernel)
theorem dX4_open_29 : decode cX4_open 29 = .ok (.if_icmp .ge 28, 3) := dz_b162 (by decide +kernel)
theorem dX4_open_32 : decode cX4_open 32 = .ok (.aload_n 0, 1) := dz_b42 (by decide +kernel)
theorem dX4_open_33 : decode cX4_open 33 = .ok (.getfield 11, 3) := dz_b180 (by decide +kernel)
theorem dX4_open_36 : decode cX4_open 36 = .ok (.iload_n 2, 1) := dz_b28 (by decide +kernel)
theorem dX4_open_37 : decode cX4_open 37 = .ok (.aload_n 1, 1) := dz_b43 (by decide +kernel)
theorem dX4_open_38 : decode cX4_open 38 = .ok (.getfield 57, 3) := dz_b180 (by decide +kernel)
theorem dX4_open_41 : decode cX4_open 41 = .ok (.iload_n 2, 1) := dz_b28 (by decide +kernel)
theorem dX4_open_42 : decode cX4_open 42 = .ok (.iaload, 1) := dz_b46 (by decide +kernel)
theorem dX4_open_43 : decode cX4_open 43 = .ok (.iastore, 1) := dz_b79 (by decide +kernel)
theorem dX4_open_44 : decode cX4_open 44 = .ok (.aload_n 0, 1) := dz_b42 (by decide +kernel)
theorem dX4_open_45 : decode cX4_open 45 = .ok (.getfield 18, 3) := dz_b180 (by decide +kernel)
theorem dX4_open_48 : decode cX4_open 48 = .ok (.iload_n 2, 1) := dz_b28 (by decide +kernel)
theorem dX4_open_49 : decode cX4_open 49 = .ok (.iconst 0, 1) := dz_b3 (by decide +kernel)
theorem dX4_open_50 : decode cX4_open 50 = .ok (.iastore, 1) := dz_b79 (by decide +kernel)
theorem dX4_open_51 : decode cX4_open 51 = .ok (.iinc 2 1, 3) := by decide +kernel
theorem dX4_open_54 : decode cX4_open 54 = .ok (.goto (-28), 3) := dz_b167 (by decide +kernel)
theorem dX4_open_57 : decode cX4_open 57 = .ok (.return_, 1) := dz_b177 (by decide +kernel)
theorem dX4_goOn_0 : decode cX4_goOn 0 = .ok (.iload_n 2, 1) := dz_b28 (by decide +kernel)
theorem dX4_goOn_1 : decode cX4_goOn 1 = .ok (.bipush 6, 2) := dz_b16 (by decide +kernel)
theorem dX4_goOn_3 : decode cX4_goOn 3 = .ok (.imul, 1) := dz_b104 (by decide +kernel)
theorem dX4_goOn_4 : decode cX4_goOn 4 = .ok (.istore_n 3, 1) := dz_b62 (by decide +kernel)
theorem dX4_goOn_5 : decode cX4_goOn 5 = .ok (.iload_n 3, 1) := dz_b29 (by decide +kernel)
theorem dX4_goOn_6 : decode cX4_goOn 6 = .ok (.bipush 6, 2) := dz_b16 (by decide +kernel)
theorem dX4_goOn_8 : decode cX4_goOn 8 = .ok (.isub, 1) := dz_b100 (by decide +kernel)
theorem dX4_goOn_9 : decode cX4_goOn 9 = .ok (.istore 4, 2) := dz_b54 (by decide +kernel)
theorem dX4_goOn_11 : decode cX4_goOn 11 = .ok (.iload_n 2, 1) := dz_b28 (by decide +kernel)
theorem dX4_goOn_12 : decode cX4_goOn 12 = .ok (.iconst 1, 1) := dz_b4 (by decide +kernel)
theorem dX4_goOn_13 : decode cX4_goOn 13 = .ok (.isub, 1) := dz_b100 (by decide +kernel)
theorem dX4_goOn_14 : decode cX4_goOn 14 = .ok (.aload_n 1, 1) := dz_b43 (by decide +kernel)
theorem dX4_goOn_15 : decode cX4_goOn 15 = .ok (.getfield 58, 3) := dz_b180 (by decide +kernel)
theorem dX4_goOn_18 : decode cX4_goOn 18 = .ok (.isub, 1) := dz_b100 (by decide +kernel)
theorem dX4_goOn_19 : decode cX4_goOn 19 = .ok (.iconst 0, 1) := dz_b3 (by decide +kernel)
theorem dX4_goOn_20 : decode cX4_goOn 20 = .ok (.invokestatic 40, 3) := dz_b184 (by decide +kernel)
theorem dX4_goOn_23 : decode cX4_goOn 23 = .ok (.bipush 6, 2) := dz_b16 (by decide +kernel)
theorem dX4_goOn_25 : decode cX4_goOn 25 = .ok (.imul, 1) := dz_b104 (by decide +kernel)
theorem dX4_goOn_26 : decode cX4_goOn 26 = .ok (.istore 5, 2) := dz_b54 (by decide +kernel)
theorem dX4_goOn_28 : decode cX4_goOn 28 = .ok (.iconst 0, 1) := dz_b3 (by decide +kernel)
theorem dX4_goOn_29 : decode cX4_goOn 29 = .ok (.istore 6, 2) := dz_b54 (by decide +kernel)
theorem dX4_goOn_31 : decode cX4_goOn 31 = .ok (.iload 6, 2) := dz_b21 (by decide +kernel)
theorem dX4_goOn_33 : decode cX4_goOn 33 = .ok (.aload_n 0, 1) := dz_b42 (by decide +kernel)
theorem dX4_goOn_34 : decode cX4_goOn 34 = .ok (.getfield 51, 3) := dz_b180 (by decide +kernel)
theorem dX4_goOn_37 : decode cX4_goOn 37 = .ok (.if_icmp .ge 89, 3) := dz_b162 (by decide +kernel)
theorem dX4_goOn_40 : decode cX4_goOn 40 = .ok (.aload_n 0, 1) := dz_b42 (by decide +kernel)
theorem dX4_goOn_41 : decode cX4_goOn 41 = .ok (.getfield 11, 3) := dz_b180 (by decide +kernel)
theorem dX4_goOn_44 : decode cX4_goOn 44 = .ok (.iload 4, 2) := dz_b21 (by decide +kernel)
theorem dX4_goOn_46 : decode cX4_goOn 46 = .ok (.iload 6, 2) := dz_b21 (by decide +kernel)
theorem dX4_goOn_48 : decode cX4_goOn 48 = .ok (.iadd, 1) := dz_b96 (by decide +kernel)
theorem dX4_goOn_49 : decode cX4_goOn 49 = .ok (.iaload, 1) := dz_b46 (by decide +kernel)
theorem dX4_goOn_50 : decode cX4_goOn 50 = .ok (.istore 7, 2) := dz_b54 (by decide +kernel)
theorem dX4_goOn_52 : decode cX4_goOn 52 = .ok (.aload_n 1, 1) := dz_b43 (by decide +kernel)
theorem dX4_goOn_53 : decode cX4_goOn 53 = .ok (.getfield 61, 3) := dz_b180 (by decide +kernel)
theorem dX4_goOn_56 : decode cX4_goOn 56 = .ok (.iload 6, 2) := dz_b21 (by decide +kernel)
theorem dX4_goOn_58 : decode cX4_goOn 58 = .ok (.iaload, 1) := dz_b46 (by decide +kernel)
theorem dX4_goOn_59 : decode cX4_goOn 59 = .ok (.istore 8, 2) := dz_b54 (by decide +kernel)
theorem dX4_goOn_61 : decode cX4_goOn 61 = .ok (.iload 8, 2) := dz_b21 (by decide +kernel)
theorem dX4_goOn_63 : decode cX4_goOn 63 = .ok (.ifCond .lt 46, 3) := dz_b155 (by decide +kernel)
theorem dX4_goOn_66 : decode cX4_goOn 66 = .ok (.iload 8, 2) := dz_b21 (by decide +kernel)
theorem dX4_goOn_68 : decode cX4_goOn 68 = .ok (.bipush 6, 2) := dz_b16 (by decide +kernel)
theorem dX4_goOn_70 : decode cX4_goOn 70 = .ok (.if_icmp .ge 39, 3) := dz_b162 (by decide +kernel)
theorem dX4_goOn_73 : decode cX4_goOn 73 = .ok (.iload 7, 2) := dz_b21 (by decide +kernel)
theorem dX4_goOn_75 : decode cX4_goOn 75 = .ok (.aload_n 1, 1) := dz_b43 (by decide +kernel)
theorem dX4_goOn_76 : decode cX4_goOn 76 = .ok (.getfield 64, 3) := dz_b180 (by decide +kernel)
theorem dX4_goOn_79 : decode cX4_goOn 79 = .ok (.iload 6, 2) := dz_b21 (by decide +kernel)
theorem dX4_goOn_81 : decode cX4_goOn 81 = .ok (.iaload, 1) := dz_b46 (by decide +kernel)
theorem dX4_goOn_82 : decode cX4_goOn 82 = .ok (.aload_n 0, 1) := dz_b42 (by decide +kernel)
theorem dX4_goOn_83 : decode cX4_goOn 83 = .ok (.getfield 11, 3) := dz_b180 (by decide +kernel)
theorem dX4_goOn_86 : decode cX4_goOn 86 = .ok (.iload 5, 2) := dz_b21 (by decide +kernel)
theorem dX4_goOn_88 : decode cX4_goOn 88 = .ok (.iload 8, 2) := dz_b21 (by decide +kernel)
theorem dX4_goOn_90 : decode cX4_goOn 90 = .ok (.iadd, 1) := dz_b96 (by decide +kernel)
theorem dX4_goOn_91 : decode cX4_goOn 91 = .ok (.iaload, 1) := dz_b46 (by decide +kernel)
theorem dX4_goOn_92 : decode cX4_goOn 92 = .ok (.iload 7, 2) := dz_b21 (by decide +kernel)
theorem dX4_goOn_94 : decode cX4_goOn 94 = .ok (.isub, 1) := dz_b100 (by decide +kernel)
theorem dX4_goOn_95 : decode cX4_goOn 95 = .ok (.imul, 1) := dz_b104 (by decide +kernel)
theorem dX4_goOn_96 : decode cX4_goOn 96 = .ok (.bipush 10, 2) := dz_b16 (by decide +kernel)
theorem dX4_goOn_98 : decode cX4_goOn 98 = .ok (.idiv, 1) := dz_b108 (by decide +kernel)
theorem dX4_goOn_99 : decode cX4_goOn 99 = .ok (.iadd, 1) := dz_b96 (by decide +kernel)
theorem dX4_goOn_100 : decode cX4_goOn 100 = .ok (.iconst 1, 1) := dz_b4 (by decide +kernel)
end pt_02dec0
