section
-- ===== PART A: goes FIRST, ahead of the names: the tables' words, and 'selects' of the private methods out of them =====
/-- a private method of a class that the tables say can be made, by its rows of tables_1 -/
def lw_okq (q : MethodName × Nat) : Prop := (q.1.cls ≠ "java/lang/invoke/MethodHandle" ∧ q.1.cls ≠ "java/lang/invoke/VarHandle") ∧ Cond.instantiable q.1.cls q.2 ∈ tables_1 ∧ Cond.privateMethod q.1 ∈ tables_1 ∧ Cond.instanceMethod q.1 ∈ tables_1
theorem lw_p0 : lw_okq (⟨"JamOath", "fittingSugars", "(LJamOath$Pot;)I"⟩, 13) := ⟨⟨by decide +kernel, by decide +kernel⟩, List.mem_of_getElem? (i := 21) (by decide +kernel), List.mem_of_getElem? (i := 300) (by decide +kernel), List.mem_of_getElem? (i := 301) (by decide +kernel)⟩
theorem lw_p1 : lw_okq (⟨"JamOath", "bearsOut", "(LJamOath$Pot;)Z"⟩, 13) := ⟨⟨by decide +kernel, by decide +kernel⟩, List.mem_of_getElem? (i := 21) (by decide +kernel), List.mem_of_getElem? (i := 311) (by decide +kernel), List.mem_of_getElem? (i := 312) (by decide +kernel)⟩
theorem lw_p2 : lw_okq (⟨"JamOath", "says", "(LJamOath$Pot;I)I"⟩, 13) := ⟨⟨by decide +kernel, by decide +kernel⟩, List.mem_of_getElem? (i := 21) (by decide +kernel), List.mem_of_getElem? (i := 315) (by decide +kernel), List.mem_of_getElem? (i := 316) (by decide +kernel)⟩
theorem lw_p3 : lw_okq (⟨"JamOath", "clearOf", "(LJamOath$Pot;I)I"⟩, 13) := ⟨⟨by decide +kernel, by decide +kernel⟩, List.mem_of_getElem? (i := 21) (by decide +kernel), List.mem_of_getElem? (i := 319) (by decide +kernel), List.mem_of_getElem? (i := 320) (by decide +kernel)⟩
theorem lw_p4 : lw_okq (⟨"JamOath", "holding", "()LJamOath$Cellar;"⟩, 13) := ⟨⟨by decide +kernel, by decide +kernel⟩, List.mem_of_getElem? (i := 21) (by decide +kernel), List.mem_of_getElem? (i := 323) (by decide +kernel), List.mem_of_getElem? (i := 324) (by decide +kernel)⟩
theorem lw_p5 : lw_okq (⟨"JamOath", "saidBy", "(II)I"⟩, 13) := ⟨⟨by decide +kernel, by decide +kernel⟩, List.mem_of_getElem? (i := 21) (by decide +kernel), List.mem_of_getElem? (i := 338) (by decide +kernel), List.mem_of_getElem? (i := 339) (by decide +kernel)⟩
theorem lw_p6 : lw_okq (⟨"JamOath", "when", "(LJamOath$Pot;I)I"⟩, 13) := ⟨⟨by decide +kernel, by decide +kernel⟩, List.mem_of_getElem? (i := 21) (by decide +kernel), List.mem_of_getElem? (i := 354) (by decide +kernel), List.mem_of_getElem? (i := 355) (by decide +kernel)⟩
theorem lw_p7 : lw_okq (⟨"JamOath$Text", "clause", "(LJamOath$Cellar;)V"⟩, 4) := ⟨⟨by decide +kernel, by decide +kernel⟩, List.mem_of_getElem? (i := 140) (by decide +kernel), List.mem_of_getElem? (i := 408) (by decide +kernel), List.mem_of_getElem? (i := 409) (by decide +kernel)⟩
theorem lw_p8 : lw_okq (⟨"JamOath$Text", "next", "()I"⟩, 4) := ⟨⟨by decide +kernel, by decide +kernel⟩, List.mem_of_getElem? (i := 140) (by decide +kernel), List.mem_of_getElem? (i := 412) (by decide +kernel), List.mem_of_getElem? (i := 413) (by decide +kernel)⟩
theorem lw_p9 : lw_okq (⟨"JamOath$Text", "expect", "(C)V"⟩, 4) := ⟨⟨by decide +kernel, by decide +kernel⟩, List.mem_of_getElem? (i := 140) (by decide +kernel), List.mem_of_getElem? (i := 467) (by decide +kernel), List.mem_of_getElem? (i := 468) (by decide +kernel)⟩
theorem lw_p10 : lw_okq (⟨"JamOath$Text", "expectNumber", "()I"⟩, 4) := ⟨⟨by decide +kernel, by decide +kernel⟩, List.mem_of_getElem? (i := 140) (by decide +kernel), List.mem_of_getElem? (i := 471) (by decide +kernel), List.mem_of_getElem? (i := 472) (by decide +kernel)⟩
theorem lw_p11 : lw_okq (⟨"JamOath$Text", "either", "(LJamOath$Cellar;I)V"⟩, 4) := ⟨⟨by decide +kernel, by decide +kernel⟩, List.mem_of_getElem? (i := 140) (by decide +kernel), List.mem_of_getElem? (i := 475) (by decide +kernel), List.mem_of_getElem? (i := 476) (by decide +kernel)⟩
theorem lw_p12 : lw_okq (⟨"JamOath$Text", "both", "(LJamOath$Cellar;I)V"⟩, 4) := ⟨⟨by decide +kernel, by decide +kernel⟩, List.mem_of_getElem? (i := 140) (by decide +kernel), List.mem_of_getElem? (i := 479) (by decide +kernel), List.mem_of_getElem? (i := 480) (by decide +kernel)⟩
theorem lw_p13 : lw_okq (⟨"JamOath$Text", "single", "(LJamOath$Cellar;I)V"⟩, 4) := ⟨⟨by decide +kernel, by decide +kernel⟩, List.mem_of_getElem? (i := 140) (by decide +kernel), List.mem_of_getElem? (i := 483) (by decide +kernel), List.mem_of_getElem? (i := 484) (by decide +kernel)⟩
theorem lw_p14 : lw_okq (⟨"JamOath$Text", "expectOne", "(Ljava/lang/String;)I"⟩, 4) := ⟨⟨by decide +kernel, by decide +kernel⟩, List.mem_of_getElem? (i := 140) (by decide +kernel), List.mem_of_getElem? (i := 488) (by decide +kernel), List.mem_of_getElem? (i := 489) (by decide +kernel)⟩
theorem lw_p15 : lw_okq (⟨"JamOath", "found", "(I)I"⟩, 13) := ⟨⟨by decide +kernel, by decide +kernel⟩, List.mem_of_getElem? (i := 21) (by decide +kernel), List.mem_of_getElem? (i := 556) (by decide +kernel), List.mem_of_getElem? (i := 557) (by decide +kernel)⟩
def lw_privs_1 : List (MethodName × Nat) := [(⟨"JamOath", "fittingSugars", "(LJamOath$Pot;)I"⟩, 13), (⟨"JamOath", "bearsOut", "(LJamOath$Pot;)Z"⟩, 13), (⟨"JamOath", "says", "(LJamOath$Pot;I)I"⟩, 13), (⟨"JamOath", "clearOf", "(LJamOath$Pot;I)I"⟩, 13), (⟨"JamOath", "holding", "()LJamOath$Cellar;"⟩, 13), (⟨"JamOath", "saidBy", "(II)I"⟩, 13), (⟨"JamOath", "when", "(LJamOath$Pot;I)I"⟩, 13), (⟨"JamOath$Text", "clause", "(LJamOath$Cellar;)V"⟩, 4), (⟨"JamOath$Text", "next", "()I"⟩, 4), (⟨"JamOath$Text", "expect", "(C)V"⟩, 4), (⟨"JamOath$Text", "expectNumber", "()I"⟩, 4), (⟨"JamOath$Text", "either", "(LJamOath$Cellar;I)V"⟩, 4), (⟨"JamOath$Text", "both", "(LJamOath$Cellar;I)V"⟩, 4), (⟨"JamOath$Text", "single", "(LJamOath$Cellar;I)V"⟩, 4), (⟨"JamOath$Text", "expectOne", "(Ljava/lang/String;)I"⟩, 4), (⟨"JamOath", "found", "(I)I"⟩, 13)]
theorem lw_r1 : ∀ q ∈ lw_privs_1, lw_okq q := List.forall_mem_cons.mpr ⟨lw_p0, List.forall_mem_cons.mpr ⟨lw_p1, List.forall_mem_cons.mpr ⟨lw_p2, List.forall_mem_cons.mpr ⟨lw_p3, List.forall_mem_cons.mpr ⟨lw_p4, List.forall_mem_cons.mpr ⟨lw_p5, List.forall_mem_cons.mpr ⟨lw_p6, List.forall_mem_cons.mpr ⟨lw_p7, List.forall_mem_cons.mpr ⟨lw_p8, List.forall_mem_cons.mpr ⟨lw_p9, List.forall_mem_cons.mpr ⟨lw_p10, List.forall_mem_cons.mpr ⟨lw_p11, List.forall_mem_cons.mpr ⟨lw_p12, List.forall_mem_cons.mpr ⟨lw_p13, List.forall_mem_cons.mpr ⟨lw_p14, List.forall_mem_cons.mpr ⟨lw_p15, fun _ h => absurd h List.not_mem_nil⟩⟩⟩⟩⟩⟩⟩⟩⟩⟩⟩⟩⟩⟩⟩⟩
theorem lw_p16 : lw_okq (⟨"JamOath", "toldOfFits", "(I)I"⟩, 13) := ⟨⟨by decide +kernel, by decide +kernel⟩, List.mem_of_getElem? (i := 21) (by decide +kernel), List.mem_of_getElem? (i := 563) (by decide +kernel), List.mem_of_getElem? (i := 564) (by decide +kernel)⟩
theorem lw_p17 : lw_okq (⟨"JamOath", "gatherFits", "()V"⟩, 13) := ⟨⟨by decide +kernel, by decide +kernel⟩, List.mem_of_getElem? (i := 21) (by decide +kernel), List.mem_of_getElem? (i := 567) (by decide +kernel), List.mem_of_getElem? (i := 568) (by decide +kernel)⟩
theorem lw_p18 : lw_okq (⟨"JamOath", "nextToAsk", "()I"⟩, 13) := ⟨⟨by decide +kernel, by decide +kernel⟩, List.mem_of_getElem? (i := 21) (by decide +kernel), List.mem_of_getElem? (i := 589) (by decide +kernel), List.mem_of_getElem? (i := 590) (by decide +kernel)⟩
theorem lw_p19 : lw_okq (⟨"JamOath", "gatherSpoken", "(I)V"⟩, 13) := ⟨⟨by decide +kernel, by decide +kernel⟩, List.mem_of_getElem? (i := 21) (by decide +kernel), List.mem_of_getElem? (i := 626) (by decide +kernel), List.mem_of_getElem? (i := 627) (by decide +kernel)⟩
theorem lw_p20 : lw_okq (⟨"JamOath", "enough", "(I)I"⟩, 13) := ⟨⟨by decide +kernel, by decide +kernel⟩, List.mem_of_getElem? (i := 21) (by decide +kernel), List.mem_of_getElem? (i := 630) (by decide +kernel), List.mem_of_getElem? (i := 631) (by decide +kernel)⟩
theorem lw_p21 : lw_okq (⟨"JamOath", "spokenBy", "(I)I"⟩, 13) := ⟨⟨by decide +kernel, by decide +kernel⟩, List.mem_of_getElem? (i := 21) (by decide +kernel), List.mem_of_getElem? (i := 635) (by decide +kernel), List.mem_of_getElem? (i := 636) (by decide +kernel)⟩
theorem lw_p22 : lw_okq (⟨"JamOath", "ownPots", "(I)I"⟩, 13) := ⟨⟨by decide +kernel, by decide +kernel⟩, List.mem_of_getElem? (i := 21) (by decide +kernel), List.mem_of_getElem? (i := 639) (by decide +kernel), List.mem_of_getElem? (i := 640) (by decide +kernel)⟩
theorem lw_p23 : lw_okq (⟨"JamOath", "givenOneMore", "(JI)J"⟩, 13) := ⟨⟨by decide +kernel, by decide +kernel⟩, List.mem_of_getElem? (i := 21) (by decide +kernel), List.mem_of_getElem? (i := 643) (by decide +kernel), List.mem_of_getElem? (i := 644) (by decide +kernel)⟩
theorem lw_p24 : lw_okq (⟨"JamOath", "fittingNumbers", "(LJamOath$Pot;)I"⟩, 13) := ⟨⟨by decide +kernel, by decide +kernel⟩, List.mem_of_getElem? (i := 21) (by decide +kernel), List.mem_of_getElem? (i := 664) (by decide +kernel), List.mem_of_getElem? (i := 665) (by decide +kernel)⟩
theorem lw_p25 : lw_okq (⟨"JamOath", "canGo", "(II)Z"⟩, 13) := ⟨⟨by decide +kernel, by decide +kernel⟩, List.mem_of_getElem? (i := 21) (by decide +kernel), List.mem_of_getElem? (i := 688) (by decide +kernel), List.mem_of_getElem? (i := 689) (by decide +kernel)⟩
theorem lw_p26 : lw_okq (⟨"JamOath", "goOn", "(III)V"⟩, 13) := ⟨⟨by decide +kernel, by decide +kernel⟩, List.mem_of_getElem? (i := 21) (by decide +kernel), List.mem_of_getElem? (i := 696) (by decide +kernel), List.mem_of_getElem? (i := 697) (by decide +kernel)⟩
theorem lw_p27 : lw_okq (⟨"JamOath", "tapeAt", "(I)LJamOath$Tape;"⟩, 13) := ⟨⟨by decide +kernel, by decide +kernel⟩, List.mem_of_getElem? (i := 21) (by decide +kernel), List.mem_of_getElem? (i := 716) (by decide +kernel), List.mem_of_getElem? (i := 717) (by decide +kernel)⟩
theorem lw_p28 : lw_okq (⟨"JamOath$Acting", "perform", "(LJamOath$Pot;IIII)I"⟩, 2) := ⟨⟨by decide +kernel, by decide +kernel⟩, List.mem_of_getElem? (i := 199) (by decide +kernel), List.mem_of_getElem? (i := 751) (by decide +kernel), List.mem_of_getElem? (i := 752) (by decide +kernel)⟩
theorem lw_p29 : lw_okq (⟨"JamOath$Acting", "note", "(I)V"⟩, 2) := ⟨⟨by decide +kernel, by decide +kernel⟩, List.mem_of_getElem? (i := 199) (by decide +kernel), List.mem_of_getElem? (i := 762) (by decide +kernel), List.mem_of_getElem? (i := 763) (by decide +kernel)⟩
theorem lw_p30 : lw_okq (⟨"JamOathModel", "change", "(III)I"⟩, 32) := ⟨⟨by decide +kernel, by decide +kernel⟩, List.mem_of_getElem? (i := 822) (by decide +kernel), List.mem_of_getElem? (i := 945) (by decide +kernel), List.mem_of_getElem? (i := 946) (by decide +kernel)⟩
theorem lw_p31 : lw_okq (⟨"JamOathModel", "one", "(II)I"⟩, 32) := ⟨⟨by decide +kernel, by decide +kernel⟩, List.mem_of_getElem? (i := 822) (by decide +kernel), List.mem_of_getElem? (i := 949) (by decide +kernel), List.mem_of_getElem? (i := 950) (by decide +kernel)⟩
def lw_privs_2 : List (MethodName × Nat) := [(⟨"JamOath", "toldOfFits", "(I)I"⟩, 13), (⟨"JamOath", "gatherFits", "()V"⟩, 13), (⟨"JamOath", "nextToAsk", "()I"⟩, 13), (⟨"JamOath", "gatherSpoken", "(I)V"⟩, 13), (⟨"JamOath", "enough", "(I)I"⟩, 13), (⟨"JamOath", "spokenBy", "(I)I"⟩, 13), (⟨"JamOath", "ownPots", "(I)I"⟩, 13), (⟨"JamOath", "givenOneMore", "(JI)J"⟩, 13), (⟨"JamOath", "fittingNumbers", "(LJamOath$Pot;)I"⟩, 13), (⟨"JamOath", "canGo", "(II)Z"⟩, 13), (⟨"JamOath", "goOn", "(III)V"⟩, 13), (⟨"JamOath", "tapeAt", "(I)LJamOath$Tape;"⟩, 13), (⟨"JamOath$Acting", "perform", "(LJamOath$Pot;IIII)I"⟩, 2), (⟨"JamOath$Acting", "note", "(I)V"⟩, 2), (⟨"JamOathModel", "change", "(III)I"⟩, 32), (⟨"JamOathModel", "one", "(II)I"⟩, 32)]
theorem lw_r2 : ∀ q ∈ lw_privs_2, lw_okq q := List.forall_mem_cons.mpr ⟨lw_p16, List.forall_mem_cons.mpr ⟨lw_p17, List.forall_mem_cons.mpr ⟨lw_p18, List.forall_mem_cons.mpr ⟨lw_p19, List.forall_mem_cons.mpr ⟨lw_p20, List.forall_mem_cons.mpr ⟨lw_p21, List.forall_mem_cons.mpr ⟨lw_p22, List.forall_mem_cons.mpr ⟨lw_p23, List.forall_mem_cons.mpr ⟨lw_p24, List.forall_mem_cons.mpr ⟨lw_p25, List.forall_mem_cons.mpr ⟨lw_p26, List.forall_mem_cons.mpr ⟨lw_p27, List.forall_mem_cons.mpr ⟨lw_p28, List.forall_mem_cons.mpr ⟨lw_p29, List.forall_mem_cons.mpr ⟨lw_p30, List.forall_mem_cons.mpr ⟨lw_p31, fun _ h => absurd h List.not_mem_nil⟩⟩⟩⟩⟩⟩⟩⟩⟩⟩⟩⟩⟩⟩⟩⟩
theorem lw_p32 : lw_okq (⟨"JamOathModel", "isPot", "(I)Z"⟩, 32) := ⟨⟨by decide +kernel, by decide +kernel⟩, List.mem_of_getElem? (i := 822) (by decide +kernel), List.mem_of_getElem? (i := 957) (by decide +kernel), List.mem_of_getElem? (i := 958) (by decide +kernel)⟩
theorem lw_p33 : lw_okq (⟨"JamOathModel", "fits", "(II)I"⟩, 32) := ⟨⟨by decide +kernel, by decide +kernel⟩, List.mem_of_getElem? (i := 822) (by decide +kernel), List.mem_of_getElem? (i := 961) (by decide +kernel), List.mem_of_getElem? (i := 962) (by decide +kernel)⟩
theorem lw_p34 : lw_okq (⟨"JamOathModel", "isAllSo", "(I)Z"⟩, 32) := ⟨⟨by decide +kernel, by decide +kernel⟩, List.mem_of_getElem? (i := 822) (by decide +kernel), List.mem_of_getElem? (i := 965) (by decide +kernel), List.mem_of_getElem? (i := 966) (by decide +kernel)⟩
theorem lw_p35 : lw_okq (⟨"JamOathModel", "says", "(III)I"⟩, 32) := ⟨⟨by decide +kernel, by decide +kernel⟩, List.mem_of_getElem? (i := 822) (by decide +kernel), List.mem_of_getElem? (i := 969) (by decide +kernel), List.mem_of_getElem? (i := 970) (by decide +kernel)⟩
theorem lw_p36 : lw_okq (⟨"JamOathModel", "clear", "(II)I"⟩, 32) := ⟨⟨by decide +kernel, by decide +kernel⟩, List.mem_of_getElem? (i := 822) (by decide +kernel), List.mem_of_getElem? (i := 973) (by decide +kernel), List.mem_of_getElem? (i := 974) (by decide +kernel)⟩
theorem lw_p37 : lw_okq (⟨"JamOathModel", "readFor", "(II)V"⟩, 32) := ⟨⟨by decide +kernel, by decide +kernel⟩, List.mem_of_getElem? (i := 822) (by decide +kernel), List.mem_of_getElem? (i := 977) (by decide +kernel), List.mem_of_getElem? (i := 978) (by decide +kernel)⟩
theorem lw_p38 : lw_okq (⟨"JamOathModel", "readAll", "()Z"⟩, 32) := ⟨⟨by decide +kernel, by decide +kernel⟩, List.mem_of_getElem? (i := 822) (by decide +kernel), List.mem_of_getElem? (i := 981) (by decide +kernel), List.mem_of_getElem? (i := 982) (by decide +kernel)⟩
theorem lw_p39 : lw_okq (⟨"JamOathModel", "clause", "()V"⟩, 32) := ⟨⟨by decide +kernel, by decide +kernel⟩, List.mem_of_getElem? (i := 822) (by decide +kernel), List.mem_of_getElem? (i := 985) (by decide +kernel), List.mem_of_getElem? (i := 986) (by decide +kernel)⟩
theorem lw_p40 : lw_okq (⟨"JamOathModel", "isAt", "(I)Z"⟩, 32) := ⟨⟨by decide +kernel, by decide +kernel⟩, List.mem_of_getElem? (i := 822) (by decide +kernel), List.mem_of_getElem? (i := 989) (by decide +kernel), List.mem_of_getElem? (i := 990) (by decide +kernel)⟩
theorem lw_p41 : lw_okq (⟨"JamOathModel", "takes", "(I)V"⟩, 32) := ⟨⟨by decide +kernel, by decide +kernel⟩, List.mem_of_getElem? (i := 822) (by decide +kernel), List.mem_of_getElem? (i := 993) (by decide +kernel), List.mem_of_getElem? (i := 994) (by decide +kernel)⟩
theorem lw_p42 : lw_okq (⟨"JamOathModel", "number", "()I"⟩, 32) := ⟨⟨by decide +kernel, by decide +kernel⟩, List.mem_of_getElem? (i := 822) (by decide +kernel), List.mem_of_getElem? (i := 997) (by decide +kernel), List.mem_of_getElem? (i := 998) (by decide +kernel)⟩
theorem lw_p43 : lw_okq (⟨"JamOathModel", "isDigit", "()Z"⟩, 32) := ⟨⟨by decide +kernel, by decide +kernel⟩, List.mem_of_getElem? (i := 822) (by decide +kernel), List.mem_of_getElem? (i := 1001) (by decide +kernel), List.mem_of_getElem? (i := 1002) (by decide +kernel)⟩
theorem lw_p44 : lw_okq (⟨"JamOathModel", "any", "()Z"⟩, 32) := ⟨⟨by decide +kernel, by decide +kernel⟩, List.mem_of_getElem? (i := 822) (by decide +kernel), List.mem_of_getElem? (i := 1005) (by decide +kernel), List.mem_of_getElem? (i := 1006) (by decide +kernel)⟩
theorem lw_p45 : lw_okq (⟨"JamOathModel", "both", "()Z"⟩, 32) := ⟨⟨by decide +kernel, by decide +kernel⟩, List.mem_of_getElem? (i := 822) (by decide +kernel), List.mem_of_getElem? (i := 1009) (by decide +kernel), List.mem_of_getElem? (i := 1010) (by decide +kernel)⟩
theorem lw_p46 : lw_okq (⟨"JamOathModel", "factor", "()Z"⟩, 32) := ⟨⟨by decide +kernel, by decide +kernel⟩, List.mem_of_getElem? (i := 822) (by decide +kernel), List.mem_of_getElem? (i := 1013) (by decide +kernel), List.mem_of_getElem? (i := 1014) (by decide +kernel)⟩
theorem lw_p47 : lw_okq (⟨"JamOathModel", "test", "()Z"⟩, 32) := ⟨⟨by decide +kernel, by decide +kernel⟩, List.mem_of_getElem? (i := 822) (by decide +kernel), List.mem_of_getElem? (i := 1017) (by decide +kernel), List.mem_of_getElem? (i := 1018) (by decide +kernel)⟩
def lw_privs_3 : List (MethodName × Nat) := [(⟨"JamOathModel", "isPot", "(I)Z"⟩, 32), (⟨"JamOathModel", "fits", "(II)I"⟩, 32), (⟨"JamOathModel", "isAllSo", "(I)Z"⟩, 32), (⟨"JamOathModel", "says", "(III)I"⟩, 32), (⟨"JamOathModel", "clear", "(II)I"⟩, 32), (⟨"JamOathModel", "readFor", "(II)V"⟩, 32), (⟨"JamOathModel", "readAll", "()Z"⟩, 32), (⟨"JamOathModel", "clause", "()V"⟩, 32), (⟨"JamOathModel", "isAt", "(I)Z"⟩, 32), (⟨"JamOathModel", "takes", "(I)V"⟩, 32), (⟨"JamOathModel", "number", "()I"⟩, 32), (⟨"JamOathModel", "isDigit", "()Z"⟩, 32), (⟨"JamOathModel", "any", "()Z"⟩, 32), (⟨"JamOathModel", "both", "()Z"⟩, 32), (⟨"JamOathModel", "factor", "()Z"⟩, 32), (⟨"JamOathModel", "test", "()Z"⟩, 32)]
theorem lw_r3 : ∀ q ∈ lw_privs_3, lw_okq q := List.forall_mem_cons.mpr ⟨lw_p32, List.forall_mem_cons.mpr ⟨lw_p33, List.forall_mem_cons.mpr ⟨lw_p34, List.forall_mem_cons.mpr ⟨lw_p35, List.forall_mem_cons.mpr ⟨lw_p36, List.forall_mem_cons.mpr ⟨lw_p37, List.forall_mem_cons.mpr ⟨lw_p38, List.forall_mem_cons.mpr ⟨lw_p39, List.forall_mem_cons.mpr ⟨lw_p40, List.forall_mem_cons.mpr ⟨lw_p41, List.forall_mem_cons.mpr ⟨lw_p42, List.forall_mem_cons.mpr ⟨lw_p43, List.forall_mem_cons.mpr ⟨lw_p44, List.forall_mem_cons.mpr ⟨lw_p45, List.forall_mem_cons.mpr ⟨lw_p46, List.forall_mem_cons.mpr ⟨lw_p47, fun _ h => absurd h List.not_mem_nil⟩⟩⟩⟩⟩⟩⟩⟩⟩⟩⟩⟩⟩⟩⟩⟩
theorem lw_p48 : lw_okq (⟨"JamOathModel", "when", "(II)I"⟩, 32) := ⟨⟨by decide +kernel, by decide +kernel⟩, List.mem_of_getElem? (i := 822) (by decide +kernel), List.mem_of_getElem? (i := 1027) (by decide +kernel), List.mem_of_getElem? (i := 1028) (by decide +kernel)⟩
theorem lw_p49 : lw_okq (⟨"JamOathModel", "term", "()V"⟩, 32) := ⟨⟨by decide +kernel, by decide +kernel⟩, List.mem_of_getElem? (i := 822) (by decide +kernel), List.mem_of_getElem? (i := 1031) (by decide +kernel), List.mem_of_getElem? (i := 1032) (by decide +kernel)⟩
theorem lw_p50 : lw_okq (⟨"JamOathModel", "keepNow", "()I"⟩, 32) := ⟨⟨by decide +kernel, by decide +kernel⟩, List.mem_of_getElem? (i := 822) (by decide +kernel), List.mem_of_getElem? (i := 1035) (by decide +kernel), List.mem_of_getElem? (i := 1036) (by decide +kernel)⟩
theorem lw_p51 : lw_okq (⟨"JamOathModel", "opens", "(I)V"⟩, 32) := ⟨⟨by decide +kernel, by decide +kernel⟩, List.mem_of_getElem? (i := 822) (by decide +kernel), List.mem_of_getElem? (i := 1052) (by decide +kernel), List.mem_of_getElem? (i := 1053) (by decide +kernel)⟩
theorem lw_p52 : lw_okq (⟨"JamOathModel", "look", "()I"⟩, 32) := ⟨⟨by decide +kernel, by decide +kernel⟩, List.mem_of_getElem? (i := 822) (by decide +kernel), List.mem_of_getElem? (i := 1073) (by decide +kernel), List.mem_of_getElem? (i := 1074) (by decide +kernel)⟩
theorem lw_p53 : lw_okq (⟨"JamOathModel", "leastFit", "()I"⟩, 32) := ⟨⟨by decide +kernel, by decide +kernel⟩, List.mem_of_getElem? (i := 822) (by decide +kernel), List.mem_of_getElem? (i := 1077) (by decide +kernel), List.mem_of_getElem? (i := 1078) (by decide +kernel)⟩
theorem lw_p54 : lw_okq (⟨"JamOathModel", "sure", "(Z)I"⟩, 32) := ⟨⟨by decide +kernel, by decide +kernel⟩, List.mem_of_getElem? (i := 822) (by decide +kernel), List.mem_of_getElem? (i := 1081) (by decide +kernel), List.mem_of_getElem? (i := 1082) (by decide +kernel)⟩
theorem lw_p55 : lw_okq (⟨"JamOathModel", "next", "()I"⟩, 32) := ⟨⟨by decide +kernel, by decide +kernel⟩, List.mem_of_getElem? (i := 822) (by decide +kernel), List.mem_of_getElem? (i := 1085) (by decide +kernel), List.mem_of_getElem? (i := 1086) (by decide +kernel)⟩
theorem lw_p56 : lw_okq (⟨"JamOathModel", "found", "(I)I"⟩, 32) := ⟨⟨by decide +kernel, by decide +kernel⟩, List.mem_of_getElem? (i := 822) (by decide +kernel), List.mem_of_getElem? (i := 1089) (by decide +kernel), List.mem_of_getElem? (i := 1090) (by decide +kernel)⟩
theorem lw_p57 : lw_okq (⟨"JamOathModel", "terms", "(I)V"⟩, 32) := ⟨⟨by decide +kernel, by decide +kernel⟩, List.mem_of_getElem? (i := 822) (by decide +kernel), List.mem_of_getElem? (i := 1098) (by decide +kernel), List.mem_of_getElem? (i := 1099) (by decide +kernel)⟩
theorem lw_p58 : lw_okq (⟨"JamOathModel", "all", "(I)I"⟩, 32) := ⟨⟨by decide +kernel, by decide +kernel⟩, List.mem_of_getElem? (i := 822) (by decide +kernel), List.mem_of_getElem? (i := 1106) (by decide +kernel), List.mem_of_getElem? (i := 1107) (by decide +kernel)⟩
theorem lw_p59 : lw_okq (⟨"JamOathModel", "ask", "()V"⟩, 32) := ⟨⟨by decide +kernel, by decide +kernel⟩, List.mem_of_getElem? (i := 822) (by decide +kernel), List.mem_of_getElem? (i := 1114) (by decide +kernel), List.mem_of_getElem? (i := 1115) (by decide +kernel)⟩
theorem lw_p60 : lw_okq (⟨"JamOathModel", "enough", "(I)I"⟩, 32) := ⟨⟨by decide +kernel, by decide +kernel⟩, List.mem_of_getElem? (i := 822) (by decide +kernel), List.mem_of_getElem? (i := 1118) (by decide +kernel), List.mem_of_getElem? (i := 1119) (by decide +kernel)⟩
theorem lw_p61 : lw_okq (⟨"JamOathModel", "own", "(II)I"⟩, 32) := ⟨⟨by decide +kernel, by decide +kernel⟩, List.mem_of_getElem? (i := 822) (by decide +kernel), List.mem_of_getElem? (i := 1125) (by decide +kernel), List.mem_of_getElem? (i := 1126) (by decide +kernel)⟩
theorem lw_p62 : lw_okq (⟨"JamOathModel", "begin", "(III)I"⟩, 32) := ⟨⟨by decide +kernel, by decide +kernel⟩, List.mem_of_getElem? (i := 822) (by decide +kernel), List.mem_of_getElem? (i := 1170) (by decide +kernel), List.mem_of_getElem? (i := 1171) (by decide +kernel)⟩
theorem lw_p63 : lw_okq (⟨"JamOathModel", "byKind", "(IIII)I"⟩, 32) := ⟨⟨by decide +kernel, by decide +kernel⟩, List.mem_of_getElem? (i := 822) (by decide +kernel), List.mem_of_getElem? (i := 1174) (by decide +kernel), List.mem_of_getElem? (i := 1175) (by decide +kernel)⟩
def lw_privs_4 : List (MethodName × Nat) := [(⟨"JamOathModel", "when", "(II)I"⟩, 32), (⟨"JamOathModel", "term", "()V"⟩, 32), (⟨"JamOathModel", "keepNow", "()I"⟩, 32), (⟨"JamOathModel", "opens", "(I)V"⟩, 32), (⟨"JamOathModel", "look", "()I"⟩, 32), (⟨"JamOathModel", "leastFit", "()I"⟩, 32), (⟨"JamOathModel", "sure", "(Z)I"⟩, 32), (⟨"JamOathModel", "next", "()I"⟩, 32), (⟨"JamOathModel", "found", "(I)I"⟩, 32), (⟨"JamOathModel", "terms", "(I)V"⟩, 32), (⟨"JamOathModel", "all", "(I)I"⟩, 32), (⟨"JamOathModel", "ask", "()V"⟩, 32), (⟨"JamOathModel", "enough", "(I)I"⟩, 32), (⟨"JamOathModel", "own", "(II)I"⟩, 32), (⟨"JamOathModel", "begin", "(III)I"⟩, 32), (⟨"JamOathModel", "byKind", "(IIII)I"⟩, 32)]
theorem lw_r4 : ∀ q ∈ lw_privs_4, lw_okq q := List.forall_mem_cons.mpr ⟨lw_p48, List.forall_mem_cons.mpr ⟨lw_p49, List.forall_mem_cons.mpr ⟨lw_p50, List.forall_mem_cons.mpr ⟨lw_p51, List.forall_mem_cons.mpr ⟨lw_p52, List.forall_mem_cons.mpr ⟨lw_p53, List.forall_mem_cons.mpr ⟨lw_p54, List.forall_mem_cons.mpr ⟨lw_p55, List.forall_mem_cons.mpr ⟨lw_p56, List.forall_mem_cons.mpr ⟨lw_p57, List.forall_mem_cons.mpr ⟨lw_p58, List.forall_mem_cons.mpr ⟨lw_p59, List.forall_mem_cons.mpr ⟨lw_p60, List.forall_mem_cons.mpr ⟨lw_p61, List.forall_mem_cons.mpr ⟨lw_p62, List.forall_mem_cons.mpr ⟨lw_p63, fun _ h => absurd h List.not_mem_nil⟩⟩⟩⟩⟩⟩⟩⟩⟩⟩⟩⟩⟩⟩⟩⟩
theorem lw_p64 : lw_okq (⟨"JamOathModel", "body", "(I)I"⟩, 32) := ⟨⟨by decide +kernel, by decide +kernel⟩, List.mem_of_getElem? (i := 822) (by decide +kernel), List.mem_of_getElem? (i := 1178) (by decide +kernel), List.mem_of_getElem? (i := 1179) (by decide +kernel)⟩
def lw_privs_5 : List (MethodName × Nat) := [(⟨"JamOathModel", "body", "(I)I"⟩, 32)]
theorem lw_r5 : ∀ q ∈ lw_privs_5, lw_okq q := List.forall_mem_cons.mpr ⟨lw_p64, fun _ h => absurd h List.not_mem_nil⟩
def lw_privs : List (MethodName × Nat) := lw_privs_1 ++ (lw_privs_2 ++ (lw_privs_3 ++ (lw_privs_4 ++ (lw_privs_5))))
def lw_tbl : List Cond := k2_sels lw_privs ++ tables_1
theorem lw_privs_ok : ∀ q ∈ lw_privs, lw_okq q := by
  show ∀ q ∈ lw_privs_1 ++ (lw_privs_2 ++ (lw_privs_3 ++ (lw_privs_4 ++ (lw_privs_5)))), lw_okq q
  exact List.forall_mem_append.mpr ⟨lw_r1, List.forall_mem_append.mpr ⟨lw_r2, List.forall_mem_append.mpr ⟨lw_r3, List.forall_mem_append.mpr ⟨lw_r4, lw_r5⟩⟩⟩⟩
def RX0 : String := "JamOath$Acting"
def TX0 : u_T := fun k => match k with
  | 0 => ("JamOath$Acting", "bodies", "[I", true)
  | _ => ("JamOath$Acting", "ran", "I", false)
def tyX0 : Nat → FieldType := fun k => match k with
  | 0 => .array .int
  | _ => .int
abbrev wsX00 : List Cond := u_ws RX0 TX0 2
theorem nmX0 : ∀ a, a < 2 → ∀ b, b < 2 → a ≠ b → (TX0 a).2.1 ≠ (TX0 b).2.1 := by decide +kernel
theorem tyX0_ok : ∀ k, k < 2 → parseFieldDescriptor (TX0 k).2.2.1 = some (tyX0 k) := by decide +kernel
abbrev cX0_init : ByteArray := prog_2_method_1_code
def yX0_init : MethodName := ⟨RX0, "<init>", "()V"⟩
abbrev cX0_forget : ByteArray := prog_2_method_2_code
def yX0_forget : MethodName := ⟨RX0, "forget", "()V"⟩
abbrev cX0_keptCount : ByteArray := prog_2_method_3_code
def yX0_keptCount : MethodName := ⟨RX0, "keptCount", "()I"⟩
abbrev cX0_note : ByteArray := prog_2_method_4_code
def yX0_note : MethodName := ⟨RX0, "note", "(I)V"⟩
abbrev cX0_bodyFrom : ByteArray := prog_2_method_5_code
def yX0_bodyFrom : MethodName := ⟨RX0, "bodyFrom", "(II)I"⟩
abbrev cX0_perform : ByteArray := prog_2_method_6_code
def yX0_perform : MethodName := ⟨RX0, "perform", "(LJamOath$Pot;IIII)I"⟩
def RX1 : String := "JamOath$Cellar"
def TX1 : u_T := fun k => match k with
  | 0 => ("JamOath$Cellar", "steps", "[I", true)
  | 1 => ("JamOath$Cellar", "length", "I", false)
  | _ => ("JamOath$Cellar", "keep", "I", false)
def tyX1 : Nat → FieldType := fun k => match k with
  | 0 => .array .int
  | 1 => .int
  | _ => .int
abbrev wsX10 : List Cond := u_ws RX1 TX1 3
theorem nmX1 : ∀ a, a < 3 → ∀ b, b < 3 → a ≠ b → (TX1 a).2.1 ≠ (TX1 b).2.1 := by decide +kernel
theorem tyX1_ok : ∀ k, k < 3 → parseFieldDescriptor (TX1 k).2.2.1 = some (tyX1 k) := by decide +kernel
abbrev cX1_init : ByteArray := prog_3_method_1_code
def yX1_init : MethodName := ⟨RX1, "<init>", "()V"⟩
abbrev cX1_startAnew : ByteArray := prog_3_method_2_code
def yX1_startAnew : MethodName := ⟨RX1, "startAnew", "()V"⟩
abbrev cX1_append : ByteArray := prog_3_method_3_code
def yX1_append : MethodName := ⟨RX1, "append", "(II)V"⟩
abbrev cX1_sum : ByteArray := prog_3_method_4_code
def yX1_sum : MethodName := ⟨RX1, "sum", "(LJamOath$Pot;I)I"⟩
abbrev cX1_holds : ByteArray := prog_3_method_5_code
def yX1_holds : MethodName := ⟨RX1, "holds", "(IILJamOath$Pot;I)Z"⟩
def RX2 : String := "JamOath$Fits"
def TX2 : u_T := fun k => match k with
  | 0 => ("JamOath$Fits", "any", "Z", false)
  | 1 => ("JamOath$Fits", "known", "I", false)
  | _ => ("JamOath$Fits", "so", "I", false)
def tyX2 : Nat → FieldType := fun k => match k with
  | 0 => .boolean
  | 1 => .int
  | _ => .int
abbrev wsX20 : List Cond := u_ws RX2 TX2 3
theorem nmX2 : ∀ a, a < 3 → ∀ b, b < 3 → a ≠ b → (TX2 a).2.1 ≠ (TX2 b).2.1 := by decide +kernel
theorem tyX2_ok : ∀ k, k < 3 → parseFieldDescriptor (TX2 k).2.2.1 = some (tyX2 k) := by decide +kernel
abbrev cX2_init : ByteArray := prog_4_method_1_code
def yX2_init : MethodName := ⟨RX2, "<init>", "()V"⟩
abbrev cX2_startAnew : ByteArray := prog_4_method_2_code
def yX2_startAnew : MethodName := ⟨RX2, "startAnew", "()V"⟩
abbrev cX2_narrow : ByteArray := prog_4_method_3_code
def yX2_narrow : MethodName := ⟨RX2, "narrow", "(III)V"⟩
abbrev cX2_size : ByteArray := prog_4_method_4_code
def yX2_size : MethodName := ⟨RX2, "size", "()I"⟩
abbrev cX2_leftBy : ByteArray := prog_4_method_5_code
def yX2_leftBy : MethodName := ⟨RX2, "leftBy", "(II)I"⟩
def RX3 : String := "JamOath$Pot"
def TX3 : u_T := fun k => match k with
  | 0 => ("JamOath$Pot", "number", "I", false)
  | 1 => ("JamOath$Pot", "kind", "I", false)
  | 2 => ("JamOath$Pot", "v", "I", false)
  | 3 => ("JamOath$Pot", "sugar", "I", false)
  | 4 => ("JamOath$Pot", "age", "I", false)
  | 5 => ("JamOath$Pot", "opened", "I", false)
  | _ => ("JamOath$Pot", "row", "[I", true)
def tyX3 : Nat → FieldType := fun k => match k with
  | 0 => .int
  | 1 => .int
  | 2 => .int
  | 3 => .int
  | 4 => .int
  | 5 => .int
  | _ => .array .int
abbrev wsX30 : List Cond := u_ws RX3 TX3 7
theorem nmX3 : ∀ a, a < 7 → ∀ b, b < 7 → a ≠ b → (TX3 a).2.1 ≠ (TX3 b).2.1 := by decide +kernel
theorem tyX3_ok : ∀ k, k < 7 → parseFieldDescriptor (TX3 k).2.2.1 = some (tyX3 k) := by decide +kernel
abbrev cX3_init : ByteArray := prog_5_method_1_code
def yX3_init : MethodName := ⟨RX3, "<init>", "()V"⟩
abbrev cX3_begin : ByteArray := prog_5_method_2_code
def yX3_begin : MethodName := ⟨RX3, "begin", "(IIII)V"⟩
abbrev cX3_copyFrom : ByteArray := prog_5_method_3_code
def yX3_copyFrom : MethodName := ⟨RX3, "copyFrom", "(LJamOath$Pot;)V"⟩
abbrev cX3_clear : ByteArray := prog_5_method_4_code
def yX3_clear : MethodName := ⟨RX3, "clear", "(II)I"⟩
abbrev cX3_open : ByteArray := prog_5_method_5_code
def yX3_open : MethodName := ⟨RX3, "open", "()V"⟩
abbrev cX3_ripen : ByteArray := prog_5_method_6_code
def yX3_ripen : MethodName := ⟨RX3, "ripen", "(I)V"⟩
def RX4 : String := "JamOath$Rows"
def TX4 : u_T := fun k => match k with
  | 0 => ("JamOath$Rows", "first", "[I", true)
  | 1 => ("JamOath$Rows", "second", "[I", true)
  | 2 => ("JamOath$Rows", "third", "[I", true)
  | _ => ("JamOath$Rows", "size", "I", false)
def tyX4 : Nat → FieldType := fun k => match k with
  | 0 => .array .int
  | 1 => .array .int
  | 2 => .array .int
  | _ => .int
abbrev wsX40 : List Cond := u_ws RX4 TX4 4
theorem nmX4 : ∀ a, a < 4 → ∀ b, b < 4 → a ≠ b → (TX4 a).2.1 ≠ (TX4 b).2.1 := by decide +kernel
theorem tyX4_ok : ∀ k, k < 4 → parseFieldDescriptor (TX4 k).2.2.1 = some (tyX4 k) := by decide +kernel
abbrev cX4_init : ByteArray := prog_6_method_1_code
def yX4_init : MethodName := ⟨RX4, "<init>", "(I)V"⟩
abbrev cX4_append : ByteArray := prog_6_method_2_code
def yX4_append : MethodName := ⟨RX4, "append", "(III)I"⟩
abbrev cX4_empty : ByteArray := prog_6_method_3_code
def yX4_empty : MethodName := ⟨RX4, "empty", "()I"⟩
abbrev cX4_copyFrom : ByteArray := prog_6_method_4_code
def yX4_copyFrom : MethodName := ⟨RX4, "copyFrom", "(LJamOath$Rows;)V"⟩
def RX5 : String := "JamOath$State"
def TX5 : u_T := fun k => match k with
  | 0 => ("JamOath$State", "world", "I", false)
  | 1 => ("JamOath$State", "term", "I", false)
  | 2 => ("JamOath$State", "holding", "I", false)
  | 3 => ("JamOath$State", "pots", "[LJamOath$Pot;", true)
  | 4 => ("JamOath$State", "potCount", "I", false)
  | 5 => ("JamOath$State", "heard", "LJamOath$Rows;", true)
  | 6 => ("JamOath$State", "plan", "LJamOath$Rows;", true)
  | _ => ("JamOath$State", "book", "LJamOath$Rows;", true)
def tyX5 : Nat → FieldType := fun k => match k with
  | 0 => .int
  | 1 => .int
  | 2 => .int
  | 3 => .array (.object "JamOath$Pot")
  | 4 => .int
  | 5 => .object "JamOath$Rows"
  | 6 => .object "JamOath$Rows"
  | _ => .object "JamOath$Rows"
abbrev wsX50 : List Cond := u_ws RX5 TX5 8
theorem nmX5 : ∀ a, a < 8 → ∀ b, b < 8 → a ≠ b → (TX5 a).2.1 ≠ (TX5 b).2.1 := by decide +kernel
theorem tyX5_ok : ∀ k, k < 8 → parseFieldDescriptor (TX5 k).2.2.1 = some (tyX5 k) := by decide +kernel
abbrev cX5_init : ByteArray := prog_7_method_1_code
def yX5_init : MethodName := ⟨RX5, "<init>", "()V"⟩
abbrev cX5_potAt : ByteArray := prog_7_method_2_code
def yX5_potAt : MethodName := ⟨RX5, "potAt", "(I)LJamOath$Pot;"⟩
abbrev cX5_addPot : ByteArray := prog_7_method_3_code
def yX5_addPot : MethodName := ⟨RX5, "addPot", "(III)I"⟩
abbrev cX5_copyPotsFrom : ByteArray := prog_7_method_4_code
def yX5_copyPotsFrom : MethodName := ⟨RX5, "copyPotsFrom", "(LJamOath$State;)V"⟩
abbrev cX5_copyFrom : ByteArray := prog_7_method_5_code
def yX5_copyFrom : MethodName := ⟨RX5, "copyFrom", "(LJamOath$State;)V"⟩
abbrev cX5_ripenAll : ByteArray := prog_7_method_6_code
def yX5_ripenAll : MethodName := ⟨RX5, "ripenAll", "(II)V"⟩
abbrev cX5_sugarOfAll : ByteArray := prog_7_method_7_code
def yX5_sugarOfAll : MethodName := ⟨RX5, "sugarOfAll", "()I"⟩
abbrev cX5_openedOfAll : ByteArray := prog_7_method_8_code
def yX5_openedOfAll : MethodName := ⟨RX5, "openedOfAll", "()I"⟩
def RX6 : String := "JamOath$Tape"
def TX6 : u_T := fun k => match k with
  | 0 => ("JamOath$Tape", "items", "[J", true)
  | 1 => ("JamOath$Tape", "sort", "I", false)
  | _ => ("JamOath$Tape", "size", "I", false)
def tyX6 : Nat → FieldType := fun k => match k with
  | 0 => .array .long
  | 1 => .int
  | _ => .int
abbrev wsX60 : List Cond := u_ws RX6 TX6 3
theorem nmX6 : ∀ a, a < 3 → ∀ b, b < 3 → a ≠ b → (TX6 a).2.1 ≠ (TX6 b).2.1 := by decide +kernel
theorem tyX6_ok : ∀ k, k < 3 → parseFieldDescriptor (TX6 k).2.2.1 = some (tyX6 k) := by decide +kernel
abbrev cX6_init : ByteArray := prog_8_method_1_code
def yX6_init : MethodName := ⟨RX6, "<init>", "()V"⟩
abbrev cX6_become : ByteArray := prog_8_method_2_code
def yX6_become : MethodName := ⟨RX6, "become", "(II)V"⟩
abbrev cX6_has : ByteArray := prog_8_method_3_code
def yX6_has : MethodName := ⟨RX6, "has", "(I)Z"⟩
abbrev cX6_spans : ByteArray := prog_8_method_4_code
def yX6_spans : MethodName := ⟨RX6, "spans", "(II)Z"⟩
abbrev cX6_lowest : ByteArray := prog_8_method_5_code
def yX6_lowest : MethodName := ⟨RX6, "lowest", "(J)J"⟩
def RX7 : String := "JamOath$Text"
def TX7 : u_T := fun k => match k with
  | 0 => ("JamOath$Text", "signs", "[B", true)
  | 1 => ("JamOath$Text", "length", "I", false)
  | 2 => ("JamOath$Text", "at", "I", false)
  | _ => ("JamOath$Text", "failed", "Z", false)
def tyX7 : Nat → FieldType := fun k => match k with
  | 0 => .array .byte
  | 1 => .int
  | 2 => .int
  | _ => .boolean
abbrev wsX70 : List Cond := u_ws RX7 TX7 4
theorem nmX7 : ∀ a, a < 4 → ∀ b, b < 4 → a ≠ b → (TX7 a).2.1 ≠ (TX7 b).2.1 := by decide +kernel
theorem tyX7_ok : ∀ k, k < 4 → parseFieldDescriptor (TX7 k).2.2.1 = some (tyX7 k) := by decide +kernel
abbrev cX7_init : ByteArray := prog_9_method_1_code
def yX7_init : MethodName := ⟨RX7, "<init>", "()V"⟩
abbrev cX7_append : ByteArray := prog_9_method_2_code
def yX7_append : MethodName := ⟨RX7, "append", "(I)I"⟩
abbrev cX7_readInto : ByteArray := prog_9_method_3_code
def yX7_readInto : MethodName := ⟨RX7, "readInto", "(LJamOath$Cellar;)I"⟩
abbrev cX7_next : ByteArray := prog_9_method_4_code
def yX7_next : MethodName := ⟨RX7, "next", "()I"⟩
abbrev cX7_expect : ByteArray := prog_9_method_5_code
def yX7_expect : MethodName := ⟨RX7, "expect", "(C)V"⟩
abbrev cX7_expectOne : ByteArray := prog_9_method_6_code
def yX7_expectOne : MethodName := ⟨RX7, "expectOne", "(Ljava/lang/String;)I"⟩
abbrev cX7_expectNumber : ByteArray := prog_9_method_7_code
def yX7_expectNumber : MethodName := ⟨RX7, "expectNumber", "()I"⟩
abbrev cX7_clause : ByteArray := prog_9_method_8_code
def yX7_clause : MethodName := ⟨RX7, "clause", "(LJamOath$Cellar;)V"⟩
abbrev cX7_either : ByteArray := prog_9_method_9_code
def yX7_either : MethodName := ⟨RX7, "either", "(LJamOath$Cellar;I)V"⟩
abbrev cX7_both : ByteArray := prog_9_method_10_code
def yX7_both : MethodName := ⟨RX7, "both", "(LJamOath$Cellar;I)V"⟩
abbrev cX7_single : ByteArray := prog_9_method_11_code
def yX7_single : MethodName := ⟨RX7, "single", "(LJamOath$Cellar;I)V"⟩
def RX8 : String := "JamOath"
def TX8 : u_T := fun k => match k with
  | 0 => ("JamOath", "now", "LJamOath$State;", true)
  | 1 => ("JamOath", "kept", "LJamOath$State;", true)
  | 2 => ("JamOath", "trial", "LJamOath$State;", true)
  | 3 => ("JamOath", "tasted", "LJamOath$Pot;", true)
  | 4 => ("JamOath", "imaged", "Z", false)
  | 5 => ("JamOath", "text", "LJamOath$Text;", true)
  | 6 => ("JamOath", "cellars", "[LJamOath$Cellar;", true)
  | 7 => ("JamOath", "bare", "LJamOath$Cellar;", true)
  | 8 => ("JamOath", "cellarCount", "I", false)
  | 9 => ("JamOath", "fits", "LJamOath$Fits;", true)
  | 10 => ("JamOath", "spoken", "[I", true)
  | 11 => ("JamOath", "acting", "LJamOath$Acting;", true)
  | _ => ("JamOath", "tapes", "[LJamOath$Tape;", true)
def tyX8 : Nat → FieldType := fun k => match k with
  | 0 => .object "JamOath$State"
  | 1 => .object "JamOath$State"
  | 2 => .object "JamOath$State"
  | 3 => .object "JamOath$Pot"
  | 4 => .boolean
  | 5 => .object "JamOath$Text"
  | 6 => .array (.object "JamOath$Cellar")
  | 7 => .object "JamOath$Cellar"
  | 8 => .int
  | 9 => .object "JamOath$Fits"
  | 10 => .array .int
  | 11 => .object "JamOath$Acting"
  | _ => .array (.object "JamOath$Tape")
abbrev wsX80 : List Cond := u_ws RX8 TX8 13
theorem nmX8 : ∀ a, a < 13 → ∀ b, b < 13 → a ≠ b → (TX8 a).2.1 ≠ (TX8 b).2.1 := by decide +kernel
theorem tyX8_ok : ∀ k, k < 13 → parseFieldDescriptor (TX8 k).2.2.1 = some (tyX8 k) := by decide +kernel
abbrev cX8_init : ByteArray := prog_1_method_1_code
def yX8_init : MethodName := ⟨RX8, "<init>", "()V"⟩
abbrev cX8_pot : ByteArray := prog_1_method_2_code
def yX8_pot : MethodName := ⟨RX8, "pot", "(III)I"⟩
abbrev cX8_of : ByteArray := prog_1_method_3_code
def yX8_of : MethodName := ⟨RX8, "of", "(II)I"⟩
abbrev cX8_world : ByteArray := prog_1_method_4_code
def yX8_world : MethodName := ⟨RX8, "world", "(I)I"⟩
abbrev cX8_sugar : ByteArray := prog_1_method_5_code
def yX8_sugar : MethodName := ⟨RX8, "sugar", "(II)I"⟩
abbrev cX8_spoon : ByteArray := prog_1_method_6_code
def yX8_spoon : MethodName := ⟨RX8, "spoon", "(II)I"⟩
abbrev cX8_row : ByteArray := prog_1_method_7_code
def yX8_row : MethodName := ⟨RX8, "row", "(III)I"⟩
abbrev cX8_feed : ByteArray := prog_1_method_8_code
def yX8_feed : MethodName := ⟨RX8, "feed", "(I)I"⟩
abbrev cX8_cellar : ByteArray := prog_1_method_9_code
def yX8_cellar : MethodName := ⟨RX8, "cellar", "()I"⟩
abbrev cX8_told : ByteArray := prog_1_method_10_code
def yX8_told : MethodName := ⟨RX8, "told", "(I)I"⟩
abbrev cX8_toldOfFits : ByteArray := prog_1_method_11_code
def yX8_toldOfFits : MethodName := ⟨RX8, "toldOfFits", "(I)I"⟩
abbrev cX8_trait : ByteArray := prog_1_method_12_code
def yX8_trait : MethodName := ⟨RX8, "trait", "(LJamOath$Pot;I)I"⟩
abbrev cX8_isDigit : ByteArray := prog_1_method_13_code
def yX8_isDigit : MethodName := ⟨RX8, "isDigit", "(I)Z"⟩
abbrev cX8_isFact : ByteArray := prog_1_method_14_code
def yX8_isFact : MethodName := ⟨RX8, "isFact", "(I)Z"⟩
abbrev cX8_isIn : ByteArray := prog_1_method_15_code
def yX8_isIn : MethodName := ⟨RX8, "isIn", "(II)Z"⟩
abbrev cX8_holding : ByteArray := prog_1_method_16_code
def yX8_holding : MethodName := ⟨RX8, "holding", "()LJamOath$Cellar;"⟩
abbrev cX8_clearOf : ByteArray := prog_1_method_17_code
def yX8_clearOf : MethodName := ⟨RX8, "clearOf", "(LJamOath$Pot;I)I"⟩
abbrev cX8_voiceOf : ByteArray := prog_1_method_18_code
def yX8_voiceOf : MethodName := ⟨RX8, "voiceOf", "(I)I"⟩
abbrev cX8_saidBy : ByteArray := prog_1_method_19_code
def yX8_saidBy : MethodName := ⟨RX8, "saidBy", "(II)I"⟩
abbrev cX8_says : ByteArray := prog_1_method_20_code
def yX8_says : MethodName := ⟨RX8, "says", "(LJamOath$Pot;I)I"⟩
abbrev cX8_when : ByteArray := prog_1_method_21_code
def yX8_when : MethodName := ⟨RX8, "when", "(LJamOath$Pot;I)I"⟩
abbrev cX8_found : ByteArray := prog_1_method_22_code
def yX8_found : MethodName := ⟨RX8, "found", "(I)I"⟩
abbrev cX8_pass : ByteArray := prog_1_method_23_code
def yX8_pass : MethodName := ⟨RX8, "pass", "(I)I"⟩
abbrev cX8_on : ByteArray := prog_1_method_24_code
def yX8_on : MethodName := ⟨RX8, "on", "(II)I"⟩
abbrev cX8_cases : ByteArray := prog_1_method_25_code
def yX8_cases : MethodName := ⟨RX8, "cases", "(II)I"⟩
abbrev cX8_gatherSpoken : ByteArray := prog_1_method_26_code
def yX8_gatherSpoken : MethodName := ⟨RX8, "gatherSpoken", "(I)V"⟩
abbrev cX8_enough : ByteArray := prog_1_method_27_code
def yX8_enough : MethodName := ⟨RX8, "enough", "(I)I"⟩
abbrev cX8_spokenBy : ByteArray := prog_1_method_28_code
def yX8_spokenBy : MethodName := ⟨RX8, "spokenBy", "(I)I"⟩
abbrev cX8_ownPots : ByteArray := prog_1_method_29_code
def yX8_ownPots : MethodName := ⟨RX8, "ownPots", "(I)I"⟩
abbrev cX8_givenOneMore : ByteArray := prog_1_method_30_code
def yX8_givenOneMore : MethodName := ⟨RX8, "givenOneMore", "(JI)J"⟩
abbrev cX8_hear : ByteArray := prog_1_method_31_code
def yX8_hear : MethodName := ⟨RX8, "hear", "(III)I"⟩
abbrev cX8_can : ByteArray := prog_1_method_32_code
def yX8_can : MethodName := ⟨RX8, "can", "(II)I"⟩
abbrev cX8_odds : ByteArray := prog_1_method_33_code
def yX8_odds : MethodName := ⟨RX8, "odds", "(II)J"⟩
abbrev cX8_mean : ByteArray := prog_1_method_34_code
def yX8_mean : MethodName := ⟨RX8, "mean", "(II)J"⟩
abbrev cX8_commonDivisor : ByteArray := prog_1_method_35_code
def yX8_commonDivisor : MethodName := ⟨RX8, "commonDivisor", "(II)I"⟩
abbrev cX8_gatherFits : ByteArray := prog_1_method_36_code
def yX8_gatherFits : MethodName := ⟨RX8, "gatherFits", "()V"⟩
abbrev cX8_nextToAsk : ByteArray := prog_1_method_37_code
def yX8_nextToAsk : MethodName := ⟨RX8, "nextToAsk", "()I"⟩
abbrev cX8_bearsOut : ByteArray := prog_1_method_38_code
def yX8_bearsOut : MethodName := ⟨RX8, "bearsOut", "(LJamOath$Pot;)Z"⟩
abbrev cX8_least : ByteArray := prog_1_method_39_code
def yX8_least : MethodName := ⟨RX8, "least", "(I)I"⟩
abbrev cX8_fittingSugars : ByteArray := prog_1_method_40_code
def yX8_fittingSugars : MethodName := ⟨RX8, "fittingSugars", "(LJamOath$Pot;)I"⟩
abbrev cX8_fittingNumbers : ByteArray := prog_1_method_41_code
def yX8_fittingNumbers : MethodName := ⟨RX8, "fittingNumbers", "(LJamOath$Pot;)I"⟩
abbrev cX8_plan : ByteArray := prog_1_method_42_code
def yX8_plan : MethodName := ⟨RX8, "plan", "(II)I"⟩
abbrev cX8_canGo : ByteArray := prog_1_method_43_code
def yX8_canGo : MethodName := ⟨RX8, "canGo", "(II)Z"⟩
abbrev cX8_ends : ByteArray := prog_1_method_44_code
def yX8_ends : MethodName := ⟨RX8, "ends", "(I)I"⟩
abbrev cX8_goOn : ByteArray := prog_1_method_45_code
def yX8_goOn : MethodName := ⟨RX8, "goOn", "(III)V"⟩
abbrev cX8_book : ByteArray := prog_1_method_46_code
def yX8_book : MethodName := ⟨RX8, "book", "(II)I"⟩
abbrev cX8_looked : ByteArray := prog_1_method_47_code
def yX8_looked : MethodName := ⟨RX8, "looked", "()I"⟩
abbrev cX8_judge : ByteArray := prog_1_method_48_code
def yX8_judge : MethodName := ⟨RX8, "judge", "(II)I"⟩
abbrev cX8_image : ByteArray := prog_1_method_49_code
def yX8_image : MethodName := ⟨RX8, "image", "()I"⟩
abbrev cX8_undo : ByteArray := prog_1_method_50_code
def yX8_undo : MethodName := ⟨RX8, "undo", "()I"⟩
abbrev cX8_act : ByteArray := prog_1_method_51_code
def yX8_act : MethodName := ⟨RX8, "act", "(III)I"⟩
abbrev cX8_trace : ByteArray := prog_1_method_52_code
def yX8_trace : MethodName := ⟨RX8, "trace", "(I)I"⟩
abbrev cX8_taken : ByteArray := prog_1_method_53_code
def yX8_taken : MethodName := ⟨RX8, "taken", "(II)I"⟩
abbrev cX8_isUnder : ByteArray := prog_1_method_54_code
def yX8_isUnder : MethodName := ⟨RX8, "isUnder", "(II)Z"⟩
abbrev cX8_count : ByteArray := prog_1_method_55_code
def yX8_count : MethodName := ⟨RX8, "count", "(I)I"⟩
abbrev cX8_tape : ByteArray := prog_1_method_56_code
def yX8_tape : MethodName := ⟨RX8, "tape", "(III)I"⟩
abbrev cX8_item : ByteArray := prog_1_method_57_code
def yX8_item : MethodName := ⟨RX8, "item", "(IIJ)I"⟩
abbrev cX8_read : ByteArray := prog_1_method_58_code
def yX8_read : MethodName := ⟨RX8, "read", "(II)J"⟩
abbrev cX8_shift : ByteArray := prog_1_method_59_code
def yX8_shift : MethodName := ⟨RX8, "shift", "(IIIII)I"⟩
abbrev cX8_tapeAt : ByteArray := prog_1_method_60_code
def yX8_tapeAt : MethodName := ⟨RX8, "tapeAt", "(I)LJamOath$Tape;"⟩
def RX9 : String := "JamOathModel"
def TX9 : u_T := fun k => match k with
  | 0 => ("JamOathModel", "now", "[I", true)
  | 1 => ("JamOathModel", "mind", "[I", true)
  | 2 => ("JamOathModel", "then", "[I", true)
  | 3 => ("JamOathModel", "kept", "Z", false)
  | 4 => ("JamOathModel", "text", "[I", true)
  | 5 => ("JamOathModel", "texted", "I", false)
  | 6 => ("JamOathModel", "rules", "[I", true)
  | 7 => ("JamOathModel", "sizes", "[I", true)
  | 8 => ("JamOathModel", "ruled", "I", false)
  | 9 => ("JamOathModel", "read", "[I", true)
  | 10 => ("JamOathModel", "size", "I", false)
  | 11 => ("JamOathModel", "at", "I", false)
  | 12 => ("JamOathModel", "well", "Z", false)
  | 13 => ("JamOathModel", "within", "I", false)
  | 14 => ("JamOathModel", "sum", "I", false)
  | 15 => ("JamOathModel", "keep", "I", false)
  | 16 => ("JamOathModel", "names", "[I", true)
  | 17 => ("JamOathModel", "letters", "[C", true)
  | 18 => ("JamOathModel", "begins", "[C", true)
  | 19 => ("JamOathModel", "words", "[C", true)
  | 20 => ("JamOathModel", "heard", "[I", true)
  | 21 => ("JamOathModel", "fit", "[Z", true)
  | 22 => ("JamOathModel", "left", "[I", true)
  | 23 => ("JamOathModel", "tell", "[I", true)
  | 24 => ("JamOathModel", "above", "[I", true)
  | 25 => ("JamOathModel", "bodies", "[I", true)
  | 26 => ("JamOathModel", "trace", "[I", true)
  | 27 => ("JamOathModel", "ran", "I", false)
  | 28 => ("JamOathModel", "sorts", "[I", true)
  | 29 => ("JamOathModel", "lengths", "[I", true)
  | 30 => ("JamOathModel", "items", "[J", true)
  | _ => ("JamOathModel", "moved", "[J", true)
def tyX9 : Nat → FieldType := fun k => match k with
  | 0 => .array .int
  | 1 => .array .int
  | 2 => .array .int
  | 3 => .boolean
  | 4 => .array .int
  | 5 => .int
  | 6 => .array .int
  | 7 => .array .int
  | 8 => .int
  | 9 => .array .int
  | 10 => .int
  | 11 => .int
  | 12 => .boolean
  | 13 => .int
  | 14 => .int
  | 15 => .int
  | 16 => .array .int
  | 17 => .array .char
  | 18 => .array .char
  | 19 => .array .char
  | 20 => .array .int
  | 21 => .array .boolean
  | 22 => .array .int
  | 23 => .array .int
  | 24 => .array .int
  | 25 => .array .int
  | 26 => .array .int
  | 27 => .int
  | 28 => .array .int
  | 29 => .array .int
  | 30 => .array .long
  | _ => .array .long
abbrev wsX90 : List Cond := u_ws RX9 TX9 32
theorem nmX9 : ∀ a, a < 32 → ∀ b, b < 32 → a ≠ b → (TX9 a).2.1 ≠ (TX9 b).2.1 := by decide +kernel
theorem tyX9_ok : ∀ k, k < 32 → parseFieldDescriptor (TX9 k).2.2.1 = some (tyX9 k) := by decide +kernel
abbrev cX9_init : ByteArray := prog_11_method_1_code
def yX9_init : MethodName := ⟨RX9, "<init>", "()V"⟩
abbrev cX9_isIn : ByteArray := prog_11_method_2_code
def yX9_isIn : MethodName := ⟨RX9, "isIn", "(III)Z"⟩
abbrev cX9_move : ByteArray := prog_11_method_3_code
def yX9_move : MethodName := ⟨RX9, "move", "([I[I)V"⟩
abbrev cX9_image : ByteArray := prog_11_method_4_code
def yX9_image : MethodName := ⟨RX9, "image", "()I"⟩
abbrev cX9_undo : ByteArray := prog_11_method_5_code
def yX9_undo : MethodName := ⟨RX9, "undo", "()I"⟩
abbrev cX9_isPot : ByteArray := prog_11_method_6_code
def yX9_isPot : MethodName := ⟨RX9, "isPot", "(I)Z"⟩
abbrev cX9_isFact : ByteArray := prog_11_method_7_code
def yX9_isFact : MethodName := ⟨RX9, "isFact", "(I)Z"⟩
abbrev cX9_one : ByteArray := prog_11_method_8_code
def yX9_one : MethodName := ⟨RX9, "one", "(II)I"⟩
abbrev cX9_change : ByteArray := prog_11_method_9_code
def yX9_change : MethodName := ⟨RX9, "change", "(III)I"⟩
abbrev cX9_many : ByteArray := prog_11_method_10_code
def yX9_many : MethodName := ⟨RX9, "many", "(I)I"⟩
abbrev cX9_pot : ByteArray := prog_11_method_11_code
def yX9_pot : MethodName := ⟨RX9, "pot", "(III)I"⟩
abbrev cX9_of : ByteArray := prog_11_method_12_code
def yX9_of : MethodName := ⟨RX9, "of", "(II)I"⟩
abbrev cX9_world : ByteArray := prog_11_method_13_code
def yX9_world : MethodName := ⟨RX9, "world", "(I)I"⟩
abbrev cX9_sugar : ByteArray := prog_11_method_14_code
def yX9_sugar : MethodName := ⟨RX9, "sugar", "(II)I"⟩
abbrev cX9_opens : ByteArray := prog_11_method_15_code
def yX9_opens : MethodName := ⟨RX9, "opens", "(I)V"⟩
abbrev cX9_spoon : ByteArray := prog_11_method_16_code
def yX9_spoon : MethodName := ⟨RX9, "spoon", "(II)I"⟩
abbrev cX9_row : ByteArray := prog_11_method_17_code
def yX9_row : MethodName := ⟨RX9, "row", "(III)I"⟩
abbrev cX9_feed : ByteArray := prog_11_method_18_code
def yX9_feed : MethodName := ⟨RX9, "feed", "(I)I"⟩
abbrev cX9_isAt : ByteArray := prog_11_method_19_code
def yX9_isAt : MethodName := ⟨RX9, "isAt", "(I)Z"⟩
abbrev cX9_takes : ByteArray := prog_11_method_20_code
def yX9_takes : MethodName := ⟨RX9, "takes", "(I)V"⟩
abbrev cX9_isDigit : ByteArray := prog_11_method_21_code
def yX9_isDigit : MethodName := ⟨RX9, "isDigit", "()Z"⟩
abbrev cX9_number : ByteArray := prog_11_method_22_code
def yX9_number : MethodName := ⟨RX9, "number", "()I"⟩
abbrev cX9_test : ByteArray := prog_11_method_23_code
def yX9_test : MethodName := ⟨RX9, "test", "()Z"⟩
abbrev cX9_factor : ByteArray := prog_11_method_24_code
def yX9_factor : MethodName := ⟨RX9, "factor", "()Z"⟩
abbrev cX9_both : ByteArray := prog_11_method_25_code
def yX9_both : MethodName := ⟨RX9, "both", "()Z"⟩
abbrev cX9_any : ByteArray := prog_11_method_26_code
def yX9_any : MethodName := ⟨RX9, "any", "()Z"⟩
abbrev cX9_clause : ByteArray := prog_11_method_27_code
def yX9_clause : MethodName := ⟨RX9, "clause", "()V"⟩
abbrev cX9_readAll : ByteArray := prog_11_method_28_code
def yX9_readAll : MethodName := ⟨RX9, "readAll", "()Z"⟩
abbrev cX9_readFor : ByteArray := prog_11_method_29_code
def yX9_readFor : MethodName := ⟨RX9, "readFor", "(II)V"⟩
abbrev cX9_cellar : ByteArray := prog_11_method_30_code
def yX9_cellar : MethodName := ⟨RX9, "cellar", "()I"⟩
abbrev cX9_clear : ByteArray := prog_11_method_31_code
def yX9_clear : MethodName := ⟨RX9, "clear", "(II)I"⟩
abbrev cX9_saysBy : ByteArray := prog_11_method_32_code
def yX9_saysBy : MethodName := ⟨RX9, "saysBy", "(III)I"⟩
abbrev cX9_says : ByteArray := prog_11_method_33_code
def yX9_says : MethodName := ⟨RX9, "says", "(III)I"⟩
abbrev cX9_keepNow : ByteArray := prog_11_method_34_code
def yX9_keepNow : MethodName := ⟨RX9, "keepNow", "()I"⟩
abbrev cX9_term : ByteArray := prog_11_method_35_code
def yX9_term : MethodName := ⟨RX9, "term", "()V"⟩
abbrev cX9_terms : ByteArray := prog_11_method_36_code
def yX9_terms : MethodName := ⟨RX9, "terms", "(I)V"⟩
abbrev cX9_all : ByteArray := prog_11_method_37_code
def yX9_all : MethodName := ⟨RX9, "all", "(I)I"⟩
abbrev cX9_when : ByteArray := prog_11_method_38_code
def yX9_when : MethodName := ⟨RX9, "when", "(II)I"⟩
abbrev cX9_look : ByteArray := prog_11_method_39_code
def yX9_look : MethodName := ⟨RX9, "look", "()I"⟩
abbrev cX9_leastFit : ByteArray := prog_11_method_40_code
def yX9_leastFit : MethodName := ⟨RX9, "leastFit", "()I"⟩
abbrev cX9_sure : ByteArray := prog_11_method_41_code
def yX9_sure : MethodName := ⟨RX9, "sure", "(Z)I"⟩
abbrev cX9_next : ByteArray := prog_11_method_42_code
def yX9_next : MethodName := ⟨RX9, "next", "()I"⟩
abbrev cX9_found : ByteArray := prog_11_method_43_code
def yX9_found : MethodName := ⟨RX9, "found", "(I)I"⟩
abbrev cX9_told : ByteArray := prog_11_method_44_code
def yX9_told : MethodName := ⟨RX9, "told", "(I)I"⟩
abbrev cX9_pass : ByteArray := prog_11_method_45_code
def yX9_pass : MethodName := ⟨RX9, "pass", "(I)I"⟩
abbrev cX9_on : ByteArray := prog_11_method_46_code
def yX9_on : MethodName := ⟨RX9, "on", "(II)I"⟩
abbrev cX9_ask : ByteArray := prog_11_method_47_code
def yX9_ask : MethodName := ⟨RX9, "ask", "()V"⟩
abbrev cX9_enough : ByteArray := prog_11_method_48_code
def yX9_enough : MethodName := ⟨RX9, "enough", "(I)I"⟩
abbrev cX9_own : ByteArray := prog_11_method_49_code
def yX9_own : MethodName := ⟨RX9, "own", "(II)I"⟩
abbrev cX9_cases : ByteArray := prog_11_method_50_code
def yX9_cases : MethodName := ⟨RX9, "cases", "(II)I"⟩
abbrev cX9_hear : ByteArray := prog_11_method_51_code
def yX9_hear : MethodName := ⟨RX9, "hear", "(III)I"⟩
abbrev cX9_isAllSo : ByteArray := prog_11_method_52_code
def yX9_isAllSo : MethodName := ⟨RX9, "isAllSo", "(I)Z"⟩
abbrev cX9_fits : ByteArray := prog_11_method_53_code
def yX9_fits : MethodName := ⟨RX9, "fits", "(II)I"⟩
abbrev cX9_can : ByteArray := prog_11_method_54_code
def yX9_can : MethodName := ⟨RX9, "can", "(II)I"⟩
abbrev cX9_fraction : ByteArray := prog_11_method_55_code
def yX9_fraction : MethodName := ⟨RX9, "fraction", "(JJI)J"⟩
abbrev cX9_odds : ByteArray := prog_11_method_56_code
def yX9_odds : MethodName := ⟨RX9, "odds", "(II)J"⟩
abbrev cX9_mean : ByteArray := prog_11_method_57_code
def yX9_mean : MethodName := ⟨RX9, "mean", "(II)J"⟩
abbrev cX9_plan : ByteArray := prog_11_method_58_code
def yX9_plan : MethodName := ⟨RX9, "plan", "(II)I"⟩
abbrev cX9_ends : ByteArray := prog_11_method_59_code
def yX9_ends : MethodName := ⟨RX9, "ends", "(I)I"⟩
abbrev cX9_book : ByteArray := prog_11_method_60_code
def yX9_book : MethodName := ⟨RX9, "book", "(II)I"⟩
abbrev cX9_looked : ByteArray := prog_11_method_61_code
def yX9_looked : MethodName := ⟨RX9, "looked", "()I"⟩
abbrev cX9_body : ByteArray := prog_11_method_62_code
def yX9_body : MethodName := ⟨RX9, "body", "(I)I"⟩
abbrev cX9_begin : ByteArray := prog_11_method_63_code
def yX9_begin : MethodName := ⟨RX9, "begin", "(III)I"⟩
abbrev cX9_byKind : ByteArray := prog_11_method_64_code
def yX9_byKind : MethodName := ⟨RX9, "byKind", "(IIII)I"⟩
abbrev cX9_act : ByteArray := prog_11_method_65_code
def yX9_act : MethodName := ⟨RX9, "act", "(III)I"⟩
abbrev cX9_trace : ByteArray := prog_11_method_66_code
def yX9_trace : MethodName := ⟨RX9, "trace", "(I)I"⟩
abbrev cX9_taken : ByteArray := prog_11_method_67_code
def yX9_taken : MethodName := ⟨RX9, "taken", "(II)I"⟩
abbrev cX9_count : ByteArray := prog_11_method_68_code
def yX9_count : MethodName := ⟨RX9, "count", "(I)I"⟩
abbrev cX9_isTape : ByteArray := prog_11_method_69_code
def yX9_isTape : MethodName := ⟨RX9, "isTape", "(I)Z"⟩
abbrev cX9_tape : ByteArray := prog_11_method_70_code
def yX9_tape : MethodName := ⟨RX9, "tape", "(III)I"⟩
abbrev cX9_item : ByteArray := prog_11_method_71_code
def yX9_item : MethodName := ⟨RX9, "item", "(IIJ)I"⟩
abbrev cX9_read : ByteArray := prog_11_method_72_code
def yX9_read : MethodName := ⟨RX9, "read", "(II)J"⟩
abbrev cX9_shift : ByteArray := prog_11_method_73_code
def yX9_shift : MethodName := ⟨RX9, "shift", "(IIIII)I"⟩
abbrev cX9_judge : ByteArray := prog_11_method_74_code
def yX9_judge : MethodName := ⟨RX9, "judge", "(II)I"⟩
def RJx145de : String := "java/io/Serializable"
def TJx145de : u_T := fun k => match k with
  | _ => ("", "", "", false)
def tyJx145de : Nat → FieldType := fun k => match k with
  | _ => .int
abbrev wsJx145de0 : List Cond := u_ws RJx145de TJx145de 0
theorem nmJx145de : ∀ a, a < 0 → ∀ b, b < 0 → a ≠ b → (TJx145de a).2.1 ≠ (TJx145de b).2.1 := by decide +kernel
theorem tyJx145de_ok : ∀ k, k < 0 → parseFieldDescriptor (TJx145de k).2.2.1 = some (tyJx145de k) := by decide +kernel
def RJx9f9b0 : String := "java/lang/CharSequence"
def TJx9f9b0 : u_T := fun k => match k with
  | _ => ("", "", "", false)
def tyJx9f9b0 : Nat → FieldType := fun k => match k with
  | _ => .int
abbrev wsJx9f9b00 : List Cond := u_ws RJx9f9b0 TJx9f9b0 0
theorem nmJx9f9b0 : ∀ a, a < 0 → ∀ b, b < 0 → a ≠ b → (TJx9f9b0 a).2.1 ≠ (TJx9f9b0 b).2.1 := by decide +kernel
theorem tyJx9f9b0_ok : ∀ k, k < 0 → parseFieldDescriptor (TJx9f9b0 k).2.2.1 = some (tyJx9f9b0 k) := by decide +kernel
def RJ11 : String := "java/lang/Character"
def TJ11 : u_T := fun k => match k with
  | _ => ("", "", "", false)
def tyJ11 : Nat → FieldType := fun k => match k with
  | _ => .int
abbrev wsJ110 : List Cond := u_ws RJ11 TJ11 0
theorem nmJ11 : ∀ a, a < 0 → ∀ b, b < 0 → a ≠ b → (TJ11 a).2.1 ≠ (TJ11 b).2.1 := by decide +kernel
theorem tyJ11_ok : ∀ k, k < 0 → parseFieldDescriptor (TJ11 k).2.2.1 = some (tyJ11 k) := by decide +kernel
abbrev cJ11_isValidCodePoint_9a6ad : ByteArray := prog_12_method_11_code
def yJ11_isValidCodePoint_9a6ad : MethodName := ⟨RJ11, "isValidCodePoint", "(I)Z"⟩
abbrev cJ11_highSurrogate_5068e : ByteArray := prog_12_method_28_code
def yJ11_highSurrogate_5068e : MethodName := ⟨RJ11, "highSurrogate", "(I)C"⟩
abbrev cJ11_lowSurrogate_5068e : ByteArray := prog_12_method_29_code
def yJ11_lowSurrogate_5068e : MethodName := ⟨RJ11, "lowSurrogate", "(I)C"⟩
def RJxb160c : String := "java/lang/Comparable"
def TJxb160c : u_T := fun k => match k with
  | _ => ("", "", "", false)
def tyJxb160c : Nat → FieldType := fun k => match k with
  | _ => .int
abbrev wsJxb160c0 : List Cond := u_ws RJxb160c TJxb160c 0
theorem nmJxb160c : ∀ a, a < 0 → ∀ b, b < 0 → a ≠ b → (TJxb160c a).2.1 ≠ (TJxb160c b).2.1 := by decide +kernel
theorem tyJxb160c_ok : ∀ k, k < 0 → parseFieldDescriptor (TJxb160c k).2.2.1 = some (tyJxb160c k) := by decide +kernel
def RJ6 : String := "java/lang/Integer"
def TJ6 : u_T := fun k => match k with
  | _ => ("", "", "", false)
def tyJ6 : Nat → FieldType := fun k => match k with
  | _ => .int
abbrev wsJ60 : List Cond := u_ws RJ6 TJ6 0
theorem nmJ6 : ∀ a, a < 0 → ∀ b, b < 0 → a ≠ b → (TJ6 a).2.1 ≠ (TJ6 b).2.1 := by decide +kernel
theorem tyJ6_ok : ∀ k, k < 0 → parseFieldDescriptor (TJ6 k).2.2.1 = some (tyJ6 k) := by decide +kernel
abbrev cJ6_bitCount_0f7a4 : ByteArray := prog_13_method_49_code
def yJ6_bitCount_0f7a4 : MethodName := ⟨RJ6, "bitCount", "(I)I"⟩
def RJ9 : String := "java/lang/Math"
def TJ9 : u_T := fun k => match k with
  | _ => ("", "", "", false)
def tyJ9 : Nat → FieldType := fun k => match k with
  | _ => .int
abbrev wsJ90 : List Cond := u_ws RJ9 TJ9 0
theorem nmJ9 : ∀ a, a < 0 → ∀ b, b < 0 → a ≠ b → (TJ9 a).2.1 ≠ (TJ9 b).2.1 := by decide +kernel
theorem tyJ9_ok : ∀ k, k < 0 → parseFieldDescriptor (TJ9 k).2.2.1 = some (tyJ9 k) := by decide +kernel
abbrev cJ9_abs_0f7a4 : ByteArray := prog_14_method_59_code
def yJ9_abs_0f7a4 : MethodName := ⟨RJ9, "abs", "(I)I"⟩
abbrev cJ9_max_7cf53 : ByteArray := prog_14_method_65_code
def yJ9_max_7cf53 : MethodName := ⟨RJ9, "max", "(II)I"⟩
abbrev cJ9_min_7cf53 : ByteArray := prog_14_method_69_code
def yJ9_min_7cf53 : MethodName := ⟨RJ9, "min", "(II)I"⟩
def RJ0 : String := "java/lang/String"
def TJ0 : u_T := fun k => match k with
  | _ => ("", "", "", false)
def tyJ0 : Nat → FieldType := fun k => match k with
  | _ => .int
abbrev wsJ00 : List Cond := u_ws RJ0 TJ0 0
theorem nmJ0 : ∀ a, a < 0 → ∀ b, b < 0 → a ≠ b → (TJ0 a).2.1 ≠ (TJ0 b).2.1 := by decide +kernel
theorem tyJ0_ok : ∀ k, k < 0 → parseFieldDescriptor (TJ0 k).2.2.1 = some (tyJ0 k) := by decide +kernel
abbrev cJ0_length_8abf5 : ByteArray := prog_15_method_54_code
def yJ0_length_8abf5 : MethodName := ⟨RJ0, "length", "()I"⟩
abbrev cJ0_charAt_5068e : ByteArray := prog_15_method_56_code
def yJ0_charAt_5068e : MethodName := ⟨RJ0, "charAt", "(I)C"⟩
abbrev cJ0_indexOf_0f7a4 : ByteArray := prog_15_method_79_code
def yJ0_indexOf_0f7a4 : MethodName := ⟨RJ0, "indexOf", "(I)I"⟩
abbrev cJ0_indexOf_7cf53 : ByteArray := prog_15_method_80_code
def yJ0_indexOf_7cf53 : MethodName := ⟨RJ0, "indexOf", "(II)I"⟩
abbrev cJ0_coder_7d493 : ByteArray := prog_15_method_152_code
def yJ0_coder_7d493 : MethodName := ⟨RJ0, "coder", "()B"⟩
abbrev cJ0_isLatin1_aae02 : ByteArray := prog_15_method_154_code
def yJ0_isLatin1_aae02 : MethodName := ⟨RJ0, "isLatin1", "()Z"⟩
abbrev cJ0_checkIndex_df160 : ByteArray := prog_15_method_155_code
def yJ0_checkIndex_df160 : MethodName := ⟨RJ0, "checkIndex", "(II)V"⟩
abbrev cJ0_checkBoundsBeginEnd_23922 : ByteArray := prog_15_method_158_code
def yJ0_checkBoundsBeginEnd_23922 : MethodName := ⟨RJ0, "checkBoundsBeginEnd", "(III)V"⟩
def RJ1 : String := "java/lang/StringLatin1"
def TJ1 : u_T := fun k => match k with
  | _ => ("", "", "", false)
def tyJ1 : Nat → FieldType := fun k => match k with
  | _ => .int
abbrev wsJ10 : List Cond := u_ws RJ1 TJ1 0
theorem nmJ1 : ∀ a, a < 0 → ∀ b, b < 0 → a ≠ b → (TJ1 a).2.1 ≠ (TJ1 b).2.1 := by decide +kernel
theorem tyJ1_ok : ∀ k, k < 0 → parseFieldDescriptor (TJ1 k).2.2.1 = some (tyJ1 k) := by decide +kernel
abbrev cJ1_charAt_3b067 : ByteArray := prog_16_method_2_code
def yJ1_charAt_3b067 : MethodName := ⟨RJ1, "charAt", "([BI)C"⟩
abbrev cJ1_canEncode_9a6ad : ByteArray := prog_16_method_4_code
def yJ1_canEncode_9a6ad : MethodName := ⟨RJ1, "canEncode", "(I)Z"⟩
abbrev cJ1_indexOf_4cfef : ByteArray := prog_16_method_22_code
def yJ1_indexOf_4cfef : MethodName := ⟨RJ1, "indexOf", "([BIII)I"⟩
abbrev cJ1_indexOfChar_4cfef : ByteArray := prog_16_method_23_code
def yJ1_indexOfChar_4cfef : MethodName := ⟨RJ1, "indexOfChar", "([BIII)I"⟩
def RJ2 : String := "java/lang/StringUTF16"
def TJ2 : u_T := fun k => match k with
  | _ => ("", "", "", false)
def tyJ2 : Nat → FieldType := fun k => match k with
  | _ => .int
abbrev wsJ20 : List Cond := u_ws RJ2 TJ2 0
theorem nmJ2 : ∀ a, a < 0 → ∀ b, b < 0 → a ≠ b → (TJ2 a).2.1 ≠ (TJ2 b).2.1 := by decide +kernel
theorem tyJ2_ok : ∀ k, k < 0 → parseFieldDescriptor (TJ2 k).2.2.1 = some (tyJ2 k) := by decide +kernel
abbrev cJ2_getChar_3b067 : ByteArray := prog_17_method_5_code
def yJ2_getChar_3b067 : MethodName := ⟨RJ2, "getChar", "([BI)C"⟩
abbrev cJ2_length_9d52b : ByteArray := prog_17_method_6_code
def yJ2_length_9d52b : MethodName := ⟨RJ2, "length", "([B)I"⟩
abbrev cJ2_indexOf_4cfef : ByteArray := prog_17_method_40_code
def yJ2_indexOf_4cfef : MethodName := ⟨RJ2, "indexOf", "([BIII)I"⟩
abbrev cJ2_indexOfChar_4cfef : ByteArray := prog_17_method_47_code
def yJ2_indexOfChar_4cfef : MethodName := ⟨RJ2, "indexOfChar", "([BIII)I"⟩
abbrev cJ2_indexOfCharUnsafe_4cfef : ByteArray := prog_17_method_48_code
def yJ2_indexOfCharUnsafe_4cfef : MethodName := ⟨RJ2, "indexOfCharUnsafe", "([BIII)I"⟩
abbrev cJ2_indexOfSupplementary_4cfef : ByteArray := prog_17_method_49_code
def yJ2_indexOfSupplementary_4cfef : MethodName := ⟨RJ2, "indexOfSupplementary", "([BIII)I"⟩
abbrev cJ2_charAt_3b067 : ByteArray := prog_17_method_83_code
def yJ2_charAt_3b067 : MethodName := ⟨RJ2, "charAt", "([BI)C"⟩
abbrev cJ2_checkIndex_2214a : ByteArray := prog_17_method_91_code
def yJ2_checkIndex_2214a : MethodName := ⟨RJ2, "checkIndex", "(I[B)V"⟩
abbrev cJ2_checkBoundsBeginEnd_d044e : ByteArray := prog_17_method_93_code
def yJ2_checkBoundsBeginEnd_d044e : MethodName := ⟨RJ2, "checkBoundsBeginEnd", "(II[B)V"⟩
def RJ10 : String := "java/lang/System"
def TJ10 : u_T := fun k => match k with
  | _ => ("", "", "", false)
def tyJ10 : Nat → FieldType := fun k => match k with
  | _ => .int
abbrev wsJ100 : List Cond := u_ws RJ10 TJ10 0
theorem nmJ10 : ∀ a, a < 0 → ∀ b, b < 0 → a ≠ b → (TJ10 a).2.1 ≠ (TJ10 b).2.1 := by decide +kernel
theorem tyJ10_ok : ∀ k, k < 0 → parseFieldDescriptor (TJ10 k).2.2.1 = some (tyJ10 k) := by decide +kernel
def RJxfd54e : String := "java/lang/constant/Constable"
def TJxfd54e : u_T := fun k => match k with
  | _ => ("", "", "", false)
def tyJxfd54e : Nat → FieldType := fun k => match k with
  | _ => .int
abbrev wsJxfd54e0 : List Cond := u_ws RJxfd54e TJxfd54e 0
theorem nmJxfd54e : ∀ a, a < 0 → ∀ b, b < 0 → a ≠ b → (TJxfd54e a).2.1 ≠ (TJxfd54e b).2.1 := by decide +kernel
theorem tyJxfd54e_ok : ∀ k, k < 0 → parseFieldDescriptor (TJxfd54e k).2.2.1 = some (tyJxfd54e k) := by decide +kernel
def RJx3cf43 : String := "java/lang/constant/ConstantDesc"
def TJx3cf43 : u_T := fun k => match k with
  | _ => ("", "", "", false)
def tyJx3cf43 : Nat → FieldType := fun k => match k with
  | _ => .int
abbrev wsJx3cf430 : List Cond := u_ws RJx3cf43 TJx3cf43 0
theorem nmJx3cf43 : ∀ a, a < 0 → ∀ b, b < 0 → a ≠ b → (TJx3cf43 a).2.1 ≠ (TJx3cf43 b).2.1 := by decide +kernel
theorem tyJx3cf43_ok : ∀ k, k < 0 → parseFieldDescriptor (TJx3cf43 k).2.2.1 = some (tyJx3cf43 k) := by decide +kernel
def RJ7 : String := "java/util/Arrays"
def TJ7 : u_T := fun k => match k with
  | _ => ("", "", "", false)
def tyJ7 : Nat → FieldType := fun k => match k with
  | _ => .int
abbrev wsJ70 : List Cond := u_ws RJ7 TJ7 0
theorem nmJ7 : ∀ a, a < 0 → ∀ b, b < 0 → a ≠ b → (TJ7 a).2.1 ≠ (TJ7 b).2.1 := by decide +kernel
theorem tyJ7_ok : ∀ k, k < 0 → parseFieldDescriptor (TJ7 k).2.2.1 = some (tyJ7 k) := by decide +kernel
abbrev cJ7_fill_d0a16 : ByteArray := prog_19_method_101_code
def yJ7_fill_d0a16 : MethodName := ⟨RJ7, "fill", "([JJ)V"⟩
abbrev cJ7_fill_53178 : ByteArray := prog_19_method_103_code
def yJ7_fill_53178 : MethodName := ⟨RJ7, "fill", "([II)V"⟩
def RJ3 : String := "jdk/internal/util/Preconditions"
def TJ3 : u_T := fun k => match k with
  | _ => ("", "", "", false)
def tyJ3 : Nat → FieldType := fun k => match k with
  | _ => .int
abbrev wsJ30 : List Cond := u_ws RJ3 TJ3 0
theorem nmJ3 : ∀ a, a < 0 → ∀ b, b < 0 → a ≠ b → (TJ3 a).2.1 ≠ (TJ3 b).2.1 := by decide +kernel
theorem tyJ3_ok : ∀ k, k < 0 → parseFieldDescriptor (TJ3 k).2.2.1 = some (tyJ3 k) := by decide +kernel
abbrev cJ3_checkIndex_8e157 : ByteArray := prog_20_method_11_code
def yJ3_checkIndex_8e157 : MethodName := ⟨RJ3, "checkIndex", "(IILjava/util/function/BiFunction;)I"⟩
abbrev cJ3_checkFromToIndex_8c36e : ByteArray := prog_20_method_12_code
def yJ3_checkFromToIndex_8c36e : MethodName := ⟨RJ3, "checkFromToIndex", "(IIILjava/util/function/BiFunction;)I"⟩
def RL : String := "JamOathLaw"
abbrev cL_law : ByteArray := code
def yL_law : MethodName := ⟨RL, "law", "([I)Z"⟩
theorem inX0 : ∀ w ∈ wsX00, w ∈ lw_tbl := by decide +kernel
theorem inX1 : ∀ w ∈ wsX10, w ∈ lw_tbl := by decide +kernel
theorem inX2 : ∀ w ∈ wsX20, w ∈ lw_tbl := by decide +kernel
theorem inX3 : ∀ w ∈ wsX30, w ∈ lw_tbl := by decide +kernel
theorem inX4 : ∀ w ∈ wsX40, w ∈ lw_tbl := by decide +kernel
theorem inX5 : ∀ w ∈ wsX50, w ∈ lw_tbl := by decide +kernel
theorem inX6 : ∀ w ∈ wsX60, w ∈ lw_tbl := by decide +kernel
theorem inX7 : ∀ w ∈ wsX70, w ∈ lw_tbl := by decide +kernel
theorem inX8 : ∀ w ∈ wsX80, w ∈ lw_tbl := by decide +kernel
theorem inX9 : ∀ w ∈ wsX90, w ∈ lw_tbl := by decide +kernel
abbrev vwCl : List vw_C := [(RX0, TX0, 2), (RX1, TX1, 3), (RX2, TX2, 3), (RX3, TX3, 7), (RX4, TX4, 4), (RX5, TX5, 8), (RX6, TX6, 3), (RX7, TX7, 4), (RX8, TX8, 13), (RX9, TX9, 32)]
end
section
theorem dX0_init_0 : decode cX0_init 0 = .ok (.aload_n 0, 1) := by decide +kernel
theorem dX0_init_1 : decode cX0_init 1 = .ok (.invokespecial 3, 3) := by decide +kernel
theorem dX0_init_4 : decode cX0_init 4 = .ok (.aload_n 0, 1) := by decide +kernel
theorem dX0_init_5 : decode cX0_init 5 = .ok (.bipush 20, 2) := by decide +kernel
theorem dX0_init_7 : decode cX0_init 7 = .ok (.newarray .int, 2) := by decide +kernel
theorem dX0_init_9 : decode cX0_init 9 = .ok (.putfield 11, 3) := by decide +kernel
theorem dX0_init_12 : decode cX0_init 12 = .ok (.aload_n 0, 1) := by decide +kernel
theorem dX0_init_13 : decode cX0_init 13 = .ok (.iconst 0, 1) := by decide +kernel
theorem dX0_init_14 : decode cX0_init 14 = .ok (.putfield 15, 3) := by decide +kernel
theorem dX0_init_17 : decode cX0_init 17 = .ok (.return_, 1) := by decide +kernel
theorem dX0_forget_0 : decode cX0_forget 0 = .ok (.aload_n 0, 1) := by decide +kernel
theorem dX0_forget_1 : decode cX0_forget 1 = .ok (.iconst 0, 1) := by decide +kernel
theorem dX0_forget_2 : decode cX0_forget 2 = .ok (.putfield 15, 3) := by decide +kernel
theorem dX0_forget_5 : decode cX0_forget 5 = .ok (.return_, 1) := by decide +kernel
theorem dX0_keptCount_0 : decode cX0_keptCount 0 = .ok (.aload_n 0, 1) := by decide +kernel
theorem dX0_keptCount_1 : decode cX0_keptCount 1 = .ok (.getfield 15, 3) := by decide +kernel
theorem dX0_keptCount_4 : decode cX0_keptCount 4 = .ok (.bipush 20, 2) := by decide +kernel
theorem dX0_keptCount_6 : decode cX0_keptCount 6 = .ok (.invokestatic 19, 3) := by decide +kernel
theorem dX0_keptCount_9 : decode cX0_keptCount 9 = .ok (.ireturn, 1) := by decide +kernel
theorem dX0_note_0 : decode cX0_note 0 = .ok (.aload_n 0, 1) := by decide +kernel
theorem dX0_note_1 : decode cX0_note 1 = .ok (.getfield 15, 3) := by decide +kernel
theorem dX0_note_4 : decode cX0_note 4 = .ok (.bipush 20, 2) := by decide +kernel
theorem dX0_note_6 : decode cX0_note 6 = .ok (.if_icmp .ge 13, 3) := by decide +kernel
theorem dX0_note_9 : decode cX0_note 9 = .ok (.aload_n 0, 1) := by decide +kernel
theorem dX0_note_10 : decode cX0_note 10 = .ok (.getfield 11, 3) := by decide +kernel
theorem dX0_note_13 : decode cX0_note 13 = .ok (.aload_n 0, 1) := by decide +kernel
theorem dX0_note_14 : decode cX0_note 14 = .ok (.getfield 15, 3) := by decide +kernel
theorem dX0_note_17 : decode cX0_note 17 = .ok (.iload_n 1, 1) := by decide +kernel
theorem dX0_note_18 : decode cX0_note 18 = .ok (.iastore, 1) := by decide +kernel
theorem dX0_note_19 : decode cX0_note 19 = .ok (.aload_n 0, 1) := by decide +kernel
theorem dX0_note_20 : decode cX0_note 20 = .ok (.dup, 1) := by decide +kernel
theorem dX0_note_21 : decode cX0_note 21 = .ok (.getfield 15, 3) := by decide +kernel
theorem dX0_note_24 : decode cX0_note 24 = .ok (.iconst 1, 1) := by decide +kernel
theorem dX0_note_25 : decode cX0_note 25 = .ok (.iadd, 1) := by decide +kernel
theorem dX0_note_26 : decode cX0_note 26 = .ok (.putfield 15, 3) := by decide +kernel
theorem dX0_note_29 : decode cX0_note 29 = .ok (.return_, 1) := by decide +kernel
theorem dX0_bodyFrom_0 : decode cX0_bodyFrom 0 = .ok (.iload_n 0, 1) := by decide +kernel
theorem dX0_bodyFrom_1 : decode cX0_bodyFrom 1 = .ok (.istore_n 2, 1) := by decide +kernel
theorem dX0_bodyFrom_2 : decode cX0_bodyFrom 2 = .ok (.iconst 0, 1) := by decide +kernel
theorem dX0_bodyFrom_3 : decode cX0_bodyFrom 3 = .ok (.istore_n 3, 1) := by decide +kernel
theorem dX0_bodyFrom_4 : decode cX0_bodyFrom 4 = .ok (.iload_n 3, 1) := by decide +kernel
theorem dX0_bodyFrom_5 : decode cX0_bodyFrom 5 = .ok (.bipush 7, 2) := by decide +kernel
theorem dX0_bodyFrom_7 : decode cX0_bodyFrom 7 = .ok (.if_icmp .ge 31, 3) := by decide +kernel
theorem dX0_bodyFrom_10 : decode cX0_bodyFrom 10 = .ok (.iload_n 2, 1) := by decide +kernel
theorem dX0_bodyFrom_11 : decode cX0_bodyFrom 11 = .ok (.ifCond .le 27, 3) := by decide +kernel
theorem dX0_bodyFrom_14 : decode cX0_bodyFrom 14 = .ok (.getstatic 25, 3) := by decide +kernel
theorem dX0_bodyFrom_17 : decode cX0_bodyFrom 17 = .ok (.iconst 3, 1) := by decide +kernel
theorem dX0_bodyFrom_18 : decode cX0_bodyFrom 18 = .ok (.iload_n 2, 1) := by decide +kernel
theorem dX0_bodyFrom_19 : decode cX0_bodyFrom 19 = .ok (.imul, 1) := by decide +kernel
theorem dX0_bodyFrom_20 : decode cX0_bodyFrom 20 = .ok (.iload_n 1, 1) := by decide +kernel
theorem dX0_bodyFrom_21 : decode cX0_bodyFrom 21 = .ok (.iadd, 1) := by decide +kernel
theorem dX0_bodyFrom_22 : decode cX0_bodyFrom 22 = .ok (.iaload, 1) := by decide +kernel
theorem dX0_bodyFrom_23 : decode cX0_bodyFrom 23 = .ok (.ifCond .ne 15, 3) := by decide +kernel
theorem dX0_bodyFrom_26 : decode cX0_bodyFrom 26 = .ok (.getstatic 28, 3) := by decide +kernel
theorem dX0_bodyFrom_29 : decode cX0_bodyFrom 29 = .ok (.iload_n 2, 1) := by decide +kernel
theorem dX0_bodyFrom_30 : decode cX0_bodyFrom 30 = .ok (.iaload, 1) := by decide +kernel
theorem dX0_bodyFrom_31 : decode cX0_bodyFrom 31 = .ok (.istore_n 2, 1) := by decide +kernel
theorem dX0_bodyFrom_32 : decode cX0_bodyFrom 32 = .ok (.iinc 3 1, 3) := by decide +kernel
theorem dX0_bodyFrom_35 : decode cX0_bodyFrom 35 = .ok (.goto (-31), 3) := by decide +kernel
theorem dX0_bodyFrom_38 : decode cX0_bodyFrom 38 = .ok (.iload_n 2, 1) := by decide +kernel
theorem dX0_bodyFrom_39 : decode cX0_bodyFrom 39 = .ok (.ifCond .ge 7, 3) := by decide +kernel
theorem dX0_bodyFrom_42 : decode cX0_bodyFrom 42 = .ok (.iconst 0, 1) := by decide +kernel
theorem dX0_bodyFrom_43 : decode cX0_bodyFrom 43 = .ok (.goto 12, 3) := by decide +kernel
theorem dX0_bodyFrom_46 : decode cX0_bodyFrom 46 = .ok (.getstatic 25, 3) := by decide +kernel
theorem dX0_bodyFrom_49 : decode cX0_bodyFrom 49 = .ok (.iconst 3, 1) := by decide +kernel
theorem dX0_bodyFrom_50 : decode cX0_bodyFrom 50 = .ok (.iload_n 2, 1) := by decide +kernel
theorem dX0_bodyFrom_51 : decode cX0_bodyFrom 51 = .ok (.imul, 1) := by decide +kernel
theorem dX0_bodyFrom_52 : decode cX0_bodyFrom 52 = .ok (.iload_n 1, 1) := by decide +kernel
theorem dX0_bodyFrom_53 : decode cX0_bodyFrom 53 = .ok (.iadd, 1) := by decide +kernel
theorem dX0_bodyFrom_54 : decode cX0_bodyFrom 54 = .ok (.iaload, 1) := by decide +kernel
theorem dX0_bodyFrom_55 : decode cX0_bodyFrom 55 = .ok (.ireturn, 1) := by decide +kernel
theorem dX0_perform_0 : decode cX0_perform 0 = .ok (.iload 5, 2) := by decide +kernel
theorem dX0_perform_2 : decode cX0_perform 2 = .ok (.bipush 20, 2) := by decide +kernel
theorem dX0_perform_4 : decode cX0_perform 4 = .ok (.if_icmp .lt 5, 3) := by decide +kernel
theorem dX0_perform_7 : decode cX0_perform 7 = .ok (.iconst 0, 1) := by decide +kernel
theorem dX0_perform_8 : decode cX0_perform 8 = .ok (.ireturn, 1) := by decide +kernel
theorem dX0_perform_9 : decode cX0_perform 9 = .ok (.iload_n 2, 1) := by decide +kernel
theorem dX0_perform_10 : decode cX0_perform 10 = .ok (.iload_n 3, 1) := by decide +kernel
theorem dX0_perform_11 : decode cX0_perform 11 = .ok (.invokestatic 31, 3) := by decide +kernel
theorem dX0_perform_14 : decode cX0_perform 14 = .ok (.istore 6, 2) := by decide +kernel
theorem dX0_perform_16 : decode cX0_perform 16 = .ok (.iload 5, 2) := by decide +kernel
theorem dX0_perform_18 : decode cX0_perform 18 = .ok (.iconst 1, 1) := by decide +kernel
theorem dX0_perform_19 : decode cX0_perform 19 = .ok (.iadd, 1) := by decide +kernel
theorem dX0_perform_20 : decode cX0_perform 20 = .ok (.istore 7, 2) := by decide +kernel
theorem dX0_perform_22 : decode cX0_perform 22 = .ok (.aload_n 0, 1) := by decide +kernel
theorem dX0_perform_23 : decode cX0_perform 23 = .ok (.iload 6, 2) := by decide +kernel
theorem dX0_perform_25 : decode cX0_perform 25 = .ok (.invokevirtual 34, 3) := by decide +kernel
theorem dX0_perform_28 : decode cX0_perform 28 = .ok (.iload 6, 2) := by decide +kernel
theorem dX0_perform_30 : decode cX0_perform 30 = .ok (.lookupswitch 282 #[(10, 98), (11, 106), (12, 126), (20, 143), (30, 158), (40, 172), (50, 198), (51, 211), (60, 225), (70, 242), (71, 265)], 98) := by decide +kernel
theorem dX0_perform_128 : decode cX0_perform 128 = .ok (.iload 4, 2) := by decide +kernel
theorem dX0_perform_130 : decode cX0_perform 130 = .ok (.aload_n 1, 1) := by decide +kernel
theorem dX0_perform_131 : decode cX0_perform 131 = .ok (.getfield 38, 3) := by decide +kernel
theorem dX0_perform_134 : decode cX0_perform 134 = .ok (.iadd, 1) := by decide +kernel
theorem dX0_perform_135 : decode cX0_perform 135 = .ok (.ireturn, 1) := by decide +kernel
theorem dX0_perform_136 : decode cX0_perform 136 = .ok (.aload_n 0, 1) := by decide +kernel
theorem dX0_perform_137 : decode cX0_perform 137 = .ok (.aload_n 1, 1) := by decide +kernel
theorem dX0_perform_138 : decode cX0_perform 138 = .ok (.aload_n 1, 1) := by decide +kernel
theorem dX0_perform_139 : decode cX0_perform 139 = .ok (.getfield 43, 3) := by decide +kernel
theorem dX0_perform_142 : decode cX0_perform 142 = .ok (.iconst 0, 1) := by decide +kernel
theorem dX0_perform_143 : decode cX0_perform 143 = .ok (.iload 4, 2) := by decide +kernel
theorem dX0_perform_145 : decode cX0_perform 145 = .ok (.iload 7, 2) := by decide +kernel
theorem dX0_perform_147 : decode cX0_perform 147 = .ok (.invokevirtual 46, 3) := by decide +kernel
theorem dX0_perform_150 : decode cX0_perform 150 = .ok (.aload_n 1, 1) := by decide +kernel
theorem dX0_perform_151 : decode cX0_perform 151 = .ok (.getfield 50, 3) := by decide +kernel
theorem dX0_perform_154 : decode cX0_perform 154 = .ok (.isub, 1) := by decide +kernel
theorem dX0_perform_155 : decode cX0_perform 155 = .ok (.ireturn, 1) := by decide +kernel
theorem dX0_perform_156 : decode cX0_perform 156 = .ok (.aload_n 0, 1) := by decide +kernel
theorem dX0_perform_157 : decode cX0_perform 157 = .ok (.aload_n 1, 1) := by decide +kernel
theorem dX0_perform_158 : decode cX0_perform 158 = .ok (.aload_n 1, 1) := by decide +kernel
theorem dX0_perform_159 : decode cX0_perform 159 = .ok (.getfield 43, 3) := by decide +kernel
theorem dX0_perform_162 : decode cX0_perform 162 = .ok (.iconst 1, 1) := by decide +kernel
theorem dX0_perform_163 : decode cX0_perform 163 = .ok (.iload 4, 2) := by decide +kernel
theorem dX0_perform_165 : decode cX0_perform 165 = .ok (.iload 7, 2) := by decide +kernel
theorem dX0_perform_167 : decode cX0_perform 167 = .ok (.invokevirtual 46, 3) := by decide +kernel
theorem dX0_perform_170 : decode cX0_perform 170 = .ok (.iconst 2, 1) := by decide +kernel
theorem dX0_perform_171 : decode cX0_perform 171 = .ok (.imul, 1) := by decide +kernel
theorem dX0_perform_172 : decode cX0_perform 172 = .ok (.ireturn, 1) := by decide +kernel
theorem dX0_perform_173 : decode cX0_perform 173 = .ok (.aload_n 0, 1) := by decide +kernel
theorem dX0_perform_174 : decode cX0_perform 174 = .ok (.aload_n 1, 1) := by decide +kernel
theorem dX0_perform_175 : decode cX0_perform 175 = .ok (.iconst 0, 1) := by decide +kernel
theorem dX0_perform_176 : decode cX0_perform 176 = .ok (.iconst 1, 1) := by decide +kernel
theorem dX0_perform_177 : decode cX0_perform 177 = .ok (.iload 4, 2) := by decide +kernel
theorem dX0_perform_179 : decode cX0_perform 179 = .ok (.iload 7, 2) := by decide +kernel
theorem dX0_perform_181 : decode cX0_perform 181 = .ok (.invokevirtual 46, 3) := by decide +kernel
theorem dX0_perform_184 : decode cX0_perform 184 = .ok (.bipush 6, 2) := by decide +kernel
theorem dX0_perform_186 : decode cX0_perform 186 = .ok (.ixor, 1) := by decide +kernel
theorem dX0_perform_187 : decode cX0_perform 187 = .ok (.ireturn, 1) := by decide +kernel
theorem dX0_perform_188 : decode cX0_perform 188 = .ok (.aload_n 0, 1) := by decide +kernel
theorem dX0_perform_189 : decode cX0_perform 189 = .ok (.aload_n 1, 1) := by decide +kernel
theorem dX0_perform_190 : decode cX0_perform 190 = .ok (.iconst 0, 1) := by decide +kernel
theorem dX0_perform_191 : decode cX0_perform 191 = .ok (.iconst 0, 1) := by decide +kernel
theorem dX0_perform_192 : decode cX0_perform 192 = .ok (.iload 4, 2) := by decide +kernel
theorem dX0_perform_194 : decode cX0_perform 194 = .ok (.iconst 3, 1) := by decide +kernel
theorem dX0_perform_195 : decode cX0_perform 195 = .ok (.imul, 1) := by decide +kernel
theorem dX0_perform_196 : decode cX0_perform 196 = .ok (.iload 7, 2) := by decide +kernel
theorem dX0_perform_198 : decode cX0_perform 198 = .ok (.invokevirtual 46, 3) := by decide +kernel
theorem dX0_perform_201 : decode cX0_perform 201 = .ok (.ireturn, 1) := by decide +kernel
theorem dX0_perform_202 : decode cX0_perform 202 = .ok (.aload_n 0, 1) := by decide +kernel
theorem dX0_perform_203 : decode cX0_perform 203 = .ok (.aload_n 1, 1) := by decide +kernel
theorem dX0_perform_204 : decode cX0_perform 204 = .ok (.iconst 0, 1) := by decide +kernel
theorem dX0_perform_205 : decode cX0_perform 205 = .ok (.iconst 2, 1) := by decide +kernel
theorem dX0_perform_206 : decode cX0_perform 206 = .ok (.iload 4, 2) := by decide +kernel
theorem dX0_perform_208 : decode cX0_perform 208 = .ok (.iload 7, 2) := by decide +kernel
theorem dX0_perform_210 : decode cX0_perform 210 = .ok (.invokevirtual 46, 3) := by decide +kernel
theorem dX0_perform_213 : decode cX0_perform 213 = .ok (.aload_n 0, 1) := by decide +kernel
theorem dX0_perform_214 : decode cX0_perform 214 = .ok (.aload_n 1, 1) := by decide +kernel
theorem dX0_perform_215 : decode cX0_perform 215 = .ok (.aload_n 1, 1) := by decide +kernel
theorem dX0_perform_216 : decode cX0_perform 216 = .ok (.getfield 43, 3) := by decide +kernel
theorem dX0_perform_219 : decode cX0_perform 219 = .ok (.iconst 1, 1) := by decide +kernel
theorem dX0_perform_220 : decode cX0_perform 220 = .ok (.iconst 1, 1) := by decide +kernel
theorem dX0_perform_221 : decode cX0_perform 221 = .ok (.iload 7, 2) := by decide +kernel
theorem dX0_perform_223 : decode cX0_perform 223 = .ok (.invokevirtual 46, 3) := by decide +kernel
theorem dX0_perform_226 : decode cX0_perform 226 = .ok (.iadd, 1) := by decide +kernel
theorem dX0_perform_227 : decode cX0_perform 227 = .ok (.ireturn, 1) := by decide +kernel
theorem dX0_perform_228 : decode cX0_perform 228 = .ok (.aload_n 0, 1) := by decide +kernel
theorem dX0_perform_229 : decode cX0_perform 229 = .ok (.aload_n 1, 1) := by decide +kernel
theorem dX0_perform_230 : decode cX0_perform 230 = .ok (.iconst 1, 1) := by decide +kernel
theorem dX0_perform_231 : decode cX0_perform 231 = .ok (.iconst 0, 1) := by decide +kernel
theorem dX0_perform_232 : decode cX0_perform 232 = .ok (.iload 4, 2) := by decide +kernel
theorem dX0_perform_234 : decode cX0_perform 234 = .ok (.iload 7, 2) := by decide +kernel
theorem dX0_perform_236 : decode cX0_perform 236 = .ok (.invokevirtual 46, 3) := by decide +kernel
theorem dX0_perform_239 : decode cX0_perform 239 = .ok (.ineg, 1) := by decide +kernel
theorem dX0_perform_240 : decode cX0_perform 240 = .ok (.ireturn, 1) := by decide +kernel
theorem dX0_perform_241 : decode cX0_perform 241 = .ok (.aload_n 0, 1) := by decide +kernel
theorem dX0_perform_242 : decode cX0_perform 242 = .ok (.aload_n 1, 1) := by decide +kernel
theorem dX0_perform_243 : decode cX0_perform 243 = .ok (.iconst 1, 1) := by decide +kernel
theorem dX0_perform_244 : decode cX0_perform 244 = .ok (.iconst 1, 1) := by decide +kernel
theorem dX0_perform_245 : decode cX0_perform 245 = .ok (.iload 4, 2) := by decide +kernel
theorem dX0_perform_247 : decode cX0_perform 247 = .ok (.iconst 1, 1) := by decide +kernel
theorem dX0_perform_248 : decode cX0_perform 248 = .ok (.iadd, 1) := by decide +kernel
theorem dX0_perform_249 : decode cX0_perform 249 = .ok (.iload 7, 2) := by decide +kernel
theorem dX0_perform_251 : decode cX0_perform 251 = .ok (.invokevirtual 46, 3) := by decide +kernel
theorem dX0_perform_254 : decode cX0_perform 254 = .ok (.ireturn, 1) := by decide +kernel
theorem dX0_perform_255 : decode cX0_perform 255 = .ok (.aload_n 0, 1) := by decide +kernel
theorem dX0_perform_256 : decode cX0_perform 256 = .ok (.aload_n 1, 1) := by decide +kernel
theorem dX0_perform_257 : decode cX0_perform 257 = .ok (.iconst 2, 1) := by decide +kernel
theorem dX0_perform_258 : decode cX0_perform 258 = .ok (.iconst 2, 1) := by decide +kernel
theorem dX0_perform_259 : decode cX0_perform 259 = .ok (.iload 4, 2) := by decide +kernel
theorem dX0_perform_261 : decode cX0_perform 261 = .ok (.aload_n 1, 1) := by decide +kernel
theorem dX0_perform_262 : decode cX0_perform 262 = .ok (.getfield 38, 3) := by decide +kernel
theorem dX0_perform_265 : decode cX0_perform 265 = .ok (.isub, 1) := by decide +kernel
theorem dX0_perform_266 : decode cX0_perform 266 = .ok (.iload 7, 2) := by decide +kernel
theorem dX0_perform_268 : decode cX0_perform 268 = .ok (.invokevirtual 46, 3) := by decide +kernel
theorem dX0_perform_271 : decode cX0_perform 271 = .ok (.ireturn, 1) := by decide +kernel
theorem dX0_perform_272 : decode cX0_perform 272 = .ok (.aload_n 0, 1) := by decide +kernel
theorem dX0_perform_273 : decode cX0_perform 273 = .ok (.aload_n 1, 1) := by decide +kernel
theorem dX0_perform_274 : decode cX0_perform 274 = .ok (.iconst 3, 1) := by decide +kernel
theorem dX0_perform_275 : decode cX0_perform 275 = .ok (.iconst 1, 1) := by decide +kernel
theorem dX0_perform_276 : decode cX0_perform 276 = .ok (.iload 4, 2) := by decide +kernel
theorem dX0_perform_278 : decode cX0_perform 278 = .ok (.iload 7, 2) := by decide +kernel
theorem dX0_perform_280 : decode cX0_perform 280 = .ok (.invokevirtual 46, 3) := by decide +kernel
theorem dX0_perform_283 : decode cX0_perform 283 = .ok (.aload_n 0, 1) := by decide +kernel
theorem dX0_perform_284 : decode cX0_perform 284 = .ok (.aload_n 1, 1) := by decide +kernel
theorem dX0_perform_285 : decode cX0_perform 285 = .ok (.iconst 3, 1) := by decide +kernel
theorem dX0_perform_286 : decode cX0_perform 286 = .ok (.iconst 0, 1) := by decide +kernel
theorem dX0_perform_287 : decode cX0_perform 287 = .ok (.iconst 2, 1) := by decide +kernel
theorem dX0_perform_288 : decode cX0_perform 288 = .ok (.iload 7, 2) := by decide +kernel
theorem dX0_perform_290 : decode cX0_perform 290 = .ok (.invokevirtual 46, 3) := by decide +kernel
theorem dX0_perform_293 : decode cX0_perform 293 = .ok (.iadd, 1) := by decide +kernel
theorem dX0_perform_294 : decode cX0_perform 294 = .ok (.ireturn, 1) := by decide +kernel
theorem dX0_perform_295 : decode cX0_perform 295 = .ok (.aload_n 0, 1) := by decide +kernel
theorem dX0_perform_296 : decode cX0_perform 296 = .ok (.aload_n 1, 1) := by decide +kernel
theorem dX0_perform_297 : decode cX0_perform 297 = .ok (.iconst 3, 1) := by decide +kernel
theorem dX0_perform_298 : decode cX0_perform 298 = .ok (.iconst 0, 1) := by decide +kernel
theorem dX0_perform_299 : decode cX0_perform 299 = .ok (.iload 4, 2) := by decide +kernel
theorem dX0_perform_301 : decode cX0_perform 301 = .ok (.iload 7, 2) := by decide +kernel
theorem dX0_perform_303 : decode cX0_perform 303 = .ok (.invokevirtual 46, 3) := by decide +kernel
theorem dX0_perform_306 : decode cX0_perform 306 = .ok (.aload_n 1, 1) := by decide +kernel
theorem dX0_perform_307 : decode cX0_perform 307 = .ok (.getfield 50, 3) := by decide +kernel
theorem dX0_perform_310 : decode cX0_perform 310 = .ok (.ixor, 1) := by decide +kernel
theorem dX0_perform_311 : decode cX0_perform 311 = .ok (.ireturn, 1) := by decide +kernel
theorem dX0_perform_312 : decode cX0_perform 312 = .ok (.iconst 0, 1) := by decide +kernel
theorem dX0_perform_313 : decode cX0_perform 313 = .ok (.ireturn, 1) := by decide +kernel
theorem dX1_init_0 : decode cX1_init 0 = .ok (.aload_n 0, 1) := by decide +kernel
theorem dX1_init_1 : decode cX1_init 1 = .ok (.invokespecial 1, 3) := by decide +kernel
theorem dX1_init_4 : decode cX1_init 4 = .ok (.aload_n 0, 1) := by decide +kernel
theorem dX1_init_5 : decode cX1_init 5 = .ok (.bipush 100, 2) := by decide +kernel
theorem dX1_init_7 : decode cX1_init 7 = .ok (.newarray .int, 2) := by decide +kernel
theorem dX1_init_9 : decode cX1_init 9 = .ok (.putfield 9, 3) := by decide +kernel
theorem dX1_init_12 : decode cX1_init 12 = .ok (.aload_n 0, 1) := by decide +kernel
theorem dX1_init_13 : decode cX1_init 13 = .ok (.iconst 0, 1) := by decide +kernel
theorem dX1_init_14 : decode cX1_init 14 = .ok (.putfield 15, 3) := by decide +kernel
theorem dX1_init_17 : decode cX1_init 17 = .ok (.aload_n 0, 1) := by decide +kernel
theorem dX1_init_18 : decode cX1_init 18 = .ok (.iconst 5, 1) := by decide +kernel
theorem dX1_init_19 : decode cX1_init 19 = .ok (.putfield 19, 3) := by decide +kernel
theorem dX1_init_22 : decode cX1_init 22 = .ok (.return_, 1) := by decide +kernel
theorem dX1_startAnew_0 : decode cX1_startAnew 0 = .ok (.aload_n 0, 1) := by decide +kernel
theorem dX1_startAnew_1 : decode cX1_startAnew 1 = .ok (.iconst 0, 1) := by decide +kernel
theorem dX1_startAnew_2 : decode cX1_startAnew 2 = .ok (.putfield 15, 3) := by decide +kernel
theorem dX1_startAnew_5 : decode cX1_startAnew 5 = .ok (.aload_n 0, 1) := by decide +kernel
theorem dX1_startAnew_6 : decode cX1_startAnew 6 = .ok (.iconst 5, 1) := by decide +kernel
theorem dX1_startAnew_7 : decode cX1_startAnew 7 = .ok (.putfield 19, 3) := by decide +kernel
theorem dX1_startAnew_10 : decode cX1_startAnew 10 = .ok (.return_, 1) := by decide +kernel
theorem dX1_append_0 : decode cX1_append 0 = .ok (.aload_n 0, 1) := by decide +kernel
theorem dX1_append_1 : decode cX1_append 1 = .ok (.getfield 15, 3) := by decide +kernel
theorem dX1_append_4 : decode cX1_append 4 = .ok (.aload_n 0, 1) := by decide +kernel
theorem dX1_append_5 : decode cX1_append 5 = .ok (.getfield 9, 3) := by decide +kernel
theorem dX1_append_8 : decode cX1_append 8 = .ok (.arraylength, 1) := by decide +kernel
theorem dX1_append_9 : decode cX1_append 9 = .ok (.if_icmp .ge 28, 3) := by decide +kernel
theorem dX1_append_12 : decode cX1_append 12 = .ok (.aload_n 0, 1) := by decide +kernel
theorem dX1_append_13 : decode cX1_append 13 = .ok (.getfield 9, 3) := by decide +kernel
theorem dX1_append_16 : decode cX1_append 16 = .ok (.aload_n 0, 1) := by decide +kernel
theorem dX1_append_17 : decode cX1_append 17 = .ok (.getfield 15, 3) := by decide +kernel
theorem dX1_append_20 : decode cX1_append 20 = .ok (.bipush 100, 2) := by decide +kernel
theorem dX1_append_22 : decode cX1_append 22 = .ok (.iload_n 1, 1) := by decide +kernel
theorem dX1_append_23 : decode cX1_append 23 = .ok (.imul, 1) := by decide +kernel
theorem dX1_append_24 : decode cX1_append 24 = .ok (.iload_n 2, 1) := by decide +kernel
theorem dX1_append_25 : decode cX1_append 25 = .ok (.iadd, 1) := by decide +kernel
theorem dX1_append_26 : decode cX1_append 26 = .ok (.iastore, 1) := by decide +kernel
theorem dX1_append_27 : decode cX1_append 27 = .ok (.aload_n 0, 1) := by decide +kernel
theorem dX1_append_28 : decode cX1_append 28 = .ok (.dup, 1) := by decide +kernel
theorem dX1_append_29 : decode cX1_append 29 = .ok (.getfield 15, 3) := by decide +kernel
theorem dX1_append_32 : decode cX1_append 32 = .ok (.iconst 1, 1) := by decide +kernel
theorem dX1_append_33 : decode cX1_append 33 = .ok (.iadd, 1) := by decide +kernel
theorem dX1_append_34 : decode cX1_append 34 = .ok (.putfield 15, 3) := by decide +kernel
theorem dX1_append_37 : decode cX1_append 37 = .ok (.return_, 1) := by decide +kernel
theorem dX1_sum_0 : decode cX1_sum 0 = .ok (.aload_n 1, 1) := by decide +kernel
theorem dX1_sum_1 : decode cX1_sum 1 = .ok (.getfield 22, 3) := by decide +kernel
theorem dX1_sum_4 : decode cX1_sum 4 = .ok (.istore_n 3, 1) := by decide +kernel
theorem dX1_sum_5 : decode cX1_sum 5 = .ok (.iconst 0, 1) := by decide +kernel
theorem dX1_sum_6 : decode cX1_sum 6 = .ok (.istore 4, 2) := by decide +kernel
theorem dX1_sum_8 : decode cX1_sum 8 = .ok (.iconst 0, 1) := by decide +kernel
theorem dX1_sum_9 : decode cX1_sum 9 = .ok (.istore 5, 2) := by decide +kernel
theorem dX1_sum_11 : decode cX1_sum 11 = .ok (.iload 5, 2) := by decide +kernel
theorem dX1_sum_13 : decode cX1_sum 13 = .ok (.aload_n 0, 1) := by decide +kernel
theorem dX1_sum_14 : decode cX1_sum 14 = .ok (.getfield 15, 3) := by decide +kernel
theorem dX1_sum_17 : decode cX1_sum 17 = .ok (.if_icmp .ge 171, 3) := by decide +kernel
theorem dX1_sum_20 : decode cX1_sum 20 = .ok (.aload_n 0, 1) := by decide +kernel
theorem dX1_sum_21 : decode cX1_sum 21 = .ok (.getfield 9, 3) := by decide +kernel
theorem dX1_sum_24 : decode cX1_sum 24 = .ok (.iload 5, 2) := by decide +kernel
theorem dX1_sum_26 : decode cX1_sum 26 = .ok (.iaload, 1) := by decide +kernel
theorem dX1_sum_27 : decode cX1_sum 27 = .ok (.bipush 100, 2) := by decide +kernel
theorem dX1_sum_29 : decode cX1_sum 29 = .ok (.idiv, 1) := by decide +kernel
theorem dX1_sum_30 : decode cX1_sum 30 = .ok (.istore 6, 2) := by decide +kernel
theorem dX1_sum_32 : decode cX1_sum 32 = .ok (.aload_n 0, 1) := by decide +kernel
theorem dX1_sum_33 : decode cX1_sum 33 = .ok (.getfield 9, 3) := by decide +kernel
theorem dX1_sum_36 : decode cX1_sum 36 = .ok (.iload 5, 2) := by decide +kernel
theorem dX1_sum_38 : decode cX1_sum 38 = .ok (.iaload, 1) := by decide +kernel
theorem dX1_sum_39 : decode cX1_sum 39 = .ok (.bipush 100, 2) := by decide +kernel
theorem dX1_sum_41 : decode cX1_sum 41 = .ok (.irem, 1) := by decide +kernel
theorem dX1_sum_42 : decode cX1_sum 42 = .ok (.istore 7, 2) := by decide +kernel
theorem dX1_sum_44 : decode cX1_sum 44 = .ok (.iload 4, 2) := by decide +kernel
theorem dX1_sum_46 : decode cX1_sum 46 = .ok (.iconst 1, 1) := by decide +kernel
theorem dX1_sum_47 : decode cX1_sum 47 = .ok (.iand, 1) := by decide +kernel
theorem dX1_sum_48 : decode cX1_sum 48 = .ok (.istore 8, 2) := by decide +kernel
theorem dX1_sum_50 : decode cX1_sum 50 = .ok (.iload 6, 2) := by decide +kernel
theorem dX1_sum_52 : decode cX1_sum 52 = .ok (.tableswitch 106 18 22 #[36, 45, 60, 72, 89], 36) := by decide +kernel
theorem dX1_sum_88 : decode cX1_sum 88 = .ok (.iload 4, 2) := by decide +kernel
theorem dX1_sum_90 : decode cX1_sum 90 = .ok (.iconst 1, 1) := by decide +kernel
theorem dX1_sum_91 : decode cX1_sum 91 = .ok (.ixor, 1) := by decide +kernel
theorem dX1_sum_92 : decode cX1_sum 92 = .ok (.istore 4, 2) := by decide +kernel
theorem dX1_sum_94 : decode cX1_sum 94 = .ok (.goto 88, 3) := by decide +kernel
theorem dX1_sum_97 : decode cX1_sum 97 = .ok (.iload 4, 2) := by decide +kernel
theorem dX1_sum_99 : decode cX1_sum 99 = .ok (.iconst 1, 1) := by decide +kernel
theorem dX1_sum_100 : decode cX1_sum 100 = .ok (.ishr, 1) := by decide +kernel
theorem dX1_sum_101 : decode cX1_sum 101 = .ok (.bipush (-2), 2) := by decide +kernel
theorem dX1_sum_103 : decode cX1_sum 103 = .ok (.iload 8, 2) := by decide +kernel
theorem dX1_sum_105 : decode cX1_sum 105 = .ok (.ior, 1) := by decide +kernel
theorem dX1_sum_106 : decode cX1_sum 106 = .ok (.iand, 1) := by decide +kernel
theorem dX1_sum_107 : decode cX1_sum 107 = .ok (.istore 4, 2) := by decide +kernel
theorem dX1_sum_109 : decode cX1_sum 109 = .ok (.goto 73, 3) := by decide +kernel
theorem dX1_sum_112 : decode cX1_sum 112 = .ok (.iload 4, 2) := by decide +kernel
theorem dX1_sum_114 : decode cX1_sum 114 = .ok (.iconst 1, 1) := by decide +kernel
theorem dX1_sum_115 : decode cX1_sum 115 = .ok (.ishr, 1) := by decide +kernel
theorem dX1_sum_116 : decode cX1_sum 116 = .ok (.iload 8, 2) := by decide +kernel
theorem dX1_sum_118 : decode cX1_sum 118 = .ok (.ior, 1) := by decide +kernel
theorem dX1_sum_119 : decode cX1_sum 119 = .ok (.istore 4, 2) := by decide +kernel
theorem dX1_sum_121 : decode cX1_sum 121 = .ok (.goto 61, 3) := by decide +kernel
theorem dX1_sum_124 : decode cX1_sum 124 = .ok (.iload_n 3, 1) := by decide +kernel
theorem dX1_sum_125 : decode cX1_sum 125 = .ok (.iload 8, 2) := by decide +kernel
theorem dX1_sum_127 : decode cX1_sum 127 = .ok (.iload 7, 2) := by decide +kernel
theorem dX1_sum_129 : decode cX1_sum 129 = .ok (.imul, 1) := by decide +kernel
theorem dX1_sum_130 : decode cX1_sum 130 = .ok (.iadd, 1) := by decide +kernel
theorem dX1_sum_131 : decode cX1_sum 131 = .ok (.istore_n 3, 1) := by decide +kernel
theorem dX1_sum_132 : decode cX1_sum 132 = .ok (.iload 4, 2) := by decide +kernel
theorem dX1_sum_134 : decode cX1_sum 134 = .ok (.iconst 1, 1) := by decide +kernel
theorem dX1_sum_135 : decode cX1_sum 135 = .ok (.ishr, 1) := by decide +kernel
theorem dX1_sum_136 : decode cX1_sum 136 = .ok (.istore 4, 2) := by decide +kernel
theorem dX1_sum_138 : decode cX1_sum 138 = .ok (.goto 44, 3) := by decide +kernel
theorem dX1_sum_141 : decode cX1_sum 141 = .ok (.iload_n 3, 1) := by decide +kernel
theorem dX1_sum_142 : decode cX1_sum 142 = .ok (.iload 8, 2) := by decide +kernel
theorem dX1_sum_144 : decode cX1_sum 144 = .ok (.iload 7, 2) := by decide +kernel
theorem dX1_sum_146 : decode cX1_sum 146 = .ok (.imul, 1) := by decide +kernel
theorem dX1_sum_147 : decode cX1_sum 147 = .ok (.isub, 1) := by decide +kernel
theorem dX1_sum_148 : decode cX1_sum 148 = .ok (.istore_n 3, 1) := by decide +kernel
theorem dX1_sum_149 : decode cX1_sum 149 = .ok (.iload 4, 2) := by decide +kernel
theorem dX1_sum_151 : decode cX1_sum 151 = .ok (.iconst 1, 1) := by decide +kernel
theorem dX1_sum_152 : decode cX1_sum 152 = .ok (.ishr, 1) := by decide +kernel
theorem dX1_sum_153 : decode cX1_sum 153 = .ok (.istore 4, 2) := by decide +kernel
theorem dX1_sum_155 : decode cX1_sum 155 = .ok (.goto 27, 3) := by decide +kernel
theorem dX1_sum_158 : decode cX1_sum 158 = .ok (.iload 4, 2) := by decide +kernel
theorem dX1_sum_160 : decode cX1_sum 160 = .ok (.iconst 1, 1) := by decide +kernel
theorem dX1_sum_161 : decode cX1_sum 161 = .ok (.ishl, 1) := by decide +kernel
theorem dX1_sum_162 : decode cX1_sum 162 = .ok (.iload 6, 2) := by decide +kernel
theorem dX1_sum_164 : decode cX1_sum 164 = .ok (.iload 7, 2) := by decide +kernel
theorem dX1_sum_166 : decode cX1_sum 166 = .ok (.aload_n 1, 1) := by decide +kernel
theorem dX1_sum_167 : decode cX1_sum 167 = .ok (.iload_n 2, 1) := by decide +kernel
theorem dX1_sum_168 : decode cX1_sum 168 = .ok (.invokestatic 27, 3) := by decide +kernel
theorem dX1_sum_171 : decode cX1_sum 171 = .ok (.ifCond .eq 7, 3) := by decide +kernel
theorem dX1_sum_174 : decode cX1_sum 174 = .ok (.iconst 1, 1) := by decide +kernel
theorem dX1_sum_175 : decode cX1_sum 175 = .ok (.goto 4, 3) := by decide +kernel
theorem dX1_sum_178 : decode cX1_sum 178 = .ok (.iconst 0, 1) := by decide +kernel
theorem dX1_sum_179 : decode cX1_sum 179 = .ok (.ior, 1) := by decide +kernel
theorem dX1_sum_180 : decode cX1_sum 180 = .ok (.istore 4, 2) := by decide +kernel
theorem dX1_sum_182 : decode cX1_sum 182 = .ok (.iinc 5 1, 3) := by decide +kernel
theorem dX1_sum_185 : decode cX1_sum 185 = .ok (.goto (-174), 3) := by decide +kernel
theorem dX1_sum_188 : decode cX1_sum 188 = .ok (.iload_n 3, 1) := by decide +kernel
theorem dX1_sum_189 : decode cX1_sum 189 = .ok (.ireturn, 1) := by decide +kernel
theorem dX1_holds_0 : decode cX1_holds 0 = .ok (.iload_n 0, 1) := by decide +kernel
theorem dX1_holds_1 : decode cX1_holds 1 = .ok (.iconst 3, 1) := by decide +kernel
theorem dX1_holds_2 : decode cX1_holds 2 = .ok (.idiv, 1) := by decide +kernel
theorem dX1_holds_3 : decode cX1_holds 3 = .ok (.tableswitch 75 0 4 #[33, 42, 51, 60, 66], 33) := by decide +kernel
theorem dX1_holds_36 : decode cX1_holds 36 = .ok (.aload_n 2, 1) := by decide +kernel
theorem dX1_holds_37 : decode cX1_holds 37 = .ok (.getfield 31, 3) := by decide +kernel
theorem dX1_holds_40 : decode cX1_holds 40 = .ok (.istore 4, 2) := by decide +kernel
theorem dX1_holds_42 : decode cX1_holds 42 = .ok (.goto 45, 3) := by decide +kernel
theorem dX1_holds_45 : decode cX1_holds 45 = .ok (.aload_n 2, 1) := by decide +kernel
theorem dX1_holds_46 : decode cX1_holds 46 = .ok (.getfield 34, 3) := by decide +kernel
theorem dX1_holds_49 : decode cX1_holds 49 = .ok (.istore 4, 2) := by decide +kernel
theorem dX1_holds_51 : decode cX1_holds 51 = .ok (.goto 36, 3) := by decide +kernel
theorem dX1_holds_54 : decode cX1_holds 54 = .ok (.aload_n 2, 1) := by decide +kernel
theorem dX1_holds_55 : decode cX1_holds 55 = .ok (.getfield 37, 3) := by decide +kernel
theorem dX1_holds_58 : decode cX1_holds 58 = .ok (.istore 4, 2) := by decide +kernel
theorem dX1_holds_60 : decode cX1_holds 60 = .ok (.goto 27, 3) := by decide +kernel
theorem dX1_holds_63 : decode cX1_holds 63 = .ok (.iload_n 3, 1) := by decide +kernel
theorem dX1_holds_64 : decode cX1_holds 64 = .ok (.istore 4, 2) := by decide +kernel
theorem dX1_holds_66 : decode cX1_holds 66 = .ok (.goto 21, 3) := by decide +kernel
theorem dX1_holds_69 : decode cX1_holds 69 = .ok (.aload_n 2, 1) := by decide +kernel
theorem dX1_holds_70 : decode cX1_holds 70 = .ok (.getfield 22, 3) := by decide +kernel
theorem dX1_holds_73 : decode cX1_holds 73 = .ok (.istore 4, 2) := by decide +kernel
theorem dX1_holds_75 : decode cX1_holds 75 = .ok (.goto 12, 3) := by decide +kernel
theorem dX1_holds_78 : decode cX1_holds 78 = .ok (.aload_n 2, 1) := by decide +kernel
theorem dX1_holds_79 : decode cX1_holds 79 = .ok (.getfield 40, 3) := by decide +kernel
theorem dX1_holds_82 : decode cX1_holds 82 = .ok (.bipush 10, 2) := by decide +kernel
theorem dX1_holds_84 : decode cX1_holds 84 = .ok (.irem, 1) := by decide +kernel
theorem dX1_holds_85 : decode cX1_holds 85 = .ok (.istore 4, 2) := by decide +kernel
theorem dX1_holds_87 : decode cX1_holds 87 = .ok (.iload_n 0, 1) := by decide +kernel
theorem dX1_holds_88 : decode cX1_holds 88 = .ok (.iconst 3, 1) := by decide +kernel
theorem dX1_holds_89 : decode cX1_holds 89 = .ok (.irem, 1) := by decide +kernel
theorem dX1_holds_90 : decode cX1_holds 90 = .ok (.istore 5, 2) := by decide +kernel
theorem dX1_holds_92 : decode cX1_holds 92 = .ok (.iload 5, 2) := by decide +kernel
theorem dX1_holds_94 : decode cX1_holds 94 = .ok (.ifCond .ne 17, 3) := by decide +kernel
theorem dX1_holds_97 : decode cX1_holds 97 = .ok (.iload 4, 2) := by decide +kernel
theorem dX1_holds_99 : decode cX1_holds 99 = .ok (.iload_n 1, 1) := by decide +kernel
theorem dX1_holds_100 : decode cX1_holds 100 = .ok (.if_icmp .ge 7, 3) := by decide +kernel
theorem dX1_holds_103 : decode cX1_holds 103 = .ok (.iconst 1, 1) := by decide +kernel
theorem dX1_holds_104 : decode cX1_holds 104 = .ok (.goto 38, 3) := by decide +kernel
theorem dX1_holds_107 : decode cX1_holds 107 = .ok (.iconst 0, 1) := by decide +kernel
theorem dX1_holds_108 : decode cX1_holds 108 = .ok (.goto 34, 3) := by decide +kernel
theorem dX1_holds_111 : decode cX1_holds 111 = .ok (.iload 5, 2) := by decide +kernel
theorem dX1_holds_113 : decode cX1_holds 113 = .ok (.iconst 1, 1) := by decide +kernel
theorem dX1_holds_114 : decode cX1_holds 114 = .ok (.if_icmp .ne 17, 3) := by decide +kernel
theorem dX1_holds_117 : decode cX1_holds 117 = .ok (.iload 4, 2) := by decide +kernel
theorem dX1_holds_119 : decode cX1_holds 119 = .ok (.iload_n 1, 1) := by decide +kernel
theorem dX1_holds_120 : decode cX1_holds 120 = .ok (.if_icmp .ne 7, 3) := by decide +kernel
theorem dX1_holds_123 : decode cX1_holds 123 = .ok (.iconst 1, 1) := by decide +kernel
theorem dX1_holds_124 : decode cX1_holds 124 = .ok (.goto 18, 3) := by decide +kernel
theorem dX1_holds_127 : decode cX1_holds 127 = .ok (.iconst 0, 1) := by decide +kernel
theorem dX1_holds_128 : decode cX1_holds 128 = .ok (.goto 14, 3) := by decide +kernel
theorem dX1_holds_131 : decode cX1_holds 131 = .ok (.iload 4, 2) := by decide +kernel
theorem dX1_holds_133 : decode cX1_holds 133 = .ok (.iload_n 1, 1) := by decide +kernel
theorem dX1_holds_134 : decode cX1_holds 134 = .ok (.if_icmp .le 7, 3) := by decide +kernel
theorem dX1_holds_137 : decode cX1_holds 137 = .ok (.iconst 1, 1) := by decide +kernel
theorem dX1_holds_138 : decode cX1_holds 138 = .ok (.goto 4, 3) := by decide +kernel
theorem dX1_holds_141 : decode cX1_holds 141 = .ok (.iconst 0, 1) := by decide +kernel
theorem dX1_holds_142 : decode cX1_holds 142 = .ok (.ireturn, 1) := by decide +kernel
theorem dX2_init_0 : decode cX2_init 0 = .ok (.aload_n 0, 1) := by decide +kernel
theorem dX2_init_1 : decode cX2_init 1 = .ok (.invokespecial 3, 3) := by decide +kernel
theorem dX2_init_4 : decode cX2_init 4 = .ok (.return_, 1) := by decide +kernel
theorem dX2_startAnew_0 : decode cX2_startAnew 0 = .ok (.aload_n 0, 1) := by decide +kernel
theorem dX2_startAnew_1 : decode cX2_startAnew 1 = .ok (.iconst 1, 1) := by decide +kernel
theorem dX2_startAnew_2 : decode cX2_startAnew 2 = .ok (.putfield 9, 3) := by decide +kernel
theorem dX2_startAnew_5 : decode cX2_startAnew 5 = .ok (.aload_n 0, 1) := by decide +kernel
theorem dX2_startAnew_6 : decode cX2_startAnew 6 = .ok (.iconst 0, 1) := by decide +kernel
theorem dX2_startAnew_7 : decode cX2_startAnew 7 = .ok (.putfield 15, 3) := by decide +kernel
theorem dX2_startAnew_10 : decode cX2_startAnew 10 = .ok (.aload_n 0, 1) := by decide +kernel
theorem dX2_startAnew_11 : decode cX2_startAnew 11 = .ok (.iconst 0, 1) := by decide +kernel
theorem dX2_startAnew_12 : decode cX2_startAnew 12 = .ok (.putfield 19, 3) := by decide +kernel
theorem dX2_startAnew_15 : decode cX2_startAnew 15 = .ok (.return_, 1) := by decide +kernel
theorem dX2_narrow_0 : decode cX2_narrow 0 = .ok (.iload_n 2, 1) := by decide +kernel
theorem dX2_narrow_1 : decode cX2_narrow 1 = .ok (.ifCond .eq 7, 3) := by decide +kernel
theorem dX2_narrow_4 : decode cX2_narrow 4 = .ok (.iload_n 3, 1) := by decide +kernel
theorem dX2_narrow_5 : decode cX2_narrow 5 = .ok (.ifCond .ge 28, 3) := by decide +kernel
theorem dX2_narrow_8 : decode cX2_narrow 8 = .ok (.aload_n 0, 1) := by decide +kernel
theorem dX2_narrow_9 : decode cX2_narrow 9 = .ok (.aload_n 0, 1) := by decide +kernel
theorem dX2_narrow_10 : decode cX2_narrow 10 = .ok (.getfield 9, 3) := by decide +kernel
theorem dX2_narrow_13 : decode cX2_narrow 13 = .ok (.ifCond .eq 15, 3) := by decide +kernel
theorem dX2_narrow_16 : decode cX2_narrow 16 = .ok (.iload_n 2, 1) := by decide +kernel
theorem dX2_narrow_17 : decode cX2_narrow 17 = .ok (.ifCond .ne 11, 3) := by decide +kernel
theorem dX2_narrow_20 : decode cX2_narrow 20 = .ok (.iload_n 3, 1) := by decide +kernel
theorem dX2_narrow_21 : decode cX2_narrow 21 = .ok (.ifCond .ge 7, 3) := by decide +kernel
theorem dX2_narrow_24 : decode cX2_narrow 24 = .ok (.iconst 1, 1) := by decide +kernel
theorem dX2_narrow_25 : decode cX2_narrow 25 = .ok (.goto 4, 3) := by decide +kernel
theorem dX2_narrow_28 : decode cX2_narrow 28 = .ok (.iconst 0, 1) := by decide +kernel
theorem dX2_narrow_29 : decode cX2_narrow 29 = .ok (.putfield 9, 3) := by decide +kernel
theorem dX2_narrow_32 : decode cX2_narrow 32 = .ok (.return_, 1) := by decide +kernel
theorem dX2_narrow_33 : decode cX2_narrow 33 = .ok (.iconst 1, 1) := by decide +kernel
theorem dX2_narrow_34 : decode cX2_narrow 34 = .ok (.iload_n 1, 1) := by decide +kernel
theorem dX2_narrow_35 : decode cX2_narrow 35 = .ok (.ishl, 1) := by decide +kernel
theorem dX2_narrow_36 : decode cX2_narrow 36 = .ok (.istore 4, 2) := by decide +kernel
theorem dX2_narrow_38 : decode cX2_narrow 38 = .ok (.iload_n 2, 1) := by decide +kernel
theorem dX2_narrow_39 : decode cX2_narrow 39 = .ok (.ifCond .le 7, 3) := by decide +kernel
theorem dX2_narrow_42 : decode cX2_narrow 42 = .ok (.iconst 1, 1) := by decide +kernel
theorem dX2_narrow_43 : decode cX2_narrow 43 = .ok (.goto 4, 3) := by decide +kernel
theorem dX2_narrow_46 : decode cX2_narrow 46 = .ok (.iconst 0, 1) := by decide +kernel
theorem dX2_narrow_47 : decode cX2_narrow 47 = .ok (.iload_n 3, 1) := by decide +kernel
theorem dX2_narrow_48 : decode cX2_narrow 48 = .ok (.iconst 1, 1) := by decide +kernel
theorem dX2_narrow_49 : decode cX2_narrow 49 = .ok (.if_icmp .ne 7, 3) := by decide +kernel
theorem dX2_narrow_52 : decode cX2_narrow 52 = .ok (.iconst 1, 1) := by decide +kernel
theorem dX2_narrow_53 : decode cX2_narrow 53 = .ok (.goto 4, 3) := by decide +kernel
theorem dX2_narrow_56 : decode cX2_narrow 56 = .ok (.iconst 0, 1) := by decide +kernel
theorem dX2_narrow_57 : decode cX2_narrow 57 = .ok (.if_icmp .ne 8, 3) := by decide +kernel
theorem dX2_narrow_60 : decode cX2_narrow 60 = .ok (.iload 4, 2) := by decide +kernel
theorem dX2_narrow_62 : decode cX2_narrow 62 = .ok (.goto 4, 3) := by decide +kernel
theorem dX2_narrow_65 : decode cX2_narrow 65 = .ok (.iconst 0, 1) := by decide +kernel
theorem dX2_narrow_66 : decode cX2_narrow 66 = .ok (.istore 5, 2) := by decide +kernel
theorem dX2_narrow_68 : decode cX2_narrow 68 = .ok (.aload_n 0, 1) := by decide +kernel
theorem dX2_narrow_69 : decode cX2_narrow 69 = .ok (.getfield 15, 3) := by decide +kernel
theorem dX2_narrow_72 : decode cX2_narrow 72 = .ok (.iload 4, 2) := by decide +kernel
theorem dX2_narrow_74 : decode cX2_narrow 74 = .ok (.iand, 1) := by decide +kernel
theorem dX2_narrow_75 : decode cX2_narrow 75 = .ok (.ifCond .eq 20, 3) := by decide +kernel
theorem dX2_narrow_78 : decode cX2_narrow 78 = .ok (.aload_n 0, 1) := by decide +kernel
theorem dX2_narrow_79 : decode cX2_narrow 79 = .ok (.getfield 19, 3) := by decide +kernel
theorem dX2_narrow_82 : decode cX2_narrow 82 = .ok (.iload 4, 2) := by decide +kernel
theorem dX2_narrow_84 : decode cX2_narrow 84 = .ok (.iand, 1) := by decide +kernel
theorem dX2_narrow_85 : decode cX2_narrow 85 = .ok (.iload 5, 2) := by decide +kernel
theorem dX2_narrow_87 : decode cX2_narrow 87 = .ok (.if_icmp .eq 8, 3) := by decide +kernel
theorem dX2_narrow_90 : decode cX2_narrow 90 = .ok (.aload_n 0, 1) := by decide +kernel
theorem dX2_narrow_91 : decode cX2_narrow 91 = .ok (.iconst 0, 1) := by decide +kernel
theorem dX2_narrow_92 : decode cX2_narrow 92 = .ok (.putfield 9, 3) := by decide +kernel
theorem dX2_narrow_95 : decode cX2_narrow 95 = .ok (.aload_n 0, 1) := by decide +kernel
theorem dX2_narrow_96 : decode cX2_narrow 96 = .ok (.dup, 1) := by decide +kernel
theorem dX2_narrow_97 : decode cX2_narrow 97 = .ok (.getfield 15, 3) := by decide +kernel
theorem dX2_narrow_100 : decode cX2_narrow 100 = .ok (.iload 4, 2) := by decide +kernel
theorem dX2_narrow_102 : decode cX2_narrow 102 = .ok (.ior, 1) := by decide +kernel
theorem dX2_narrow_103 : decode cX2_narrow 103 = .ok (.putfield 15, 3) := by decide +kernel
theorem dX2_narrow_106 : decode cX2_narrow 106 = .ok (.aload_n 0, 1) := by decide +kernel
theorem dX2_narrow_107 : decode cX2_narrow 107 = .ok (.dup, 1) := by decide +kernel
theorem dX2_narrow_108 : decode cX2_narrow 108 = .ok (.getfield 19, 3) := by decide +kernel
theorem dX2_narrow_111 : decode cX2_narrow 111 = .ok (.iload 5, 2) := by decide +kernel
theorem dX2_narrow_113 : decode cX2_narrow 113 = .ok (.ior, 1) := by decide +kernel
theorem dX2_narrow_114 : decode cX2_narrow 114 = .ok (.putfield 19, 3) := by decide +kernel
theorem dX2_narrow_117 : decode cX2_narrow 117 = .ok (.return_, 1) := by decide +kernel
theorem dX2_size_0 : decode cX2_size 0 = .ok (.aload_n 0, 1) := by decide +kernel
theorem dX2_size_1 : decode cX2_size 1 = .ok (.getfield 9, 3) := by decide +kernel
theorem dX2_size_4 : decode cX2_size 4 = .ok (.ifCond .eq 18, 3) := by decide +kernel
theorem dX2_size_7 : decode cX2_size 7 = .ok (.iconst 1, 1) := by decide +kernel
theorem dX2_size_8 : decode cX2_size 8 = .ok (.bipush 8, 2) := by decide +kernel
theorem dX2_size_10 : decode cX2_size 10 = .ok (.aload_n 0, 1) := by decide +kernel
theorem dX2_size_11 : decode cX2_size 11 = .ok (.getfield 15, 3) := by decide +kernel
theorem dX2_size_14 : decode cX2_size 14 = .ok (.invokestatic 22, 3) := by decide +kernel
theorem dX2_size_17 : decode cX2_size 17 = .ok (.isub, 1) := by decide +kernel
theorem dX2_size_18 : decode cX2_size 18 = .ok (.ishl, 1) := by decide +kernel
theorem dX2_size_19 : decode cX2_size 19 = .ok (.goto 4, 3) := by decide +kernel
theorem dX2_size_22 : decode cX2_size 22 = .ok (.iconst 0, 1) := by decide +kernel
theorem dX2_size_23 : decode cX2_size 23 = .ok (.ireturn, 1) := by decide +kernel
theorem dX2_leftBy_0 : decode cX2_leftBy 0 = .ok (.iload_n 2, 1) := by decide +kernel
theorem dX2_leftBy_1 : decode cX2_leftBy 1 = .ok (.ifCond .eq 18, 3) := by decide +kernel
theorem dX2_leftBy_4 : decode cX2_leftBy 4 = .ok (.aload_n 0, 1) := by decide +kernel
theorem dX2_leftBy_5 : decode cX2_leftBy 5 = .ok (.getfield 15, 3) := by decide +kernel
theorem dX2_leftBy_8 : decode cX2_leftBy 8 = .ok (.iload_n 1, 1) := by decide +kernel
theorem dX2_leftBy_9 : decode cX2_leftBy 9 = .ok (.invokestatic 28, 3) := by decide +kernel
theorem dX2_leftBy_12 : decode cX2_leftBy 12 = .ok (.ifCond .ne 7, 3) := by decide +kernel
theorem dX2_leftBy_15 : decode cX2_leftBy 15 = .ok (.iconst 1, 1) := by decide +kernel
theorem dX2_leftBy_16 : decode cX2_leftBy 16 = .ok (.goto 4, 3) := by decide +kernel
theorem dX2_leftBy_19 : decode cX2_leftBy 19 = .ok (.iconst 0, 1) := by decide +kernel
theorem dX2_leftBy_20 : decode cX2_leftBy 20 = .ok (.istore_n 3, 1) := by decide +kernel
theorem dX2_leftBy_21 : decode cX2_leftBy 21 = .ok (.iload_n 3, 1) := by decide +kernel
theorem dX2_leftBy_22 : decode cX2_leftBy 22 = .ok (.ifCond .eq 12, 3) := by decide +kernel
theorem dX2_leftBy_25 : decode cX2_leftBy 25 = .ok (.aload_n 0, 1) := by decide +kernel
theorem dX2_leftBy_26 : decode cX2_leftBy 26 = .ok (.invokevirtual 32, 3) := by decide +kernel
theorem dX2_leftBy_29 : decode cX2_leftBy 29 = .ok (.iconst 2, 1) := by decide +kernel
theorem dX2_leftBy_30 : decode cX2_leftBy 30 = .ok (.idiv, 1) := by decide +kernel
theorem dX2_leftBy_31 : decode cX2_leftBy 31 = .ok (.goto 7, 3) := by decide +kernel
theorem dX2_leftBy_34 : decode cX2_leftBy 34 = .ok (.aload_n 0, 1) := by decide +kernel
theorem dX2_leftBy_35 : decode cX2_leftBy 35 = .ok (.invokevirtual 32, 3) := by decide +kernel
theorem dX2_leftBy_38 : decode cX2_leftBy 38 = .ok (.ireturn, 1) := by decide +kernel
theorem dX3_init_0 : decode cX3_init 0 = .ok (.aload_n 0, 1) := by decide +kernel
theorem dX3_init_1 : decode cX3_init 1 = .ok (.invokespecial 3, 3) := by decide +kernel
theorem dX3_init_4 : decode cX3_init 4 = .ok (.aload_n 0, 1) := by decide +kernel
theorem dX3_init_5 : decode cX3_init 5 = .ok (.iconst 4, 1) := by decide +kernel
theorem dX3_init_6 : decode cX3_init 6 = .ok (.newarray .int, 2) := by decide +kernel
theorem dX3_init_8 : decode cX3_init 8 = .ok (.putfield 9, 3) := by decide +kernel
theorem dX3_init_11 : decode cX3_init 11 = .ok (.return_, 1) := by decide +kernel
theorem dX3_begin_0 : decode cX3_begin 0 = .ok (.aload_n 0, 1) := by decide +kernel
theorem dX3_begin_1 : decode cX3_begin 1 = .ok (.iload_n 1, 1) := by decide +kernel
theorem dX3_begin_2 : decode cX3_begin 2 = .ok (.putfield 15, 3) := by decide +kernel
theorem dX3_begin_5 : decode cX3_begin 5 = .ok (.aload_n 0, 1) := by decide +kernel
theorem dX3_begin_6 : decode cX3_begin 6 = .ok (.iload_n 2, 1) := by decide +kernel
theorem dX3_begin_7 : decode cX3_begin 7 = .ok (.putfield 19, 3) := by decide +kernel
theorem dX3_begin_10 : decode cX3_begin 10 = .ok (.aload_n 0, 1) := by decide +kernel
theorem dX3_begin_11 : decode cX3_begin 11 = .ok (.iload_n 3, 1) := by decide +kernel
theorem dX3_begin_12 : decode cX3_begin 12 = .ok (.putfield 22, 3) := by decide +kernel
theorem dX3_begin_15 : decode cX3_begin 15 = .ok (.aload_n 0, 1) := by decide +kernel
theorem dX3_begin_16 : decode cX3_begin 16 = .ok (.iload 4, 2) := by decide +kernel
theorem dX3_begin_18 : decode cX3_begin 18 = .ok (.putfield 25, 3) := by decide +kernel
theorem dX3_begin_21 : decode cX3_begin 21 = .ok (.aload_n 0, 1) := by decide +kernel
theorem dX3_begin_22 : decode cX3_begin 22 = .ok (.iconst 0, 1) := by decide +kernel
theorem dX3_begin_23 : decode cX3_begin 23 = .ok (.putfield 28, 3) := by decide +kernel
theorem dX3_begin_26 : decode cX3_begin 26 = .ok (.aload_n 0, 1) := by decide +kernel
theorem dX3_begin_27 : decode cX3_begin 27 = .ok (.iconst 0, 1) := by decide +kernel
theorem dX3_begin_28 : decode cX3_begin 28 = .ok (.putfield 31, 3) := by decide +kernel
theorem dX3_begin_31 : decode cX3_begin 31 = .ok (.aload_n 0, 1) := by decide +kernel
theorem dX3_begin_32 : decode cX3_begin 32 = .ok (.getfield 9, 3) := by decide +kernel
theorem dX3_begin_35 : decode cX3_begin 35 = .ok (.iconst 0, 1) := by decide +kernel
theorem dX3_begin_36 : decode cX3_begin 36 = .ok (.invokestatic 34, 3) := by decide +kernel
theorem dX3_begin_39 : decode cX3_begin 39 = .ok (.return_, 1) := by decide +kernel
theorem dX3_copyFrom_0 : decode cX3_copyFrom 0 = .ok (.aload_n 0, 1) := by decide +kernel
theorem dX3_copyFrom_1 : decode cX3_copyFrom 1 = .ok (.aload_n 1, 1) := by decide +kernel
theorem dX3_copyFrom_2 : decode cX3_copyFrom 2 = .ok (.getfield 15, 3) := by decide +kernel
theorem dX3_copyFrom_5 : decode cX3_copyFrom 5 = .ok (.putfield 15, 3) := by decide +kernel
theorem dX3_copyFrom_8 : decode cX3_copyFrom 8 = .ok (.aload_n 0, 1) := by decide +kernel
theorem dX3_copyFrom_9 : decode cX3_copyFrom 9 = .ok (.aload_n 1, 1) := by decide +kernel
theorem dX3_copyFrom_10 : decode cX3_copyFrom 10 = .ok (.getfield 19, 3) := by decide +kernel
theorem dX3_copyFrom_13 : decode cX3_copyFrom 13 = .ok (.putfield 19, 3) := by decide +kernel
theorem dX3_copyFrom_16 : decode cX3_copyFrom 16 = .ok (.aload_n 0, 1) := by decide +kernel
theorem dX3_copyFrom_17 : decode cX3_copyFrom 17 = .ok (.aload_n 1, 1) := by decide +kernel
theorem dX3_copyFrom_18 : decode cX3_copyFrom 18 = .ok (.getfield 22, 3) := by decide +kernel
theorem dX3_copyFrom_21 : decode cX3_copyFrom 21 = .ok (.putfield 22, 3) := by decide +kernel
theorem dX3_copyFrom_24 : decode cX3_copyFrom 24 = .ok (.aload_n 0, 1) := by decide +kernel
theorem dX3_copyFrom_25 : decode cX3_copyFrom 25 = .ok (.aload_n 1, 1) := by decide +kernel
theorem dX3_copyFrom_26 : decode cX3_copyFrom 26 = .ok (.getfield 25, 3) := by decide +kernel
theorem dX3_copyFrom_29 : decode cX3_copyFrom 29 = .ok (.putfield 25, 3) := by decide +kernel
theorem dX3_copyFrom_32 : decode cX3_copyFrom 32 = .ok (.aload_n 0, 1) := by decide +kernel
theorem dX3_copyFrom_33 : decode cX3_copyFrom 33 = .ok (.aload_n 1, 1) := by decide +kernel
theorem dX3_copyFrom_34 : decode cX3_copyFrom 34 = .ok (.getfield 28, 3) := by decide +kernel
theorem dX3_copyFrom_37 : decode cX3_copyFrom 37 = .ok (.putfield 28, 3) := by decide +kernel
theorem dX3_copyFrom_40 : decode cX3_copyFrom 40 = .ok (.aload_n 0, 1) := by decide +kernel
theorem dX3_copyFrom_41 : decode cX3_copyFrom 41 = .ok (.aload_n 1, 1) := by decide +kernel
theorem dX3_copyFrom_42 : decode cX3_copyFrom 42 = .ok (.getfield 31, 3) := by decide +kernel
theorem dX3_copyFrom_45 : decode cX3_copyFrom 45 = .ok (.putfield 31, 3) := by decide +kernel
theorem dX3_copyFrom_48 : decode cX3_copyFrom 48 = .ok (.aload_n 1, 1) := by decide +kernel
theorem dX3_copyFrom_49 : decode cX3_copyFrom 49 = .ok (.getfield 9, 3) := by decide +kernel
theorem dX3_copyFrom_52 : decode cX3_copyFrom 52 = .ok (.iconst 0, 1) := by decide +kernel
theorem dX3_copyFrom_53 : decode cX3_copyFrom 53 = .ok (.aload_n 0, 1) := by decide +kernel
theorem dX3_copyFrom_54 : decode cX3_copyFrom 54 = .ok (.getfield 9, 3) := by decide +kernel
theorem dX3_copyFrom_57 : decode cX3_copyFrom 57 = .ok (.iconst 0, 1) := by decide +kernel
theorem dX3_copyFrom_58 : decode cX3_copyFrom 58 = .ok (.iconst 4, 1) := by decide +kernel
theorem dX3_copyFrom_59 : decode cX3_copyFrom 59 = .ok (.invokestatic 40, 3) := by decide +kernel
theorem dX3_copyFrom_62 : decode cX3_copyFrom 62 = .ok (.return_, 1) := by decide +kernel
theorem dX3_clear_0 : decode cX3_clear 0 = .ok (.aload_n 0, 1) := by decide +kernel
theorem dX3_clear_1 : decode cX3_clear 1 = .ok (.getfield 19, 3) := by decide +kernel
theorem dX3_clear_4 : decode cX3_clear 4 = .ok (.tableswitch 120 1 6 #[40, 47, 51, 60, 82, 100], 40) := by decide +kernel
theorem dX3_clear_44 : decode cX3_clear 44 = .ok (.iload_n 1, 1) := by decide +kernel
theorem dX3_clear_45 : decode cX3_clear 45 = .ok (.aload_n 0, 1) := by decide +kernel
theorem dX3_clear_46 : decode cX3_clear 46 = .ok (.getfield 22, 3) := by decide +kernel
theorem dX3_clear_49 : decode cX3_clear 49 = .ok (.iadd, 1) := by decide +kernel
theorem dX3_clear_50 : decode cX3_clear 50 = .ok (.ireturn, 1) := by decide +kernel
theorem dX3_clear_51 : decode cX3_clear 51 = .ok (.iload_n 1, 1) := by decide +kernel
theorem dX3_clear_52 : decode cX3_clear 52 = .ok (.iconst 2, 1) := by decide +kernel
theorem dX3_clear_53 : decode cX3_clear 53 = .ok (.idiv, 1) := by decide +kernel
theorem dX3_clear_54 : decode cX3_clear 54 = .ok (.ireturn, 1) := by decide +kernel
theorem dX3_clear_55 : decode cX3_clear 55 = .ok (.iload_n 1, 1) := by decide +kernel
theorem dX3_clear_56 : decode cX3_clear 56 = .ok (.iconst 2, 1) := by decide +kernel
theorem dX3_clear_57 : decode cX3_clear 57 = .ok (.aload_n 0, 1) := by decide +kernel
theorem dX3_clear_58 : decode cX3_clear 58 = .ok (.getfield 31, 3) := by decide +kernel
theorem dX3_clear_61 : decode cX3_clear 61 = .ok (.imul, 1) := by decide +kernel
theorem dX3_clear_62 : decode cX3_clear 62 = .ok (.isub, 1) := by decide +kernel
theorem dX3_clear_63 : decode cX3_clear 63 = .ok (.ireturn, 1) := by decide +kernel
theorem dX3_clear_64 : decode cX3_clear 64 = .ok (.aload_n 0, 1) := by decide +kernel
theorem dX3_clear_65 : decode cX3_clear 65 = .ok (.getfield 28, 3) := by decide +kernel
theorem dX3_clear_68 : decode cX3_clear 68 = .ok (.aload_n 0, 1) := by decide +kernel
theorem dX3_clear_69 : decode cX3_clear 69 = .ok (.getfield 22, 3) := by decide +kernel
theorem dX3_clear_72 : decode cX3_clear 72 = .ok (.if_icmp .ge 7, 3) := by decide +kernel
theorem dX3_clear_75 : decode cX3_clear 75 = .ok (.iconst 0, 1) := by decide +kernel
theorem dX3_clear_76 : decode cX3_clear 76 = .ok (.goto 9, 3) := by decide +kernel
theorem dX3_clear_79 : decode cX3_clear 79 = .ok (.iload_n 1, 1) := by decide +kernel
theorem dX3_clear_80 : decode cX3_clear 80 = .ok (.aload_n 0, 1) := by decide +kernel
theorem dX3_clear_81 : decode cX3_clear 81 = .ok (.getfield 22, 3) := by decide +kernel
theorem dX3_clear_84 : decode cX3_clear 84 = .ok (.iadd, 1) := by decide +kernel
theorem dX3_clear_85 : decode cX3_clear 85 = .ok (.ireturn, 1) := by decide +kernel
theorem dX3_clear_86 : decode cX3_clear 86 = .ok (.iload_n 1, 1) := by decide +kernel
theorem dX3_clear_87 : decode cX3_clear 87 = .ok (.iconst 2, 1) := by decide +kernel
theorem dX3_clear_88 : decode cX3_clear 88 = .ok (.idiv, 1) := by decide +kernel
theorem dX3_clear_89 : decode cX3_clear 89 = .ok (.iload_n 2, 1) := by decide +kernel
theorem dX3_clear_90 : decode cX3_clear 90 = .ok (.iconst 2, 1) := by decide +kernel
theorem dX3_clear_91 : decode cX3_clear 91 = .ok (.irem, 1) := by decide +kernel
theorem dX3_clear_92 : decode cX3_clear 92 = .ok (.iconst 1, 1) := by decide +kernel
theorem dX3_clear_93 : decode cX3_clear 93 = .ok (.if_icmp .ne 8, 3) := by decide +kernel
theorem dX3_clear_96 : decode cX3_clear 96 = .ok (.bipush 6, 2) := by decide +kernel
theorem dX3_clear_98 : decode cX3_clear 98 = .ok (.goto 4, 3) := by decide +kernel
theorem dX3_clear_101 : decode cX3_clear 101 = .ok (.iconst 0, 1) := by decide +kernel
theorem dX3_clear_102 : decode cX3_clear 102 = .ok (.isub, 1) := by decide +kernel
theorem dX3_clear_103 : decode cX3_clear 103 = .ok (.ireturn, 1) := by decide +kernel
theorem dX3_clear_104 : decode cX3_clear 104 = .ok (.iload_n 1, 1) := by decide +kernel
theorem dX3_clear_105 : decode cX3_clear 105 = .ok (.iconst 2, 1) := by decide +kernel
theorem dX3_clear_106 : decode cX3_clear 106 = .ok (.aload_n 0, 1) := by decide +kernel
theorem dX3_clear_107 : decode cX3_clear 107 = .ok (.getfield 31, 3) := by decide +kernel
theorem dX3_clear_110 : decode cX3_clear 110 = .ok (.imul, 1) := by decide +kernel
theorem dX3_clear_111 : decode cX3_clear 111 = .ok (.isub, 1) := by decide +kernel
theorem dX3_clear_112 : decode cX3_clear 112 = .ok (.aload_n 0, 1) := by decide +kernel
theorem dX3_clear_113 : decode cX3_clear 113 = .ok (.getfield 9, 3) := by decide +kernel
theorem dX3_clear_116 : decode cX3_clear 116 = .ok (.iload_n 2, 1) := by decide +kernel
theorem dX3_clear_117 : decode cX3_clear 117 = .ok (.iconst 3, 1) := by decide +kernel
theorem dX3_clear_118 : decode cX3_clear 118 = .ok (.iand, 1) := by decide +kernel
theorem dX3_clear_119 : decode cX3_clear 119 = .ok (.iaload, 1) := by decide +kernel
theorem dX3_clear_120 : decode cX3_clear 120 = .ok (.iadd, 1) := by decide +kernel
theorem dX3_clear_121 : decode cX3_clear 121 = .ok (.iconst 4, 1) := by decide +kernel
theorem dX3_clear_122 : decode cX3_clear 122 = .ok (.isub, 1) := by decide +kernel
theorem dX3_clear_123 : decode cX3_clear 123 = .ok (.ireturn, 1) := by decide +kernel
theorem dX3_clear_124 : decode cX3_clear 124 = .ok (.iload_n 1, 1) := by decide +kernel
theorem dX3_clear_125 : decode cX3_clear 125 = .ok (.ireturn, 1) := by decide +kernel
theorem dX3_open_0 : decode cX3_open 0 = .ok (.aload_n 0, 1) := by decide +kernel
theorem dX3_open_1 : decode cX3_open 1 = .ok (.aload_n 0, 1) := by decide +kernel
theorem dX3_open_2 : decode cX3_open 2 = .ok (.getfield 31, 3) := by decide +kernel
theorem dX3_open_5 : decode cX3_open 5 = .ok (.iconst 1, 1) := by decide +kernel
theorem dX3_open_6 : decode cX3_open 6 = .ok (.iadd, 1) := by decide +kernel
theorem dX3_open_7 : decode cX3_open 7 = .ok (.bipush 9, 2) := by decide +kernel
theorem dX3_open_9 : decode cX3_open 9 = .ok (.invokestatic 46, 3) := by decide +kernel
theorem dX3_open_12 : decode cX3_open 12 = .ok (.putfield 31, 3) := by decide +kernel
theorem dX3_open_15 : decode cX3_open 15 = .ok (.aload_n 0, 1) := by decide +kernel
theorem dX3_open_16 : decode cX3_open 16 = .ok (.aload_n 0, 1) := by decide +kernel
theorem dX3_open_17 : decode cX3_open 17 = .ok (.getfield 25, 3) := by decide +kernel
theorem dX3_open_20 : decode cX3_open 20 = .ok (.iconst 1, 1) := by decide +kernel
theorem dX3_open_21 : decode cX3_open 21 = .ok (.isub, 1) := by decide +kernel
theorem dX3_open_22 : decode cX3_open 22 = .ok (.iconst 0, 1) := by decide +kernel
theorem dX3_open_23 : decode cX3_open 23 = .ok (.invokestatic 52, 3) := by decide +kernel
theorem dX3_open_26 : decode cX3_open 26 = .ok (.putfield 25, 3) := by decide +kernel
theorem dX3_open_29 : decode cX3_open 29 = .ok (.return_, 1) := by decide +kernel
theorem dX3_ripen_0 : decode cX3_ripen 0 = .ok (.aload_n 0, 1) := by decide +kernel
theorem dX3_ripen_1 : decode cX3_ripen 1 = .ok (.dup, 1) := by decide +kernel
theorem dX3_ripen_2 : decode cX3_ripen 2 = .ok (.getfield 28, 3) := by decide +kernel
theorem dX3_ripen_5 : decode cX3_ripen 5 = .ok (.iconst 1, 1) := by decide +kernel
theorem dX3_ripen_6 : decode cX3_ripen 6 = .ok (.iadd, 1) := by decide +kernel
theorem dX3_ripen_7 : decode cX3_ripen 7 = .ok (.putfield 28, 3) := by decide +kernel
theorem dX3_ripen_10 : decode cX3_ripen 10 = .ok (.iload_n 1, 1) := by decide +kernel
theorem dX3_ripen_11 : decode cX3_ripen 11 = .ok (.ifCond .le 27, 3) := by decide +kernel
theorem dX3_ripen_14 : decode cX3_ripen 14 = .ok (.aload_n 0, 1) := by decide +kernel
theorem dX3_ripen_15 : decode cX3_ripen 15 = .ok (.getfield 28, 3) := by decide +kernel
theorem dX3_ripen_18 : decode cX3_ripen 18 = .ok (.iload_n 1, 1) := by decide +kernel
theorem dX3_ripen_19 : decode cX3_ripen 19 = .ok (.irem, 1) := by decide +kernel
theorem dX3_ripen_20 : decode cX3_ripen 20 = .ok (.ifCond .ne 18, 3) := by decide +kernel
theorem dX3_ripen_23 : decode cX3_ripen 23 = .ok (.aload_n 0, 1) := by decide +kernel
theorem dX3_ripen_24 : decode cX3_ripen 24 = .ok (.aload_n 0, 1) := by decide +kernel
theorem dX3_ripen_25 : decode cX3_ripen 25 = .ok (.getfield 25, 3) := by decide +kernel
theorem dX3_ripen_28 : decode cX3_ripen 28 = .ok (.iconst 1, 1) := by decide +kernel
theorem dX3_ripen_29 : decode cX3_ripen 29 = .ok (.iadd, 1) := by decide +kernel
theorem dX3_ripen_30 : decode cX3_ripen 30 = .ok (.bipush 9, 2) := by decide +kernel
theorem dX3_ripen_32 : decode cX3_ripen 32 = .ok (.invokestatic 46, 3) := by decide +kernel
theorem dX3_ripen_35 : decode cX3_ripen 35 = .ok (.putfield 25, 3) := by decide +kernel
theorem dX3_ripen_38 : decode cX3_ripen 38 = .ok (.return_, 1) := by decide +kernel
theorem dX4_init_0 : decode cX4_init 0 = .ok (.aload_n 0, 1) := by decide +kernel
theorem dX4_init_1 : decode cX4_init 1 = .ok (.invokespecial 3, 3) := by decide +kernel
theorem dX4_init_4 : decode cX4_init 4 = .ok (.aload_n 0, 1) := by decide +kernel
theorem dX4_init_5 : decode cX4_init 5 = .ok (.iconst 0, 1) := by decide +kernel
theorem dX4_init_6 : decode cX4_init 6 = .ok (.putfield 9, 3) := by decide +kernel
theorem dX4_init_9 : decode cX4_init 9 = .ok (.aload_n 0, 1) := by decide +kernel
theorem dX4_init_10 : decode cX4_init 10 = .ok (.iload_n 1, 1) := by decide +kernel
theorem dX4_init_11 : decode cX4_init 11 = .ok (.newarray .int, 2) := by decide +kernel
theorem dX4_init_13 : decode cX4_init 13 = .ok (.putfield 15, 3) := by decide +kernel
theorem dX4_init_16 : decode cX4_init 16 = .ok (.aload_n 0, 1) := by decide +kernel
theorem dX4_init_17 : decode cX4_init 17 = .ok (.iload_n 1, 1) := by decide +kernel
theorem dX4_init_18 : decode cX4_init 18 = .ok (.newarray .int, 2) := by decide +kernel
theorem dX4_init_20 : decode cX4_init 20 = .ok (.putfield 19, 3) := by decide +kernel
theorem dX4_init_23 : decode cX4_init 23 = .ok (.aload_n 0, 1) := by decide +kernel
theorem dX4_init_24 : decode cX4_init 24 = .ok (.iload_n 1, 1) := by decide +kernel
theorem dX4_init_25 : decode cX4_init 25 = .ok (.newarray .int, 2) := by decide +kernel
theorem dX4_init_27 : decode cX4_init 27 = .ok (.putfield 22, 3) := by decide +kernel
theorem dX4_init_30 : decode cX4_init 30 = .ok (.return_, 1) := by decide +kernel
theorem dX4_append_0 : decode cX4_append 0 = .ok (.aload_n 0, 1) := by decide +kernel
theorem dX4_append_1 : decode cX4_append 1 = .ok (.getfield 9, 3) := by decide +kernel
theorem dX4_append_4 : decode cX4_append 4 = .ok (.aload_n 0, 1) := by decide +kernel
theorem dX4_append_5 : decode cX4_append 5 = .ok (.getfield 15, 3) := by decide +kernel
theorem dX4_append_8 : decode cX4_append 8 = .ok (.arraylength, 1) := by decide +kernel
theorem dX4_append_9 : decode cX4_append 9 = .ok (.if_icmp .lt 6, 3) := by decide +kernel
theorem dX4_append_12 : decode cX4_append 12 = .ok (.bipush (-4), 2) := by decide +kernel
theorem dX4_append_14 : decode cX4_append 14 = .ok (.ireturn, 1) := by decide +kernel
theorem dX4_append_15 : decode cX4_append 15 = .ok (.aload_n 0, 1) := by decide +kernel
theorem dX4_append_16 : decode cX4_append 16 = .ok (.getfield 15, 3) := by decide +kernel
theorem dX4_append_19 : decode cX4_append 19 = .ok (.aload_n 0, 1) := by decide +kernel
theorem dX4_append_20 : decode cX4_append 20 = .ok (.getfield 9, 3) := by decide +kernel
theorem dX4_append_23 : decode cX4_append 23 = .ok (.iload_n 1, 1) := by decide +kernel
theorem dX4_append_24 : decode cX4_append 24 = .ok (.iastore, 1) := by decide +kernel
theorem dX4_append_25 : decode cX4_append 25 = .ok (.aload_n 0, 1) := by decide +kernel
theorem dX4_append_26 : decode cX4_append 26 = .ok (.getfield 19, 3) := by decide +kernel
theorem dX4_append_29 : decode cX4_append 29 = .ok (.aload_n 0, 1) := by decide +kernel
theorem dX4_append_30 : decode cX4_append 30 = .ok (.getfield 9, 3) := by decide +kernel
theorem dX4_append_33 : decode cX4_append 33 = .ok (.iload_n 2, 1) := by decide +kernel
theorem dX4_append_34 : decode cX4_append 34 = .ok (.iastore, 1) := by decide +kernel
theorem dX4_append_35 : decode cX4_append 35 = .ok (.aload_n 0, 1) := by decide +kernel
theorem dX4_append_36 : decode cX4_append 36 = .ok (.getfield 22, 3) := by decide +kernel
theorem dX4_append_39 : decode cX4_append 39 = .ok (.aload_n 0, 1) := by decide +kernel
theorem dX4_append_40 : decode cX4_append 40 = .ok (.getfield 9, 3) := by decide +kernel
theorem dX4_append_43 : decode cX4_append 43 = .ok (.iload_n 3, 1) := by decide +kernel
theorem dX4_append_44 : decode cX4_append 44 = .ok (.iastore, 1) := by decide +kernel
theorem dX4_append_45 : decode cX4_append 45 = .ok (.aload_n 0, 1) := by decide +kernel
theorem dX4_append_46 : decode cX4_append 46 = .ok (.dup, 1) := by decide +kernel
theorem dX4_append_47 : decode cX4_append 47 = .ok (.getfield 9, 3) := by decide +kernel
theorem dX4_append_50 : decode cX4_append 50 = .ok (.iconst 1, 1) := by decide +kernel
theorem dX4_append_51 : decode cX4_append 51 = .ok (.iadd, 1) := by decide +kernel
theorem dX4_append_52 : decode cX4_append 52 = .ok (.putfield 9, 3) := by decide +kernel
theorem dX4_append_55 : decode cX4_append 55 = .ok (.aload_n 0, 1) := by decide +kernel
theorem dX4_append_56 : decode cX4_append 56 = .ok (.getfield 9, 3) := by decide +kernel
theorem dX4_append_59 : decode cX4_append 59 = .ok (.ireturn, 1) := by decide +kernel
theorem dX4_empty_0 : decode cX4_empty 0 = .ok (.aload_n 0, 1) := by decide +kernel
theorem dX4_empty_1 : decode cX4_empty 1 = .ok (.iconst 0, 1) := by decide +kernel
theorem dX4_empty_2 : decode cX4_empty 2 = .ok (.putfield 9, 3) := by decide +kernel
theorem dX4_empty_5 : decode cX4_empty 5 = .ok (.iconst 0, 1) := by decide +kernel
theorem dX4_empty_6 : decode cX4_empty 6 = .ok (.ireturn, 1) := by decide +kernel
theorem dX4_copyFrom_0 : decode cX4_copyFrom 0 = .ok (.aload_n 0, 1) := by decide +kernel
theorem dX4_copyFrom_1 : decode cX4_copyFrom 1 = .ok (.aload_n 1, 1) := by decide +kernel
theorem dX4_copyFrom_2 : decode cX4_copyFrom 2 = .ok (.getfield 9, 3) := by decide +kernel
theorem dX4_copyFrom_5 : decode cX4_copyFrom 5 = .ok (.aload_n 0, 1) := by decide +kernel
theorem dX4_copyFrom_6 : decode cX4_copyFrom 6 = .ok (.getfield 15, 3) := by decide +kernel
theorem dX4_copyFrom_9 : decode cX4_copyFrom 9 = .ok (.arraylength, 1) := by decide +kernel
theorem dX4_copyFrom_10 : decode cX4_copyFrom 10 = .ok (.invokestatic 25, 3) := by decide +kernel
theorem dX4_copyFrom_13 : decode cX4_copyFrom 13 = .ok (.putfield 9, 3) := by decide +kernel
theorem dX4_copyFrom_16 : decode cX4_copyFrom 16 = .ok (.aload_n 1, 1) := by decide +kernel
theorem dX4_copyFrom_17 : decode cX4_copyFrom 17 = .ok (.getfield 15, 3) := by decide +kernel
theorem dX4_copyFrom_20 : decode cX4_copyFrom 20 = .ok (.iconst 0, 1) := by decide +kernel
theorem dX4_copyFrom_21 : decode cX4_copyFrom 21 = .ok (.aload_n 0, 1) := by decide +kernel
theorem dX4_copyFrom_22 : decode cX4_copyFrom 22 = .ok (.getfield 15, 3) := by decide +kernel
theorem dX4_copyFrom_25 : decode cX4_copyFrom 25 = .ok (.iconst 0, 1) := by decide +kernel
theorem dX4_copyFrom_26 : decode cX4_copyFrom 26 = .ok (.aload_n 0, 1) := by decide +kernel
theorem dX4_copyFrom_27 : decode cX4_copyFrom 27 = .ok (.getfield 9, 3) := by decide +kernel
theorem dX4_copyFrom_30 : decode cX4_copyFrom 30 = .ok (.invokestatic 31, 3) := by decide +kernel
theorem dX4_copyFrom_33 : decode cX4_copyFrom 33 = .ok (.aload_n 1, 1) := by decide +kernel
theorem dX4_copyFrom_34 : decode cX4_copyFrom 34 = .ok (.getfield 19, 3) := by decide +kernel
theorem dX4_copyFrom_37 : decode cX4_copyFrom 37 = .ok (.iconst 0, 1) := by decide +kernel
theorem dX4_copyFrom_38 : decode cX4_copyFrom 38 = .ok (.aload_n 0, 1) := by decide +kernel
theorem dX4_copyFrom_39 : decode cX4_copyFrom 39 = .ok (.getfield 19, 3) := by decide +kernel
theorem dX4_copyFrom_42 : decode cX4_copyFrom 42 = .ok (.iconst 0, 1) := by decide +kernel
theorem dX4_copyFrom_43 : decode cX4_copyFrom 43 = .ok (.aload_n 0, 1) := by decide +kernel
theorem dX4_copyFrom_44 : decode cX4_copyFrom 44 = .ok (.getfield 9, 3) := by decide +kernel
theorem dX4_copyFrom_47 : decode cX4_copyFrom 47 = .ok (.invokestatic 31, 3) := by decide +kernel
theorem dX4_copyFrom_50 : decode cX4_copyFrom 50 = .ok (.aload_n 1, 1) := by decide +kernel
theorem dX4_copyFrom_51 : decode cX4_copyFrom 51 = .ok (.getfield 22, 3) := by decide +kernel
theorem dX4_copyFrom_54 : decode cX4_copyFrom 54 = .ok (.iconst 0, 1) := by decide +kernel
theorem dX4_copyFrom_55 : decode cX4_copyFrom 55 = .ok (.aload_n 0, 1) := by decide +kernel
theorem dX4_copyFrom_56 : decode cX4_copyFrom 56 = .ok (.getfield 22, 3) := by decide +kernel
theorem dX4_copyFrom_59 : decode cX4_copyFrom 59 = .ok (.iconst 0, 1) := by decide +kernel
theorem dX4_copyFrom_60 : decode cX4_copyFrom 60 = .ok (.aload_n 0, 1) := by decide +kernel
theorem dX4_copyFrom_61 : decode cX4_copyFrom 61 = .ok (.getfield 9, 3) := by decide +kernel
theorem dX4_copyFrom_64 : decode cX4_copyFrom 64 = .ok (.invokestatic 31, 3) := by decide +kernel
theorem dX4_copyFrom_67 : decode cX4_copyFrom 67 = .ok (.return_, 1) := by decide +kernel
theorem dX5_init_0 : decode cX5_init 0 = .ok (.aload_n 0, 1) := by decide +kernel
theorem dX5_init_1 : decode cX5_init 1 = .ok (.invokespecial 3, 3) := by decide +kernel
theorem dX5_init_4 : decode cX5_init 4 = .ok (.aload_n 0, 1) := by decide +kernel
theorem dX5_init_5 : decode cX5_init 5 = .ok (.iconst 0, 1) := by decide +kernel
theorem dX5_init_6 : decode cX5_init 6 = .ok (.putfield 9, 3) := by decide +kernel
theorem dX5_init_9 : decode cX5_init 9 = .ok (.aload_n 0, 1) := by decide +kernel
theorem dX5_init_10 : decode cX5_init 10 = .ok (.iconst 0, 1) := by decide +kernel
theorem dX5_init_11 : decode cX5_init 11 = .ok (.putfield 15, 3) := by decide +kernel
theorem dX5_init_14 : decode cX5_init 14 = .ok (.aload_n 0, 1) := by decide +kernel
theorem dX5_init_15 : decode cX5_init 15 = .ok (.iconst (-1), 1) := by decide +kernel
theorem dX5_init_16 : decode cX5_init 16 = .ok (.putfield 18, 3) := by decide +kernel
theorem dX5_init_19 : decode cX5_init 19 = .ok (.aload_n 0, 1) := by decide +kernel
theorem dX5_init_20 : decode cX5_init 20 = .ok (.bipush 6, 2) := by decide +kernel
theorem dX5_init_22 : decode cX5_init 22 = .ok (.anewarray 21, 3) := by decide +kernel
theorem dX5_init_25 : decode cX5_init 25 = .ok (.putfield 23, 3) := by decide +kernel
theorem dX5_init_28 : decode cX5_init 28 = .ok (.aload_n 0, 1) := by decide +kernel
theorem dX5_init_29 : decode cX5_init 29 = .ok (.iconst 0, 1) := by decide +kernel
theorem dX5_init_30 : decode cX5_init 30 = .ok (.putfield 27, 3) := by decide +kernel
theorem dX5_init_33 : decode cX5_init 33 = .ok (.aload_n 0, 1) := by decide +kernel
theorem dX5_init_34 : decode cX5_init 34 = .ok (.new 30, 3) := by decide +kernel
theorem dX5_init_37 : decode cX5_init 37 = .ok (.dup, 1) := by decide +kernel
theorem dX5_init_38 : decode cX5_init 38 = .ok (.bipush 6, 2) := by decide +kernel
theorem dX5_init_40 : decode cX5_init 40 = .ok (.invokespecial 32, 3) := by decide +kernel
theorem dX5_init_43 : decode cX5_init 43 = .ok (.putfield 35, 3) := by decide +kernel
theorem dX5_init_46 : decode cX5_init 46 = .ok (.aload_n 0, 1) := by decide +kernel
theorem dX5_init_47 : decode cX5_init 47 = .ok (.new 30, 3) := by decide +kernel
theorem dX5_init_50 : decode cX5_init 50 = .ok (.dup, 1) := by decide +kernel
theorem dX5_init_51 : decode cX5_init 51 = .ok (.bipush 10, 2) := by decide +kernel
theorem dX5_init_53 : decode cX5_init 53 = .ok (.invokespecial 32, 3) := by decide +kernel
theorem dX5_init_56 : decode cX5_init 56 = .ok (.putfield 39, 3) := by decide +kernel
theorem dX5_init_59 : decode cX5_init 59 = .ok (.aload_n 0, 1) := by decide +kernel
theorem dX5_init_60 : decode cX5_init 60 = .ok (.new 30, 3) := by decide +kernel
theorem dX5_init_63 : decode cX5_init 63 = .ok (.dup, 1) := by decide +kernel
theorem dX5_init_64 : decode cX5_init 64 = .ok (.bipush 8, 2) := by decide +kernel
theorem dX5_init_66 : decode cX5_init 66 = .ok (.invokespecial 32, 3) := by decide +kernel
theorem dX5_init_69 : decode cX5_init 69 = .ok (.putfield 42, 3) := by decide +kernel
theorem dX5_init_72 : decode cX5_init 72 = .ok (.iconst 0, 1) := by decide +kernel
theorem dX5_init_73 : decode cX5_init 73 = .ok (.istore_n 1, 1) := by decide +kernel
theorem dX5_init_74 : decode cX5_init 74 = .ok (.iload_n 1, 1) := by decide +kernel
theorem dX5_init_75 : decode cX5_init 75 = .ok (.bipush 6, 2) := by decide +kernel
theorem dX5_init_77 : decode cX5_init 77 = .ok (.if_icmp .ge 22, 3) := by decide +kernel
theorem dX5_init_80 : decode cX5_init 80 = .ok (.aload_n 0, 1) := by decide +kernel
theorem dX5_init_81 : decode cX5_init 81 = .ok (.getfield 23, 3) := by decide +kernel
theorem dX5_init_84 : decode cX5_init 84 = .ok (.iload_n 1, 1) := by decide +kernel
theorem dX5_init_85 : decode cX5_init 85 = .ok (.new 21, 3) := by decide +kernel
theorem dX5_init_88 : decode cX5_init 88 = .ok (.dup, 1) := by decide +kernel
theorem dX5_init_89 : decode cX5_init 89 = .ok (.invokespecial 45, 3) := by decide +kernel
theorem dX5_init_92 : decode cX5_init 92 = .ok (.aastore, 1) := by decide +kernel
theorem dX5_init_93 : decode cX5_init 93 = .ok (.iinc 1 1, 3) := by decide +kernel
theorem dX5_init_96 : decode cX5_init 96 = .ok (.goto (-22), 3) := by decide +kernel
theorem dX5_init_99 : decode cX5_init 99 = .ok (.return_, 1) := by decide +kernel
theorem dX5_potAt_0 : decode cX5_potAt 0 = .ok (.iload_n 1, 1) := by decide +kernel
theorem dX5_potAt_1 : decode cX5_potAt 1 = .ok (.ifCond .lt 20, 3) := by decide +kernel
theorem dX5_potAt_4 : decode cX5_potAt 4 = .ok (.iload_n 1, 1) := by decide +kernel
theorem dX5_potAt_5 : decode cX5_potAt 5 = .ok (.aload_n 0, 1) := by decide +kernel
theorem dX5_potAt_6 : decode cX5_potAt 6 = .ok (.getfield 27, 3) := by decide +kernel
theorem dX5_potAt_9 : decode cX5_potAt 9 = .ok (.if_icmp .ge 12, 3) := by decide +kernel
theorem dX5_potAt_12 : decode cX5_potAt 12 = .ok (.aload_n 0, 1) := by decide +kernel
theorem dX5_potAt_13 : decode cX5_potAt 13 = .ok (.getfield 23, 3) := by decide +kernel
theorem dX5_potAt_16 : decode cX5_potAt 16 = .ok (.iload_n 1, 1) := by decide +kernel
theorem dX5_potAt_17 : decode cX5_potAt 17 = .ok (.aaload, 1) := by decide +kernel
theorem dX5_potAt_18 : decode cX5_potAt 18 = .ok (.goto 4, 3) := by decide +kernel
theorem dX5_potAt_21 : decode cX5_potAt 21 = .ok (.aconst_null, 1) := by decide +kernel
theorem dX5_potAt_22 : decode cX5_potAt 22 = .ok (.areturn, 1) := by decide +kernel
theorem dX5_addPot_0 : decode cX5_addPot 0 = .ok (.aload_n 0, 1) := by decide +kernel
theorem dX5_addPot_1 : decode cX5_addPot 1 = .ok (.getfield 27, 3) := by decide +kernel
theorem dX5_addPot_4 : decode cX5_addPot 4 = .ok (.bipush 6, 2) := by decide +kernel
theorem dX5_addPot_6 : decode cX5_addPot 6 = .ok (.if_icmp .lt 6, 3) := by decide +kernel
theorem dX5_addPot_9 : decode cX5_addPot 9 = .ok (.bipush (-4), 2) := by decide +kernel
theorem dX5_addPot_11 : decode cX5_addPot 11 = .ok (.ireturn, 1) := by decide +kernel
theorem dX5_addPot_12 : decode cX5_addPot 12 = .ok (.aload_n 0, 1) := by decide +kernel
theorem dX5_addPot_13 : decode cX5_addPot 13 = .ok (.getfield 27, 3) := by decide +kernel
theorem dX5_addPot_16 : decode cX5_addPot 16 = .ok (.istore 4, 2) := by decide +kernel
theorem dX5_addPot_18 : decode cX5_addPot 18 = .ok (.aload_n 0, 1) := by decide +kernel
theorem dX5_addPot_19 : decode cX5_addPot 19 = .ok (.getfield 23, 3) := by decide +kernel
theorem dX5_addPot_22 : decode cX5_addPot 22 = .ok (.iload 4, 2) := by decide +kernel
theorem dX5_addPot_24 : decode cX5_addPot 24 = .ok (.aaload, 1) := by decide +kernel
theorem dX5_addPot_25 : decode cX5_addPot 25 = .ok (.iload 4, 2) := by decide +kernel
theorem dX5_addPot_27 : decode cX5_addPot 27 = .ok (.iload_n 1, 1) := by decide +kernel
theorem dX5_addPot_28 : decode cX5_addPot 28 = .ok (.iload_n 2, 1) := by decide +kernel
theorem dX5_addPot_29 : decode cX5_addPot 29 = .ok (.iload_n 3, 1) := by decide +kernel
theorem dX5_addPot_30 : decode cX5_addPot 30 = .ok (.invokevirtual 46, 3) := by decide +kernel
theorem dX5_addPot_33 : decode cX5_addPot 33 = .ok (.aload_n 0, 1) := by decide +kernel
theorem dX5_addPot_34 : decode cX5_addPot 34 = .ok (.dup, 1) := by decide +kernel
theorem dX5_addPot_35 : decode cX5_addPot 35 = .ok (.getfield 27, 3) := by decide +kernel
theorem dX5_addPot_38 : decode cX5_addPot 38 = .ok (.iconst 1, 1) := by decide +kernel
theorem dX5_addPot_39 : decode cX5_addPot 39 = .ok (.iadd, 1) := by decide +kernel
theorem dX5_addPot_40 : decode cX5_addPot 40 = .ok (.putfield 27, 3) := by decide +kernel
theorem dX5_addPot_43 : decode cX5_addPot 43 = .ok (.iload 4, 2) := by decide +kernel
theorem dX5_addPot_45 : decode cX5_addPot 45 = .ok (.ireturn, 1) := by decide +kernel
theorem dX5_copyPotsFrom_0 : decode cX5_copyPotsFrom 0 = .ok (.aload_n 0, 1) := by decide +kernel
theorem dX5_copyPotsFrom_1 : decode cX5_copyPotsFrom 1 = .ok (.aload_n 1, 1) := by decide +kernel
theorem dX5_copyPotsFrom_2 : decode cX5_copyPotsFrom 2 = .ok (.getfield 27, 3) := by decide +kernel
theorem dX5_copyPotsFrom_5 : decode cX5_copyPotsFrom 5 = .ok (.putfield 27, 3) := by decide +kernel
theorem dX5_copyPotsFrom_8 : decode cX5_copyPotsFrom 8 = .ok (.iconst 0, 1) := by decide +kernel
theorem dX5_copyPotsFrom_9 : decode cX5_copyPotsFrom 9 = .ok (.istore_n 2, 1) := by decide +kernel
theorem dX5_copyPotsFrom_10 : decode cX5_copyPotsFrom 10 = .ok (.iload_n 2, 1) := by decide +kernel
theorem dX5_copyPotsFrom_11 : decode cX5_copyPotsFrom 11 = .ok (.aload_n 0, 1) := by decide +kernel
theorem dX5_copyPotsFrom_12 : decode cX5_copyPotsFrom 12 = .ok (.getfield 27, 3) := by decide +kernel
theorem dX5_copyPotsFrom_15 : decode cX5_copyPotsFrom 15 = .ok (.if_icmp .ge 24, 3) := by decide +kernel
theorem dX5_copyPotsFrom_18 : decode cX5_copyPotsFrom 18 = .ok (.aload_n 0, 1) := by decide +kernel
theorem dX5_copyPotsFrom_19 : decode cX5_copyPotsFrom 19 = .ok (.getfield 23, 3) := by decide +kernel
theorem dX5_copyPotsFrom_22 : decode cX5_copyPotsFrom 22 = .ok (.iload_n 2, 1) := by decide +kernel
theorem dX5_copyPotsFrom_23 : decode cX5_copyPotsFrom 23 = .ok (.aaload, 1) := by decide +kernel
theorem dX5_copyPotsFrom_24 : decode cX5_copyPotsFrom 24 = .ok (.aload_n 1, 1) := by decide +kernel
theorem dX5_copyPotsFrom_25 : decode cX5_copyPotsFrom 25 = .ok (.getfield 23, 3) := by decide +kernel
theorem dX5_copyPotsFrom_28 : decode cX5_copyPotsFrom 28 = .ok (.iload_n 2, 1) := by decide +kernel
theorem dX5_copyPotsFrom_29 : decode cX5_copyPotsFrom 29 = .ok (.aaload, 1) := by decide +kernel
theorem dX5_copyPotsFrom_30 : decode cX5_copyPotsFrom 30 = .ok (.invokevirtual 50, 3) := by decide +kernel
theorem dX5_copyPotsFrom_33 : decode cX5_copyPotsFrom 33 = .ok (.iinc 2 1, 3) := by decide +kernel
theorem dX5_copyPotsFrom_36 : decode cX5_copyPotsFrom 36 = .ok (.goto (-26), 3) := by decide +kernel
theorem dX5_copyPotsFrom_39 : decode cX5_copyPotsFrom 39 = .ok (.return_, 1) := by decide +kernel
theorem dX5_copyFrom_0 : decode cX5_copyFrom 0 = .ok (.aload_n 0, 1) := by decide +kernel
theorem dX5_copyFrom_1 : decode cX5_copyFrom 1 = .ok (.aload_n 1, 1) := by decide +kernel
theorem dX5_copyFrom_2 : decode cX5_copyFrom 2 = .ok (.getfield 9, 3) := by decide +kernel
theorem dX5_copyFrom_5 : decode cX5_copyFrom 5 = .ok (.putfield 9, 3) := by decide +kernel
theorem dX5_copyFrom_8 : decode cX5_copyFrom 8 = .ok (.aload_n 0, 1) := by decide +kernel
theorem dX5_copyFrom_9 : decode cX5_copyFrom 9 = .ok (.aload_n 1, 1) := by decide +kernel
theorem dX5_copyFrom_10 : decode cX5_copyFrom 10 = .ok (.getfield 15, 3) := by decide +kernel
theorem dX5_copyFrom_13 : decode cX5_copyFrom 13 = .ok (.putfield 15, 3) := by decide +kernel
theorem dX5_copyFrom_16 : decode cX5_copyFrom 16 = .ok (.aload_n 0, 1) := by decide +kernel
theorem dX5_copyFrom_17 : decode cX5_copyFrom 17 = .ok (.aload_n 1, 1) := by decide +kernel
theorem dX5_copyFrom_18 : decode cX5_copyFrom 18 = .ok (.getfield 18, 3) := by decide +kernel
theorem dX5_copyFrom_21 : decode cX5_copyFrom 21 = .ok (.putfield 18, 3) := by decide +kernel
theorem dX5_copyFrom_24 : decode cX5_copyFrom 24 = .ok (.aload_n 0, 1) := by decide +kernel
theorem dX5_copyFrom_25 : decode cX5_copyFrom 25 = .ok (.aload_n 1, 1) := by decide +kernel
theorem dX5_copyFrom_26 : decode cX5_copyFrom 26 = .ok (.invokevirtual 54, 3) := by decide +kernel
theorem dX5_copyFrom_29 : decode cX5_copyFrom 29 = .ok (.aload_n 0, 1) := by decide +kernel
theorem dX5_copyFrom_30 : decode cX5_copyFrom 30 = .ok (.getfield 35, 3) := by decide +kernel
theorem dX5_copyFrom_33 : decode cX5_copyFrom 33 = .ok (.aload_n 1, 1) := by decide +kernel
theorem dX5_copyFrom_34 : decode cX5_copyFrom 34 = .ok (.getfield 35, 3) := by decide +kernel
theorem dX5_copyFrom_37 : decode cX5_copyFrom 37 = .ok (.invokevirtual 58, 3) := by decide +kernel
theorem dX5_copyFrom_40 : decode cX5_copyFrom 40 = .ok (.aload_n 0, 1) := by decide +kernel
theorem dX5_copyFrom_41 : decode cX5_copyFrom 41 = .ok (.getfield 39, 3) := by decide +kernel
theorem dX5_copyFrom_44 : decode cX5_copyFrom 44 = .ok (.aload_n 1, 1) := by decide +kernel
theorem dX5_copyFrom_45 : decode cX5_copyFrom 45 = .ok (.getfield 39, 3) := by decide +kernel
theorem dX5_copyFrom_48 : decode cX5_copyFrom 48 = .ok (.invokevirtual 58, 3) := by decide +kernel
theorem dX5_copyFrom_51 : decode cX5_copyFrom 51 = .ok (.aload_n 0, 1) := by decide +kernel
theorem dX5_copyFrom_52 : decode cX5_copyFrom 52 = .ok (.getfield 42, 3) := by decide +kernel
theorem dX5_copyFrom_55 : decode cX5_copyFrom 55 = .ok (.aload_n 1, 1) := by decide +kernel
theorem dX5_copyFrom_56 : decode cX5_copyFrom 56 = .ok (.getfield 42, 3) := by decide +kernel
theorem dX5_copyFrom_59 : decode cX5_copyFrom 59 = .ok (.invokevirtual 58, 3) := by decide +kernel
theorem dX5_copyFrom_62 : decode cX5_copyFrom 62 = .ok (.return_, 1) := by decide +kernel
theorem dX5_ripenAll_0 : decode cX5_ripenAll 0 = .ok (.iconst 0, 1) := by decide +kernel
theorem dX5_ripenAll_1 : decode cX5_ripenAll 1 = .ok (.istore_n 3, 1) := by decide +kernel
theorem dX5_ripenAll_2 : decode cX5_ripenAll 2 = .ok (.iload_n 3, 1) := by decide +kernel
theorem dX5_ripenAll_3 : decode cX5_ripenAll 3 = .ok (.aload_n 0, 1) := by decide +kernel
theorem dX5_ripenAll_4 : decode cX5_ripenAll 4 = .ok (.getfield 27, 3) := by decide +kernel
theorem dX5_ripenAll_7 : decode cX5_ripenAll 7 = .ok (.if_icmp .ge 34, 3) := by decide +kernel
theorem dX5_ripenAll_10 : decode cX5_ripenAll 10 = .ok (.iconst 0, 1) := by decide +kernel
theorem dX5_ripenAll_11 : decode cX5_ripenAll 11 = .ok (.istore 4, 2) := by decide +kernel
theorem dX5_ripenAll_13 : decode cX5_ripenAll 13 = .ok (.iload 4, 2) := by decide +kernel
theorem dX5_ripenAll_15 : decode cX5_ripenAll 15 = .ok (.iload_n 1, 1) := by decide +kernel
theorem dX5_ripenAll_16 : decode cX5_ripenAll 16 = .ok (.if_icmp .ge 19, 3) := by decide +kernel
theorem dX5_ripenAll_19 : decode cX5_ripenAll 19 = .ok (.aload_n 0, 1) := by decide +kernel
theorem dX5_ripenAll_20 : decode cX5_ripenAll 20 = .ok (.getfield 23, 3) := by decide +kernel
theorem dX5_ripenAll_23 : decode cX5_ripenAll 23 = .ok (.iload_n 3, 1) := by decide +kernel
theorem dX5_ripenAll_24 : decode cX5_ripenAll 24 = .ok (.aaload, 1) := by decide +kernel
theorem dX5_ripenAll_25 : decode cX5_ripenAll 25 = .ok (.iload_n 2, 1) := by decide +kernel
theorem dX5_ripenAll_26 : decode cX5_ripenAll 26 = .ok (.invokevirtual 61, 3) := by decide +kernel
theorem dX5_ripenAll_29 : decode cX5_ripenAll 29 = .ok (.iinc 4 1, 3) := by decide +kernel
theorem dX5_ripenAll_32 : decode cX5_ripenAll 32 = .ok (.goto (-19), 3) := by decide +kernel
theorem dX5_ripenAll_35 : decode cX5_ripenAll 35 = .ok (.iinc 3 1, 3) := by decide +kernel
theorem dX5_ripenAll_38 : decode cX5_ripenAll 38 = .ok (.goto (-36), 3) := by decide +kernel
theorem dX5_ripenAll_41 : decode cX5_ripenAll 41 = .ok (.return_, 1) := by decide +kernel
theorem dX5_sugarOfAll_0 : decode cX5_sugarOfAll 0 = .ok (.iconst 0, 1) := by decide +kernel
theorem dX5_sugarOfAll_1 : decode cX5_sugarOfAll 1 = .ok (.istore_n 1, 1) := by decide +kernel
theorem dX5_sugarOfAll_2 : decode cX5_sugarOfAll 2 = .ok (.iconst 0, 1) := by decide +kernel
theorem dX5_sugarOfAll_3 : decode cX5_sugarOfAll 3 = .ok (.istore_n 2, 1) := by decide +kernel
theorem dX5_sugarOfAll_4 : decode cX5_sugarOfAll 4 = .ok (.iload_n 2, 1) := by decide +kernel
theorem dX5_sugarOfAll_5 : decode cX5_sugarOfAll 5 = .ok (.aload_n 0, 1) := by decide +kernel
theorem dX5_sugarOfAll_6 : decode cX5_sugarOfAll 6 = .ok (.getfield 27, 3) := by decide +kernel
theorem dX5_sugarOfAll_9 : decode cX5_sugarOfAll 9 = .ok (.if_icmp .ge 21, 3) := by decide +kernel
theorem dX5_sugarOfAll_12 : decode cX5_sugarOfAll 12 = .ok (.iload_n 1, 1) := by decide +kernel
theorem dX5_sugarOfAll_13 : decode cX5_sugarOfAll 13 = .ok (.aload_n 0, 1) := by decide +kernel
theorem dX5_sugarOfAll_14 : decode cX5_sugarOfAll 14 = .ok (.getfield 23, 3) := by decide +kernel
theorem dX5_sugarOfAll_17 : decode cX5_sugarOfAll 17 = .ok (.iload_n 2, 1) := by decide +kernel
theorem dX5_sugarOfAll_18 : decode cX5_sugarOfAll 18 = .ok (.aaload, 1) := by decide +kernel
theorem dX5_sugarOfAll_19 : decode cX5_sugarOfAll 19 = .ok (.getfield 64, 3) := by decide +kernel
theorem dX5_sugarOfAll_22 : decode cX5_sugarOfAll 22 = .ok (.iadd, 1) := by decide +kernel
theorem dX5_sugarOfAll_23 : decode cX5_sugarOfAll 23 = .ok (.istore_n 1, 1) := by decide +kernel
theorem dX5_sugarOfAll_24 : decode cX5_sugarOfAll 24 = .ok (.iinc 2 1, 3) := by decide +kernel
theorem dX5_sugarOfAll_27 : decode cX5_sugarOfAll 27 = .ok (.goto (-23), 3) := by decide +kernel
theorem dX5_sugarOfAll_30 : decode cX5_sugarOfAll 30 = .ok (.iload_n 1, 1) := by decide +kernel
theorem dX5_sugarOfAll_31 : decode cX5_sugarOfAll 31 = .ok (.ireturn, 1) := by decide +kernel
theorem dX5_openedOfAll_0 : decode cX5_openedOfAll 0 = .ok (.iconst 0, 1) := by decide +kernel
theorem dX5_openedOfAll_1 : decode cX5_openedOfAll 1 = .ok (.istore_n 1, 1) := by decide +kernel
theorem dX5_openedOfAll_2 : decode cX5_openedOfAll 2 = .ok (.iconst 0, 1) := by decide +kernel
theorem dX5_openedOfAll_3 : decode cX5_openedOfAll 3 = .ok (.istore_n 2, 1) := by decide +kernel
theorem dX5_openedOfAll_4 : decode cX5_openedOfAll 4 = .ok (.iload_n 2, 1) := by decide +kernel
theorem dX5_openedOfAll_5 : decode cX5_openedOfAll 5 = .ok (.aload_n 0, 1) := by decide +kernel
theorem dX5_openedOfAll_6 : decode cX5_openedOfAll 6 = .ok (.getfield 27, 3) := by decide +kernel
theorem dX5_openedOfAll_9 : decode cX5_openedOfAll 9 = .ok (.if_icmp .ge 21, 3) := by decide +kernel
theorem dX5_openedOfAll_12 : decode cX5_openedOfAll 12 = .ok (.iload_n 1, 1) := by decide +kernel
theorem dX5_openedOfAll_13 : decode cX5_openedOfAll 13 = .ok (.aload_n 0, 1) := by decide +kernel
theorem dX5_openedOfAll_14 : decode cX5_openedOfAll 14 = .ok (.getfield 23, 3) := by decide +kernel
theorem dX5_openedOfAll_17 : decode cX5_openedOfAll 17 = .ok (.iload_n 2, 1) := by decide +kernel
theorem dX5_openedOfAll_18 : decode cX5_openedOfAll 18 = .ok (.aaload, 1) := by decide +kernel
theorem dX5_openedOfAll_19 : decode cX5_openedOfAll 19 = .ok (.getfield 67, 3) := by decide +kernel
theorem dX5_openedOfAll_22 : decode cX5_openedOfAll 22 = .ok (.iadd, 1) := by decide +kernel
theorem dX5_openedOfAll_23 : decode cX5_openedOfAll 23 = .ok (.istore_n 1, 1) := by decide +kernel
theorem dX5_openedOfAll_24 : decode cX5_openedOfAll 24 = .ok (.iinc 2 1, 3) := by decide +kernel
theorem dX5_openedOfAll_27 : decode cX5_openedOfAll 27 = .ok (.goto (-23), 3) := by decide +kernel
theorem dX5_openedOfAll_30 : decode cX5_openedOfAll 30 = .ok (.iload_n 1, 1) := by decide +kernel
theorem dX5_openedOfAll_31 : decode cX5_openedOfAll 31 = .ok (.ireturn, 1) := by decide +kernel
theorem dX6_init_0 : decode cX6_init 0 = .ok (.aload_n 0, 1) := by decide +kernel
theorem dX6_init_1 : decode cX6_init 1 = .ok (.invokespecial 1, 3) := by decide +kernel
theorem dX6_init_4 : decode cX6_init 4 = .ok (.aload_n 0, 1) := by decide +kernel
theorem dX6_init_5 : decode cX6_init 5 = .ok (.bipush 60, 2) := by decide +kernel
theorem dX6_init_7 : decode cX6_init 7 = .ok (.newarray .long, 2) := by decide +kernel
theorem dX6_init_9 : decode cX6_init 9 = .ok (.putfield 9, 3) := by decide +kernel
theorem dX6_init_12 : decode cX6_init 12 = .ok (.aload_n 0, 1) := by decide +kernel
theorem dX6_init_13 : decode cX6_init 13 = .ok (.iconst (-1), 1) := by decide +kernel
theorem dX6_init_14 : decode cX6_init 14 = .ok (.putfield 13, 3) := by decide +kernel
theorem dX6_init_17 : decode cX6_init 17 = .ok (.aload_n 0, 1) := by decide +kernel
theorem dX6_init_18 : decode cX6_init 18 = .ok (.iconst 0, 1) := by decide +kernel
theorem dX6_init_19 : decode cX6_init 19 = .ok (.putfield 17, 3) := by decide +kernel
theorem dX6_init_22 : decode cX6_init 22 = .ok (.return_, 1) := by decide +kernel
theorem dX6_become_0 : decode cX6_become 0 = .ok (.aload_n 0, 1) := by decide +kernel
theorem dX6_become_1 : decode cX6_become 1 = .ok (.iload_n 1, 1) := by decide +kernel
theorem dX6_become_2 : decode cX6_become 2 = .ok (.putfield 13, 3) := by decide +kernel
theorem dX6_become_5 : decode cX6_become 5 = .ok (.aload_n 0, 1) := by decide +kernel
theorem dX6_become_6 : decode cX6_become 6 = .ok (.iconst 0, 1) := by decide +kernel
theorem dX6_become_7 : decode cX6_become 7 = .ok (.iload_n 2, 1) := by decide +kernel
theorem dX6_become_8 : decode cX6_become 8 = .ok (.bipush 60, 2) := by decide +kernel
theorem dX6_become_10 : decode cX6_become 10 = .ok (.invokestatic 20, 3) := by decide +kernel
theorem dX6_become_13 : decode cX6_become 13 = .ok (.invokestatic 26, 3) := by decide +kernel
theorem dX6_become_16 : decode cX6_become 16 = .ok (.putfield 17, 3) := by decide +kernel
theorem dX6_become_19 : decode cX6_become 19 = .ok (.aload_n 0, 1) := by decide +kernel
theorem dX6_become_20 : decode cX6_become 20 = .ok (.getfield 9, 3) := by decide +kernel
theorem dX6_become_23 : decode cX6_become 23 = .ok (.lconst 0, 1) := by decide +kernel
theorem dX6_become_24 : decode cX6_become 24 = .ok (.invokestatic 29, 3) := by decide +kernel
theorem dX6_become_27 : decode cX6_become 27 = .ok (.return_, 1) := by decide +kernel
theorem dX6_has_0 : decode cX6_has 0 = .ok (.iload_n 1, 1) := by decide +kernel
theorem dX6_has_1 : decode cX6_has 1 = .ok (.ifCond .lt 15, 3) := by decide +kernel
theorem dX6_has_4 : decode cX6_has 4 = .ok (.iload_n 1, 1) := by decide +kernel
theorem dX6_has_5 : decode cX6_has 5 = .ok (.aload_n 0, 1) := by decide +kernel
theorem dX6_has_6 : decode cX6_has 6 = .ok (.getfield 17, 3) := by decide +kernel
theorem dX6_has_9 : decode cX6_has 9 = .ok (.if_icmp .ge 7, 3) := by decide +kernel
theorem dX6_has_12 : decode cX6_has 12 = .ok (.iconst 1, 1) := by decide +kernel
theorem dX6_has_13 : decode cX6_has 13 = .ok (.goto 4, 3) := by decide +kernel
theorem dX6_has_16 : decode cX6_has 16 = .ok (.iconst 0, 1) := by decide +kernel
theorem dX6_has_17 : decode cX6_has 17 = .ok (.ireturn, 1) := by decide +kernel
theorem dX6_spans_0 : decode cX6_spans 0 = .ok (.iload_n 2, 1) := by decide +kernel
theorem dX6_spans_1 : decode cX6_spans 1 = .ok (.ifCond .lt 29, 3) := by decide +kernel
theorem dX6_spans_4 : decode cX6_spans 4 = .ok (.iload_n 1, 1) := by decide +kernel
theorem dX6_spans_5 : decode cX6_spans 5 = .ok (.ifCond .lt 25, 3) := by decide +kernel
theorem dX6_spans_8 : decode cX6_spans 8 = .ok (.iload_n 2, 1) := by decide +kernel
theorem dX6_spans_9 : decode cX6_spans 9 = .ok (.aload_n 0, 1) := by decide +kernel
theorem dX6_spans_10 : decode cX6_spans 10 = .ok (.getfield 17, 3) := by decide +kernel
theorem dX6_spans_13 : decode cX6_spans 13 = .ok (.if_icmp .gt 17, 3) := by decide +kernel
theorem dX6_spans_16 : decode cX6_spans 16 = .ok (.iload_n 1, 1) := by decide +kernel
theorem dX6_spans_17 : decode cX6_spans 17 = .ok (.aload_n 0, 1) := by decide +kernel
theorem dX6_spans_18 : decode cX6_spans 18 = .ok (.getfield 17, 3) := by decide +kernel
theorem dX6_spans_21 : decode cX6_spans 21 = .ok (.iload_n 2, 1) := by decide +kernel
theorem dX6_spans_22 : decode cX6_spans 22 = .ok (.isub, 1) := by decide +kernel
theorem dX6_spans_23 : decode cX6_spans 23 = .ok (.if_icmp .gt 7, 3) := by decide +kernel
theorem dX6_spans_26 : decode cX6_spans 26 = .ok (.iconst 1, 1) := by decide +kernel
theorem dX6_spans_27 : decode cX6_spans 27 = .ok (.goto 4, 3) := by decide +kernel
theorem dX6_spans_30 : decode cX6_spans 30 = .ok (.iconst 0, 1) := by decide +kernel
theorem dX6_spans_31 : decode cX6_spans 31 = .ok (.ireturn, 1) := by decide +kernel
theorem dX6_lowest_0 : decode cX6_lowest 0 = .ok (.aload_n 0, 1) := by decide +kernel
theorem dX6_lowest_1 : decode cX6_lowest 1 = .ok (.getfield 13, 3) := by decide +kernel
theorem dX6_lowest_4 : decode cX6_lowest 4 = .ok (.tableswitch 62 0 4 #[36, 41, 46, 62, 50], 36) := by decide +kernel
theorem dX6_lowest_40 : decode cX6_lowest 40 = .ok (.lload_n 1, 1) := by decide +kernel
theorem dX6_lowest_41 : decode cX6_lowest 41 = .ok (.l2i, 1) := by decide +kernel
theorem dX6_lowest_42 : decode cX6_lowest 42 = .ok (.i2b, 1) := by decide +kernel
theorem dX6_lowest_43 : decode cX6_lowest 43 = .ok (.i2l, 1) := by decide +kernel
theorem dX6_lowest_44 : decode cX6_lowest 44 = .ok (.lreturn, 1) := by decide +kernel
theorem dX6_lowest_45 : decode cX6_lowest 45 = .ok (.lload_n 1, 1) := by decide +kernel
theorem dX6_lowest_46 : decode cX6_lowest 46 = .ok (.l2i, 1) := by decide +kernel
theorem dX6_lowest_47 : decode cX6_lowest 47 = .ok (.i2s, 1) := by decide +kernel
theorem dX6_lowest_48 : decode cX6_lowest 48 = .ok (.i2l, 1) := by decide +kernel
theorem dX6_lowest_49 : decode cX6_lowest 49 = .ok (.lreturn, 1) := by decide +kernel
theorem dX6_lowest_50 : decode cX6_lowest 50 = .ok (.lload_n 1, 1) := by decide +kernel
theorem dX6_lowest_51 : decode cX6_lowest 51 = .ok (.l2i, 1) := by decide +kernel
theorem dX6_lowest_52 : decode cX6_lowest 52 = .ok (.i2l, 1) := by decide +kernel
theorem dX6_lowest_53 : decode cX6_lowest 53 = .ok (.lreturn, 1) := by decide +kernel
theorem dX6_lowest_54 : decode cX6_lowest 54 = .ok (.lload_n 1, 1) := by decide +kernel
theorem dX6_lowest_55 : decode cX6_lowest 55 = .ok (.lconst 0, 1) := by decide +kernel
theorem dX6_lowest_56 : decode cX6_lowest 56 = .ok (.lcmp, 1) := by decide +kernel
theorem dX6_lowest_57 : decode cX6_lowest 57 = .ok (.ifCond .eq 7, 3) := by decide +kernel
theorem dX6_lowest_60 : decode cX6_lowest 60 = .ok (.lconst 1, 1) := by decide +kernel
theorem dX6_lowest_61 : decode cX6_lowest 61 = .ok (.goto 4, 3) := by decide +kernel
theorem dX6_lowest_64 : decode cX6_lowest 64 = .ok (.lconst 0, 1) := by decide +kernel
theorem dX6_lowest_65 : decode cX6_lowest 65 = .ok (.lreturn, 1) := by decide +kernel
theorem dX6_lowest_66 : decode cX6_lowest 66 = .ok (.lload_n 1, 1) := by decide +kernel
theorem dX6_lowest_67 : decode cX6_lowest 67 = .ok (.lreturn, 1) := by decide +kernel
theorem dX7_init_0 : decode cX7_init 0 = .ok (.aload_n 0, 1) := by decide +kernel
theorem dX7_init_1 : decode cX7_init 1 = .ok (.invokespecial 3, 3) := by decide +kernel
theorem dX7_init_4 : decode cX7_init 4 = .ok (.aload_n 0, 1) := by decide +kernel
theorem dX7_init_5 : decode cX7_init 5 = .ok (.bipush 100, 2) := by decide +kernel
theorem dX7_init_7 : decode cX7_init 7 = .ok (.newarray .byte, 2) := by decide +kernel
theorem dX7_init_9 : decode cX7_init 9 = .ok (.putfield 11, 3) := by decide +kernel
theorem dX7_init_12 : decode cX7_init 12 = .ok (.aload_n 0, 1) := by decide +kernel
theorem dX7_init_13 : decode cX7_init 13 = .ok (.iconst 0, 1) := by decide +kernel
theorem dX7_init_14 : decode cX7_init 14 = .ok (.putfield 15, 3) := by decide +kernel
theorem dX7_init_17 : decode cX7_init 17 = .ok (.aload_n 0, 1) := by decide +kernel
theorem dX7_init_18 : decode cX7_init 18 = .ok (.iconst 0, 1) := by decide +kernel
theorem dX7_init_19 : decode cX7_init 19 = .ok (.putfield 19, 3) := by decide +kernel
theorem dX7_init_22 : decode cX7_init 22 = .ok (.aload_n 0, 1) := by decide +kernel
theorem dX7_init_23 : decode cX7_init 23 = .ok (.iconst 0, 1) := by decide +kernel
theorem dX7_init_24 : decode cX7_init 24 = .ok (.putfield 22, 3) := by decide +kernel
theorem dX7_init_27 : decode cX7_init 27 = .ok (.return_, 1) := by decide +kernel
theorem dX7_append_0 : decode cX7_append 0 = .ok (.aload_n 0, 1) := by decide +kernel
theorem dX7_append_1 : decode cX7_append 1 = .ok (.getfield 15, 3) := by decide +kernel
theorem dX7_append_4 : decode cX7_append 4 = .ok (.bipush 100, 2) := by decide +kernel
theorem dX7_append_6 : decode cX7_append 6 = .ok (.if_icmp .lt 6, 3) := by decide +kernel
theorem dX7_append_9 : decode cX7_append 9 = .ok (.bipush (-4), 2) := by decide +kernel
theorem dX7_append_11 : decode cX7_append 11 = .ok (.ireturn, 1) := by decide +kernel
theorem dX7_append_12 : decode cX7_append 12 = .ok (.aload_n 0, 1) := by decide +kernel
theorem dX7_append_13 : decode cX7_append 13 = .ok (.getfield 11, 3) := by decide +kernel
theorem dX7_append_16 : decode cX7_append 16 = .ok (.aload_n 0, 1) := by decide +kernel
theorem dX7_append_17 : decode cX7_append 17 = .ok (.getfield 15, 3) := by decide +kernel
theorem dX7_append_20 : decode cX7_append 20 = .ok (.iload_n 1, 1) := by decide +kernel
theorem dX7_append_21 : decode cX7_append 21 = .ok (.i2b, 1) := by decide +kernel
theorem dX7_append_22 : decode cX7_append 22 = .ok (.bastore, 1) := by decide +kernel
theorem dX7_append_23 : decode cX7_append 23 = .ok (.aload_n 0, 1) := by decide +kernel
theorem dX7_append_24 : decode cX7_append 24 = .ok (.dup, 1) := by decide +kernel
theorem dX7_append_25 : decode cX7_append 25 = .ok (.getfield 15, 3) := by decide +kernel
theorem dX7_append_28 : decode cX7_append 28 = .ok (.iconst 1, 1) := by decide +kernel
theorem dX7_append_29 : decode cX7_append 29 = .ok (.iadd, 1) := by decide +kernel
theorem dX7_append_30 : decode cX7_append 30 = .ok (.putfield 15, 3) := by decide +kernel
theorem dX7_append_33 : decode cX7_append 33 = .ok (.aload_n 0, 1) := by decide +kernel
theorem dX7_append_34 : decode cX7_append 34 = .ok (.getfield 15, 3) := by decide +kernel
theorem dX7_append_37 : decode cX7_append 37 = .ok (.ireturn, 1) := by decide +kernel
theorem dX7_readInto_0 : decode cX7_readInto 0 = .ok (.aload_n 1, 1) := by decide +kernel
theorem dX7_readInto_1 : decode cX7_readInto 1 = .ok (.invokevirtual 26, 3) := by decide +kernel
theorem dX7_readInto_4 : decode cX7_readInto 4 = .ok (.aload_n 0, 1) := by decide +kernel
theorem dX7_readInto_5 : decode cX7_readInto 5 = .ok (.iconst 0, 1) := by decide +kernel
theorem dX7_readInto_6 : decode cX7_readInto 6 = .ok (.putfield 19, 3) := by decide +kernel
theorem dX7_readInto_9 : decode cX7_readInto 9 = .ok (.aload_n 0, 1) := by decide +kernel
theorem dX7_readInto_10 : decode cX7_readInto 10 = .ok (.iconst 0, 1) := by decide +kernel
theorem dX7_readInto_11 : decode cX7_readInto 11 = .ok (.putfield 22, 3) := by decide +kernel
theorem dX7_readInto_14 : decode cX7_readInto 14 = .ok (.aload_n 0, 1) := by decide +kernel
theorem dX7_readInto_15 : decode cX7_readInto 15 = .ok (.aload_n 1, 1) := by decide +kernel
theorem dX7_readInto_16 : decode cX7_readInto 16 = .ok (.invokevirtual 31, 3) := by decide +kernel
theorem dX7_readInto_19 : decode cX7_readInto 19 = .ok (.iconst 1, 1) := by decide +kernel
theorem dX7_readInto_20 : decode cX7_readInto 20 = .ok (.istore_n 2, 1) := by decide +kernel
theorem dX7_readInto_21 : decode cX7_readInto 21 = .ok (.iload_n 2, 1) := by decide +kernel
theorem dX7_readInto_22 : decode cX7_readInto 22 = .ok (.bipush 10, 2) := by decide +kernel
theorem dX7_readInto_24 : decode cX7_readInto 24 = .ok (.if_icmp .ge 33, 3) := by decide +kernel
theorem dX7_readInto_27 : decode cX7_readInto 27 = .ok (.aload_n 0, 1) := by decide +kernel
theorem dX7_readInto_28 : decode cX7_readInto 28 = .ok (.invokevirtual 35, 3) := by decide +kernel
theorem dX7_readInto_31 : decode cX7_readInto 31 = .ok (.bipush 59, 2) := by decide +kernel
theorem dX7_readInto_33 : decode cX7_readInto 33 = .ok (.if_icmp .ne 24, 3) := by decide +kernel
theorem dX7_readInto_36 : decode cX7_readInto 36 = .ok (.aload_n 0, 1) := by decide +kernel
theorem dX7_readInto_37 : decode cX7_readInto 37 = .ok (.dup, 1) := by decide +kernel
theorem dX7_readInto_38 : decode cX7_readInto 38 = .ok (.getfield 19, 3) := by decide +kernel
theorem dX7_readInto_41 : decode cX7_readInto 41 = .ok (.iconst 1, 1) := by decide +kernel
theorem dX7_readInto_42 : decode cX7_readInto 42 = .ok (.iadd, 1) := by decide +kernel
theorem dX7_readInto_43 : decode cX7_readInto 43 = .ok (.putfield 19, 3) := by decide +kernel
theorem dX7_readInto_46 : decode cX7_readInto 46 = .ok (.aload_n 0, 1) := by decide +kernel
theorem dX7_readInto_47 : decode cX7_readInto 47 = .ok (.aload_n 1, 1) := by decide +kernel
theorem dX7_readInto_48 : decode cX7_readInto 48 = .ok (.invokevirtual 31, 3) := by decide +kernel
theorem dX7_readInto_51 : decode cX7_readInto 51 = .ok (.iinc 2 1, 3) := by decide +kernel
theorem dX7_readInto_54 : decode cX7_readInto 54 = .ok (.goto (-33), 3) := by decide +kernel
theorem dX7_readInto_57 : decode cX7_readInto 57 = .ok (.aload_n 0, 1) := by decide +kernel
theorem dX7_readInto_58 : decode cX7_readInto 58 = .ok (.getfield 22, 3) := by decide +kernel
theorem dX7_readInto_61 : decode cX7_readInto 61 = .ok (.ifCond .ne 18, 3) := by decide +kernel
theorem dX7_readInto_64 : decode cX7_readInto 64 = .ok (.aload_n 0, 1) := by decide +kernel
theorem dX7_readInto_65 : decode cX7_readInto 65 = .ok (.getfield 19, 3) := by decide +kernel
theorem dX7_readInto_68 : decode cX7_readInto 68 = .ok (.aload_n 0, 1) := by decide +kernel
theorem dX7_readInto_69 : decode cX7_readInto 69 = .ok (.getfield 15, 3) := by decide +kernel
theorem dX7_readInto_72 : decode cX7_readInto 72 = .ok (.if_icmp .ne 7, 3) := by decide +kernel
theorem dX7_readInto_75 : decode cX7_readInto 75 = .ok (.iconst 1, 1) := by decide +kernel
theorem dX7_readInto_76 : decode cX7_readInto 76 = .ok (.goto 4, 3) := by decide +kernel
theorem dX7_readInto_79 : decode cX7_readInto 79 = .ok (.iconst 0, 1) := by decide +kernel
theorem dX7_readInto_80 : decode cX7_readInto 80 = .ok (.istore_n 2, 1) := by decide +kernel
theorem dX7_readInto_81 : decode cX7_readInto 81 = .ok (.aload_n 0, 1) := by decide +kernel
theorem dX7_readInto_82 : decode cX7_readInto 82 = .ok (.iconst 0, 1) := by decide +kernel
theorem dX7_readInto_83 : decode cX7_readInto 83 = .ok (.putfield 15, 3) := by decide +kernel
theorem dX7_readInto_86 : decode cX7_readInto 86 = .ok (.iload_n 2, 1) := by decide +kernel
theorem dX7_readInto_87 : decode cX7_readInto 87 = .ok (.ifCond .eq 7, 3) := by decide +kernel
theorem dX7_readInto_90 : decode cX7_readInto 90 = .ok (.iconst (-1), 1) := by decide +kernel
theorem dX7_readInto_91 : decode cX7_readInto 91 = .ok (.goto 7, 3) := by decide +kernel
theorem dX7_readInto_94 : decode cX7_readInto 94 = .ok (.aload_n 0, 1) := by decide +kernel
theorem dX7_readInto_95 : decode cX7_readInto 95 = .ok (.getfield 19, 3) := by decide +kernel
theorem dX7_readInto_98 : decode cX7_readInto 98 = .ok (.ireturn, 1) := by decide +kernel
theorem dX7_next_0 : decode cX7_next 0 = .ok (.aload_n 0, 1) := by decide +kernel
theorem dX7_next_1 : decode cX7_next 1 = .ok (.getfield 22, 3) := by decide +kernel
theorem dX7_next_4 : decode cX7_next 4 = .ok (.ifCond .ne 14, 3) := by decide +kernel
theorem dX7_next_7 : decode cX7_next 7 = .ok (.aload_n 0, 1) := by decide +kernel
theorem dX7_next_8 : decode cX7_next 8 = .ok (.getfield 19, 3) := by decide +kernel
theorem dX7_next_11 : decode cX7_next 11 = .ok (.aload_n 0, 1) := by decide +kernel
theorem dX7_next_12 : decode cX7_next 12 = .ok (.getfield 15, 3) := by decide +kernel
theorem dX7_next_15 : decode cX7_next 15 = .ok (.if_icmp .lt 7, 3) := by decide +kernel
theorem dX7_next_18 : decode cX7_next 18 = .ok (.iconst (-1), 1) := by decide +kernel
theorem dX7_next_19 : decode cX7_next 19 = .ok (.goto 12, 3) := by decide +kernel
theorem dX7_next_22 : decode cX7_next 22 = .ok (.aload_n 0, 1) := by decide +kernel
theorem dX7_next_23 : decode cX7_next 23 = .ok (.getfield 11, 3) := by decide +kernel
theorem dX7_next_26 : decode cX7_next 26 = .ok (.aload_n 0, 1) := by decide +kernel
theorem dX7_next_27 : decode cX7_next 27 = .ok (.getfield 19, 3) := by decide +kernel
theorem dX7_next_30 : decode cX7_next 30 = .ok (.baload, 1) := by decide +kernel
theorem dX7_next_31 : decode cX7_next 31 = .ok (.ireturn, 1) := by decide +kernel
theorem dX7_expect_0 : decode cX7_expect 0 = .ok (.aload_n 0, 1) := by decide +kernel
theorem dX7_expect_1 : decode cX7_expect 1 = .ok (.invokevirtual 35, 3) := by decide +kernel
theorem dX7_expect_4 : decode cX7_expect 4 = .ok (.iload_n 1, 1) := by decide +kernel
theorem dX7_expect_5 : decode cX7_expect 5 = .ok (.if_icmp .ne 16, 3) := by decide +kernel
theorem dX7_expect_8 : decode cX7_expect 8 = .ok (.aload_n 0, 1) := by decide +kernel
theorem dX7_expect_9 : decode cX7_expect 9 = .ok (.dup, 1) := by decide +kernel
theorem dX7_expect_10 : decode cX7_expect 10 = .ok (.getfield 19, 3) := by decide +kernel
theorem dX7_expect_13 : decode cX7_expect 13 = .ok (.iconst 1, 1) := by decide +kernel
theorem dX7_expect_14 : decode cX7_expect 14 = .ok (.iadd, 1) := by decide +kernel
theorem dX7_expect_15 : decode cX7_expect 15 = .ok (.putfield 19, 3) := by decide +kernel
theorem dX7_expect_18 : decode cX7_expect 18 = .ok (.goto 8, 3) := by decide +kernel
theorem dX7_expect_21 : decode cX7_expect 21 = .ok (.aload_n 0, 1) := by decide +kernel
theorem dX7_expect_22 : decode cX7_expect 22 = .ok (.iconst 1, 1) := by decide +kernel
theorem dX7_expect_23 : decode cX7_expect 23 = .ok (.putfield 22, 3) := by decide +kernel
theorem dX7_expect_26 : decode cX7_expect 26 = .ok (.return_, 1) := by decide +kernel
theorem dX7_expectOne_0 : decode cX7_expectOne 0 = .ok (.aload_n 0, 1) := by decide +kernel
theorem dX7_expectOne_1 : decode cX7_expectOne 1 = .ok (.invokevirtual 35, 3) := by decide +kernel
theorem dX7_expectOne_4 : decode cX7_expectOne 4 = .ok (.istore_n 2, 1) := by decide +kernel
theorem dX7_expectOne_5 : decode cX7_expectOne 5 = .ok (.iload_n 2, 1) := by decide +kernel
theorem dX7_expectOne_6 : decode cX7_expectOne 6 = .ok (.iconst (-1), 1) := by decide +kernel
theorem dX7_expectOne_7 : decode cX7_expectOne 7 = .ok (.if_icmp .ne 7, 3) := by decide +kernel
theorem dX7_expectOne_10 : decode cX7_expectOne 10 = .ok (.iconst (-1), 1) := by decide +kernel
theorem dX7_expectOne_11 : decode cX7_expectOne 11 = .ok (.goto 9, 3) := by decide +kernel
theorem dX7_expectOne_14 : decode cX7_expectOne 14 = .ok (.aload_n 1, 1) := by decide +kernel
theorem dX7_expectOne_15 : decode cX7_expectOne 15 = .ok (.iload_n 2, 1) := by decide +kernel
theorem dX7_expectOne_16 : decode cX7_expectOne 16 = .ok (.i2c, 1) := by decide +kernel
theorem dX7_expectOne_17 : decode cX7_expectOne 17 = .ok (.invokevirtual 39, 3) := by decide +kernel
theorem dX7_expectOne_20 : decode cX7_expectOne 20 = .ok (.istore_n 3, 1) := by decide +kernel
theorem dX7_expectOne_21 : decode cX7_expectOne 21 = .ok (.iload_n 3, 1) := by decide +kernel
theorem dX7_expectOne_22 : decode cX7_expectOne 22 = .ok (.ifCond .ge 10, 3) := by decide +kernel
theorem dX7_expectOne_25 : decode cX7_expectOne 25 = .ok (.aload_n 0, 1) := by decide +kernel
theorem dX7_expectOne_26 : decode cX7_expectOne 26 = .ok (.iconst 1, 1) := by decide +kernel
theorem dX7_expectOne_27 : decode cX7_expectOne 27 = .ok (.putfield 22, 3) := by decide +kernel
theorem dX7_expectOne_30 : decode cX7_expectOne 30 = .ok (.iconst 0, 1) := by decide +kernel
theorem dX7_expectOne_31 : decode cX7_expectOne 31 = .ok (.ireturn, 1) := by decide +kernel
theorem dX7_expectOne_32 : decode cX7_expectOne 32 = .ok (.aload_n 0, 1) := by decide +kernel
theorem dX7_expectOne_33 : decode cX7_expectOne 33 = .ok (.dup, 1) := by decide +kernel
theorem dX7_expectOne_34 : decode cX7_expectOne 34 = .ok (.getfield 19, 3) := by decide +kernel
theorem dX7_expectOne_37 : decode cX7_expectOne 37 = .ok (.iconst 1, 1) := by decide +kernel
theorem dX7_expectOne_38 : decode cX7_expectOne 38 = .ok (.iadd, 1) := by decide +kernel
theorem dX7_expectOne_39 : decode cX7_expectOne 39 = .ok (.putfield 19, 3) := by decide +kernel
theorem dX7_expectOne_42 : decode cX7_expectOne 42 = .ok (.iload_n 3, 1) := by decide +kernel
theorem dX7_expectOne_43 : decode cX7_expectOne 43 = .ok (.ireturn, 1) := by decide +kernel
theorem dX7_expectNumber_0 : decode cX7_expectNumber 0 = .ok (.iconst 0, 1) := by decide +kernel
theorem dX7_expectNumber_1 : decode cX7_expectNumber 1 = .ok (.istore_n 1, 1) := by decide +kernel
theorem dX7_expectNumber_2 : decode cX7_expectNumber 2 = .ok (.iconst 0, 1) := by decide +kernel
theorem dX7_expectNumber_3 : decode cX7_expectNumber 3 = .ok (.istore_n 2, 1) := by decide +kernel
theorem dX7_expectNumber_4 : decode cX7_expectNumber 4 = .ok (.aload_n 0, 1) := by decide +kernel
theorem dX7_expectNumber_5 : decode cX7_expectNumber 5 = .ok (.invokevirtual 35, 3) := by decide +kernel
theorem dX7_expectNumber_8 : decode cX7_expectNumber 8 = .ok (.istore_n 3, 1) := by decide +kernel
theorem dX7_expectNumber_9 : decode cX7_expectNumber 9 = .ok (.iload_n 2, 1) := by decide +kernel
theorem dX7_expectNumber_10 : decode cX7_expectNumber 10 = .ok (.iconst 2, 1) := by decide +kernel
theorem dX7_expectNumber_11 : decode cX7_expectNumber 11 = .ok (.if_icmp .ge 46, 3) := by decide +kernel
theorem dX7_expectNumber_14 : decode cX7_expectNumber 14 = .ok (.iload_n 3, 1) := by decide +kernel
theorem dX7_expectNumber_15 : decode cX7_expectNumber 15 = .ok (.bipush 48, 2) := by decide +kernel
theorem dX7_expectNumber_17 : decode cX7_expectNumber 17 = .ok (.if_icmp .lt 40, 3) := by decide +kernel
theorem dX7_expectNumber_20 : decode cX7_expectNumber 20 = .ok (.iload_n 3, 1) := by decide +kernel
theorem dX7_expectNumber_21 : decode cX7_expectNumber 21 = .ok (.bipush 57, 2) := by decide +kernel
theorem dX7_expectNumber_23 : decode cX7_expectNumber 23 = .ok (.if_icmp .gt 34, 3) := by decide +kernel
theorem dX7_expectNumber_26 : decode cX7_expectNumber 26 = .ok (.bipush 10, 2) := by decide +kernel
theorem dX7_expectNumber_28 : decode cX7_expectNumber 28 = .ok (.iload_n 1, 1) := by decide +kernel
theorem dX7_expectNumber_29 : decode cX7_expectNumber 29 = .ok (.imul, 1) := by decide +kernel
theorem dX7_expectNumber_30 : decode cX7_expectNumber 30 = .ok (.iload_n 3, 1) := by decide +kernel
theorem dX7_expectNumber_31 : decode cX7_expectNumber 31 = .ok (.iadd, 1) := by decide +kernel
theorem dX7_expectNumber_32 : decode cX7_expectNumber 32 = .ok (.bipush 48, 2) := by decide +kernel
theorem dX7_expectNumber_34 : decode cX7_expectNumber 34 = .ok (.isub, 1) := by decide +kernel
theorem dX7_expectNumber_35 : decode cX7_expectNumber 35 = .ok (.istore_n 1, 1) := by decide +kernel
theorem dX7_expectNumber_36 : decode cX7_expectNumber 36 = .ok (.iinc 2 1, 3) := by decide +kernel
theorem dX7_expectNumber_39 : decode cX7_expectNumber 39 = .ok (.aload_n 0, 1) := by decide +kernel
theorem dX7_expectNumber_40 : decode cX7_expectNumber 40 = .ok (.dup, 1) := by decide +kernel
theorem dX7_expectNumber_41 : decode cX7_expectNumber 41 = .ok (.getfield 19, 3) := by decide +kernel
theorem dX7_expectNumber_44 : decode cX7_expectNumber 44 = .ok (.iconst 1, 1) := by decide +kernel
theorem dX7_expectNumber_45 : decode cX7_expectNumber 45 = .ok (.iadd, 1) := by decide +kernel
theorem dX7_expectNumber_46 : decode cX7_expectNumber 46 = .ok (.putfield 19, 3) := by decide +kernel
theorem dX7_expectNumber_49 : decode cX7_expectNumber 49 = .ok (.aload_n 0, 1) := by decide +kernel
theorem dX7_expectNumber_50 : decode cX7_expectNumber 50 = .ok (.invokevirtual 35, 3) := by decide +kernel
theorem dX7_expectNumber_53 : decode cX7_expectNumber 53 = .ok (.istore_n 3, 1) := by decide +kernel
theorem dX7_expectNumber_54 : decode cX7_expectNumber 54 = .ok (.goto (-45), 3) := by decide +kernel
theorem dX7_expectNumber_57 : decode cX7_expectNumber 57 = .ok (.aload_n 0, 1) := by decide +kernel
theorem dX7_expectNumber_58 : decode cX7_expectNumber 58 = .ok (.aload_n 0, 1) := by decide +kernel
theorem dX7_expectNumber_59 : decode cX7_expectNumber 59 = .ok (.getfield 22, 3) := by decide +kernel
theorem dX7_expectNumber_62 : decode cX7_expectNumber 62 = .ok (.ifCond .ne 7, 3) := by decide +kernel
theorem dX7_expectNumber_65 : decode cX7_expectNumber 65 = .ok (.iload_n 2, 1) := by decide +kernel
theorem dX7_expectNumber_66 : decode cX7_expectNumber 66 = .ok (.ifCond .ne 7, 3) := by decide +kernel
theorem dX7_expectNumber_69 : decode cX7_expectNumber 69 = .ok (.iconst 1, 1) := by decide +kernel
theorem dX7_expectNumber_70 : decode cX7_expectNumber 70 = .ok (.goto 4, 3) := by decide +kernel
theorem dX7_expectNumber_73 : decode cX7_expectNumber 73 = .ok (.iconst 0, 1) := by decide +kernel
theorem dX7_expectNumber_74 : decode cX7_expectNumber 74 = .ok (.putfield 22, 3) := by decide +kernel
theorem dX7_expectNumber_77 : decode cX7_expectNumber 77 = .ok (.iload_n 1, 1) := by decide +kernel
theorem dX7_expectNumber_78 : decode cX7_expectNumber 78 = .ok (.ireturn, 1) := by decide +kernel
theorem dX7_clause_0 : decode cX7_clause 0 = .ok (.aload_n 0, 1) := by decide +kernel
theorem dX7_clause_1 : decode cX7_clause 1 = .ok (.invokevirtual 35, 3) := by decide +kernel
theorem dX7_clause_4 : decode cX7_clause 4 = .ok (.istore_n 2, 1) := by decide +kernel
theorem dX7_clause_5 : decode cX7_clause 5 = .ok (.iload_n 2, 1) := by decide +kernel
theorem dX7_clause_6 : decode cX7_clause 6 = .ok (.bipush 115, 2) := by decide +kernel
theorem dX7_clause_8 : decode cX7_clause 8 = .ok (.if_icmp .ne 8, 3) := by decide +kernel
theorem dX7_clause_11 : decode cX7_clause 11 = .ok (.ldc 45, 2) := by decide +kernel
theorem dX7_clause_13 : decode cX7_clause 13 = .ok (.goto 16, 3) := by decide +kernel
theorem dX7_clause_16 : decode cX7_clause 16 = .ok (.iload_n 2, 1) := by decide +kernel
theorem dX7_clause_17 : decode cX7_clause 17 = .ok (.bipush 104, 2) := by decide +kernel
theorem dX7_clause_19 : decode cX7_clause 19 = .ok (.if_icmp .ne 8, 3) := by decide +kernel
theorem dX7_clause_22 : decode cX7_clause 22 = .ok (.ldc 47, 2) := by decide +kernel
theorem dX7_clause_24 : decode cX7_clause 24 = .ok (.goto 5, 3) := by decide +kernel
theorem dX7_clause_27 : decode cX7_clause 27 = .ok (.ldc 49, 2) := by decide +kernel
theorem dX7_clause_29 : decode cX7_clause 29 = .ok (.astore_n 3, 1) := by decide +kernel
theorem dX7_clause_30 : decode cX7_clause 30 = .ok (.iconst 0, 1) := by decide +kernel
theorem dX7_clause_31 : decode cX7_clause 31 = .ok (.istore 4, 2) := by decide +kernel
theorem dX7_clause_33 : decode cX7_clause 33 = .ok (.iload 4, 2) := by decide +kernel
theorem dX7_clause_35 : decode cX7_clause 35 = .ok (.aload_n 3, 1) := by decide +kernel
theorem dX7_clause_36 : decode cX7_clause 36 = .ok (.invokevirtual 51, 3) := by decide +kernel
theorem dX7_clause_39 : decode cX7_clause 39 = .ok (.if_icmp .ge 19, 3) := by decide +kernel
theorem dX7_clause_42 : decode cX7_clause 42 = .ok (.aload_n 0, 1) := by decide +kernel
theorem dX7_clause_43 : decode cX7_clause 43 = .ok (.aload_n 3, 1) := by decide +kernel
theorem dX7_clause_44 : decode cX7_clause 44 = .ok (.iload 4, 2) := by decide +kernel
theorem dX7_clause_46 : decode cX7_clause 46 = .ok (.invokevirtual 53, 3) := by decide +kernel
theorem dX7_clause_49 : decode cX7_clause 49 = .ok (.invokevirtual 57, 3) := by decide +kernel
theorem dX7_clause_52 : decode cX7_clause 52 = .ok (.iinc 4 1, 3) := by decide +kernel
theorem dX7_clause_55 : decode cX7_clause 55 = .ok (.goto (-22), 3) := by decide +kernel
theorem dX7_clause_58 : decode cX7_clause 58 = .ok (.aload_n 0, 1) := by decide +kernel
theorem dX7_clause_59 : decode cX7_clause 59 = .ok (.bipush 32, 2) := by decide +kernel
theorem dX7_clause_61 : decode cX7_clause 61 = .ok (.invokevirtual 57, 3) := by decide +kernel
theorem dX7_clause_64 : decode cX7_clause 64 = .ok (.aload_n 0, 1) := by decide +kernel
theorem dX7_clause_65 : decode cX7_clause 65 = .ok (.invokevirtual 61, 3) := by decide +kernel
theorem dX7_clause_68 : decode cX7_clause 68 = .ok (.istore 4, 2) := by decide +kernel
theorem dX7_clause_70 : decode cX7_clause 70 = .ok (.iload_n 2, 1) := by decide +kernel
theorem dX7_clause_71 : decode cX7_clause 71 = .ok (.bipush 115, 2) := by decide +kernel
theorem dX7_clause_73 : decode cX7_clause 73 = .ok (.if_icmp .eq 16, 3) := by decide +kernel
theorem dX7_clause_76 : decode cX7_clause 76 = .ok (.iload_n 2, 1) := by decide +kernel
theorem dX7_clause_77 : decode cX7_clause 77 = .ok (.bipush 104, 2) := by decide +kernel
theorem dX7_clause_79 : decode cX7_clause 79 = .ok (.if_icmp .eq 10, 3) := by decide +kernel
theorem dX7_clause_82 : decode cX7_clause 82 = .ok (.aload_n 1, 1) := by decide +kernel
theorem dX7_clause_83 : decode cX7_clause 83 = .ok (.iload 4, 2) := by decide +kernel
theorem dX7_clause_85 : decode cX7_clause 85 = .ok (.putfield 64, 3) := by decide +kernel
theorem dX7_clause_88 : decode cX7_clause 88 = .ok (.return_, 1) := by decide +kernel
theorem dX7_clause_89 : decode cX7_clause 89 = .ok (.aload_n 0, 1) := by decide +kernel
theorem dX7_clause_90 : decode cX7_clause 90 = .ok (.bipush 32, 2) := by decide +kernel
theorem dX7_clause_92 : decode cX7_clause 92 = .ok (.invokevirtual 57, 3) := by decide +kernel
theorem dX7_clause_95 : decode cX7_clause 95 = .ok (.aload_n 0, 1) := by decide +kernel
theorem dX7_clause_96 : decode cX7_clause 96 = .ok (.aload_n 1, 1) := by decide +kernel
theorem dX7_clause_97 : decode cX7_clause 97 = .ok (.iconst 0, 1) := by decide +kernel
theorem dX7_clause_98 : decode cX7_clause 98 = .ok (.invokevirtual 66, 3) := by decide +kernel
theorem dX7_clause_101 : decode cX7_clause 101 = .ok (.aload_n 1, 1) := by decide +kernel
theorem dX7_clause_102 : decode cX7_clause 102 = .ok (.iload_n 2, 1) := by decide +kernel
theorem dX7_clause_103 : decode cX7_clause 103 = .ok (.bipush 115, 2) := by decide +kernel
theorem dX7_clause_105 : decode cX7_clause 105 = .ok (.if_icmp .ne 8, 3) := by decide +kernel
theorem dX7_clause_108 : decode cX7_clause 108 = .ok (.bipush 21, 2) := by decide +kernel
theorem dX7_clause_110 : decode cX7_clause 110 = .ok (.goto 5, 3) := by decide +kernel
theorem dX7_clause_113 : decode cX7_clause 113 = .ok (.bipush 22, 2) := by decide +kernel
theorem dX7_clause_115 : decode cX7_clause 115 = .ok (.iload 4, 2) := by decide +kernel
theorem dX7_clause_117 : decode cX7_clause 117 = .ok (.invokevirtual 70, 3) := by decide +kernel
theorem dX7_clause_120 : decode cX7_clause 120 = .ok (.return_, 1) := by decide +kernel
theorem dX7_either_0 : decode cX7_either 0 = .ok (.aload_n 0, 1) := by decide +kernel
theorem dX7_either_1 : decode cX7_either 1 = .ok (.aload_n 1, 1) := by decide +kernel
theorem dX7_either_2 : decode cX7_either 2 = .ok (.iload_n 2, 1) := by decide +kernel
theorem dX7_either_3 : decode cX7_either 3 = .ok (.invokevirtual 74, 3) := by decide +kernel
theorem dX7_either_6 : decode cX7_either 6 = .ok (.iconst 0, 1) := by decide +kernel
theorem dX7_either_7 : decode cX7_either 7 = .ok (.istore_n 3, 1) := by decide +kernel
theorem dX7_either_8 : decode cX7_either 8 = .ok (.iload_n 3, 1) := by decide +kernel
theorem dX7_either_9 : decode cX7_either 9 = .ok (.bipush 100, 2) := by decide +kernel
theorem dX7_either_11 : decode cX7_either 11 = .ok (.if_icmp .ge 41, 3) := by decide +kernel
theorem dX7_either_14 : decode cX7_either 14 = .ok (.aload_n 0, 1) := by decide +kernel
theorem dX7_either_15 : decode cX7_either 15 = .ok (.invokevirtual 35, 3) := by decide +kernel
theorem dX7_either_18 : decode cX7_either 18 = .ok (.bipush 124, 2) := by decide +kernel
theorem dX7_either_20 : decode cX7_either 20 = .ok (.if_icmp .ne 32, 3) := by decide +kernel
theorem dX7_either_23 : decode cX7_either 23 = .ok (.aload_n 0, 1) := by decide +kernel
theorem dX7_either_24 : decode cX7_either 24 = .ok (.dup, 1) := by decide +kernel
theorem dX7_either_25 : decode cX7_either 25 = .ok (.getfield 19, 3) := by decide +kernel
theorem dX7_either_28 : decode cX7_either 28 = .ok (.iconst 1, 1) := by decide +kernel
theorem dX7_either_29 : decode cX7_either 29 = .ok (.iadd, 1) := by decide +kernel
theorem dX7_either_30 : decode cX7_either 30 = .ok (.putfield 19, 3) := by decide +kernel
theorem dX7_either_33 : decode cX7_either 33 = .ok (.aload_n 0, 1) := by decide +kernel
theorem dX7_either_34 : decode cX7_either 34 = .ok (.aload_n 1, 1) := by decide +kernel
theorem dX7_either_35 : decode cX7_either 35 = .ok (.iload_n 2, 1) := by decide +kernel
theorem dX7_either_36 : decode cX7_either 36 = .ok (.invokevirtual 74, 3) := by decide +kernel
theorem dX7_either_39 : decode cX7_either 39 = .ok (.aload_n 1, 1) := by decide +kernel
theorem dX7_either_40 : decode cX7_either 40 = .ok (.bipush 20, 2) := by decide +kernel
theorem dX7_either_42 : decode cX7_either 42 = .ok (.iconst 0, 1) := by decide +kernel
theorem dX7_either_43 : decode cX7_either 43 = .ok (.invokevirtual 70, 3) := by decide +kernel
theorem dX7_either_46 : decode cX7_either 46 = .ok (.iinc 3 1, 3) := by decide +kernel
theorem dX7_either_49 : decode cX7_either 49 = .ok (.goto (-41), 3) := by decide +kernel
theorem dX7_either_52 : decode cX7_either 52 = .ok (.return_, 1) := by decide +kernel
theorem dX7_both_0 : decode cX7_both 0 = .ok (.aload_n 0, 1) := by decide +kernel
theorem dX7_both_1 : decode cX7_both 1 = .ok (.aload_n 1, 1) := by decide +kernel
theorem dX7_both_2 : decode cX7_both 2 = .ok (.iload_n 2, 1) := by decide +kernel
theorem dX7_both_3 : decode cX7_both 3 = .ok (.invokevirtual 77, 3) := by decide +kernel
theorem dX7_both_6 : decode cX7_both 6 = .ok (.iconst 0, 1) := by decide +kernel
theorem dX7_both_7 : decode cX7_both 7 = .ok (.istore_n 3, 1) := by decide +kernel
theorem dX7_both_8 : decode cX7_both 8 = .ok (.iload_n 3, 1) := by decide +kernel
theorem dX7_both_9 : decode cX7_both 9 = .ok (.bipush 100, 2) := by decide +kernel
theorem dX7_both_11 : decode cX7_both 11 = .ok (.if_icmp .ge 41, 3) := by decide +kernel
theorem dX7_both_14 : decode cX7_both 14 = .ok (.aload_n 0, 1) := by decide +kernel
theorem dX7_both_15 : decode cX7_both 15 = .ok (.invokevirtual 35, 3) := by decide +kernel
theorem dX7_both_18 : decode cX7_both 18 = .ok (.bipush 38, 2) := by decide +kernel
theorem dX7_both_20 : decode cX7_both 20 = .ok (.if_icmp .ne 32, 3) := by decide +kernel
theorem dX7_both_23 : decode cX7_both 23 = .ok (.aload_n 0, 1) := by decide +kernel
theorem dX7_both_24 : decode cX7_both 24 = .ok (.dup, 1) := by decide +kernel
theorem dX7_both_25 : decode cX7_both 25 = .ok (.getfield 19, 3) := by decide +kernel
theorem dX7_both_28 : decode cX7_both 28 = .ok (.iconst 1, 1) := by decide +kernel
theorem dX7_both_29 : decode cX7_both 29 = .ok (.iadd, 1) := by decide +kernel
theorem dX7_both_30 : decode cX7_both 30 = .ok (.putfield 19, 3) := by decide +kernel
theorem dX7_both_33 : decode cX7_both 33 = .ok (.aload_n 0, 1) := by decide +kernel
theorem dX7_both_34 : decode cX7_both 34 = .ok (.aload_n 1, 1) := by decide +kernel
theorem dX7_both_35 : decode cX7_both 35 = .ok (.iload_n 2, 1) := by decide +kernel
theorem dX7_both_36 : decode cX7_both 36 = .ok (.invokevirtual 77, 3) := by decide +kernel
theorem dX7_both_39 : decode cX7_both 39 = .ok (.aload_n 1, 1) := by decide +kernel
theorem dX7_both_40 : decode cX7_both 40 = .ok (.bipush 19, 2) := by decide +kernel
theorem dX7_both_42 : decode cX7_both 42 = .ok (.iconst 0, 1) := by decide +kernel
theorem dX7_both_43 : decode cX7_both 43 = .ok (.invokevirtual 70, 3) := by decide +kernel
theorem dX7_both_46 : decode cX7_both 46 = .ok (.iinc 3 1, 3) := by decide +kernel
theorem dX7_both_49 : decode cX7_both 49 = .ok (.goto (-41), 3) := by decide +kernel
theorem dX7_both_52 : decode cX7_both 52 = .ok (.return_, 1) := by decide +kernel
theorem dX7_single_0 : decode cX7_single 0 = .ok (.aload_n 0, 1) := by decide +kernel
theorem dX7_single_1 : decode cX7_single 1 = .ok (.invokevirtual 35, 3) := by decide +kernel
theorem dX7_single_4 : decode cX7_single 4 = .ok (.istore_n 3, 1) := by decide +kernel
theorem dX7_single_5 : decode cX7_single 5 = .ok (.iload_n 3, 1) := by decide +kernel
theorem dX7_single_6 : decode cX7_single 6 = .ok (.bipush 33, 2) := by decide +kernel
theorem dX7_single_8 : decode cX7_single 8 = .ok (.if_icmp .eq 41, 3) := by decide +kernel
theorem dX7_single_11 : decode cX7_single 11 = .ok (.iload_n 3, 1) := by decide +kernel
theorem dX7_single_12 : decode cX7_single 12 = .ok (.bipush 40, 2) := by decide +kernel
theorem dX7_single_14 : decode cX7_single 14 = .ok (.if_icmp .eq 35, 3) := by decide +kernel
theorem dX7_single_17 : decode cX7_single 17 = .ok (.aload_n 0, 1) := by decide +kernel
theorem dX7_single_18 : decode cX7_single 18 = .ok (.ldc 80, 2) := by decide +kernel
theorem dX7_single_20 : decode cX7_single 20 = .ok (.invokevirtual 82, 3) := by decide +kernel
theorem dX7_single_23 : decode cX7_single 23 = .ok (.istore 4, 2) := by decide +kernel
theorem dX7_single_25 : decode cX7_single 25 = .ok (.aload_n 0, 1) := by decide +kernel
theorem dX7_single_26 : decode cX7_single 26 = .ok (.ldc 86, 2) := by decide +kernel
theorem dX7_single_28 : decode cX7_single 28 = .ok (.invokevirtual 82, 3) := by decide +kernel
theorem dX7_single_31 : decode cX7_single 31 = .ok (.istore 5, 2) := by decide +kernel
theorem dX7_single_33 : decode cX7_single 33 = .ok (.aload_n 1, 1) := by decide +kernel
theorem dX7_single_34 : decode cX7_single 34 = .ok (.iconst 3, 1) := by decide +kernel
end
section
theorem dX7_single_35 : decode cX7_single 35 = .ok (.iload 4, 2) := by decide +kernel
theorem dX7_single_37 : decode cX7_single 37 = .ok (.imul, 1) := by decide +kernel
theorem dX7_single_38 : decode cX7_single 38 = .ok (.iload 5, 2) := by decide +kernel
theorem dX7_single_40 : decode cX7_single 40 = .ok (.iadd, 1) := by decide +kernel
theorem dX7_single_41 : decode cX7_single 41 = .ok (.aload_n 0, 1) := by decide +kernel
theorem dX7_single_42 : decode cX7_single 42 = .ok (.invokevirtual 61, 3) := by decide +kernel
theorem dX7_single_45 : decode cX7_single 45 = .ok (.invokevirtual 70, 3) := by decide +kernel
theorem dX7_single_48 : decode cX7_single 48 = .ok (.return_, 1) := by decide +kernel
theorem dX7_single_49 : decode cX7_single 49 = .ok (.iload_n 2, 1) := by decide +kernel
theorem dX7_single_50 : decode cX7_single 50 = .ok (.iconst 4, 1) := by decide +kernel
theorem dX7_single_51 : decode cX7_single 51 = .ok (.if_icmp .lt 9, 3) := by decide +kernel
theorem dX7_single_54 : decode cX7_single 54 = .ok (.aload_n 0, 1) := by decide +kernel
theorem dX7_single_55 : decode cX7_single 55 = .ok (.iconst 1, 1) := by decide +kernel
theorem dX7_single_56 : decode cX7_single 56 = .ok (.putfield 22, 3) := by decide +kernel
theorem dX7_single_59 : decode cX7_single 59 = .ok (.return_, 1) := by decide +kernel
theorem dX7_single_60 : decode cX7_single 60 = .ok (.aload_n 0, 1) := by decide +kernel
theorem dX7_single_61 : decode cX7_single 61 = .ok (.dup, 1) := by decide +kernel
theorem dX7_single_62 : decode cX7_single 62 = .ok (.getfield 19, 3) := by decide +kernel
theorem dX7_single_65 : decode cX7_single 65 = .ok (.iconst 1, 1) := by decide +kernel
theorem dX7_single_66 : decode cX7_single 66 = .ok (.iadd, 1) := by decide +kernel
theorem dX7_single_67 : decode cX7_single 67 = .ok (.putfield 19, 3) := by decide +kernel
theorem dX7_single_70 : decode cX7_single 70 = .ok (.iload_n 3, 1) := by decide +kernel
theorem dX7_single_71 : decode cX7_single 71 = .ok (.bipush 33, 2) := by decide +kernel
theorem dX7_single_73 : decode cX7_single 73 = .ok (.if_icmp .ne 21, 3) := by decide +kernel
theorem dX7_single_76 : decode cX7_single 76 = .ok (.aload_n 0, 1) := by decide +kernel
theorem dX7_single_77 : decode cX7_single 77 = .ok (.aload_n 1, 1) := by decide +kernel
theorem dX7_single_78 : decode cX7_single 78 = .ok (.iload_n 2, 1) := by decide +kernel
theorem dX7_single_79 : decode cX7_single 79 = .ok (.iconst 1, 1) := by decide +kernel
theorem dX7_single_80 : decode cX7_single 80 = .ok (.iadd, 1) := by decide +kernel
theorem dX7_single_81 : decode cX7_single 81 = .ok (.invokevirtual 77, 3) := by decide +kernel
theorem dX7_single_84 : decode cX7_single 84 = .ok (.aload_n 1, 1) := by decide +kernel
theorem dX7_single_85 : decode cX7_single 85 = .ok (.bipush 18, 2) := by decide +kernel
theorem dX7_single_87 : decode cX7_single 87 = .ok (.iconst 0, 1) := by decide +kernel
theorem dX7_single_88 : decode cX7_single 88 = .ok (.invokevirtual 70, 3) := by decide +kernel
theorem dX7_single_91 : decode cX7_single 91 = .ok (.goto 17, 3) := by decide +kernel
theorem dX7_single_94 : decode cX7_single 94 = .ok (.aload_n 0, 1) := by decide +kernel
theorem dX7_single_95 : decode cX7_single 95 = .ok (.aload_n 1, 1) := by decide +kernel
theorem dX7_single_96 : decode cX7_single 96 = .ok (.iload_n 2, 1) := by decide +kernel
theorem dX7_single_97 : decode cX7_single 97 = .ok (.iconst 1, 1) := by decide +kernel
theorem dX7_single_98 : decode cX7_single 98 = .ok (.iadd, 1) := by decide +kernel
theorem dX7_single_99 : decode cX7_single 99 = .ok (.invokevirtual 66, 3) := by decide +kernel
theorem dX7_single_102 : decode cX7_single 102 = .ok (.aload_n 0, 1) := by decide +kernel
theorem dX7_single_103 : decode cX7_single 103 = .ok (.bipush 41, 2) := by decide +kernel
theorem dX7_single_105 : decode cX7_single 105 = .ok (.invokevirtual 57, 3) := by decide +kernel
theorem dX7_single_108 : decode cX7_single 108 = .ok (.return_, 1) := by decide +kernel
theorem dX8_init_0 : decode cX8_init 0 = .ok (.aload_n 0, 1) := by decide +kernel
theorem dX8_init_1 : decode cX8_init 1 = .ok (.invokespecial 3, 3) := by decide +kernel
theorem dX8_init_4 : decode cX8_init 4 = .ok (.aload_n 0, 1) := by decide +kernel
theorem dX8_init_5 : decode cX8_init 5 = .ok (.new 9, 3) := by decide +kernel
theorem dX8_init_8 : decode cX8_init 8 = .ok (.dup, 1) := by decide +kernel
theorem dX8_init_9 : decode cX8_init 9 = .ok (.invokespecial 11, 3) := by decide +kernel
theorem dX8_init_12 : decode cX8_init 12 = .ok (.putfield 12, 3) := by decide +kernel
theorem dX8_init_15 : decode cX8_init 15 = .ok (.aload_n 0, 1) := by decide +kernel
theorem dX8_init_16 : decode cX8_init 16 = .ok (.new 9, 3) := by decide +kernel
theorem dX8_init_19 : decode cX8_init 19 = .ok (.dup, 1) := by decide +kernel
theorem dX8_init_20 : decode cX8_init 20 = .ok (.invokespecial 11, 3) := by decide +kernel
theorem dX8_init_23 : decode cX8_init 23 = .ok (.putfield 18, 3) := by decide +kernel
theorem dX8_init_26 : decode cX8_init 26 = .ok (.aload_n 0, 1) := by decide +kernel
theorem dX8_init_27 : decode cX8_init 27 = .ok (.new 9, 3) := by decide +kernel
theorem dX8_init_30 : decode cX8_init 30 = .ok (.dup, 1) := by decide +kernel
theorem dX8_init_31 : decode cX8_init 31 = .ok (.invokespecial 11, 3) := by decide +kernel
theorem dX8_init_34 : decode cX8_init 34 = .ok (.putfield 21, 3) := by decide +kernel
theorem dX8_init_37 : decode cX8_init 37 = .ok (.aload_n 0, 1) := by decide +kernel
theorem dX8_init_38 : decode cX8_init 38 = .ok (.new 24, 3) := by decide +kernel
theorem dX8_init_41 : decode cX8_init 41 = .ok (.dup, 1) := by decide +kernel
theorem dX8_init_42 : decode cX8_init 42 = .ok (.invokespecial 26, 3) := by decide +kernel
theorem dX8_init_45 : decode cX8_init 45 = .ok (.putfield 27, 3) := by decide +kernel
theorem dX8_init_48 : decode cX8_init 48 = .ok (.aload_n 0, 1) := by decide +kernel
theorem dX8_init_49 : decode cX8_init 49 = .ok (.iconst 0, 1) := by decide +kernel
theorem dX8_init_50 : decode cX8_init 50 = .ok (.putfield 31, 3) := by decide +kernel
theorem dX8_init_53 : decode cX8_init 53 = .ok (.aload_n 0, 1) := by decide +kernel
theorem dX8_init_54 : decode cX8_init 54 = .ok (.new 35, 3) := by decide +kernel
theorem dX8_init_57 : decode cX8_init 57 = .ok (.dup, 1) := by decide +kernel
theorem dX8_init_58 : decode cX8_init 58 = .ok (.invokespecial 37, 3) := by decide +kernel
theorem dX8_init_61 : decode cX8_init 61 = .ok (.putfield 38, 3) := by decide +kernel
theorem dX8_init_64 : decode cX8_init 64 = .ok (.aload_n 0, 1) := by decide +kernel
theorem dX8_init_65 : decode cX8_init 65 = .ok (.bipush 6, 2) := by decide +kernel
theorem dX8_init_67 : decode cX8_init 67 = .ok (.anewarray 42, 3) := by decide +kernel
theorem dX8_init_70 : decode cX8_init 70 = .ok (.putfield 44, 3) := by decide +kernel
theorem dX8_init_73 : decode cX8_init 73 = .ok (.aload_n 0, 1) := by decide +kernel
theorem dX8_init_74 : decode cX8_init 74 = .ok (.new 42, 3) := by decide +kernel
theorem dX8_init_77 : decode cX8_init 77 = .ok (.dup, 1) := by decide +kernel
theorem dX8_init_78 : decode cX8_init 78 = .ok (.invokespecial 48, 3) := by decide +kernel
theorem dX8_init_81 : decode cX8_init 81 = .ok (.putfield 49, 3) := by decide +kernel
theorem dX8_init_84 : decode cX8_init 84 = .ok (.aload_n 0, 1) := by decide +kernel
theorem dX8_init_85 : decode cX8_init 85 = .ok (.iconst 0, 1) := by decide +kernel
theorem dX8_init_86 : decode cX8_init 86 = .ok (.putfield 53, 3) := by decide +kernel
theorem dX8_init_89 : decode cX8_init 89 = .ok (.aload_n 0, 1) := by decide +kernel
theorem dX8_init_90 : decode cX8_init 90 = .ok (.new 57, 3) := by decide +kernel
theorem dX8_init_93 : decode cX8_init 93 = .ok (.dup, 1) := by decide +kernel
theorem dX8_init_94 : decode cX8_init 94 = .ok (.invokespecial 59, 3) := by decide +kernel
theorem dX8_init_97 : decode cX8_init 97 = .ok (.putfield 60, 3) := by decide +kernel
theorem dX8_init_100 : decode cX8_init 100 = .ok (.aload_n 0, 1) := by decide +kernel
theorem dX8_init_101 : decode cX8_init 101 = .ok (.bipush 6, 2) := by decide +kernel
theorem dX8_init_103 : decode cX8_init 103 = .ok (.newarray .int, 2) := by decide +kernel
theorem dX8_init_105 : decode cX8_init 105 = .ok (.putfield 64, 3) := by decide +kernel
theorem dX8_init_108 : decode cX8_init 108 = .ok (.aload_n 0, 1) := by decide +kernel
theorem dX8_init_109 : decode cX8_init 109 = .ok (.new 68, 3) := by decide +kernel
theorem dX8_init_112 : decode cX8_init 112 = .ok (.dup, 1) := by decide +kernel
theorem dX8_init_113 : decode cX8_init 113 = .ok (.invokespecial 70, 3) := by decide +kernel
theorem dX8_init_116 : decode cX8_init 116 = .ok (.putfield 71, 3) := by decide +kernel
theorem dX8_init_119 : decode cX8_init 119 = .ok (.aload_n 0, 1) := by decide +kernel
theorem dX8_init_120 : decode cX8_init 120 = .ok (.bipush 6, 2) := by decide +kernel
theorem dX8_init_122 : decode cX8_init 122 = .ok (.anewarray 75, 3) := by decide +kernel
theorem dX8_init_125 : decode cX8_init 125 = .ok (.putfield 77, 3) := by decide +kernel
theorem dX8_init_128 : decode cX8_init 128 = .ok (.iconst 0, 1) := by decide +kernel
theorem dX8_init_129 : decode cX8_init 129 = .ok (.istore_n 1, 1) := by decide +kernel
theorem dX8_init_130 : decode cX8_init 130 = .ok (.iload_n 1, 1) := by decide +kernel
theorem dX8_init_131 : decode cX8_init 131 = .ok (.bipush 6, 2) := by decide +kernel
theorem dX8_init_133 : decode cX8_init 133 = .ok (.if_icmp .ge 22, 3) := by decide +kernel
theorem dX8_init_136 : decode cX8_init 136 = .ok (.aload_n 0, 1) := by decide +kernel
theorem dX8_init_137 : decode cX8_init 137 = .ok (.getfield 44, 3) := by decide +kernel
theorem dX8_init_140 : decode cX8_init 140 = .ok (.iload_n 1, 1) := by decide +kernel
theorem dX8_init_141 : decode cX8_init 141 = .ok (.new 42, 3) := by decide +kernel
theorem dX8_init_144 : decode cX8_init 144 = .ok (.dup, 1) := by decide +kernel
theorem dX8_init_145 : decode cX8_init 145 = .ok (.invokespecial 48, 3) := by decide +kernel
theorem dX8_init_148 : decode cX8_init 148 = .ok (.aastore, 1) := by decide +kernel
theorem dX8_init_149 : decode cX8_init 149 = .ok (.iinc 1 1, 3) := by decide +kernel
theorem dX8_init_152 : decode cX8_init 152 = .ok (.goto (-22), 3) := by decide +kernel
theorem dX8_init_155 : decode cX8_init 155 = .ok (.iconst 0, 1) := by decide +kernel
theorem dX8_init_156 : decode cX8_init 156 = .ok (.istore_n 1, 1) := by decide +kernel
theorem dX8_init_157 : decode cX8_init 157 = .ok (.iload_n 1, 1) := by decide +kernel
theorem dX8_init_158 : decode cX8_init 158 = .ok (.bipush 6, 2) := by decide +kernel
theorem dX8_init_160 : decode cX8_init 160 = .ok (.if_icmp .ge 22, 3) := by decide +kernel
theorem dX8_init_163 : decode cX8_init 163 = .ok (.aload_n 0, 1) := by decide +kernel
theorem dX8_init_164 : decode cX8_init 164 = .ok (.getfield 77, 3) := by decide +kernel
theorem dX8_init_167 : decode cX8_init 167 = .ok (.iload_n 1, 1) := by decide +kernel
theorem dX8_init_168 : decode cX8_init 168 = .ok (.new 75, 3) := by decide +kernel
theorem dX8_init_171 : decode cX8_init 171 = .ok (.dup, 1) := by decide +kernel
theorem dX8_init_172 : decode cX8_init 172 = .ok (.invokespecial 81, 3) := by decide +kernel
theorem dX8_init_175 : decode cX8_init 175 = .ok (.aastore, 1) := by decide +kernel
theorem dX8_init_176 : decode cX8_init 176 = .ok (.iinc 1 1, 3) := by decide +kernel
theorem dX8_init_179 : decode cX8_init 179 = .ok (.goto (-22), 3) := by decide +kernel
theorem dX8_init_182 : decode cX8_init 182 = .ok (.return_, 1) := by decide +kernel
theorem dX8_pot_0 : decode cX8_pot 0 = .ok (.iload_n 1, 1) := by decide +kernel
theorem dX8_pot_1 : decode cX8_pot 1 = .ok (.ifCond .lt 9, 3) := by decide +kernel
theorem dX8_pot_4 : decode cX8_pot 4 = .ok (.iload_n 1, 1) := by decide +kernel
theorem dX8_pot_5 : decode cX8_pot 5 = .ok (.bipush 7, 2) := by decide +kernel
theorem dX8_pot_7 : decode cX8_pot 7 = .ok (.if_icmp .lt 5, 3) := by decide +kernel
theorem dX8_pot_10 : decode cX8_pot 10 = .ok (.iconst (-1), 1) := by decide +kernel
theorem dX8_pot_11 : decode cX8_pot 11 = .ok (.ireturn, 1) := by decide +kernel
theorem dX8_pot_12 : decode cX8_pot 12 = .ok (.iload_n 2, 1) := by decide +kernel
theorem dX8_pot_13 : decode cX8_pot 13 = .ok (.invokestatic 82, 3) := by decide +kernel
theorem dX8_pot_16 : decode cX8_pot 16 = .ok (.ifCond .eq 10, 3) := by decide +kernel
theorem dX8_pot_19 : decode cX8_pot 19 = .ok (.iload_n 3, 1) := by decide +kernel
theorem dX8_pot_20 : decode cX8_pot 20 = .ok (.invokestatic 82, 3) := by decide +kernel
theorem dX8_pot_23 : decode cX8_pot 23 = .ok (.ifCond .ne 6, 3) := by decide +kernel
theorem dX8_pot_26 : decode cX8_pot 26 = .ok (.bipush (-2), 2) := by decide +kernel
theorem dX8_pot_28 : decode cX8_pot 28 = .ok (.ireturn, 1) := by decide +kernel
theorem dX8_pot_29 : decode cX8_pot 29 = .ok (.aload_n 0, 1) := by decide +kernel
theorem dX8_pot_30 : decode cX8_pot 30 = .ok (.getfield 12, 3) := by decide +kernel
theorem dX8_pot_33 : decode cX8_pot 33 = .ok (.iload_n 1, 1) := by decide +kernel
theorem dX8_pot_34 : decode cX8_pot 34 = .ok (.iload_n 2, 1) := by decide +kernel
theorem dX8_pot_35 : decode cX8_pot 35 = .ok (.iload_n 3, 1) := by decide +kernel
theorem dX8_pot_36 : decode cX8_pot 36 = .ok (.invokevirtual 86, 3) := by decide +kernel
theorem dX8_pot_39 : decode cX8_pot 39 = .ok (.ireturn, 1) := by decide +kernel
theorem dX8_of_0 : decode cX8_of 0 = .ok (.aload_n 0, 1) := by decide +kernel
theorem dX8_of_1 : decode cX8_of 1 = .ok (.getfield 12, 3) := by decide +kernel
theorem dX8_of_4 : decode cX8_of 4 = .ok (.iload_n 1, 1) := by decide +kernel
theorem dX8_of_5 : decode cX8_of 5 = .ok (.invokevirtual 90, 3) := by decide +kernel
theorem dX8_of_8 : decode cX8_of 8 = .ok (.astore_n 3, 1) := by decide +kernel
theorem dX8_of_9 : decode cX8_of 9 = .ok (.aload_n 3, 1) := by decide +kernel
theorem dX8_of_10 : decode cX8_of 10 = .ok (.ifnonnull 7, 3) := by decide +kernel
theorem dX8_of_13 : decode cX8_of 13 = .ok (.sipush (-10001), 3) := by decide +kernel
theorem dX8_of_16 : decode cX8_of 16 = .ok (.ireturn, 1) := by decide +kernel
theorem dX8_of_17 : decode cX8_of 17 = .ok (.iload_n 2, 1) := by decide +kernel
theorem dX8_of_18 : decode cX8_of 18 = .ok (.iconst 5, 1) := by decide +kernel
theorem dX8_of_19 : decode cX8_of 19 = .ok (.if_icmp .ne 9, 3) := by decide +kernel
theorem dX8_of_22 : decode cX8_of 22 = .ok (.aload_n 0, 1) := by decide +kernel
theorem dX8_of_23 : decode cX8_of 23 = .ok (.aload_n 3, 1) := by decide +kernel
theorem dX8_of_24 : decode cX8_of 24 = .ok (.invokevirtual 94, 3) := by decide +kernel
theorem dX8_of_27 : decode cX8_of 27 = .ok (.ireturn, 1) := by decide +kernel
theorem dX8_of_28 : decode cX8_of 28 = .ok (.iload_n 2, 1) := by decide +kernel
theorem dX8_of_29 : decode cX8_of 29 = .ok (.iconst 5, 1) := by decide +kernel
theorem dX8_of_30 : decode cX8_of 30 = .ok (.if_icmp .ge 9, 3) := by decide +kernel
theorem dX8_of_33 : decode cX8_of 33 = .ok (.aload_n 3, 1) := by decide +kernel
theorem dX8_of_34 : decode cX8_of 34 = .ok (.iload_n 2, 1) := by decide +kernel
theorem dX8_of_35 : decode cX8_of 35 = .ok (.invokestatic 98, 3) := by decide +kernel
theorem dX8_of_38 : decode cX8_of 38 = .ok (.ireturn, 1) := by decide +kernel
theorem dX8_of_39 : decode cX8_of 39 = .ok (.iload_n 2, 1) := by decide +kernel
theorem dX8_of_40 : decode cX8_of 40 = .ok (.bipush 10, 2) := by decide +kernel
theorem dX8_of_42 : decode cX8_of 42 = .ok (.irem, 1) := by decide +kernel
theorem dX8_of_43 : decode cX8_of 43 = .ok (.istore 4, 2) := by decide +kernel
theorem dX8_of_45 : decode cX8_of 45 = .ok (.iload 4, 2) := by decide +kernel
theorem dX8_of_47 : decode cX8_of 47 = .ok (.invokestatic 102, 3) := by decide +kernel
theorem dX8_of_50 : decode cX8_of 50 = .ok (.ifCond .ne 7, 3) := by decide +kernel
theorem dX8_of_53 : decode cX8_of 53 = .ok (.sipush (-10001), 3) := by decide +kernel
theorem dX8_of_56 : decode cX8_of 56 = .ok (.ireturn, 1) := by decide +kernel
theorem dX8_of_57 : decode cX8_of 57 = .ok (.iload_n 2, 1) := by decide +kernel
theorem dX8_of_58 : decode cX8_of 58 = .ok (.bipush 10, 2) := by decide +kernel
theorem dX8_of_60 : decode cX8_of 60 = .ok (.idiv, 1) := by decide +kernel
theorem dX8_of_61 : decode cX8_of 61 = .ok (.tableswitch 51 1 3 #[27, 35, 43], 27) := by decide +kernel
theorem dX8_of_88 : decode cX8_of 88 = .ok (.aload_n 0, 1) := by decide +kernel
theorem dX8_of_89 : decode cX8_of 89 = .ok (.aload_n 3, 1) := by decide +kernel
theorem dX8_of_90 : decode cX8_of 90 = .ok (.iload 4, 2) := by decide +kernel
theorem dX8_of_92 : decode cX8_of 92 = .ok (.invokevirtual 105, 3) := by decide +kernel
theorem dX8_of_95 : decode cX8_of 95 = .ok (.ireturn, 1) := by decide +kernel
theorem dX8_of_96 : decode cX8_of 96 = .ok (.aload_n 0, 1) := by decide +kernel
theorem dX8_of_97 : decode cX8_of 97 = .ok (.aload_n 3, 1) := by decide +kernel
theorem dX8_of_98 : decode cX8_of 98 = .ok (.iload 4, 2) := by decide +kernel
theorem dX8_of_100 : decode cX8_of 100 = .ok (.invokevirtual 108, 3) := by decide +kernel
theorem dX8_of_103 : decode cX8_of 103 = .ok (.ireturn, 1) := by decide +kernel
theorem dX8_of_104 : decode cX8_of 104 = .ok (.aload_n 0, 1) := by decide +kernel
theorem dX8_of_105 : decode cX8_of 105 = .ok (.aload_n 3, 1) := by decide +kernel
theorem dX8_of_106 : decode cX8_of 106 = .ok (.iload 4, 2) := by decide +kernel
theorem dX8_of_108 : decode cX8_of 108 = .ok (.invokevirtual 111, 3) := by decide +kernel
theorem dX8_of_111 : decode cX8_of 111 = .ok (.ireturn, 1) := by decide +kernel
theorem dX8_of_112 : decode cX8_of 112 = .ok (.sipush (-10001), 3) := by decide +kernel
theorem dX8_of_115 : decode cX8_of 115 = .ok (.ireturn, 1) := by decide +kernel
theorem dX8_world_0 : decode cX8_world 0 = .ok (.iload_n 1, 1) := by decide +kernel
theorem dX8_world_1 : decode cX8_world 1 = .ok (.ifCond .lt 10, 3) := by decide +kernel
theorem dX8_world_4 : decode cX8_world 4 = .ok (.iload_n 1, 1) := by decide +kernel
theorem dX8_world_5 : decode cX8_world 5 = .ok (.sipush 255, 3) := by decide +kernel
theorem dX8_world_8 : decode cX8_world 8 = .ok (.if_icmp .le 6, 3) := by decide +kernel
theorem dX8_world_11 : decode cX8_world 11 = .ok (.bipush (-2), 2) := by decide +kernel
theorem dX8_world_13 : decode cX8_world 13 = .ok (.ireturn, 1) := by decide +kernel
theorem dX8_world_14 : decode cX8_world 14 = .ok (.aload_n 0, 1) := by decide +kernel
theorem dX8_world_15 : decode cX8_world 15 = .ok (.getfield 12, 3) := by decide +kernel
theorem dX8_world_18 : decode cX8_world 18 = .ok (.getfield 114, 3) := by decide +kernel
theorem dX8_world_21 : decode cX8_world 21 = .ok (.istore_n 2, 1) := by decide +kernel
theorem dX8_world_22 : decode cX8_world 22 = .ok (.aload_n 0, 1) := by decide +kernel
theorem dX8_world_23 : decode cX8_world 23 = .ok (.getfield 12, 3) := by decide +kernel
theorem dX8_world_26 : decode cX8_world 26 = .ok (.iload_n 1, 1) := by decide +kernel
theorem dX8_world_27 : decode cX8_world 27 = .ok (.putfield 114, 3) := by decide +kernel
theorem dX8_world_30 : decode cX8_world 30 = .ok (.iload_n 2, 1) := by decide +kernel
theorem dX8_world_31 : decode cX8_world 31 = .ok (.ireturn, 1) := by decide +kernel
theorem dX8_sugar_0 : decode cX8_sugar 0 = .ok (.aload_n 0, 1) := by decide +kernel
theorem dX8_sugar_1 : decode cX8_sugar 1 = .ok (.getfield 12, 3) := by decide +kernel
theorem dX8_sugar_4 : decode cX8_sugar 4 = .ok (.iload_n 1, 1) := by decide +kernel
theorem dX8_sugar_5 : decode cX8_sugar 5 = .ok (.invokevirtual 90, 3) := by decide +kernel
theorem dX8_sugar_8 : decode cX8_sugar 8 = .ok (.astore_n 3, 1) := by decide +kernel
theorem dX8_sugar_9 : decode cX8_sugar 9 = .ok (.aload_n 3, 1) := by decide +kernel
theorem dX8_sugar_10 : decode cX8_sugar 10 = .ok (.ifnonnull 5, 3) := by decide +kernel
theorem dX8_sugar_13 : decode cX8_sugar 13 = .ok (.iconst (-1), 1) := by decide +kernel
theorem dX8_sugar_14 : decode cX8_sugar 14 = .ok (.ireturn, 1) := by decide +kernel
theorem dX8_sugar_15 : decode cX8_sugar 15 = .ok (.iload_n 2, 1) := by decide +kernel
theorem dX8_sugar_16 : decode cX8_sugar 16 = .ok (.invokestatic 82, 3) := by decide +kernel
theorem dX8_sugar_19 : decode cX8_sugar 19 = .ok (.ifCond .ne 6, 3) := by decide +kernel
theorem dX8_sugar_22 : decode cX8_sugar 22 = .ok (.bipush (-2), 2) := by decide +kernel
theorem dX8_sugar_24 : decode cX8_sugar 24 = .ok (.ireturn, 1) := by decide +kernel
theorem dX8_sugar_25 : decode cX8_sugar 25 = .ok (.aload_n 3, 1) := by decide +kernel
theorem dX8_sugar_26 : decode cX8_sugar 26 = .ok (.getfield 117, 3) := by decide +kernel
theorem dX8_sugar_29 : decode cX8_sugar 29 = .ok (.istore 4, 2) := by decide +kernel
theorem dX8_sugar_31 : decode cX8_sugar 31 = .ok (.aload_n 3, 1) := by decide +kernel
theorem dX8_sugar_32 : decode cX8_sugar 32 = .ok (.iload_n 2, 1) := by decide +kernel
theorem dX8_sugar_33 : decode cX8_sugar 33 = .ok (.putfield 117, 3) := by decide +kernel
theorem dX8_sugar_36 : decode cX8_sugar 36 = .ok (.iload 4, 2) := by decide +kernel
theorem dX8_sugar_38 : decode cX8_sugar 38 = .ok (.ireturn, 1) := by decide +kernel
theorem dX8_spoon_0 : decode cX8_spoon 0 = .ok (.aload_n 0, 1) := by decide +kernel
theorem dX8_spoon_1 : decode cX8_spoon 1 = .ok (.getfield 12, 3) := by decide +kernel
theorem dX8_spoon_4 : decode cX8_spoon 4 = .ok (.iload_n 1, 1) := by decide +kernel
theorem dX8_spoon_5 : decode cX8_spoon 5 = .ok (.invokevirtual 90, 3) := by decide +kernel
theorem dX8_spoon_8 : decode cX8_spoon 8 = .ok (.astore_n 3, 1) := by decide +kernel
theorem dX8_spoon_9 : decode cX8_spoon 9 = .ok (.aload_n 3, 1) := by decide +kernel
theorem dX8_spoon_10 : decode cX8_spoon 10 = .ok (.ifnull 10, 3) := by decide +kernel
theorem dX8_spoon_13 : decode cX8_spoon 13 = .ok (.iload_n 2, 1) := by decide +kernel
theorem dX8_spoon_14 : decode cX8_spoon 14 = .ok (.invokestatic 102, 3) := by decide +kernel
theorem dX8_spoon_17 : decode cX8_spoon 17 = .ok (.ifCond .ne 7, 3) := by decide +kernel
theorem dX8_spoon_20 : decode cX8_spoon 20 = .ok (.sipush (-10001), 3) := by decide +kernel
theorem dX8_spoon_23 : decode cX8_spoon 23 = .ok (.ireturn, 1) := by decide +kernel
theorem dX8_spoon_24 : decode cX8_spoon 24 = .ok (.aload_n 0, 1) := by decide +kernel
theorem dX8_spoon_25 : decode cX8_spoon 25 = .ok (.aload_n 3, 1) := by decide +kernel
theorem dX8_spoon_26 : decode cX8_spoon 26 = .ok (.iload_n 2, 1) := by decide +kernel
theorem dX8_spoon_27 : decode cX8_spoon 27 = .ok (.invokevirtual 108, 3) := by decide +kernel
theorem dX8_spoon_30 : decode cX8_spoon 30 = .ok (.istore 4, 2) := by decide +kernel
theorem dX8_spoon_32 : decode cX8_spoon 32 = .ok (.aload_n 3, 1) := by decide +kernel
theorem dX8_spoon_33 : decode cX8_spoon 33 = .ok (.invokevirtual 120, 3) := by decide +kernel
theorem dX8_spoon_36 : decode cX8_spoon 36 = .ok (.iload 4, 2) := by decide +kernel
theorem dX8_spoon_38 : decode cX8_spoon 38 = .ok (.ireturn, 1) := by decide +kernel
theorem dX8_row_0 : decode cX8_row 0 = .ok (.aload_n 0, 1) := by decide +kernel
theorem dX8_row_1 : decode cX8_row 1 = .ok (.getfield 12, 3) := by decide +kernel
theorem dX8_row_4 : decode cX8_row 4 = .ok (.iload_n 1, 1) := by decide +kernel
theorem dX8_row_5 : decode cX8_row 5 = .ok (.invokevirtual 90, 3) := by decide +kernel
theorem dX8_row_8 : decode cX8_row 8 = .ok (.astore 4, 2) := by decide +kernel
theorem dX8_row_10 : decode cX8_row 10 = .ok (.aload 4, 2) := by decide +kernel
theorem dX8_row_12 : decode cX8_row 12 = .ok (.ifnull 12, 3) := by decide +kernel
theorem dX8_row_15 : decode cX8_row 15 = .ok (.iload_n 2, 1) := by decide +kernel
theorem dX8_row_16 : decode cX8_row 16 = .ok (.ifCond .lt 8, 3) := by decide +kernel
theorem dX8_row_19 : decode cX8_row 19 = .ok (.iload_n 2, 1) := by decide +kernel
theorem dX8_row_20 : decode cX8_row 20 = .ok (.iconst 4, 1) := by decide +kernel
theorem dX8_row_21 : decode cX8_row 21 = .ok (.if_icmp .lt 5, 3) := by decide +kernel
theorem dX8_row_24 : decode cX8_row 24 = .ok (.iconst (-1), 1) := by decide +kernel
theorem dX8_row_25 : decode cX8_row 25 = .ok (.ireturn, 1) := by decide +kernel
theorem dX8_row_26 : decode cX8_row 26 = .ok (.iload_n 3, 1) := by decide +kernel
theorem dX8_row_27 : decode cX8_row 27 = .ok (.invokestatic 82, 3) := by decide +kernel
theorem dX8_row_30 : decode cX8_row 30 = .ok (.ifCond .ne 6, 3) := by decide +kernel
theorem dX8_row_33 : decode cX8_row 33 = .ok (.bipush (-2), 2) := by decide +kernel
theorem dX8_row_35 : decode cX8_row 35 = .ok (.ireturn, 1) := by decide +kernel
theorem dX8_row_36 : decode cX8_row 36 = .ok (.aload 4, 2) := by decide +kernel
theorem dX8_row_38 : decode cX8_row 38 = .ok (.getfield 123, 3) := by decide +kernel
theorem dX8_row_41 : decode cX8_row 41 = .ok (.bipush 6, 2) := by decide +kernel
theorem dX8_row_43 : decode cX8_row 43 = .ok (.if_icmp .eq 6, 3) := by decide +kernel
theorem dX8_row_46 : decode cX8_row 46 = .ok (.bipush (-3), 2) := by decide +kernel
theorem dX8_row_48 : decode cX8_row 48 = .ok (.ireturn, 1) := by decide +kernel
theorem dX8_row_49 : decode cX8_row 49 = .ok (.aload 4, 2) := by decide +kernel
theorem dX8_row_51 : decode cX8_row 51 = .ok (.getfield 126, 3) := by decide +kernel
theorem dX8_row_54 : decode cX8_row 54 = .ok (.iload_n 2, 1) := by decide +kernel
theorem dX8_row_55 : decode cX8_row 55 = .ok (.iaload, 1) := by decide +kernel
theorem dX8_row_56 : decode cX8_row 56 = .ok (.istore 5, 2) := by decide +kernel
theorem dX8_row_58 : decode cX8_row 58 = .ok (.aload 4, 2) := by decide +kernel
theorem dX8_row_60 : decode cX8_row 60 = .ok (.getfield 126, 3) := by decide +kernel
theorem dX8_row_63 : decode cX8_row 63 = .ok (.iload_n 2, 1) := by decide +kernel
theorem dX8_row_64 : decode cX8_row 64 = .ok (.iload_n 3, 1) := by decide +kernel
theorem dX8_row_65 : decode cX8_row 65 = .ok (.iastore, 1) := by decide +kernel
theorem dX8_row_66 : decode cX8_row 66 = .ok (.iload 5, 2) := by decide +kernel
theorem dX8_row_68 : decode cX8_row 68 = .ok (.ireturn, 1) := by decide +kernel
theorem dX8_feed_0 : decode cX8_feed 0 = .ok (.iload_n 1, 1) := by decide +kernel
theorem dX8_feed_1 : decode cX8_feed 1 = .ok (.ifCond .lt 9, 3) := by decide +kernel
theorem dX8_feed_4 : decode cX8_feed 4 = .ok (.iload_n 1, 1) := by decide +kernel
theorem dX8_feed_5 : decode cX8_feed 5 = .ok (.bipush 127, 2) := by decide +kernel
theorem dX8_feed_7 : decode cX8_feed 7 = .ok (.if_icmp .le 6, 3) := by decide +kernel
theorem dX8_feed_10 : decode cX8_feed 10 = .ok (.bipush (-2), 2) := by decide +kernel
theorem dX8_feed_12 : decode cX8_feed 12 = .ok (.ireturn, 1) := by decide +kernel
theorem dX8_feed_13 : decode cX8_feed 13 = .ok (.aload_n 0, 1) := by decide +kernel
theorem dX8_feed_14 : decode cX8_feed 14 = .ok (.getfield 38, 3) := by decide +kernel
theorem dX8_feed_17 : decode cX8_feed 17 = .ok (.iload_n 1, 1) := by decide +kernel
theorem dX8_feed_18 : decode cX8_feed 18 = .ok (.invokevirtual 129, 3) := by decide +kernel
theorem dX8_feed_21 : decode cX8_feed 21 = .ok (.ireturn, 1) := by decide +kernel
theorem dX8_cellar_0 : decode cX8_cellar 0 = .ok (.aload_n 0, 1) := by decide +kernel
theorem dX8_cellar_1 : decode cX8_cellar 1 = .ok (.getfield 53, 3) := by decide +kernel
theorem dX8_cellar_4 : decode cX8_cellar 4 = .ok (.bipush 6, 2) := by decide +kernel
theorem dX8_cellar_6 : decode cX8_cellar 6 = .ok (.if_icmp .lt 6, 3) := by decide +kernel
theorem dX8_cellar_9 : decode cX8_cellar 9 = .ok (.bipush (-4), 2) := by decide +kernel
theorem dX8_cellar_11 : decode cX8_cellar 11 = .ok (.ireturn, 1) := by decide +kernel
theorem dX8_cellar_12 : decode cX8_cellar 12 = .ok (.aload_n 0, 1) := by decide +kernel
theorem dX8_cellar_13 : decode cX8_cellar 13 = .ok (.getfield 38, 3) := by decide +kernel
theorem dX8_cellar_16 : decode cX8_cellar 16 = .ok (.aload_n 0, 1) := by decide +kernel
theorem dX8_cellar_17 : decode cX8_cellar 17 = .ok (.getfield 44, 3) := by decide +kernel
theorem dX8_cellar_20 : decode cX8_cellar 20 = .ok (.aload_n 0, 1) := by decide +kernel
theorem dX8_cellar_21 : decode cX8_cellar 21 = .ok (.getfield 53, 3) := by decide +kernel
theorem dX8_cellar_24 : decode cX8_cellar 24 = .ok (.aaload, 1) := by decide +kernel
theorem dX8_cellar_25 : decode cX8_cellar 25 = .ok (.invokevirtual 133, 3) := by decide +kernel
theorem dX8_cellar_28 : decode cX8_cellar 28 = .ok (.istore_n 1, 1) := by decide +kernel
theorem dX8_cellar_29 : decode cX8_cellar 29 = .ok (.iload_n 1, 1) := by decide +kernel
theorem dX8_cellar_30 : decode cX8_cellar 30 = .ok (.ifCond .lt 8, 3) := by decide +kernel
theorem dX8_cellar_33 : decode cX8_cellar 33 = .ok (.bipush (-10), 2) := by decide +kernel
theorem dX8_cellar_35 : decode cX8_cellar 35 = .ok (.iload_n 1, 1) := by decide +kernel
theorem dX8_cellar_36 : decode cX8_cellar 36 = .ok (.isub, 1) := by decide +kernel
theorem dX8_cellar_37 : decode cX8_cellar 37 = .ok (.ireturn, 1) := by decide +kernel
theorem dX8_cellar_38 : decode cX8_cellar 38 = .ok (.aload_n 0, 1) := by decide +kernel
theorem dX8_cellar_39 : decode cX8_cellar 39 = .ok (.getfield 12, 3) := by decide +kernel
theorem dX8_cellar_42 : decode cX8_cellar 42 = .ok (.aload_n 0, 1) := by decide +kernel
theorem dX8_cellar_43 : decode cX8_cellar 43 = .ok (.getfield 53, 3) := by decide +kernel
theorem dX8_cellar_46 : decode cX8_cellar 46 = .ok (.putfield 137, 3) := by decide +kernel
theorem dX8_cellar_49 : decode cX8_cellar 49 = .ok (.aload_n 0, 1) := by decide +kernel
theorem dX8_cellar_50 : decode cX8_cellar 50 = .ok (.dup, 1) := by decide +kernel
theorem dX8_cellar_51 : decode cX8_cellar 51 = .ok (.getfield 53, 3) := by decide +kernel
theorem dX8_cellar_54 : decode cX8_cellar 54 = .ok (.iconst 1, 1) := by decide +kernel
theorem dX8_cellar_55 : decode cX8_cellar 55 = .ok (.iadd, 1) := by decide +kernel
theorem dX8_cellar_56 : decode cX8_cellar 56 = .ok (.putfield 53, 3) := by decide +kernel
theorem dX8_cellar_59 : decode cX8_cellar 59 = .ok (.aload_n 0, 1) := by decide +kernel
theorem dX8_cellar_60 : decode cX8_cellar 60 = .ok (.getfield 12, 3) := by decide +kernel
theorem dX8_cellar_63 : decode cX8_cellar 63 = .ok (.getfield 137, 3) := by decide +kernel
theorem dX8_cellar_66 : decode cX8_cellar 66 = .ok (.ireturn, 1) := by decide +kernel
theorem dX8_told_0 : decode cX8_told 0 = .ok (.iload_n 1, 1) := by decide +kernel
theorem dX8_told_1 : decode cX8_told 1 = .ok (.bipush 10, 2) := by decide +kernel
theorem dX8_told_3 : decode cX8_told 3 = .ok (.if_icmp .lt 18, 3) := by decide +kernel
theorem dX8_told_6 : decode cX8_told 6 = .ok (.iload_n 1, 1) := by decide +kernel
theorem dX8_told_7 : decode cX8_told 7 = .ok (.bipush 18, 2) := by decide +kernel
theorem dX8_told_9 : decode cX8_told 9 = .ok (.if_icmp .ge 12, 3) := by decide +kernel
theorem dX8_told_12 : decode cX8_told 12 = .ok (.aload_n 0, 1) := by decide +kernel
theorem dX8_told_13 : decode cX8_told 13 = .ok (.iload_n 1, 1) := by decide +kernel
theorem dX8_told_14 : decode cX8_told 14 = .ok (.bipush 10, 2) := by decide +kernel
theorem dX8_told_16 : decode cX8_told 16 = .ok (.isub, 1) := by decide +kernel
theorem dX8_told_17 : decode cX8_told 17 = .ok (.invokevirtual 140, 3) := by decide +kernel
theorem dX8_told_20 : decode cX8_told 20 = .ok (.ireturn, 1) := by decide +kernel
theorem dX8_told_21 : decode cX8_told 21 = .ok (.iload_n 1, 1) := by decide +kernel
theorem dX8_told_22 : decode cX8_told 22 = .ok (.tableswitch 50 0 2 #[26, 34, 42], 26) := by decide +kernel
theorem dX8_told_48 : decode cX8_told 48 = .ok (.aload_n 0, 1) := by decide +kernel
theorem dX8_told_49 : decode cX8_told 49 = .ok (.getfield 12, 3) := by decide +kernel
theorem dX8_told_52 : decode cX8_told 52 = .ok (.getfield 143, 3) := by decide +kernel
theorem dX8_told_55 : decode cX8_told 55 = .ok (.ireturn, 1) := by decide +kernel
theorem dX8_told_56 : decode cX8_told 56 = .ok (.aload_n 0, 1) := by decide +kernel
theorem dX8_told_57 : decode cX8_told 57 = .ok (.invokevirtual 146, 3) := by decide +kernel
theorem dX8_told_60 : decode cX8_told 60 = .ok (.getfield 149, 3) := by decide +kernel
theorem dX8_told_63 : decode cX8_told 63 = .ok (.ireturn, 1) := by decide +kernel
theorem dX8_told_64 : decode cX8_told 64 = .ok (.aload_n 0, 1) := by decide +kernel
theorem dX8_told_65 : decode cX8_told 65 = .ok (.getfield 12, 3) := by decide +kernel
theorem dX8_told_68 : decode cX8_told 68 = .ok (.getfield 114, 3) := by decide +kernel
theorem dX8_told_71 : decode cX8_told 71 = .ok (.ireturn, 1) := by decide +kernel
theorem dX8_told_72 : decode cX8_told 72 = .ok (.aload_n 0, 1) := by decide +kernel
theorem dX8_told_73 : decode cX8_told 73 = .ok (.iload_n 1, 1) := by decide +kernel
theorem dX8_told_74 : decode cX8_told 74 = .ok (.invokevirtual 152, 3) := by decide +kernel
theorem dX8_told_77 : decode cX8_told 77 = .ok (.ireturn, 1) := by decide +kernel
theorem dX8_toldOfFits_0 : decode cX8_toldOfFits 0 = .ok (.aload_n 0, 1) := by decide +kernel
theorem dX8_toldOfFits_1 : decode cX8_toldOfFits 1 = .ok (.invokevirtual 155, 3) := by decide +kernel
theorem dX8_toldOfFits_4 : decode cX8_toldOfFits 4 = .ok (.iload_n 1, 1) := by decide +kernel
theorem dX8_toldOfFits_5 : decode cX8_toldOfFits 5 = .ok (.tableswitch 127 3 7 #[35, 43, 66, 88, 122], 35) := by decide +kernel
theorem dX8_toldOfFits_40 : decode cX8_toldOfFits 40 = .ok (.aload_n 0, 1) := by decide +kernel
theorem dX8_toldOfFits_41 : decode cX8_toldOfFits 41 = .ok (.getfield 60, 3) := by decide +kernel
theorem dX8_toldOfFits_44 : decode cX8_toldOfFits 44 = .ok (.invokevirtual 158, 3) := by decide +kernel
theorem dX8_toldOfFits_47 : decode cX8_toldOfFits 47 = .ok (.ireturn, 1) := by decide +kernel
theorem dX8_toldOfFits_48 : decode cX8_toldOfFits 48 = .ok (.aload_n 0, 1) := by decide +kernel
theorem dX8_toldOfFits_49 : decode cX8_toldOfFits 49 = .ok (.getfield 60, 3) := by decide +kernel
theorem dX8_toldOfFits_52 : decode cX8_toldOfFits 52 = .ok (.getfield 162, 3) := by decide +kernel
theorem dX8_toldOfFits_55 : decode cX8_toldOfFits 55 = .ok (.ifCond .eq 13, 3) := by decide +kernel
theorem dX8_toldOfFits_58 : decode cX8_toldOfFits 58 = .ok (.aload_n 0, 1) := by decide +kernel
theorem dX8_toldOfFits_59 : decode cX8_toldOfFits 59 = .ok (.getfield 60, 3) := by decide +kernel
theorem dX8_toldOfFits_62 : decode cX8_toldOfFits 62 = .ok (.getfield 165, 3) := by decide +kernel
theorem dX8_toldOfFits_65 : decode cX8_toldOfFits 65 = .ok (.goto 5, 3) := by decide +kernel
theorem dX8_toldOfFits_68 : decode cX8_toldOfFits 68 = .ok (.bipush (-5), 2) := by decide +kernel
theorem dX8_toldOfFits_70 : decode cX8_toldOfFits 70 = .ok (.ireturn, 1) := by decide +kernel
theorem dX8_toldOfFits_71 : decode cX8_toldOfFits 71 = .ok (.aload_n 0, 1) := by decide +kernel
theorem dX8_toldOfFits_72 : decode cX8_toldOfFits 72 = .ok (.getfield 60, 3) := by decide +kernel
theorem dX8_toldOfFits_75 : decode cX8_toldOfFits 75 = .ok (.getfield 162, 3) := by decide +kernel
theorem dX8_toldOfFits_78 : decode cX8_toldOfFits 78 = .ok (.ifCond .eq 13, 3) := by decide +kernel
theorem dX8_toldOfFits_81 : decode cX8_toldOfFits 81 = .ok (.aload_n 0, 1) := by decide +kernel
theorem dX8_toldOfFits_82 : decode cX8_toldOfFits 82 = .ok (.getfield 60, 3) := by decide +kernel
theorem dX8_toldOfFits_85 : decode cX8_toldOfFits 85 = .ok (.getfield 165, 3) := by decide +kernel
theorem dX8_toldOfFits_88 : decode cX8_toldOfFits 88 = .ok (.goto 4, 3) := by decide +kernel
theorem dX8_toldOfFits_91 : decode cX8_toldOfFits 91 = .ok (.iconst 0, 1) := by decide +kernel
theorem dX8_toldOfFits_92 : decode cX8_toldOfFits 92 = .ok (.ireturn, 1) := by decide +kernel
theorem dX8_toldOfFits_93 : decode cX8_toldOfFits 93 = .ok (.aload_n 0, 1) := by decide +kernel
theorem dX8_toldOfFits_94 : decode cX8_toldOfFits 94 = .ok (.getfield 60, 3) := by decide +kernel
theorem dX8_toldOfFits_97 : decode cX8_toldOfFits 97 = .ok (.getfield 162, 3) := by decide +kernel
theorem dX8_toldOfFits_100 : decode cX8_toldOfFits 100 = .ok (.ifCond .eq 23, 3) := by decide +kernel
theorem dX8_toldOfFits_103 : decode cX8_toldOfFits 103 = .ok (.aload_n 0, 1) := by decide +kernel
theorem dX8_toldOfFits_104 : decode cX8_toldOfFits 104 = .ok (.getfield 60, 3) := by decide +kernel
theorem dX8_toldOfFits_107 : decode cX8_toldOfFits 107 = .ok (.getfield 168, 3) := by decide +kernel
theorem dX8_toldOfFits_110 : decode cX8_toldOfFits 110 = .ok (.aload_n 0, 1) := by decide +kernel
theorem dX8_toldOfFits_111 : decode cX8_toldOfFits 111 = .ok (.getfield 60, 3) := by decide +kernel
theorem dX8_toldOfFits_114 : decode cX8_toldOfFits 114 = .ok (.getfield 165, 3) := by decide +kernel
theorem dX8_toldOfFits_117 : decode cX8_toldOfFits 117 = .ok (.iconst (-1), 1) := by decide +kernel
theorem dX8_toldOfFits_118 : decode cX8_toldOfFits 118 = .ok (.ixor, 1) := by decide +kernel
theorem dX8_toldOfFits_119 : decode cX8_toldOfFits 119 = .ok (.iand, 1) := by decide +kernel
theorem dX8_toldOfFits_120 : decode cX8_toldOfFits 120 = .ok (.goto 6, 3) := by decide +kernel
theorem dX8_toldOfFits_123 : decode cX8_toldOfFits 123 = .ok (.sipush 255, 3) := by decide +kernel
theorem dX8_toldOfFits_126 : decode cX8_toldOfFits 126 = .ok (.ireturn, 1) := by decide +kernel
theorem dX8_toldOfFits_127 : decode cX8_toldOfFits 127 = .ok (.aload_n 0, 1) := by decide +kernel
theorem dX8_toldOfFits_128 : decode cX8_toldOfFits 128 = .ok (.invokevirtual 171, 3) := by decide +kernel
theorem dX8_toldOfFits_131 : decode cX8_toldOfFits 131 = .ok (.ireturn, 1) := by decide +kernel
theorem dX8_toldOfFits_132 : decode cX8_toldOfFits 132 = .ok (.sipush (-10001), 3) := by decide +kernel
theorem dX8_toldOfFits_135 : decode cX8_toldOfFits 135 = .ok (.ireturn, 1) := by decide +kernel
theorem dX8_trait_0 : decode cX8_trait 0 = .ok (.iload_n 1, 1) := by decide +kernel
theorem dX8_trait_1 : decode cX8_trait 1 = .ok (.tableswitch 60 0 4 #[35, 40, 45, 50, 55], 35) := by decide +kernel
theorem dX8_trait_36 : decode cX8_trait 36 = .ok (.aload_n 0, 1) := by decide +kernel
theorem dX8_trait_37 : decode cX8_trait 37 = .ok (.getfield 123, 3) := by decide +kernel
theorem dX8_trait_40 : decode cX8_trait 40 = .ok (.ireturn, 1) := by decide +kernel
theorem dX8_trait_41 : decode cX8_trait 41 = .ok (.aload_n 0, 1) := by decide +kernel
theorem dX8_trait_42 : decode cX8_trait 42 = .ok (.getfield 174, 3) := by decide +kernel
theorem dX8_trait_45 : decode cX8_trait 45 = .ok (.ireturn, 1) := by decide +kernel
theorem dX8_trait_46 : decode cX8_trait 46 = .ok (.aload_n 0, 1) := by decide +kernel
theorem dX8_trait_47 : decode cX8_trait 47 = .ok (.getfield 117, 3) := by decide +kernel
theorem dX8_trait_50 : decode cX8_trait 50 = .ok (.ireturn, 1) := by decide +kernel
theorem dX8_trait_51 : decode cX8_trait 51 = .ok (.aload_n 0, 1) := by decide +kernel
theorem dX8_trait_52 : decode cX8_trait 52 = .ok (.getfield 177, 3) := by decide +kernel
theorem dX8_trait_55 : decode cX8_trait 55 = .ok (.ireturn, 1) := by decide +kernel
theorem dX8_trait_56 : decode cX8_trait 56 = .ok (.aload_n 0, 1) := by decide +kernel
theorem dX8_trait_57 : decode cX8_trait 57 = .ok (.getfield 180, 3) := by decide +kernel
theorem dX8_trait_60 : decode cX8_trait 60 = .ok (.ireturn, 1) := by decide +kernel
theorem dX8_trait_61 : decode cX8_trait 61 = .ok (.sipush (-10001), 3) := by decide +kernel
theorem dX8_trait_64 : decode cX8_trait 64 = .ok (.ireturn, 1) := by decide +kernel
theorem dX8_isDigit_0 : decode cX8_isDigit 0 = .ok (.iload_n 0, 1) := by decide +kernel
theorem dX8_isDigit_1 : decode cX8_isDigit 1 = .ok (.ifCond .lt 13, 3) := by decide +kernel
theorem dX8_isDigit_4 : decode cX8_isDigit 4 = .ok (.iload_n 0, 1) := by decide +kernel
theorem dX8_isDigit_5 : decode cX8_isDigit 5 = .ok (.bipush 9, 2) := by decide +kernel
theorem dX8_isDigit_7 : decode cX8_isDigit 7 = .ok (.if_icmp .gt 7, 3) := by decide +kernel
theorem dX8_isDigit_10 : decode cX8_isDigit 10 = .ok (.iconst 1, 1) := by decide +kernel
theorem dX8_isDigit_11 : decode cX8_isDigit 11 = .ok (.goto 4, 3) := by decide +kernel
theorem dX8_isDigit_14 : decode cX8_isDigit 14 = .ok (.iconst 0, 1) := by decide +kernel
theorem dX8_isDigit_15 : decode cX8_isDigit 15 = .ok (.ireturn, 1) := by decide +kernel
theorem dX8_isFact_0 : decode cX8_isFact 0 = .ok (.iload_n 0, 1) := by decide +kernel
theorem dX8_isFact_1 : decode cX8_isFact 1 = .ok (.ifCond .lt 13, 3) := by decide +kernel
theorem dX8_isFact_4 : decode cX8_isFact 4 = .ok (.iload_n 0, 1) := by decide +kernel
theorem dX8_isFact_5 : decode cX8_isFact 5 = .ok (.bipush 8, 2) := by decide +kernel
theorem dX8_isFact_7 : decode cX8_isFact 7 = .ok (.if_icmp .ge 7, 3) := by decide +kernel
theorem dX8_isFact_10 : decode cX8_isFact 10 = .ok (.iconst 1, 1) := by decide +kernel
theorem dX8_isFact_11 : decode cX8_isFact 11 = .ok (.goto 4, 3) := by decide +kernel
theorem dX8_isFact_14 : decode cX8_isFact 14 = .ok (.iconst 0, 1) := by decide +kernel
theorem dX8_isFact_15 : decode cX8_isFact 15 = .ok (.ireturn, 1) := by decide +kernel
theorem dX8_isIn_0 : decode cX8_isIn 0 = .ok (.iload_n 0, 1) := by decide +kernel
theorem dX8_isIn_1 : decode cX8_isIn 1 = .ok (.iload_n 1, 1) := by decide +kernel
theorem dX8_isIn_2 : decode cX8_isIn 2 = .ok (.ishr, 1) := by decide +kernel
theorem dX8_isIn_3 : decode cX8_isIn 3 = .ok (.iconst 1, 1) := by decide +kernel
theorem dX8_isIn_4 : decode cX8_isIn 4 = .ok (.iand, 1) := by decide +kernel
theorem dX8_isIn_5 : decode cX8_isIn 5 = .ok (.iconst 1, 1) := by decide +kernel
theorem dX8_isIn_6 : decode cX8_isIn 6 = .ok (.if_icmp .ne 7, 3) := by decide +kernel
theorem dX8_isIn_9 : decode cX8_isIn 9 = .ok (.iconst 1, 1) := by decide +kernel
theorem dX8_isIn_10 : decode cX8_isIn 10 = .ok (.goto 4, 3) := by decide +kernel
theorem dX8_isIn_13 : decode cX8_isIn 13 = .ok (.iconst 0, 1) := by decide +kernel
theorem dX8_isIn_14 : decode cX8_isIn 14 = .ok (.ireturn, 1) := by decide +kernel
theorem dX8_holding_0 : decode cX8_holding 0 = .ok (.aload_n 0, 1) := by decide +kernel
theorem dX8_holding_1 : decode cX8_holding 1 = .ok (.getfield 12, 3) := by decide +kernel
theorem dX8_holding_4 : decode cX8_holding 4 = .ok (.getfield 137, 3) := by decide +kernel
theorem dX8_holding_7 : decode cX8_holding 7 = .ok (.istore_n 1, 1) := by decide +kernel
theorem dX8_holding_8 : decode cX8_holding 8 = .ok (.iload_n 1, 1) := by decide +kernel
theorem dX8_holding_9 : decode cX8_holding 9 = .ok (.ifCond .lt 20, 3) := by decide +kernel
theorem dX8_holding_12 : decode cX8_holding 12 = .ok (.iload_n 1, 1) := by decide +kernel
theorem dX8_holding_13 : decode cX8_holding 13 = .ok (.aload_n 0, 1) := by decide +kernel
theorem dX8_holding_14 : decode cX8_holding 14 = .ok (.getfield 53, 3) := by decide +kernel
theorem dX8_holding_17 : decode cX8_holding 17 = .ok (.if_icmp .ge 12, 3) := by decide +kernel
theorem dX8_holding_20 : decode cX8_holding 20 = .ok (.aload_n 0, 1) := by decide +kernel
theorem dX8_holding_21 : decode cX8_holding 21 = .ok (.getfield 44, 3) := by decide +kernel
theorem dX8_holding_24 : decode cX8_holding 24 = .ok (.iload_n 1, 1) := by decide +kernel
theorem dX8_holding_25 : decode cX8_holding 25 = .ok (.aaload, 1) := by decide +kernel
theorem dX8_holding_26 : decode cX8_holding 26 = .ok (.goto 7, 3) := by decide +kernel
theorem dX8_holding_29 : decode cX8_holding 29 = .ok (.aload_n 0, 1) := by decide +kernel
theorem dX8_holding_30 : decode cX8_holding 30 = .ok (.getfield 49, 3) := by decide +kernel
theorem dX8_holding_33 : decode cX8_holding 33 = .ok (.areturn, 1) := by decide +kernel
theorem dX8_clearOf_0 : decode cX8_clearOf 0 = .ok (.aload_n 1, 1) := by decide +kernel
theorem dX8_clearOf_1 : decode cX8_clearOf 1 = .ok (.aload_n 0, 1) := by decide +kernel
theorem dX8_clearOf_2 : decode cX8_clearOf 2 = .ok (.invokevirtual 146, 3) := by decide +kernel
theorem dX8_clearOf_5 : decode cX8_clearOf 5 = .ok (.aload_n 1, 1) := by decide +kernel
theorem dX8_clearOf_6 : decode cX8_clearOf 6 = .ok (.iload_n 2, 1) := by decide +kernel
theorem dX8_clearOf_7 : decode cX8_clearOf 7 = .ok (.invokevirtual 183, 3) := by decide +kernel
theorem dX8_clearOf_10 : decode cX8_clearOf 10 = .ok (.iload_n 2, 1) := by decide +kernel
theorem dX8_clearOf_11 : decode cX8_clearOf 11 = .ok (.invokevirtual 186, 3) := by decide +kernel
theorem dX8_clearOf_14 : decode cX8_clearOf 14 = .ok (.ireturn, 1) := by decide +kernel
theorem dX8_voiceOf_0 : decode cX8_voiceOf 0 = .ok (.iload_n 0, 1) := by decide +kernel
theorem dX8_voiceOf_1 : decode cX8_voiceOf 1 = .ok (.iconst 4, 1) := by decide +kernel
theorem dX8_voiceOf_2 : decode cX8_voiceOf 2 = .ok (.if_icmp .lt 5, 3) := by decide +kernel
theorem dX8_voiceOf_5 : decode cX8_voiceOf 5 = .ok (.iconst 1, 1) := by decide +kernel
theorem dX8_voiceOf_6 : decode cX8_voiceOf 6 = .ok (.ireturn, 1) := by decide +kernel
theorem dX8_voiceOf_7 : decode cX8_voiceOf 7 = .ok (.iload_n 0, 1) := by decide +kernel
theorem dX8_voiceOf_8 : decode cX8_voiceOf 8 = .ok (.ifCond .ge 7, 3) := by decide +kernel
theorem dX8_voiceOf_11 : decode cX8_voiceOf 11 = .ok (.iconst (-1), 1) := by decide +kernel
theorem dX8_voiceOf_12 : decode cX8_voiceOf 12 = .ok (.goto 4, 3) := by decide +kernel
theorem dX8_voiceOf_15 : decode cX8_voiceOf 15 = .ok (.iconst 0, 1) := by decide +kernel
theorem dX8_voiceOf_16 : decode cX8_voiceOf 16 = .ok (.ireturn, 1) := by decide +kernel
theorem dX8_saidBy_0 : decode cX8_saidBy 0 = .ok (.iload_n 1, 1) := by decide +kernel
theorem dX8_saidBy_1 : decode cX8_saidBy 1 = .ok (.invokestatic 190, 3) := by decide +kernel
theorem dX8_saidBy_4 : decode cX8_saidBy 4 = .ok (.istore_n 3, 1) := by decide +kernel
theorem dX8_saidBy_5 : decode cX8_saidBy 5 = .ok (.iload_n 3, 1) := by decide +kernel
theorem dX8_saidBy_6 : decode cX8_saidBy 6 = .ok (.ifCond .ne 6, 3) := by decide +kernel
theorem dX8_saidBy_9 : decode cX8_saidBy 9 = .ok (.bipush (-5), 2) := by decide +kernel
theorem dX8_saidBy_11 : decode cX8_saidBy 11 = .ok (.ireturn, 1) := by decide +kernel
theorem dX8_saidBy_12 : decode cX8_saidBy 12 = .ok (.aload_n 0, 1) := by decide +kernel
theorem dX8_saidBy_13 : decode cX8_saidBy 13 = .ok (.getfield 12, 3) := by decide +kernel
theorem dX8_saidBy_16 : decode cX8_saidBy 16 = .ok (.getfield 114, 3) := by decide +kernel
theorem dX8_saidBy_19 : decode cX8_saidBy 19 = .ok (.iload_n 2, 1) := by decide +kernel
theorem dX8_saidBy_20 : decode cX8_saidBy 20 = .ok (.invokestatic 193, 3) := by decide +kernel
theorem dX8_saidBy_23 : decode cX8_saidBy 23 = .ok (.iload_n 3, 1) := by decide +kernel
theorem dX8_saidBy_24 : decode cX8_saidBy 24 = .ok (.ifCond .le 7, 3) := by decide +kernel
theorem dX8_saidBy_27 : decode cX8_saidBy 27 = .ok (.iconst 1, 1) := by decide +kernel
theorem dX8_saidBy_28 : decode cX8_saidBy 28 = .ok (.goto 4, 3) := by decide +kernel
theorem dX8_saidBy_31 : decode cX8_saidBy 31 = .ok (.iconst 0, 1) := by decide +kernel
theorem dX8_saidBy_32 : decode cX8_saidBy 32 = .ok (.if_icmp .ne 7, 3) := by decide +kernel
theorem dX8_saidBy_35 : decode cX8_saidBy 35 = .ok (.iconst 1, 1) := by decide +kernel
theorem dX8_saidBy_36 : decode cX8_saidBy 36 = .ok (.goto 4, 3) := by decide +kernel
theorem dX8_saidBy_39 : decode cX8_saidBy 39 = .ok (.iconst 0, 1) := by decide +kernel
theorem dX8_saidBy_40 : decode cX8_saidBy 40 = .ok (.ireturn, 1) := by decide +kernel
theorem dX8_says_0 : decode cX8_says 0 = .ok (.aload_n 0, 1) := by decide +kernel
theorem dX8_says_1 : decode cX8_says 1 = .ok (.aload_n 0, 1) := by decide +kernel
theorem dX8_says_2 : decode cX8_says 2 = .ok (.aload_n 1, 1) := by decide +kernel
theorem dX8_says_3 : decode cX8_says 3 = .ok (.iload_n 2, 1) := by decide +kernel
theorem dX8_says_4 : decode cX8_says 4 = .ok (.invokevirtual 105, 3) := by decide +kernel
theorem dX8_says_7 : decode cX8_says 7 = .ok (.iload_n 2, 1) := by decide +kernel
theorem dX8_says_8 : decode cX8_says 8 = .ok (.invokevirtual 197, 3) := by decide +kernel
theorem dX8_says_11 : decode cX8_says 11 = .ok (.ireturn, 1) := by decide +kernel
theorem dX8_when_0 : decode cX8_when 0 = .ok (.aload_n 0, 1) := by decide +kernel
theorem dX8_when_1 : decode cX8_when 1 = .ok (.invokevirtual 146, 3) := by decide +kernel
theorem dX8_when_4 : decode cX8_when 4 = .ok (.getfield 149, 3) := by decide +kernel
theorem dX8_when_7 : decode cX8_when 7 = .ok (.istore_n 3, 1) := by decide +kernel
theorem dX8_when_8 : decode cX8_when 8 = .ok (.aload_n 0, 1) := by decide +kernel
theorem dX8_when_9 : decode cX8_when 9 = .ok (.getfield 27, 3) := by decide +kernel
theorem dX8_when_12 : decode cX8_when 12 = .ok (.aload_n 1, 1) := by decide +kernel
theorem dX8_when_13 : decode cX8_when 13 = .ok (.invokevirtual 200, 3) := by decide +kernel
theorem dX8_when_16 : decode cX8_when 16 = .ok (.iconst 0, 1) := by decide +kernel
theorem dX8_when_17 : decode cX8_when 17 = .ok (.istore 4, 2) := by decide +kernel
theorem dX8_when_19 : decode cX8_when 19 = .ok (.iload 4, 2) := by decide +kernel
theorem dX8_when_21 : decode cX8_when 21 = .ok (.bipush 60, 2) := by decide +kernel
theorem dX8_when_23 : decode cX8_when 23 = .ok (.if_icmp .gt 33, 3) := by decide +kernel
theorem dX8_when_26 : decode cX8_when 26 = .ok (.aload_n 0, 1) := by decide +kernel
theorem dX8_when_27 : decode cX8_when 27 = .ok (.aload_n 0, 1) := by decide +kernel
theorem dX8_when_28 : decode cX8_when 28 = .ok (.getfield 27, 3) := by decide +kernel
theorem dX8_when_31 : decode cX8_when 31 = .ok (.iload_n 2, 1) := by decide +kernel
theorem dX8_when_32 : decode cX8_when 32 = .ok (.invokevirtual 105, 3) := by decide +kernel
theorem dX8_when_35 : decode cX8_when 35 = .ok (.iconst 4, 1) := by decide +kernel
theorem dX8_when_36 : decode cX8_when 36 = .ok (.if_icmp .lt 6, 3) := by decide +kernel
theorem dX8_when_39 : decode cX8_when 39 = .ok (.iload 4, 2) := by decide +kernel
theorem dX8_when_41 : decode cX8_when 41 = .ok (.ireturn, 1) := by decide +kernel
theorem dX8_when_42 : decode cX8_when 42 = .ok (.aload_n 0, 1) := by decide +kernel
theorem dX8_when_43 : decode cX8_when 43 = .ok (.getfield 27, 3) := by decide +kernel
theorem dX8_when_46 : decode cX8_when 46 = .ok (.iload_n 3, 1) := by decide +kernel
theorem dX8_when_47 : decode cX8_when 47 = .ok (.invokevirtual 204, 3) := by decide +kernel
theorem dX8_when_50 : decode cX8_when 50 = .ok (.iinc 4 1, 3) := by decide +kernel
theorem dX8_when_53 : decode cX8_when 53 = .ok (.goto (-34), 3) := by decide +kernel
theorem dX8_when_56 : decode cX8_when 56 = .ok (.bipush (-5), 2) := by decide +kernel
theorem dX8_when_58 : decode cX8_when 58 = .ok (.ireturn, 1) := by decide +kernel
theorem dX8_found_0 : decode cX8_found 0 = .ok (.iconst 0, 1) := by decide +kernel
theorem dX8_found_1 : decode cX8_found 1 = .ok (.istore_n 2, 1) := by decide +kernel
theorem dX8_found_2 : decode cX8_found 2 = .ok (.iconst 0, 1) := by decide +kernel
theorem dX8_found_3 : decode cX8_found 3 = .ok (.istore_n 3, 1) := by decide +kernel
theorem dX8_found_4 : decode cX8_found 4 = .ok (.iload_n 3, 1) := by decide +kernel
theorem dX8_found_5 : decode cX8_found 5 = .ok (.aload_n 0, 1) := by decide +kernel
theorem dX8_found_6 : decode cX8_found 6 = .ok (.getfield 12, 3) := by decide +kernel
theorem dX8_found_9 : decode cX8_found 9 = .ok (.getfield 208, 3) := by decide +kernel
theorem dX8_found_12 : decode cX8_found 12 = .ok (.if_icmp .ge 64, 3) := by decide +kernel
theorem dX8_found_15 : decode cX8_found 15 = .ok (.aload_n 0, 1) := by decide +kernel
theorem dX8_found_16 : decode cX8_found 16 = .ok (.aload_n 0, 1) := by decide +kernel
theorem dX8_found_17 : decode cX8_found 17 = .ok (.getfield 12, 3) := by decide +kernel
theorem dX8_found_20 : decode cX8_found 20 = .ok (.getfield 211, 3) := by decide +kernel
theorem dX8_found_23 : decode cX8_found 23 = .ok (.iload_n 3, 1) := by decide +kernel
theorem dX8_found_24 : decode cX8_found 24 = .ok (.aaload, 1) := by decide +kernel
theorem dX8_found_25 : decode cX8_found 25 = .ok (.iload_n 1, 1) := by decide +kernel
theorem dX8_found_26 : decode cX8_found 26 = .ok (.invokevirtual 105, 3) := by decide +kernel
theorem dX8_found_29 : decode cX8_found 29 = .ok (.istore 4, 2) := by decide +kernel
theorem dX8_found_31 : decode cX8_found 31 = .ok (.aload_n 0, 1) := by decide +kernel
theorem dX8_found_32 : decode cX8_found 32 = .ok (.iload 4, 2) := by decide +kernel
theorem dX8_found_34 : decode cX8_found 34 = .ok (.iload_n 1, 1) := by decide +kernel
theorem dX8_found_35 : decode cX8_found 35 = .ok (.invokevirtual 197, 3) := by decide +kernel
theorem dX8_found_38 : decode cX8_found 38 = .ok (.istore 5, 2) := by decide +kernel
theorem dX8_found_40 : decode cX8_found 40 = .ok (.iload 5, 2) := by decide +kernel
theorem dX8_found_42 : decode cX8_found 42 = .ok (.bipush (-5), 2) := by decide +kernel
theorem dX8_found_44 : decode cX8_found 44 = .ok (.if_icmp .eq 26, 3) := by decide +kernel
theorem dX8_found_47 : decode cX8_found 47 = .ok (.iload_n 2, 1) := by decide +kernel
theorem dX8_found_48 : decode cX8_found 48 = .ok (.iload 5, 2) := by decide +kernel
theorem dX8_found_50 : decode cX8_found 50 = .ok (.iconst 1, 1) := by decide +kernel
theorem dX8_found_51 : decode cX8_found 51 = .ok (.if_icmp .ne 11, 3) := by decide +kernel
theorem dX8_found_54 : decode cX8_found 54 = .ok (.iload 4, 2) := by decide +kernel
theorem dX8_found_56 : decode cX8_found 56 = .ok (.invokestatic 215, 3) := by decide +kernel
theorem dX8_found_59 : decode cX8_found 59 = .ok (.goto 9, 3) := by decide +kernel
theorem dX8_found_62 : decode cX8_found 62 = .ok (.iload 4, 2) := by decide +kernel
theorem dX8_found_64 : decode cX8_found 64 = .ok (.invokestatic 215, 3) := by decide +kernel
theorem dX8_found_67 : decode cX8_found 67 = .ok (.ineg, 1) := by decide +kernel
theorem dX8_found_68 : decode cX8_found 68 = .ok (.iadd, 1) := by decide +kernel
theorem dX8_found_69 : decode cX8_found 69 = .ok (.istore_n 2, 1) := by decide +kernel
theorem dX8_found_70 : decode cX8_found 70 = .ok (.iinc 3 1, 3) := by decide +kernel
theorem dX8_found_73 : decode cX8_found 73 = .ok (.goto (-69), 3) := by decide +kernel
theorem dX8_found_76 : decode cX8_found 76 = .ok (.iload_n 2, 1) := by decide +kernel
theorem dX8_found_77 : decode cX8_found 77 = .ok (.ireturn, 1) := by decide +kernel
theorem dX8_pass_0 : decode cX8_pass 0 = .ok (.iload_n 1, 1) := by decide +kernel
theorem dX8_pass_1 : decode cX8_pass 1 = .ok (.ifCond .lt 9, 3) := by decide +kernel
theorem dX8_pass_4 : decode cX8_pass 4 = .ok (.iload_n 1, 1) := by decide +kernel
theorem dX8_pass_5 : decode cX8_pass 5 = .ok (.bipush 60, 2) := by decide +kernel
theorem dX8_pass_7 : decode cX8_pass 7 = .ok (.if_icmp .le 6, 3) := by decide +kernel
theorem dX8_pass_10 : decode cX8_pass 10 = .ok (.bipush (-2), 2) := by decide +kernel
theorem dX8_pass_12 : decode cX8_pass 12 = .ok (.ireturn, 1) := by decide +kernel
theorem dX8_pass_13 : decode cX8_pass 13 = .ok (.aload_n 0, 1) := by decide +kernel
theorem dX8_pass_14 : decode cX8_pass 14 = .ok (.getfield 12, 3) := by decide +kernel
theorem dX8_pass_17 : decode cX8_pass 17 = .ok (.getfield 143, 3) := by decide +kernel
theorem dX8_pass_20 : decode cX8_pass 20 = .ok (.iload_n 1, 1) := by decide +kernel
theorem dX8_pass_21 : decode cX8_pass 21 = .ok (.iadd, 1) := by decide +kernel
theorem dX8_pass_22 : decode cX8_pass 22 = .ok (.sipush 9999, 3) := by decide +kernel
theorem dX8_pass_25 : decode cX8_pass 25 = .ok (.if_icmp .le 6, 3) := by decide +kernel
theorem dX8_pass_28 : decode cX8_pass 28 = .ok (.bipush (-3), 2) := by decide +kernel
theorem dX8_pass_30 : decode cX8_pass 30 = .ok (.ireturn, 1) := by decide +kernel
theorem dX8_pass_31 : decode cX8_pass 31 = .ok (.aload_n 0, 1) := by decide +kernel
theorem dX8_pass_32 : decode cX8_pass 32 = .ok (.getfield 12, 3) := by decide +kernel
theorem dX8_pass_35 : decode cX8_pass 35 = .ok (.iload_n 1, 1) := by decide +kernel
theorem dX8_pass_36 : decode cX8_pass 36 = .ok (.aload_n 0, 1) := by decide +kernel
theorem dX8_pass_37 : decode cX8_pass 37 = .ok (.invokevirtual 146, 3) := by decide +kernel
theorem dX8_pass_40 : decode cX8_pass 40 = .ok (.getfield 149, 3) := by decide +kernel
theorem dX8_pass_43 : decode cX8_pass 43 = .ok (.invokevirtual 220, 3) := by decide +kernel
theorem dX8_pass_46 : decode cX8_pass 46 = .ok (.aload_n 0, 1) := by decide +kernel
theorem dX8_pass_47 : decode cX8_pass 47 = .ok (.getfield 12, 3) := by decide +kernel
theorem dX8_pass_50 : decode cX8_pass 50 = .ok (.dup, 1) := by decide +kernel
theorem dX8_pass_51 : decode cX8_pass 51 = .ok (.getfield 143, 3) := by decide +kernel
theorem dX8_pass_54 : decode cX8_pass 54 = .ok (.iload_n 1, 1) := by decide +kernel
theorem dX8_pass_55 : decode cX8_pass 55 = .ok (.iadd, 1) := by decide +kernel
theorem dX8_pass_56 : decode cX8_pass 56 = .ok (.putfield 143, 3) := by decide +kernel
theorem dX8_pass_59 : decode cX8_pass 59 = .ok (.aload_n 0, 1) := by decide +kernel
theorem dX8_pass_60 : decode cX8_pass 60 = .ok (.getfield 12, 3) := by decide +kernel
theorem dX8_pass_63 : decode cX8_pass 63 = .ok (.getfield 143, 3) := by decide +kernel
theorem dX8_pass_66 : decode cX8_pass 66 = .ok (.ireturn, 1) := by decide +kernel
theorem dX8_on_0 : decode cX8_on 0 = .ok (.iload_n 2, 1) := by decide +kernel
theorem dX8_on_1 : decode cX8_on 1 = .ok (.bipush 10, 2) := by decide +kernel
theorem dX8_on_3 : decode cX8_on 3 = .ok (.if_icmp .lt 13, 3) := by decide +kernel
theorem dX8_on_6 : decode cX8_on 6 = .ok (.iload_n 2, 1) := by decide +kernel
theorem dX8_on_7 : decode cX8_on 7 = .ok (.bipush 30, 2) := by decide +kernel
theorem dX8_on_9 : decode cX8_on 9 = .ok (.if_icmp .ge 7, 3) := by decide +kernel
theorem dX8_on_12 : decode cX8_on 12 = .ok (.iconst 1, 1) := by decide +kernel
theorem dX8_on_13 : decode cX8_on 13 = .ok (.goto 4, 3) := by decide +kernel
theorem dX8_on_16 : decode cX8_on 16 = .ok (.iconst 0, 1) := by decide +kernel
theorem dX8_on_17 : decode cX8_on 17 = .ok (.istore_n 3, 1) := by decide +kernel
theorem dX8_on_18 : decode cX8_on 18 = .ok (.iload_n 2, 1) := by decide +kernel
theorem dX8_on_19 : decode cX8_on 19 = .ok (.ifCond .eq 25, 3) := by decide +kernel
theorem dX8_on_22 : decode cX8_on 22 = .ok (.iload_n 3, 1) := by decide +kernel
theorem dX8_on_23 : decode cX8_on 23 = .ok (.ifCond .eq 17, 3) := by decide +kernel
theorem dX8_on_26 : decode cX8_on 26 = .ok (.aload_n 0, 1) := by decide +kernel
theorem dX8_on_27 : decode cX8_on 27 = .ok (.getfield 12, 3) := by decide +kernel
theorem dX8_on_30 : decode cX8_on 30 = .ok (.iload_n 2, 1) := by decide +kernel
theorem dX8_on_31 : decode cX8_on 31 = .ok (.bipush 10, 2) := by decide +kernel
theorem dX8_on_33 : decode cX8_on 33 = .ok (.irem, 1) := by decide +kernel
theorem dX8_on_34 : decode cX8_on 34 = .ok (.invokevirtual 90, 3) := by decide +kernel
theorem dX8_on_37 : decode cX8_on 37 = .ok (.ifnonnull 7, 3) := by decide +kernel
theorem dX8_on_40 : decode cX8_on 40 = .ok (.sipush (-10001), 3) := by decide +kernel
theorem dX8_on_43 : decode cX8_on 43 = .ok (.ireturn, 1) := by decide +kernel
theorem dX8_on_44 : decode cX8_on 44 = .ok (.iload_n 1, 1) := by decide +kernel
theorem dX8_on_45 : decode cX8_on 45 = .ok (.ifCond .lt 9, 3) := by decide +kernel
theorem dX8_on_48 : decode cX8_on 48 = .ok (.iload_n 1, 1) := by decide +kernel
theorem dX8_on_49 : decode cX8_on 49 = .ok (.bipush 60, 2) := by decide +kernel
theorem dX8_on_51 : decode cX8_on 51 = .ok (.if_icmp .le 6, 3) := by decide +kernel
theorem dX8_on_54 : decode cX8_on 54 = .ok (.bipush (-2), 2) := by decide +kernel
theorem dX8_on_56 : decode cX8_on 56 = .ok (.ireturn, 1) := by decide +kernel
theorem dX8_on_57 : decode cX8_on 57 = .ok (.aload_n 0, 1) := by decide +kernel
theorem dX8_on_58 : decode cX8_on 58 = .ok (.getfield 21, 3) := by decide +kernel
theorem dX8_on_61 : decode cX8_on 61 = .ok (.aload_n 0, 1) := by decide +kernel
theorem dX8_on_62 : decode cX8_on 62 = .ok (.getfield 12, 3) := by decide +kernel
theorem dX8_on_65 : decode cX8_on 65 = .ok (.invokevirtual 224, 3) := by decide +kernel
theorem dX8_on_68 : decode cX8_on 68 = .ok (.aload_n 0, 1) := by decide +kernel
theorem dX8_on_69 : decode cX8_on 69 = .ok (.getfield 21, 3) := by decide +kernel
theorem dX8_on_72 : decode cX8_on 72 = .ok (.iload_n 1, 1) := by decide +kernel
theorem dX8_on_73 : decode cX8_on 73 = .ok (.aload_n 0, 1) := by decide +kernel
theorem dX8_on_74 : decode cX8_on 74 = .ok (.invokevirtual 146, 3) := by decide +kernel
theorem dX8_on_77 : decode cX8_on 77 = .ok (.getfield 149, 3) := by decide +kernel
theorem dX8_on_80 : decode cX8_on 80 = .ok (.invokevirtual 220, 3) := by decide +kernel
theorem dX8_on_83 : decode cX8_on 83 = .ok (.iload_n 2, 1) := by decide +kernel
theorem dX8_on_84 : decode cX8_on 84 = .ok (.ifCond .ne 11, 3) := by decide +kernel
theorem dX8_on_87 : decode cX8_on 87 = .ok (.aload_n 0, 1) := by decide +kernel
theorem dX8_on_88 : decode cX8_on 88 = .ok (.getfield 21, 3) := by decide +kernel
theorem dX8_on_91 : decode cX8_on 91 = .ok (.invokevirtual 228, 3) := by decide +kernel
theorem dX8_on_94 : decode cX8_on 94 = .ok (.ireturn, 1) := by decide +kernel
theorem dX8_on_95 : decode cX8_on 95 = .ok (.aload_n 0, 1) := by decide +kernel
theorem dX8_on_96 : decode cX8_on 96 = .ok (.getfield 21, 3) := by decide +kernel
theorem dX8_on_99 : decode cX8_on 99 = .ok (.iload_n 2, 1) := by decide +kernel
theorem dX8_on_100 : decode cX8_on 100 = .ok (.bipush 10, 2) := by decide +kernel
theorem dX8_on_102 : decode cX8_on 102 = .ok (.irem, 1) := by decide +kernel
theorem dX8_on_103 : decode cX8_on 103 = .ok (.invokevirtual 90, 3) := by decide +kernel
theorem dX8_on_106 : decode cX8_on 106 = .ok (.astore 4, 2) := by decide +kernel
theorem dX8_on_108 : decode cX8_on 108 = .ok (.aload 4, 2) := by decide +kernel
theorem dX8_on_110 : decode cX8_on 110 = .ok (.ifnonnull 7, 3) := by decide +kernel
theorem dX8_on_113 : decode cX8_on 113 = .ok (.sipush (-10001), 3) := by decide +kernel
theorem dX8_on_116 : decode cX8_on 116 = .ok (.ireturn, 1) := by decide +kernel
theorem dX8_on_117 : decode cX8_on 117 = .ok (.iload_n 2, 1) := by decide +kernel
theorem dX8_on_118 : decode cX8_on 118 = .ok (.bipush 20, 2) := by decide +kernel
theorem dX8_on_120 : decode cX8_on 120 = .ok (.if_icmp .ge 11, 3) := by decide +kernel
theorem dX8_on_123 : decode cX8_on 123 = .ok (.aload 4, 2) := by decide +kernel
theorem dX8_on_125 : decode cX8_on 125 = .ok (.getfield 117, 3) := by decide +kernel
theorem dX8_on_128 : decode cX8_on 128 = .ok (.goto 10, 3) := by decide +kernel
theorem dX8_on_131 : decode cX8_on 131 = .ok (.aload_n 0, 1) := by decide +kernel
theorem dX8_on_132 : decode cX8_on 132 = .ok (.aload 4, 2) := by decide +kernel
theorem dX8_on_134 : decode cX8_on 134 = .ok (.iconst 0, 1) := by decide +kernel
theorem dX8_on_135 : decode cX8_on 135 = .ok (.invokevirtual 108, 3) := by decide +kernel
theorem dX8_on_138 : decode cX8_on 138 = .ok (.ireturn, 1) := by decide +kernel
theorem dX8_cases_0 : decode cX8_cases 0 = .ok (.iload_n 2, 1) := by decide +kernel
theorem dX8_cases_1 : decode cX8_cases 1 = .ok (.ifCond .eq 10, 3) := by decide +kernel
theorem dX8_cases_4 : decode cX8_cases 4 = .ok (.iload_n 2, 1) := by decide +kernel
theorem dX8_cases_5 : decode cX8_cases 5 = .ok (.iconst 1, 1) := by decide +kernel
theorem dX8_cases_6 : decode cX8_cases 6 = .ok (.if_icmp .eq 5, 3) := by decide +kernel
theorem dX8_cases_9 : decode cX8_cases 9 = .ok (.iconst (-1), 1) := by decide +kernel
theorem dX8_cases_10 : decode cX8_cases 10 = .ok (.ireturn, 1) := by decide +kernel
theorem dX8_cases_11 : decode cX8_cases 11 = .ok (.iload_n 1, 1) := by decide +kernel
theorem dX8_cases_12 : decode cX8_cases 12 = .ok (.ifCond .lt 10, 3) := by decide +kernel
theorem dX8_cases_15 : decode cX8_cases 15 = .ok (.iload_n 1, 1) := by decide +kernel
theorem dX8_cases_16 : decode cX8_cases 16 = .ok (.sipush 255, 3) := by decide +kernel
theorem dX8_cases_19 : decode cX8_cases 19 = .ok (.if_icmp .le 6, 3) := by decide +kernel
theorem dX8_cases_22 : decode cX8_cases 22 = .ok (.bipush (-2), 2) := by decide +kernel
theorem dX8_cases_24 : decode cX8_cases 24 = .ok (.ireturn, 1) := by decide +kernel
theorem dX8_cases_25 : decode cX8_cases 25 = .ok (.aload_n 0, 1) := by decide +kernel
theorem dX8_cases_26 : decode cX8_cases 26 = .ok (.iload_n 1, 1) := by decide +kernel
theorem dX8_cases_27 : decode cX8_cases 27 = .ok (.invokevirtual 231, 3) := by decide +kernel
theorem dX8_cases_30 : decode cX8_cases 30 = .ok (.iload_n 2, 1) := by decide +kernel
theorem dX8_cases_31 : decode cX8_cases 31 = .ok (.ifCond .ne 11, 3) := by decide +kernel
theorem dX8_cases_34 : decode cX8_cases 34 = .ok (.aload_n 0, 1) := by decide +kernel
theorem dX8_cases_35 : decode cX8_cases 35 = .ok (.iload_n 1, 1) := by decide +kernel
theorem dX8_cases_36 : decode cX8_cases 36 = .ok (.invokevirtual 234, 3) := by decide +kernel
theorem dX8_cases_39 : decode cX8_cases 39 = .ok (.goto 8, 3) := by decide +kernel
theorem dX8_cases_42 : decode cX8_cases 42 = .ok (.aload_n 0, 1) := by decide +kernel
theorem dX8_cases_43 : decode cX8_cases 43 = .ok (.iload_n 1, 1) := by decide +kernel
theorem dX8_cases_44 : decode cX8_cases 44 = .ok (.invokevirtual 237, 3) := by decide +kernel
theorem dX8_cases_47 : decode cX8_cases 47 = .ok (.ireturn, 1) := by decide +kernel
theorem dX8_gatherSpoken_0 : decode cX8_gatherSpoken 0 = .ok (.iconst 0, 1) := by decide +kernel
theorem dX8_gatherSpoken_1 : decode cX8_gatherSpoken 1 = .ok (.istore_n 2, 1) := by decide +kernel
theorem dX8_gatherSpoken_2 : decode cX8_gatherSpoken 2 = .ok (.iload_n 2, 1) := by decide +kernel
theorem dX8_gatherSpoken_3 : decode cX8_gatherSpoken 3 = .ok (.aload_n 0, 1) := by decide +kernel
theorem dX8_gatherSpoken_4 : decode cX8_gatherSpoken 4 = .ok (.getfield 12, 3) := by decide +kernel
theorem dX8_gatherSpoken_7 : decode cX8_gatherSpoken 7 = .ok (.getfield 208, 3) := by decide +kernel
theorem dX8_gatherSpoken_10 : decode cX8_gatherSpoken 10 = .ok (.if_icmp .ge 71, 3) := by decide +kernel
theorem dX8_gatherSpoken_13 : decode cX8_gatherSpoken 13 = .ok (.iconst 0, 1) := by decide +kernel
theorem dX8_gatherSpoken_14 : decode cX8_gatherSpoken 14 = .ok (.istore_n 3, 1) := by decide +kernel
theorem dX8_gatherSpoken_15 : decode cX8_gatherSpoken 15 = .ok (.iconst 0, 1) := by decide +kernel
theorem dX8_gatherSpoken_16 : decode cX8_gatherSpoken 16 = .ok (.istore 4, 2) := by decide +kernel
theorem dX8_gatherSpoken_18 : decode cX8_gatherSpoken 18 = .ok (.iload 4, 2) := by decide +kernel
theorem dX8_gatherSpoken_20 : decode cX8_gatherSpoken 20 = .ok (.bipush 8, 2) := by decide +kernel
theorem dX8_gatherSpoken_22 : decode cX8_gatherSpoken 22 = .ok (.if_icmp .ge 46, 3) := by decide +kernel
theorem dX8_gatherSpoken_25 : decode cX8_gatherSpoken 25 = .ok (.iload_n 1, 1) := by decide +kernel
theorem dX8_gatherSpoken_26 : decode cX8_gatherSpoken 26 = .ok (.iload 4, 2) := by decide +kernel
theorem dX8_gatherSpoken_28 : decode cX8_gatherSpoken 28 = .ok (.invokestatic 193, 3) := by decide +kernel
theorem dX8_gatherSpoken_31 : decode cX8_gatherSpoken 31 = .ok (.ifCond .eq 31, 3) := by decide +kernel
theorem dX8_gatherSpoken_34 : decode cX8_gatherSpoken 34 = .ok (.aload_n 0, 1) := by decide +kernel
theorem dX8_gatherSpoken_35 : decode cX8_gatherSpoken 35 = .ok (.aload_n 0, 1) := by decide +kernel
theorem dX8_gatherSpoken_36 : decode cX8_gatherSpoken 36 = .ok (.getfield 12, 3) := by decide +kernel
theorem dX8_gatherSpoken_39 : decode cX8_gatherSpoken 39 = .ok (.getfield 211, 3) := by decide +kernel
theorem dX8_gatherSpoken_42 : decode cX8_gatherSpoken 42 = .ok (.iload_n 2, 1) := by decide +kernel
theorem dX8_gatherSpoken_43 : decode cX8_gatherSpoken 43 = .ok (.aaload, 1) := by decide +kernel
theorem dX8_gatherSpoken_44 : decode cX8_gatherSpoken 44 = .ok (.iload 4, 2) := by decide +kernel
theorem dX8_gatherSpoken_46 : decode cX8_gatherSpoken 46 = .ok (.invokevirtual 105, 3) := by decide +kernel
theorem dX8_gatherSpoken_49 : decode cX8_gatherSpoken 49 = .ok (.invokestatic 190, 3) := by decide +kernel
theorem dX8_gatherSpoken_52 : decode cX8_gatherSpoken 52 = .ok (.ifCond .eq 10, 3) := by decide +kernel
theorem dX8_gatherSpoken_55 : decode cX8_gatherSpoken 55 = .ok (.iload_n 3, 1) := by decide +kernel
theorem dX8_gatherSpoken_56 : decode cX8_gatherSpoken 56 = .ok (.iconst 1, 1) := by decide +kernel
theorem dX8_gatherSpoken_57 : decode cX8_gatherSpoken 57 = .ok (.iload 4, 2) := by decide +kernel
theorem dX8_gatherSpoken_59 : decode cX8_gatherSpoken 59 = .ok (.ishl, 1) := by decide +kernel
theorem dX8_gatherSpoken_60 : decode cX8_gatherSpoken 60 = .ok (.ior, 1) := by decide +kernel
theorem dX8_gatherSpoken_61 : decode cX8_gatherSpoken 61 = .ok (.istore_n 3, 1) := by decide +kernel
theorem dX8_gatherSpoken_62 : decode cX8_gatherSpoken 62 = .ok (.iinc 4 1, 3) := by decide +kernel
theorem dX8_gatherSpoken_65 : decode cX8_gatherSpoken 65 = .ok (.goto (-47), 3) := by decide +kernel
theorem dX8_gatherSpoken_68 : decode cX8_gatherSpoken 68 = .ok (.aload_n 0, 1) := by decide +kernel
theorem dX8_gatherSpoken_69 : decode cX8_gatherSpoken 69 = .ok (.getfield 64, 3) := by decide +kernel
theorem dX8_gatherSpoken_72 : decode cX8_gatherSpoken 72 = .ok (.iload_n 2, 1) := by decide +kernel
theorem dX8_gatherSpoken_73 : decode cX8_gatherSpoken 73 = .ok (.iload_n 3, 1) := by decide +kernel
theorem dX8_gatherSpoken_74 : decode cX8_gatherSpoken 74 = .ok (.iastore, 1) := by decide +kernel
theorem dX8_gatherSpoken_75 : decode cX8_gatherSpoken 75 = .ok (.iinc 2 1, 3) := by decide +kernel
theorem dX8_gatherSpoken_78 : decode cX8_gatherSpoken 78 = .ok (.goto (-76), 3) := by decide +kernel
theorem dX8_gatherSpoken_81 : decode cX8_gatherSpoken 81 = .ok (.return_, 1) := by decide +kernel
theorem dX8_enough_0 : decode cX8_enough 0 = .ok (.bipush (-5), 2) := by decide +kernel
theorem dX8_enough_2 : decode cX8_enough 2 = .ok (.istore_n 2, 1) := by decide +kernel
theorem dX8_enough_3 : decode cX8_enough 3 = .ok (.bipush 7, 2) := by decide +kernel
theorem dX8_enough_5 : decode cX8_enough 5 = .ok (.istore_n 3, 1) := by decide +kernel
theorem dX8_enough_6 : decode cX8_enough 6 = .ok (.iconst 0, 1) := by decide +kernel
theorem dX8_enough_7 : decode cX8_enough 7 = .ok (.istore 4, 2) := by decide +kernel
theorem dX8_enough_9 : decode cX8_enough 9 = .ok (.iload 4, 2) := by decide +kernel
theorem dX8_enough_11 : decode cX8_enough 11 = .ok (.iconst 1, 1) := by decide +kernel
theorem dX8_enough_12 : decode cX8_enough 12 = .ok (.aload_n 0, 1) := by decide +kernel
theorem dX8_enough_13 : decode cX8_enough 13 = .ok (.getfield 12, 3) := by decide +kernel
theorem dX8_enough_16 : decode cX8_enough 16 = .ok (.getfield 208, 3) := by decide +kernel
theorem dX8_enough_19 : decode cX8_enough 19 = .ok (.ishl, 1) := by decide +kernel
theorem dX8_enough_20 : decode cX8_enough 20 = .ok (.if_icmp .ge 41, 3) := by decide +kernel
theorem dX8_enough_23 : decode cX8_enough 23 = .ok (.iload 4, 2) := by decide +kernel
theorem dX8_enough_25 : decode cX8_enough 25 = .ok (.invokestatic 240, 3) := by decide +kernel
theorem dX8_enough_28 : decode cX8_enough 28 = .ok (.istore 5, 2) := by decide +kernel
theorem dX8_enough_30 : decode cX8_enough 30 = .ok (.iload 5, 2) := by decide +kernel
theorem dX8_enough_32 : decode cX8_enough 32 = .ok (.iload_n 3, 1) := by decide +kernel
theorem dX8_enough_33 : decode cX8_enough 33 = .ok (.if_icmp .ge 22, 3) := by decide +kernel
theorem dX8_enough_36 : decode cX8_enough 36 = .ok (.iload_n 1, 1) := by decide +kernel
theorem dX8_enough_37 : decode cX8_enough 37 = .ok (.aload_n 0, 1) := by decide +kernel
theorem dX8_enough_38 : decode cX8_enough 38 = .ok (.iload 4, 2) := by decide +kernel
theorem dX8_enough_40 : decode cX8_enough 40 = .ok (.invokevirtual 245, 3) := by decide +kernel
theorem dX8_enough_43 : decode cX8_enough 43 = .ok (.iconst (-1), 1) := by decide +kernel
theorem dX8_enough_44 : decode cX8_enough 44 = .ok (.ixor, 1) := by decide +kernel
theorem dX8_enough_45 : decode cX8_enough 45 = .ok (.iand, 1) := by decide +kernel
theorem dX8_enough_46 : decode cX8_enough 46 = .ok (.ifCond .ne 9, 3) := by decide +kernel
theorem dX8_enough_49 : decode cX8_enough 49 = .ok (.iload 4, 2) := by decide +kernel
theorem dX8_enough_51 : decode cX8_enough 51 = .ok (.istore_n 2, 1) := by decide +kernel
theorem dX8_enough_52 : decode cX8_enough 52 = .ok (.iload 5, 2) := by decide +kernel
theorem dX8_enough_54 : decode cX8_enough 54 = .ok (.istore_n 3, 1) := by decide +kernel
theorem dX8_enough_55 : decode cX8_enough 55 = .ok (.iinc 4 1, 3) := by decide +kernel
theorem dX8_enough_58 : decode cX8_enough 58 = .ok (.goto (-49), 3) := by decide +kernel
theorem dX8_enough_61 : decode cX8_enough 61 = .ok (.iload_n 2, 1) := by decide +kernel
theorem dX8_enough_62 : decode cX8_enough 62 = .ok (.ireturn, 1) := by decide +kernel
theorem dX8_spokenBy_0 : decode cX8_spokenBy 0 = .ok (.iconst 0, 1) := by decide +kernel
theorem dX8_spokenBy_1 : decode cX8_spokenBy 1 = .ok (.istore_n 2, 1) := by decide +kernel
theorem dX8_spokenBy_2 : decode cX8_spokenBy 2 = .ok (.iconst 0, 1) := by decide +kernel
theorem dX8_spokenBy_3 : decode cX8_spokenBy 3 = .ok (.istore_n 3, 1) := by decide +kernel
theorem dX8_spokenBy_4 : decode cX8_spokenBy 4 = .ok (.iload_n 3, 1) := by decide +kernel
theorem dX8_spokenBy_5 : decode cX8_spokenBy 5 = .ok (.aload_n 0, 1) := by decide +kernel
theorem dX8_spokenBy_6 : decode cX8_spokenBy 6 = .ok (.getfield 12, 3) := by decide +kernel
theorem dX8_spokenBy_9 : decode cX8_spokenBy 9 = .ok (.getfield 208, 3) := by decide +kernel
theorem dX8_spokenBy_12 : decode cX8_spokenBy 12 = .ok (.if_icmp .ge 26, 3) := by decide +kernel
theorem dX8_spokenBy_15 : decode cX8_spokenBy 15 = .ok (.iload_n 1, 1) := by decide +kernel
theorem dX8_spokenBy_16 : decode cX8_spokenBy 16 = .ok (.iload_n 3, 1) := by decide +kernel
theorem dX8_spokenBy_17 : decode cX8_spokenBy 17 = .ok (.invokestatic 193, 3) := by decide +kernel
theorem dX8_spokenBy_20 : decode cX8_spokenBy 20 = .ok (.ifCond .eq 12, 3) := by decide +kernel
theorem dX8_spokenBy_23 : decode cX8_spokenBy 23 = .ok (.iload_n 2, 1) := by decide +kernel
theorem dX8_spokenBy_24 : decode cX8_spokenBy 24 = .ok (.aload_n 0, 1) := by decide +kernel
theorem dX8_spokenBy_25 : decode cX8_spokenBy 25 = .ok (.getfield 64, 3) := by decide +kernel
theorem dX8_spokenBy_28 : decode cX8_spokenBy 28 = .ok (.iload_n 3, 1) := by decide +kernel
theorem dX8_spokenBy_29 : decode cX8_spokenBy 29 = .ok (.iaload, 1) := by decide +kernel
theorem dX8_spokenBy_30 : decode cX8_spokenBy 30 = .ok (.ior, 1) := by decide +kernel
theorem dX8_spokenBy_31 : decode cX8_spokenBy 31 = .ok (.istore_n 2, 1) := by decide +kernel
theorem dX8_spokenBy_32 : decode cX8_spokenBy 32 = .ok (.iinc 3 1, 3) := by decide +kernel
theorem dX8_spokenBy_35 : decode cX8_spokenBy 35 = .ok (.goto (-31), 3) := by decide +kernel
theorem dX8_spokenBy_38 : decode cX8_spokenBy 38 = .ok (.iload_n 2, 1) := by decide +kernel
theorem dX8_spokenBy_39 : decode cX8_spokenBy 39 = .ok (.ireturn, 1) := by decide +kernel
theorem dX8_ownPots_0 : decode cX8_ownPots 0 = .ok (.lconst 1, 1) := by decide +kernel
theorem dX8_ownPots_1 : decode cX8_ownPots 1 = .ok (.lstore_n 2, 1) := by decide +kernel
theorem dX8_ownPots_2 : decode cX8_ownPots 2 = .ok (.iconst 0, 1) := by decide +kernel
theorem dX8_ownPots_3 : decode cX8_ownPots 3 = .ok (.istore 4, 2) := by decide +kernel
theorem dX8_ownPots_5 : decode cX8_ownPots 5 = .ok (.iload 4, 2) := by decide +kernel
theorem dX8_ownPots_7 : decode cX8_ownPots 7 = .ok (.bipush 8, 2) := by decide +kernel
theorem dX8_ownPots_9 : decode cX8_ownPots 9 = .ok (.if_icmp .ge 28, 3) := by decide +kernel
theorem dX8_ownPots_12 : decode cX8_ownPots 12 = .ok (.iload_n 1, 1) := by decide +kernel
theorem dX8_ownPots_13 : decode cX8_ownPots 13 = .ok (.iload 4, 2) := by decide +kernel
theorem dX8_ownPots_15 : decode cX8_ownPots 15 = .ok (.invokestatic 193, 3) := by decide +kernel
theorem dX8_ownPots_18 : decode cX8_ownPots 18 = .ok (.ifCond .eq 13, 3) := by decide +kernel
theorem dX8_ownPots_21 : decode cX8_ownPots 21 = .ok (.lload_n 2, 1) := by decide +kernel
theorem dX8_ownPots_22 : decode cX8_ownPots 22 = .ok (.aload_n 0, 1) := by decide +kernel
theorem dX8_ownPots_23 : decode cX8_ownPots 23 = .ok (.lload_n 2, 1) := by decide +kernel
theorem dX8_ownPots_24 : decode cX8_ownPots 24 = .ok (.iload 4, 2) := by decide +kernel
theorem dX8_ownPots_26 : decode cX8_ownPots 26 = .ok (.invokevirtual 248, 3) := by decide +kernel
theorem dX8_ownPots_29 : decode cX8_ownPots 29 = .ok (.lor, 1) := by decide +kernel
theorem dX8_ownPots_30 : decode cX8_ownPots 30 = .ok (.lstore_n 2, 1) := by decide +kernel
theorem dX8_ownPots_31 : decode cX8_ownPots 31 = .ok (.iinc 4 1, 3) := by decide +kernel
theorem dX8_ownPots_34 : decode cX8_ownPots 34 = .ok (.goto (-29), 3) := by decide +kernel
theorem dX8_ownPots_37 : decode cX8_ownPots 37 = .ok (.iconst 0, 1) := by decide +kernel
theorem dX8_ownPots_38 : decode cX8_ownPots 38 = .ok (.istore 4, 2) := by decide +kernel
theorem dX8_ownPots_40 : decode cX8_ownPots 40 = .ok (.iconst 0, 1) := by decide +kernel
theorem dX8_ownPots_41 : decode cX8_ownPots 41 = .ok (.istore 5, 2) := by decide +kernel
theorem dX8_ownPots_43 : decode cX8_ownPots 43 = .ok (.iload 5, 2) := by decide +kernel
theorem dX8_ownPots_45 : decode cX8_ownPots 45 = .ok (.bipush 64, 2) := by decide +kernel
theorem dX8_ownPots_47 : decode cX8_ownPots 47 = .ok (.if_icmp .ge 32, 3) := by decide +kernel
theorem dX8_ownPots_50 : decode cX8_ownPots 50 = .ok (.lload_n 2, 1) := by decide +kernel
theorem dX8_ownPots_51 : decode cX8_ownPots 51 = .ok (.iload 5, 2) := by decide +kernel
theorem dX8_ownPots_53 : decode cX8_ownPots 53 = .ok (.lshr, 1) := by decide +kernel
theorem dX8_ownPots_54 : decode cX8_ownPots 54 = .ok (.lconst 1, 1) := by decide +kernel
theorem dX8_ownPots_55 : decode cX8_ownPots 55 = .ok (.land, 1) := by decide +kernel
theorem dX8_ownPots_56 : decode cX8_ownPots 56 = .ok (.lconst 1, 1) := by decide +kernel
theorem dX8_ownPots_57 : decode cX8_ownPots 57 = .ok (.lcmp, 1) := by decide +kernel
theorem dX8_ownPots_58 : decode cX8_ownPots 58 = .ok (.ifCond .ne 15, 3) := by decide +kernel
theorem dX8_ownPots_61 : decode cX8_ownPots 61 = .ok (.iload 4, 2) := by decide +kernel
theorem dX8_ownPots_63 : decode cX8_ownPots 63 = .ok (.iload 5, 2) := by decide +kernel
theorem dX8_ownPots_65 : decode cX8_ownPots 65 = .ok (.invokestatic 240, 3) := by decide +kernel
theorem dX8_ownPots_68 : decode cX8_ownPots 68 = .ok (.invokestatic 252, 3) := by decide +kernel
theorem dX8_ownPots_71 : decode cX8_ownPots 71 = .ok (.istore 4, 2) := by decide +kernel
theorem dX8_ownPots_73 : decode cX8_ownPots 73 = .ok (.iinc 5 1, 3) := by decide +kernel
theorem dX8_ownPots_76 : decode cX8_ownPots 76 = .ok (.goto (-33), 3) := by decide +kernel
theorem dX8_ownPots_79 : decode cX8_ownPots 79 = .ok (.iload 4, 2) := by decide +kernel
theorem dX8_ownPots_81 : decode cX8_ownPots 81 = .ok (.ireturn, 1) := by decide +kernel
theorem dX8_givenOneMore_0 : decode cX8_givenOneMore 0 = .ok (.lconst 0, 1) := by decide +kernel
theorem dX8_givenOneMore_1 : decode cX8_givenOneMore 1 = .ok (.lstore 4, 2) := by decide +kernel
theorem dX8_givenOneMore_3 : decode cX8_givenOneMore 3 = .ok (.iconst 0, 1) := by decide +kernel
theorem dX8_givenOneMore_4 : decode cX8_givenOneMore 4 = .ok (.istore 6, 2) := by decide +kernel
theorem dX8_givenOneMore_6 : decode cX8_givenOneMore 6 = .ok (.iload 6, 2) := by decide +kernel
theorem dX8_givenOneMore_8 : decode cX8_givenOneMore 8 = .ok (.aload_n 0, 1) := by decide +kernel
theorem dX8_givenOneMore_9 : decode cX8_givenOneMore 9 = .ok (.getfield 12, 3) := by decide +kernel
theorem dX8_givenOneMore_12 : decode cX8_givenOneMore 12 = .ok (.getfield 208, 3) := by decide +kernel
theorem dX8_givenOneMore_15 : decode cX8_givenOneMore 15 = .ok (.if_icmp .ge 78, 3) := by decide +kernel
theorem dX8_givenOneMore_18 : decode cX8_givenOneMore 18 = .ok (.aload_n 0, 1) := by decide +kernel
theorem dX8_givenOneMore_19 : decode cX8_givenOneMore 19 = .ok (.getfield 64, 3) := by decide +kernel
theorem dX8_givenOneMore_22 : decode cX8_givenOneMore 22 = .ok (.iload 6, 2) := by decide +kernel
theorem dX8_givenOneMore_24 : decode cX8_givenOneMore 24 = .ok (.iaload, 1) := by decide +kernel
theorem dX8_givenOneMore_25 : decode cX8_givenOneMore 25 = .ok (.iload_n 3, 1) := by decide +kernel
theorem dX8_givenOneMore_26 : decode cX8_givenOneMore 26 = .ok (.invokestatic 193, 3) := by decide +kernel
theorem dX8_givenOneMore_29 : decode cX8_givenOneMore 29 = .ok (.istore 7, 2) := by decide +kernel
theorem dX8_givenOneMore_31 : decode cX8_givenOneMore 31 = .ok (.iconst 0, 1) := by decide +kernel
theorem dX8_givenOneMore_32 : decode cX8_givenOneMore 32 = .ok (.istore 8, 2) := by decide +kernel
theorem dX8_givenOneMore_34 : decode cX8_givenOneMore 34 = .ok (.iload 7, 2) := by decide +kernel
theorem dX8_givenOneMore_36 : decode cX8_givenOneMore 36 = .ok (.ifCond .eq 51, 3) := by decide +kernel
theorem dX8_givenOneMore_39 : decode cX8_givenOneMore 39 = .ok (.iload 8, 2) := by decide +kernel
theorem dX8_givenOneMore_41 : decode cX8_givenOneMore 41 = .ok (.bipush 64, 2) := by decide +kernel
theorem dX8_givenOneMore_43 : decode cX8_givenOneMore 43 = .ok (.if_icmp .ge 44, 3) := by decide +kernel
theorem dX8_givenOneMore_46 : decode cX8_givenOneMore 46 = .ok (.lload_n 1, 1) := by decide +kernel
theorem dX8_givenOneMore_47 : decode cX8_givenOneMore 47 = .ok (.iload 8, 2) := by decide +kernel
theorem dX8_givenOneMore_49 : decode cX8_givenOneMore 49 = .ok (.lshr, 1) := by decide +kernel
theorem dX8_givenOneMore_50 : decode cX8_givenOneMore 50 = .ok (.lconst 1, 1) := by decide +kernel
theorem dX8_givenOneMore_51 : decode cX8_givenOneMore 51 = .ok (.land, 1) := by decide +kernel
theorem dX8_givenOneMore_52 : decode cX8_givenOneMore 52 = .ok (.lconst 1, 1) := by decide +kernel
theorem dX8_givenOneMore_53 : decode cX8_givenOneMore 53 = .ok (.lcmp, 1) := by decide +kernel
theorem dX8_givenOneMore_54 : decode cX8_givenOneMore 54 = .ok (.ifCond .ne 27, 3) := by decide +kernel
theorem dX8_givenOneMore_57 : decode cX8_givenOneMore 57 = .ok (.iload 8, 2) := by decide +kernel
theorem dX8_givenOneMore_59 : decode cX8_givenOneMore 59 = .ok (.iload 6, 2) := by decide +kernel
theorem dX8_givenOneMore_61 : decode cX8_givenOneMore 61 = .ok (.invokestatic 193, 3) := by decide +kernel
theorem dX8_givenOneMore_64 : decode cX8_givenOneMore 64 = .ok (.ifCond .ne 17, 3) := by decide +kernel
theorem dX8_givenOneMore_67 : decode cX8_givenOneMore 67 = .ok (.lload 4, 2) := by decide +kernel
theorem dX8_givenOneMore_69 : decode cX8_givenOneMore 69 = .ok (.lconst 1, 1) := by decide +kernel
theorem dX8_givenOneMore_70 : decode cX8_givenOneMore 70 = .ok (.iload 8, 2) := by decide +kernel
theorem dX8_givenOneMore_72 : decode cX8_givenOneMore 72 = .ok (.iconst 1, 1) := by decide +kernel
theorem dX8_givenOneMore_73 : decode cX8_givenOneMore 73 = .ok (.iload 6, 2) := by decide +kernel
theorem dX8_givenOneMore_75 : decode cX8_givenOneMore 75 = .ok (.ishl, 1) := by decide +kernel
theorem dX8_givenOneMore_76 : decode cX8_givenOneMore 76 = .ok (.ior, 1) := by decide +kernel
theorem dX8_givenOneMore_77 : decode cX8_givenOneMore 77 = .ok (.lshl, 1) := by decide +kernel
theorem dX8_givenOneMore_78 : decode cX8_givenOneMore 78 = .ok (.lor, 1) := by decide +kernel
theorem dX8_givenOneMore_79 : decode cX8_givenOneMore 79 = .ok (.lstore 4, 2) := by decide +kernel
theorem dX8_givenOneMore_81 : decode cX8_givenOneMore 81 = .ok (.iinc 8 1, 3) := by decide +kernel
theorem dX8_givenOneMore_84 : decode cX8_givenOneMore 84 = .ok (.goto (-50), 3) := by decide +kernel
theorem dX8_givenOneMore_87 : decode cX8_givenOneMore 87 = .ok (.iinc 6 1, 3) := by decide +kernel
theorem dX8_givenOneMore_90 : decode cX8_givenOneMore 90 = .ok (.goto (-84), 3) := by decide +kernel
theorem dX8_givenOneMore_93 : decode cX8_givenOneMore 93 = .ok (.lload 4, 2) := by decide +kernel
theorem dX8_givenOneMore_95 : decode cX8_givenOneMore 95 = .ok (.lreturn, 1) := by decide +kernel
theorem dX8_hear_0 : decode cX8_hear 0 = .ok (.iload_n 1, 1) := by decide +kernel
theorem dX8_hear_1 : decode cX8_hear 1 = .ok (.iconst (-1), 1) := by decide +kernel
theorem dX8_hear_2 : decode cX8_hear 2 = .ok (.if_icmp .ne 14, 3) := by decide +kernel
theorem dX8_hear_5 : decode cX8_hear 5 = .ok (.aload_n 0, 1) := by decide +kernel
theorem dX8_hear_6 : decode cX8_hear 6 = .ok (.getfield 12, 3) := by decide +kernel
theorem dX8_hear_9 : decode cX8_hear 9 = .ok (.getfield 255, 3) := by decide +kernel
theorem dX8_hear_12 : decode cX8_hear 12 = .ok (.invokevirtual 259, 3) := by decide +kernel
theorem dX8_hear_15 : decode cX8_hear 15 = .ok (.ireturn, 1) := by decide +kernel
theorem dX8_hear_16 : decode cX8_hear 16 = .ok (.aload_n 0, 1) := by decide +kernel
theorem dX8_hear_17 : decode cX8_hear 17 = .ok (.getfield 12, 3) := by decide +kernel
theorem dX8_hear_20 : decode cX8_hear 20 = .ok (.iload_n 1, 1) := by decide +kernel
theorem dX8_hear_21 : decode cX8_hear 21 = .ok (.invokevirtual 90, 3) := by decide +kernel
theorem dX8_hear_24 : decode cX8_hear 24 = .ok (.ifnull 10, 3) := by decide +kernel
theorem dX8_hear_27 : decode cX8_hear 27 = .ok (.iload_n 2, 1) := by decide +kernel
theorem dX8_hear_28 : decode cX8_hear 28 = .ok (.invokestatic 102, 3) := by decide +kernel
theorem dX8_hear_31 : decode cX8_hear 31 = .ok (.ifCond .ne 5, 3) := by decide +kernel
theorem dX8_hear_34 : decode cX8_hear 34 = .ok (.iconst (-1), 1) := by decide +kernel
theorem dX8_hear_35 : decode cX8_hear 35 = .ok (.ireturn, 1) := by decide +kernel
theorem dX8_hear_36 : decode cX8_hear 36 = .ok (.iload_n 3, 1) := by decide +kernel
theorem dX8_hear_37 : decode cX8_hear 37 = .ok (.iconst (-1), 1) := by decide +kernel
theorem dX8_hear_38 : decode cX8_hear 38 = .ok (.if_icmp .lt 8, 3) := by decide +kernel
theorem dX8_hear_41 : decode cX8_hear 41 = .ok (.iload_n 3, 1) := by decide +kernel
theorem dX8_hear_42 : decode cX8_hear 42 = .ok (.iconst 1, 1) := by decide +kernel
theorem dX8_hear_43 : decode cX8_hear 43 = .ok (.if_icmp .le 6, 3) := by decide +kernel
theorem dX8_hear_46 : decode cX8_hear 46 = .ok (.bipush (-2), 2) := by decide +kernel
theorem dX8_hear_48 : decode cX8_hear 48 = .ok (.ireturn, 1) := by decide +kernel
theorem dX8_hear_49 : decode cX8_hear 49 = .ok (.aload_n 0, 1) := by decide +kernel
theorem dX8_hear_50 : decode cX8_hear 50 = .ok (.getfield 12, 3) := by decide +kernel
theorem dX8_hear_53 : decode cX8_hear 53 = .ok (.getfield 255, 3) := by decide +kernel
theorem dX8_hear_56 : decode cX8_hear 56 = .ok (.iload_n 1, 1) := by decide +kernel
theorem dX8_hear_57 : decode cX8_hear 57 = .ok (.iload_n 2, 1) := by decide +kernel
theorem dX8_hear_58 : decode cX8_hear 58 = .ok (.iload_n 3, 1) := by decide +kernel
theorem dX8_hear_59 : decode cX8_hear 59 = .ok (.invokevirtual 264, 3) := by decide +kernel
theorem dX8_hear_62 : decode cX8_hear 62 = .ok (.ireturn, 1) := by decide +kernel
theorem dX8_can_0 : decode cX8_can 0 = .ok (.aload_n 0, 1) := by decide +kernel
theorem dX8_can_1 : decode cX8_can 1 = .ok (.getfield 12, 3) := by decide +kernel
theorem dX8_can_4 : decode cX8_can 4 = .ok (.iload_n 1, 1) := by decide +kernel
theorem dX8_can_5 : decode cX8_can 5 = .ok (.invokevirtual 90, 3) := by decide +kernel
theorem dX8_can_8 : decode cX8_can 8 = .ok (.astore_n 3, 1) := by decide +kernel
theorem dX8_can_9 : decode cX8_can 9 = .ok (.aload_n 3, 1) := by decide +kernel
theorem dX8_can_10 : decode cX8_can 10 = .ok (.ifnull 12, 3) := by decide +kernel
theorem dX8_can_13 : decode cX8_can 13 = .ok (.iload_n 2, 1) := by decide +kernel
theorem dX8_can_14 : decode cX8_can 14 = .ok (.ifCond .eq 10, 3) := by decide +kernel
theorem dX8_can_17 : decode cX8_can 17 = .ok (.iload_n 2, 1) := by decide +kernel
theorem dX8_can_18 : decode cX8_can 18 = .ok (.iconst 1, 1) := by decide +kernel
theorem dX8_can_19 : decode cX8_can 19 = .ok (.if_icmp .eq 5, 3) := by decide +kernel
theorem dX8_can_22 : decode cX8_can 22 = .ok (.iconst (-1), 1) := by decide +kernel
theorem dX8_can_23 : decode cX8_can 23 = .ok (.ireturn, 1) := by decide +kernel
theorem dX8_can_24 : decode cX8_can 24 = .ok (.aload_n 0, 1) := by decide +kernel
theorem dX8_can_25 : decode cX8_can 25 = .ok (.aload_n 3, 1) := by decide +kernel
theorem dX8_can_26 : decode cX8_can 26 = .ok (.invokevirtual 266, 3) := by decide +kernel
theorem dX8_can_29 : decode cX8_can 29 = .ok (.istore 4, 2) := by decide +kernel
theorem dX8_can_31 : decode cX8_can 31 = .ok (.iload_n 2, 1) := by decide +kernel
theorem dX8_can_32 : decode cX8_can 32 = .ok (.ifCond .ne 11, 3) := by decide +kernel
theorem dX8_can_35 : decode cX8_can 35 = .ok (.iload 4, 2) := by decide +kernel
theorem dX8_can_37 : decode cX8_can 37 = .ok (.invokestatic 240, 3) := by decide +kernel
theorem dX8_can_40 : decode cX8_can 40 = .ok (.goto 8, 3) := by decide +kernel
theorem dX8_can_43 : decode cX8_can 43 = .ok (.iload 4, 2) := by decide +kernel
theorem dX8_can_45 : decode cX8_can 45 = .ok (.invokestatic 269, 3) := by decide +kernel
theorem dX8_can_48 : decode cX8_can 48 = .ok (.ireturn, 1) := by decide +kernel
theorem dX8_odds_0 : decode cX8_odds 0 = .ok (.iload_n 1, 1) := by decide +kernel
theorem dX8_odds_1 : decode cX8_odds 1 = .ok (.invokestatic 102, 3) := by decide +kernel
theorem dX8_odds_4 : decode cX8_odds 4 = .ok (.ifCond .eq 12, 3) := by decide +kernel
theorem dX8_odds_7 : decode cX8_odds 7 = .ok (.iload_n 2, 1) := by decide +kernel
theorem dX8_odds_8 : decode cX8_odds 8 = .ok (.ifCond .eq 12, 3) := by decide +kernel
theorem dX8_odds_11 : decode cX8_odds 11 = .ok (.iload_n 2, 1) := by decide +kernel
theorem dX8_odds_12 : decode cX8_odds 12 = .ok (.iconst 1, 1) := by decide +kernel
theorem dX8_odds_13 : decode cX8_odds 13 = .ok (.if_icmp .eq 7, 3) := by decide +kernel
theorem dX8_odds_16 : decode cX8_odds 16 = .ok (.ldc2_w 272, 3) := by decide +kernel
theorem dX8_odds_19 : decode cX8_odds 19 = .ok (.lreturn, 1) := by decide +kernel
theorem dX8_odds_20 : decode cX8_odds 20 = .ok (.aload_n 0, 1) := by decide +kernel
theorem dX8_odds_21 : decode cX8_odds 21 = .ok (.invokevirtual 155, 3) := by decide +kernel
theorem dX8_odds_24 : decode cX8_odds 24 = .ok (.aload_n 0, 1) := by decide +kernel
theorem dX8_odds_25 : decode cX8_odds 25 = .ok (.getfield 60, 3) := by decide +kernel
theorem dX8_odds_28 : decode cX8_odds 28 = .ok (.getfield 162, 3) := by decide +kernel
theorem dX8_odds_31 : decode cX8_odds 31 = .ok (.ifCond .ne 7, 3) := by decide +kernel
theorem dX8_odds_34 : decode cX8_odds 34 = .ok (.ldc2_w 272, 3) := by decide +kernel
theorem dX8_odds_37 : decode cX8_odds 37 = .ok (.lreturn, 1) := by decide +kernel
theorem dX8_odds_38 : decode cX8_odds 38 = .ok (.aload_n 0, 1) := by decide +kernel
theorem dX8_odds_39 : decode cX8_odds 39 = .ok (.getfield 60, 3) := by decide +kernel
theorem dX8_odds_42 : decode cX8_odds 42 = .ok (.getfield 168, 3) := by decide +kernel
theorem dX8_odds_45 : decode cX8_odds 45 = .ok (.iload_n 1, 1) := by decide +kernel
theorem dX8_odds_46 : decode cX8_odds 46 = .ok (.invokestatic 193, 3) := by decide +kernel
theorem dX8_odds_49 : decode cX8_odds 49 = .ok (.istore_n 3, 1) := by decide +kernel
theorem dX8_odds_50 : decode cX8_odds 50 = .ok (.iload_n 2, 1) := by decide +kernel
theorem dX8_odds_51 : decode cX8_odds 51 = .ok (.iconst 1, 1) := by decide +kernel
theorem dX8_odds_52 : decode cX8_odds 52 = .ok (.if_icmp .ne 15, 3) := by decide +kernel
theorem dX8_odds_55 : decode cX8_odds 55 = .ok (.iload_n 3, 1) := by decide +kernel
theorem dX8_odds_56 : decode cX8_odds 56 = .ok (.ifCond .eq 7, 3) := by decide +kernel
theorem dX8_odds_59 : decode cX8_odds 59 = .ok (.lconst 1, 1) := by decide +kernel
theorem dX8_odds_60 : decode cX8_odds 60 = .ok (.goto 6, 3) := by decide +kernel
theorem dX8_odds_63 : decode cX8_odds 63 = .ok (.ldc2_w 274, 3) := by decide +kernel
theorem dX8_odds_66 : decode cX8_odds 66 = .ok (.lreturn, 1) := by decide +kernel
theorem dX8_odds_67 : decode cX8_odds 67 = .ok (.iload_n 3, 1) := by decide +kernel
theorem dX8_odds_68 : decode cX8_odds 68 = .ok (.ifCond .eq 21, 3) := by decide +kernel
theorem dX8_odds_71 : decode cX8_odds 71 = .ok (.aload_n 0, 1) := by decide +kernel
theorem dX8_odds_72 : decode cX8_odds 72 = .ok (.getfield 60, 3) := by decide +kernel
theorem dX8_odds_75 : decode cX8_odds 75 = .ok (.getfield 165, 3) := by decide +kernel
theorem dX8_odds_78 : decode cX8_odds 78 = .ok (.iload_n 1, 1) := by decide +kernel
theorem dX8_odds_79 : decode cX8_odds 79 = .ok (.invokestatic 193, 3) := by decide +kernel
theorem dX8_odds_82 : decode cX8_odds 82 = .ok (.ifCond .ne 7, 3) := by decide +kernel
theorem dX8_odds_85 : decode cX8_odds 85 = .ok (.lconst 0, 1) := by decide +kernel
theorem dX8_odds_86 : decode cX8_odds 86 = .ok (.goto 4, 3) := by decide +kernel
theorem dX8_odds_89 : decode cX8_odds 89 = .ok (.lconst 1, 1) := by decide +kernel
theorem dX8_odds_90 : decode cX8_odds 90 = .ok (.lreturn, 1) := by decide +kernel
theorem dX8_mean_0 : decode cX8_mean 0 = .ok (.iload_n 1, 1) := by decide +kernel
theorem dX8_mean_1 : decode cX8_mean 1 = .ok (.ifCond .lt 28, 3) := by decide +kernel
theorem dX8_mean_4 : decode cX8_mean 4 = .ok (.iload_n 1, 1) := by decide +kernel
theorem dX8_mean_5 : decode cX8_mean 5 = .ok (.bipush 60, 2) := by decide +kernel
theorem dX8_mean_7 : decode cX8_mean 7 = .ok (.if_icmp .gt 22, 3) := by decide +kernel
theorem dX8_mean_10 : decode cX8_mean 10 = .ok (.iload_n 2, 1) := by decide +kernel
theorem dX8_mean_11 : decode cX8_mean 11 = .ok (.ifCond .eq 8, 3) := by decide +kernel
theorem dX8_mean_14 : decode cX8_mean 14 = .ok (.iload_n 2, 1) := by decide +kernel
theorem dX8_mean_15 : decode cX8_mean 15 = .ok (.iconst 1, 1) := by decide +kernel
theorem dX8_mean_16 : decode cX8_mean 16 = .ok (.if_icmp .ne 13, 3) := by decide +kernel
theorem dX8_mean_19 : decode cX8_mean 19 = .ok (.aload_n 0, 1) := by decide +kernel
theorem dX8_mean_20 : decode cX8_mean 20 = .ok (.getfield 12, 3) := by decide +kernel
theorem dX8_mean_23 : decode cX8_mean 23 = .ok (.getfield 208, 3) := by decide +kernel
theorem dX8_mean_26 : decode cX8_mean 26 = .ok (.ifCond .ne 7, 3) := by decide +kernel
theorem dX8_mean_29 : decode cX8_mean 29 = .ok (.ldc2_w 272, 3) := by decide +kernel
theorem dX8_mean_32 : decode cX8_mean 32 = .ok (.lreturn, 1) := by decide +kernel
theorem dX8_mean_33 : decode cX8_mean 33 = .ok (.aload_n 0, 1) := by decide +kernel
theorem dX8_mean_34 : decode cX8_mean 34 = .ok (.getfield 21, 3) := by decide +kernel
theorem dX8_mean_37 : decode cX8_mean 37 = .ok (.aload_n 0, 1) := by decide +kernel
theorem dX8_mean_38 : decode cX8_mean 38 = .ok (.getfield 12, 3) := by decide +kernel
theorem dX8_mean_41 : decode cX8_mean 41 = .ok (.invokevirtual 224, 3) := by decide +kernel
theorem dX8_mean_44 : decode cX8_mean 44 = .ok (.aload_n 0, 1) := by decide +kernel
theorem dX8_mean_45 : decode cX8_mean 45 = .ok (.getfield 21, 3) := by decide +kernel
theorem dX8_mean_48 : decode cX8_mean 48 = .ok (.iload_n 1, 1) := by decide +kernel
theorem dX8_mean_49 : decode cX8_mean 49 = .ok (.aload_n 0, 1) := by decide +kernel
theorem dX8_mean_50 : decode cX8_mean 50 = .ok (.invokevirtual 146, 3) := by decide +kernel
theorem dX8_mean_53 : decode cX8_mean 53 = .ok (.getfield 149, 3) := by decide +kernel
theorem dX8_mean_56 : decode cX8_mean 56 = .ok (.invokevirtual 220, 3) := by decide +kernel
theorem dX8_mean_59 : decode cX8_mean 59 = .ok (.aload_n 0, 1) := by decide +kernel
theorem dX8_mean_60 : decode cX8_mean 60 = .ok (.getfield 21, 3) := by decide +kernel
theorem dX8_mean_63 : decode cX8_mean 63 = .ok (.invokevirtual 228, 3) := by decide +kernel
theorem dX8_mean_66 : decode cX8_mean 66 = .ok (.istore_n 3, 1) := by decide +kernel
theorem dX8_mean_67 : decode cX8_mean 67 = .ok (.aload_n 0, 1) := by decide +kernel
theorem dX8_mean_68 : decode cX8_mean 68 = .ok (.getfield 21, 3) := by decide +kernel
theorem dX8_mean_71 : decode cX8_mean 71 = .ok (.getfield 208, 3) := by decide +kernel
theorem dX8_mean_74 : decode cX8_mean 74 = .ok (.istore 4, 2) := by decide +kernel
theorem dX8_mean_76 : decode cX8_mean 76 = .ok (.iload_n 3, 1) := by decide +kernel
theorem dX8_mean_77 : decode cX8_mean 77 = .ok (.iload 4, 2) := by decide +kernel
theorem dX8_mean_79 : decode cX8_mean 79 = .ok (.invokestatic 276, 3) := by decide +kernel
theorem dX8_mean_82 : decode cX8_mean 82 = .ok (.istore 5, 2) := by decide +kernel
theorem dX8_mean_84 : decode cX8_mean 84 = .ok (.iload 5, 2) := by decide +kernel
theorem dX8_mean_86 : decode cX8_mean 86 = .ok (.ifCond .ne 7, 3) := by decide +kernel
theorem dX8_mean_89 : decode cX8_mean 89 = .ok (.ldc2_w 272, 3) := by decide +kernel
theorem dX8_mean_92 : decode cX8_mean 92 = .ok (.lreturn, 1) := by decide +kernel
theorem dX8_mean_93 : decode cX8_mean 93 = .ok (.iload_n 2, 1) := by decide +kernel
theorem dX8_mean_94 : decode cX8_mean 94 = .ok (.ifCond .ne 7, 3) := by decide +kernel
theorem dX8_mean_97 : decode cX8_mean 97 = .ok (.iload_n 3, 1) := by decide +kernel
theorem dX8_mean_98 : decode cX8_mean 98 = .ok (.goto 5, 3) := by decide +kernel
theorem dX8_mean_101 : decode cX8_mean 101 = .ok (.iload 4, 2) := by decide +kernel
theorem dX8_mean_103 : decode cX8_mean 103 = .ok (.iload 5, 2) := by decide +kernel
theorem dX8_mean_105 : decode cX8_mean 105 = .ok (.idiv, 1) := by decide +kernel
theorem dX8_mean_106 : decode cX8_mean 106 = .ok (.i2l, 1) := by decide +kernel
theorem dX8_mean_107 : decode cX8_mean 107 = .ok (.lreturn, 1) := by decide +kernel
theorem dX8_commonDivisor_0 : decode cX8_commonDivisor 0 = .ok (.iload_n 0, 1) := by decide +kernel
theorem dX8_commonDivisor_1 : decode cX8_commonDivisor 1 = .ok (.istore_n 2, 1) := by decide +kernel
theorem dX8_commonDivisor_2 : decode cX8_commonDivisor 2 = .ok (.iload_n 1, 1) := by decide +kernel
theorem dX8_commonDivisor_3 : decode cX8_commonDivisor 3 = .ok (.istore_n 3, 1) := by decide +kernel
theorem dX8_commonDivisor_4 : decode cX8_commonDivisor 4 = .ok (.iconst 0, 1) := by decide +kernel
theorem dX8_commonDivisor_5 : decode cX8_commonDivisor 5 = .ok (.istore 4, 2) := by decide +kernel
theorem dX8_commonDivisor_7 : decode cX8_commonDivisor 7 = .ok (.iload 4, 2) := by decide +kernel
theorem dX8_commonDivisor_9 : decode cX8_commonDivisor 9 = .ok (.bipush 64, 2) := by decide +kernel
theorem dX8_commonDivisor_11 : decode cX8_commonDivisor 11 = .ok (.if_icmp .ge 23, 3) := by decide +kernel
theorem dX8_commonDivisor_14 : decode cX8_commonDivisor 14 = .ok (.iload_n 3, 1) := by decide +kernel
theorem dX8_commonDivisor_15 : decode cX8_commonDivisor 15 = .ok (.ifCond .eq 19, 3) := by decide +kernel
theorem dX8_commonDivisor_18 : decode cX8_commonDivisor 18 = .ok (.iload_n 2, 1) := by decide +kernel
theorem dX8_commonDivisor_19 : decode cX8_commonDivisor 19 = .ok (.iload_n 3, 1) := by decide +kernel
theorem dX8_commonDivisor_20 : decode cX8_commonDivisor 20 = .ok (.irem, 1) := by decide +kernel
theorem dX8_commonDivisor_21 : decode cX8_commonDivisor 21 = .ok (.istore 5, 2) := by decide +kernel
theorem dX8_commonDivisor_23 : decode cX8_commonDivisor 23 = .ok (.iload_n 3, 1) := by decide +kernel
theorem dX8_commonDivisor_24 : decode cX8_commonDivisor 24 = .ok (.istore_n 2, 1) := by decide +kernel
theorem dX8_commonDivisor_25 : decode cX8_commonDivisor 25 = .ok (.iload 5, 2) := by decide +kernel
theorem dX8_commonDivisor_27 : decode cX8_commonDivisor 27 = .ok (.istore_n 3, 1) := by decide +kernel
theorem dX8_commonDivisor_28 : decode cX8_commonDivisor 28 = .ok (.iinc 4 1, 3) := by decide +kernel
theorem dX8_commonDivisor_31 : decode cX8_commonDivisor 31 = .ok (.goto (-24), 3) := by decide +kernel
theorem dX8_commonDivisor_34 : decode cX8_commonDivisor 34 = .ok (.iload_n 2, 1) := by decide +kernel
theorem dX8_commonDivisor_35 : decode cX8_commonDivisor 35 = .ok (.ireturn, 1) := by decide +kernel
theorem dX8_gatherFits_0 : decode cX8_gatherFits 0 = .ok (.aload_n 0, 1) := by decide +kernel
theorem dX8_gatherFits_1 : decode cX8_gatherFits 1 = .ok (.getfield 60, 3) := by decide +kernel
theorem dX8_gatherFits_4 : decode cX8_gatherFits 4 = .ok (.invokevirtual 279, 3) := by decide +kernel
theorem dX8_gatherFits_7 : decode cX8_gatherFits 7 = .ok (.aload_n 0, 1) := by decide +kernel
theorem dX8_gatherFits_8 : decode cX8_gatherFits 8 = .ok (.getfield 12, 3) := by decide +kernel
theorem dX8_gatherFits_11 : decode cX8_gatherFits 11 = .ok (.getfield 255, 3) := by decide +kernel
theorem dX8_gatherFits_14 : decode cX8_gatherFits 14 = .ok (.astore_n 1, 1) := by decide +kernel
theorem dX8_gatherFits_15 : decode cX8_gatherFits 15 = .ok (.iconst 0, 1) := by decide +kernel
theorem dX8_gatherFits_16 : decode cX8_gatherFits 16 = .ok (.istore_n 2, 1) := by decide +kernel
theorem dX8_gatherFits_17 : decode cX8_gatherFits 17 = .ok (.iload_n 2, 1) := by decide +kernel
theorem dX8_gatherFits_18 : decode cX8_gatherFits 18 = .ok (.aload_n 1, 1) := by decide +kernel
theorem dX8_gatherFits_19 : decode cX8_gatherFits 19 = .ok (.getfield 282, 3) := by decide +kernel
theorem dX8_gatherFits_22 : decode cX8_gatherFits 22 = .ok (.if_icmp .ge 60, 3) := by decide +kernel
theorem dX8_gatherFits_25 : decode cX8_gatherFits 25 = .ok (.aload_n 0, 1) := by decide +kernel
theorem dX8_gatherFits_26 : decode cX8_gatherFits 26 = .ok (.getfield 12, 3) := by decide +kernel
theorem dX8_gatherFits_29 : decode cX8_gatherFits 29 = .ok (.aload_n 1, 1) := by decide +kernel
theorem dX8_gatherFits_30 : decode cX8_gatherFits 30 = .ok (.getfield 284, 3) := by decide +kernel
theorem dX8_gatherFits_33 : decode cX8_gatherFits 33 = .ok (.iload_n 2, 1) := by decide +kernel
theorem dX8_gatherFits_34 : decode cX8_gatherFits 34 = .ok (.iaload, 1) := by decide +kernel
theorem dX8_gatherFits_35 : decode cX8_gatherFits 35 = .ok (.invokevirtual 90, 3) := by decide +kernel
theorem dX8_gatherFits_38 : decode cX8_gatherFits 38 = .ok (.astore_n 3, 1) := by decide +kernel
theorem dX8_gatherFits_39 : decode cX8_gatherFits 39 = .ok (.aload_n 3, 1) := by decide +kernel
theorem dX8_gatherFits_40 : decode cX8_gatherFits 40 = .ok (.ifnull 36, 3) := by decide +kernel
theorem dX8_gatherFits_43 : decode cX8_gatherFits 43 = .ok (.aload_n 1, 1) := by decide +kernel
theorem dX8_gatherFits_44 : decode cX8_gatherFits 44 = .ok (.getfield 287, 3) := by decide +kernel
theorem dX8_gatherFits_47 : decode cX8_gatherFits 47 = .ok (.iload_n 2, 1) := by decide +kernel
theorem dX8_gatherFits_48 : decode cX8_gatherFits 48 = .ok (.iaload, 1) := by decide +kernel
theorem dX8_gatherFits_49 : decode cX8_gatherFits 49 = .ok (.istore 4, 2) := by decide +kernel
theorem dX8_gatherFits_51 : decode cX8_gatherFits 51 = .ok (.aload_n 0, 1) := by decide +kernel
theorem dX8_gatherFits_52 : decode cX8_gatherFits 52 = .ok (.getfield 60, 3) := by decide +kernel
theorem dX8_gatherFits_55 : decode cX8_gatherFits 55 = .ok (.iload 4, 2) := by decide +kernel
theorem dX8_gatherFits_57 : decode cX8_gatherFits 57 = .ok (.aload_n 0, 1) := by decide +kernel
theorem dX8_gatherFits_58 : decode cX8_gatherFits 58 = .ok (.aload_n 3, 1) := by decide +kernel
theorem dX8_gatherFits_59 : decode cX8_gatherFits 59 = .ok (.iload 4, 2) := by decide +kernel
theorem dX8_gatherFits_61 : decode cX8_gatherFits 61 = .ok (.invokevirtual 105, 3) := by decide +kernel
theorem dX8_gatherFits_64 : decode cX8_gatherFits 64 = .ok (.invokestatic 190, 3) := by decide +kernel
theorem dX8_gatherFits_67 : decode cX8_gatherFits 67 = .ok (.aload_n 1, 1) := by decide +kernel
theorem dX8_gatherFits_68 : decode cX8_gatherFits 68 = .ok (.getfield 290, 3) := by decide +kernel
theorem dX8_gatherFits_71 : decode cX8_gatherFits 71 = .ok (.iload_n 2, 1) := by decide +kernel
theorem dX8_gatherFits_72 : decode cX8_gatherFits 72 = .ok (.iaload, 1) := by decide +kernel
theorem dX8_gatherFits_73 : decode cX8_gatherFits 73 = .ok (.invokevirtual 293, 3) := by decide +kernel
theorem dX8_gatherFits_76 : decode cX8_gatherFits 76 = .ok (.iinc 2 1, 3) := by decide +kernel
theorem dX8_gatherFits_79 : decode cX8_gatherFits 79 = .ok (.goto (-62), 3) := by decide +kernel
theorem dX8_gatherFits_82 : decode cX8_gatherFits 82 = .ok (.return_, 1) := by decide +kernel
theorem dX8_nextToAsk_0 : decode cX8_nextToAsk 0 = .ok (.aload_n 0, 1) := by decide +kernel
theorem dX8_nextToAsk_1 : decode cX8_nextToAsk 1 = .ok (.getfield 60, 3) := by decide +kernel
theorem dX8_nextToAsk_4 : decode cX8_nextToAsk 4 = .ok (.getfield 162, 3) := by decide +kernel
theorem dX8_nextToAsk_7 : decode cX8_nextToAsk 7 = .ok (.ifCond .ne 6, 3) := by decide +kernel
theorem dX8_nextToAsk_10 : decode cX8_nextToAsk 10 = .ok (.bipush (-5), 2) := by decide +kernel
theorem dX8_nextToAsk_12 : decode cX8_nextToAsk 12 = .ok (.ireturn, 1) := by decide +kernel
theorem dX8_nextToAsk_13 : decode cX8_nextToAsk 13 = .ok (.bipush (-5), 2) := by decide +kernel
theorem dX8_nextToAsk_15 : decode cX8_nextToAsk 15 = .ok (.istore_n 1, 1) := by decide +kernel
theorem dX8_nextToAsk_16 : decode cX8_nextToAsk 16 = .ok (.ldc_w 297, 3) := by decide +kernel
theorem dX8_nextToAsk_19 : decode cX8_nextToAsk 19 = .ok (.istore_n 2, 1) := by decide +kernel
theorem dX8_nextToAsk_20 : decode cX8_nextToAsk 20 = .ok (.iconst 0, 1) := by decide +kernel
theorem dX8_nextToAsk_21 : decode cX8_nextToAsk 21 = .ok (.istore_n 3, 1) := by decide +kernel
theorem dX8_nextToAsk_22 : decode cX8_nextToAsk 22 = .ok (.iload_n 3, 1) := by decide +kernel
theorem dX8_nextToAsk_23 : decode cX8_nextToAsk 23 = .ok (.aload_n 0, 1) := by decide +kernel
theorem dX8_nextToAsk_24 : decode cX8_nextToAsk 24 = .ok (.getfield 12, 3) := by decide +kernel
theorem dX8_nextToAsk_27 : decode cX8_nextToAsk 27 = .ok (.getfield 208, 3) := by decide +kernel
theorem dX8_nextToAsk_30 : decode cX8_nextToAsk 30 = .ok (.if_icmp .ge 71, 3) := by decide +kernel
theorem dX8_nextToAsk_33 : decode cX8_nextToAsk 33 = .ok (.iconst 0, 1) := by decide +kernel
theorem dX8_nextToAsk_34 : decode cX8_nextToAsk 34 = .ok (.istore 4, 2) := by decide +kernel
theorem dX8_nextToAsk_36 : decode cX8_nextToAsk 36 = .ok (.iload 4, 2) := by decide +kernel
theorem dX8_nextToAsk_38 : decode cX8_nextToAsk 38 = .ok (.bipush 8, 2) := by decide +kernel
theorem dX8_nextToAsk_40 : decode cX8_nextToAsk 40 = .ok (.if_icmp .ge 55, 3) := by decide +kernel
theorem dX8_nextToAsk_43 : decode cX8_nextToAsk 43 = .ok (.aload_n 0, 1) := by decide +kernel
theorem dX8_nextToAsk_44 : decode cX8_nextToAsk 44 = .ok (.getfield 60, 3) := by decide +kernel
theorem dX8_nextToAsk_47 : decode cX8_nextToAsk 47 = .ok (.iload 4, 2) := by decide +kernel
theorem dX8_nextToAsk_49 : decode cX8_nextToAsk 49 = .ok (.aload_n 0, 1) := by decide +kernel
theorem dX8_nextToAsk_50 : decode cX8_nextToAsk 50 = .ok (.aload_n 0, 1) := by decide +kernel
theorem dX8_nextToAsk_51 : decode cX8_nextToAsk 51 = .ok (.getfield 12, 3) := by decide +kernel
theorem dX8_nextToAsk_54 : decode cX8_nextToAsk 54 = .ok (.getfield 211, 3) := by decide +kernel
theorem dX8_nextToAsk_57 : decode cX8_nextToAsk 57 = .ok (.iload_n 3, 1) := by decide +kernel
theorem dX8_nextToAsk_58 : decode cX8_nextToAsk 58 = .ok (.aaload, 1) := by decide +kernel
theorem dX8_nextToAsk_59 : decode cX8_nextToAsk 59 = .ok (.iload 4, 2) := by decide +kernel
theorem dX8_nextToAsk_61 : decode cX8_nextToAsk 61 = .ok (.invokevirtual 105, 3) := by decide +kernel
theorem dX8_nextToAsk_64 : decode cX8_nextToAsk 64 = .ok (.invokestatic 190, 3) := by decide +kernel
theorem dX8_nextToAsk_67 : decode cX8_nextToAsk 67 = .ok (.invokevirtual 298, 3) := by decide +kernel
theorem dX8_nextToAsk_70 : decode cX8_nextToAsk 70 = .ok (.istore 5, 2) := by decide +kernel
theorem dX8_nextToAsk_72 : decode cX8_nextToAsk 72 = .ok (.iload 5, 2) := by decide +kernel
theorem dX8_nextToAsk_74 : decode cX8_nextToAsk 74 = .ok (.iload_n 2, 1) := by decide +kernel
theorem dX8_nextToAsk_75 : decode cX8_nextToAsk 75 = .ok (.if_icmp .ge 14, 3) := by decide +kernel
theorem dX8_nextToAsk_78 : decode cX8_nextToAsk 78 = .ok (.iload 5, 2) := by decide +kernel
theorem dX8_nextToAsk_80 : decode cX8_nextToAsk 80 = .ok (.istore_n 2, 1) := by decide +kernel
theorem dX8_nextToAsk_81 : decode cX8_nextToAsk 81 = .ok (.bipush 10, 2) := by decide +kernel
theorem dX8_nextToAsk_83 : decode cX8_nextToAsk 83 = .ok (.iload_n 3, 1) := by decide +kernel
theorem dX8_nextToAsk_84 : decode cX8_nextToAsk 84 = .ok (.imul, 1) := by decide +kernel
theorem dX8_nextToAsk_85 : decode cX8_nextToAsk 85 = .ok (.iload 4, 2) := by decide +kernel
theorem dX8_nextToAsk_87 : decode cX8_nextToAsk 87 = .ok (.iadd, 1) := by decide +kernel
theorem dX8_nextToAsk_88 : decode cX8_nextToAsk 88 = .ok (.istore_n 1, 1) := by decide +kernel
theorem dX8_nextToAsk_89 : decode cX8_nextToAsk 89 = .ok (.iinc 4 1, 3) := by decide +kernel
theorem dX8_nextToAsk_92 : decode cX8_nextToAsk 92 = .ok (.goto (-56), 3) := by decide +kernel
theorem dX8_nextToAsk_95 : decode cX8_nextToAsk 95 = .ok (.iinc 3 1, 3) := by decide +kernel
theorem dX8_nextToAsk_98 : decode cX8_nextToAsk 98 = .ok (.goto (-76), 3) := by decide +kernel
theorem dX8_nextToAsk_101 : decode cX8_nextToAsk 101 = .ok (.iload_n 1, 1) := by decide +kernel
theorem dX8_nextToAsk_102 : decode cX8_nextToAsk 102 = .ok (.ireturn, 1) := by decide +kernel
theorem dX8_bearsOut_0 : decode cX8_bearsOut 0 = .ok (.aload_n 0, 1) := by decide +kernel
theorem dX8_bearsOut_1 : decode cX8_bearsOut 1 = .ok (.getfield 12, 3) := by decide +kernel
theorem dX8_bearsOut_4 : decode cX8_bearsOut 4 = .ok (.getfield 255, 3) := by decide +kernel
theorem dX8_bearsOut_7 : decode cX8_bearsOut 7 = .ok (.astore_n 2, 1) := by decide +kernel
theorem dX8_bearsOut_8 : decode cX8_bearsOut 8 = .ok (.iconst 0, 1) := by decide +kernel
theorem dX8_bearsOut_9 : decode cX8_bearsOut 9 = .ok (.istore_n 3, 1) := by decide +kernel
theorem dX8_bearsOut_10 : decode cX8_bearsOut 10 = .ok (.iload_n 3, 1) := by decide +kernel
theorem dX8_bearsOut_11 : decode cX8_bearsOut 11 = .ok (.aload_n 2, 1) := by decide +kernel
theorem dX8_bearsOut_12 : decode cX8_bearsOut 12 = .ok (.getfield 282, 3) := by decide +kernel
theorem dX8_bearsOut_15 : decode cX8_bearsOut 15 = .ok (.if_icmp .ge 59, 3) := by decide +kernel
theorem dX8_bearsOut_18 : decode cX8_bearsOut 18 = .ok (.aload_n 2, 1) := by decide +kernel
theorem dX8_bearsOut_19 : decode cX8_bearsOut 19 = .ok (.getfield 284, 3) := by decide +kernel
theorem dX8_bearsOut_22 : decode cX8_bearsOut 22 = .ok (.iload_n 3, 1) := by decide +kernel
theorem dX8_bearsOut_23 : decode cX8_bearsOut 23 = .ok (.iaload, 1) := by decide +kernel
theorem dX8_bearsOut_24 : decode cX8_bearsOut 24 = .ok (.aload_n 1, 1) := by decide +kernel
theorem dX8_bearsOut_25 : decode cX8_bearsOut 25 = .ok (.getfield 301, 3) := by decide +kernel
theorem dX8_bearsOut_28 : decode cX8_bearsOut 28 = .ok (.if_icmp .ne 40, 3) := by decide +kernel
theorem dX8_bearsOut_31 : decode cX8_bearsOut 31 = .ok (.aload_n 0, 1) := by decide +kernel
theorem dX8_bearsOut_32 : decode cX8_bearsOut 32 = .ok (.aload_n 1, 1) := by decide +kernel
theorem dX8_bearsOut_33 : decode cX8_bearsOut 33 = .ok (.aload_n 2, 1) := by decide +kernel
theorem dX8_bearsOut_34 : decode cX8_bearsOut 34 = .ok (.getfield 287, 3) := by decide +kernel
theorem dX8_bearsOut_37 : decode cX8_bearsOut 37 = .ok (.iload_n 3, 1) := by decide +kernel
theorem dX8_bearsOut_38 : decode cX8_bearsOut 38 = .ok (.iaload, 1) := by decide +kernel
theorem dX8_bearsOut_39 : decode cX8_bearsOut 39 = .ok (.invokevirtual 108, 3) := by decide +kernel
theorem dX8_bearsOut_42 : decode cX8_bearsOut 42 = .ok (.istore 4, 2) := by decide +kernel
theorem dX8_bearsOut_44 : decode cX8_bearsOut 44 = .ok (.iload 4, 2) := by decide +kernel
theorem dX8_bearsOut_46 : decode cX8_bearsOut 46 = .ok (.bipush (-5), 2) := by decide +kernel
theorem dX8_bearsOut_48 : decode cX8_bearsOut 48 = .ok (.if_icmp .ne 7, 3) := by decide +kernel
theorem dX8_bearsOut_51 : decode cX8_bearsOut 51 = .ok (.iconst (-1), 1) := by decide +kernel
theorem dX8_bearsOut_52 : decode cX8_bearsOut 52 = .ok (.goto 5, 3) := by decide +kernel
theorem dX8_bearsOut_55 : decode cX8_bearsOut 55 = .ok (.iload 4, 2) := by decide +kernel
theorem dX8_bearsOut_57 : decode cX8_bearsOut 57 = .ok (.aload_n 2, 1) := by decide +kernel
theorem dX8_bearsOut_58 : decode cX8_bearsOut 58 = .ok (.getfield 290, 3) := by decide +kernel
theorem dX8_bearsOut_61 : decode cX8_bearsOut 61 = .ok (.iload_n 3, 1) := by decide +kernel
theorem dX8_bearsOut_62 : decode cX8_bearsOut 62 = .ok (.iaload, 1) := by decide +kernel
theorem dX8_bearsOut_63 : decode cX8_bearsOut 63 = .ok (.if_icmp .eq 5, 3) := by decide +kernel
theorem dX8_bearsOut_66 : decode cX8_bearsOut 66 = .ok (.iconst 0, 1) := by decide +kernel
theorem dX8_bearsOut_67 : decode cX8_bearsOut 67 = .ok (.ireturn, 1) := by decide +kernel
theorem dX8_bearsOut_68 : decode cX8_bearsOut 68 = .ok (.iinc 3 1, 3) := by decide +kernel
theorem dX8_bearsOut_71 : decode cX8_bearsOut 71 = .ok (.goto (-61), 3) := by decide +kernel
theorem dX8_bearsOut_74 : decode cX8_bearsOut 74 = .ok (.iconst 1, 1) := by decide +kernel
theorem dX8_bearsOut_75 : decode cX8_bearsOut 75 = .ok (.ireturn, 1) := by decide +kernel
theorem dX8_least_0 : decode cX8_least 0 = .ok (.iconst 0, 1) := by decide +kernel
theorem dX8_least_1 : decode cX8_least 1 = .ok (.istore_n 1, 1) := by decide +kernel
theorem dX8_least_2 : decode cX8_least 2 = .ok (.iload_n 1, 1) := by decide +kernel
theorem dX8_least_3 : decode cX8_least 3 = .ok (.bipush 9, 2) := by decide +kernel
theorem dX8_least_5 : decode cX8_least 5 = .ok (.if_icmp .gt 19, 3) := by decide +kernel
theorem dX8_least_8 : decode cX8_least 8 = .ok (.iload_n 0, 1) := by decide +kernel
theorem dX8_least_9 : decode cX8_least 9 = .ok (.iload_n 1, 1) := by decide +kernel
theorem dX8_least_10 : decode cX8_least 10 = .ok (.invokestatic 193, 3) := by decide +kernel
theorem dX8_least_13 : decode cX8_least 13 = .ok (.ifCond .eq 5, 3) := by decide +kernel
theorem dX8_least_16 : decode cX8_least 16 = .ok (.iload_n 1, 1) := by decide +kernel
theorem dX8_least_17 : decode cX8_least 17 = .ok (.ireturn, 1) := by decide +kernel
theorem dX8_least_18 : decode cX8_least 18 = .ok (.iinc 1 1, 3) := by decide +kernel
theorem dX8_least_21 : decode cX8_least 21 = .ok (.goto (-19), 3) := by decide +kernel
theorem dX8_least_24 : decode cX8_least 24 = .ok (.bipush (-5), 2) := by decide +kernel
theorem dX8_least_26 : decode cX8_least 26 = .ok (.ireturn, 1) := by decide +kernel
theorem dX8_fittingSugars_0 : decode cX8_fittingSugars 0 = .ok (.iconst 0, 1) := by decide +kernel
theorem dX8_fittingSugars_1 : decode cX8_fittingSugars 1 = .ok (.istore_n 2, 1) := by decide +kernel
theorem dX8_fittingSugars_2 : decode cX8_fittingSugars 2 = .ok (.aload_n 0, 1) := by decide +kernel
theorem dX8_fittingSugars_3 : decode cX8_fittingSugars 3 = .ok (.getfield 27, 3) := by decide +kernel
theorem dX8_fittingSugars_6 : decode cX8_fittingSugars 6 = .ok (.aload_n 1, 1) := by decide +kernel
theorem dX8_fittingSugars_7 : decode cX8_fittingSugars 7 = .ok (.invokevirtual 200, 3) := by decide +kernel
theorem dX8_fittingSugars_10 : decode cX8_fittingSugars 10 = .ok (.iconst 0, 1) := by decide +kernel
theorem dX8_fittingSugars_11 : decode cX8_fittingSugars 11 = .ok (.istore_n 3, 1) := by decide +kernel
theorem dX8_fittingSugars_12 : decode cX8_fittingSugars 12 = .ok (.iload_n 3, 1) := by decide +kernel
theorem dX8_fittingSugars_13 : decode cX8_fittingSugars 13 = .ok (.bipush 9, 2) := by decide +kernel
theorem dX8_fittingSugars_15 : decode cX8_fittingSugars 15 = .ok (.if_icmp .gt 34, 3) := by decide +kernel
theorem dX8_fittingSugars_18 : decode cX8_fittingSugars 18 = .ok (.aload_n 0, 1) := by decide +kernel
theorem dX8_fittingSugars_19 : decode cX8_fittingSugars 19 = .ok (.getfield 27, 3) := by decide +kernel
theorem dX8_fittingSugars_22 : decode cX8_fittingSugars 22 = .ok (.iload_n 3, 1) := by decide +kernel
theorem dX8_fittingSugars_23 : decode cX8_fittingSugars 23 = .ok (.putfield 117, 3) := by decide +kernel
theorem dX8_fittingSugars_26 : decode cX8_fittingSugars 26 = .ok (.aload_n 0, 1) := by decide +kernel
theorem dX8_fittingSugars_27 : decode cX8_fittingSugars 27 = .ok (.aload_n 0, 1) := by decide +kernel
theorem dX8_fittingSugars_28 : decode cX8_fittingSugars 28 = .ok (.getfield 27, 3) := by decide +kernel
theorem dX8_fittingSugars_31 : decode cX8_fittingSugars 31 = .ok (.invokevirtual 304, 3) := by decide +kernel
theorem dX8_fittingSugars_34 : decode cX8_fittingSugars 34 = .ok (.ifCond .eq 9, 3) := by decide +kernel
theorem dX8_fittingSugars_37 : decode cX8_fittingSugars 37 = .ok (.iload_n 2, 1) := by decide +kernel
theorem dX8_fittingSugars_38 : decode cX8_fittingSugars 38 = .ok (.iconst 1, 1) := by decide +kernel
theorem dX8_fittingSugars_39 : decode cX8_fittingSugars 39 = .ok (.iload_n 3, 1) := by decide +kernel
theorem dX8_fittingSugars_40 : decode cX8_fittingSugars 40 = .ok (.ishl, 1) := by decide +kernel
theorem dX8_fittingSugars_41 : decode cX8_fittingSugars 41 = .ok (.ior, 1) := by decide +kernel
theorem dX8_fittingSugars_42 : decode cX8_fittingSugars 42 = .ok (.istore_n 2, 1) := by decide +kernel
theorem dX8_fittingSugars_43 : decode cX8_fittingSugars 43 = .ok (.iinc 3 1, 3) := by decide +kernel
theorem dX8_fittingSugars_46 : decode cX8_fittingSugars 46 = .ok (.goto (-34), 3) := by decide +kernel
theorem dX8_fittingSugars_49 : decode cX8_fittingSugars 49 = .ok (.iload_n 2, 1) := by decide +kernel
theorem dX8_fittingSugars_50 : decode cX8_fittingSugars 50 = .ok (.ireturn, 1) := by decide +kernel
theorem dX8_fittingNumbers_0 : decode cX8_fittingNumbers 0 = .ok (.iconst 0, 1) := by decide +kernel
theorem dX8_fittingNumbers_1 : decode cX8_fittingNumbers 1 = .ok (.istore_n 2, 1) := by decide +kernel
theorem dX8_fittingNumbers_2 : decode cX8_fittingNumbers 2 = .ok (.aload_n 0, 1) := by decide +kernel
theorem dX8_fittingNumbers_3 : decode cX8_fittingNumbers 3 = .ok (.getfield 27, 3) := by decide +kernel
theorem dX8_fittingNumbers_6 : decode cX8_fittingNumbers 6 = .ok (.aload_n 1, 1) := by decide +kernel
theorem dX8_fittingNumbers_7 : decode cX8_fittingNumbers 7 = .ok (.invokevirtual 200, 3) := by decide +kernel
theorem dX8_fittingNumbers_10 : decode cX8_fittingNumbers 10 = .ok (.iconst 0, 1) := by decide +kernel
theorem dX8_fittingNumbers_11 : decode cX8_fittingNumbers 11 = .ok (.istore_n 3, 1) := by decide +kernel
theorem dX8_fittingNumbers_12 : decode cX8_fittingNumbers 12 = .ok (.iload_n 3, 1) := by decide +kernel
theorem dX8_fittingNumbers_13 : decode cX8_fittingNumbers 13 = .ok (.bipush 9, 2) := by decide +kernel
theorem dX8_fittingNumbers_15 : decode cX8_fittingNumbers 15 = .ok (.if_icmp .gt 34, 3) := by decide +kernel
theorem dX8_fittingNumbers_18 : decode cX8_fittingNumbers 18 = .ok (.aload_n 0, 1) := by decide +kernel
theorem dX8_fittingNumbers_19 : decode cX8_fittingNumbers 19 = .ok (.getfield 27, 3) := by decide +kernel
theorem dX8_fittingNumbers_22 : decode cX8_fittingNumbers 22 = .ok (.iload_n 3, 1) := by decide +kernel
theorem dX8_fittingNumbers_23 : decode cX8_fittingNumbers 23 = .ok (.putfield 174, 3) := by decide +kernel
theorem dX8_fittingNumbers_26 : decode cX8_fittingNumbers 26 = .ok (.aload_n 0, 1) := by decide +kernel
theorem dX8_fittingNumbers_27 : decode cX8_fittingNumbers 27 = .ok (.aload_n 0, 1) := by decide +kernel
theorem dX8_fittingNumbers_28 : decode cX8_fittingNumbers 28 = .ok (.getfield 27, 3) := by decide +kernel
theorem dX8_fittingNumbers_31 : decode cX8_fittingNumbers 31 = .ok (.invokevirtual 304, 3) := by decide +kernel
theorem dX8_fittingNumbers_34 : decode cX8_fittingNumbers 34 = .ok (.ifCond .eq 9, 3) := by decide +kernel
theorem dX8_fittingNumbers_37 : decode cX8_fittingNumbers 37 = .ok (.iload_n 2, 1) := by decide +kernel
theorem dX8_fittingNumbers_38 : decode cX8_fittingNumbers 38 = .ok (.iconst 1, 1) := by decide +kernel
theorem dX8_fittingNumbers_39 : decode cX8_fittingNumbers 39 = .ok (.iload_n 3, 1) := by decide +kernel
theorem dX8_fittingNumbers_40 : decode cX8_fittingNumbers 40 = .ok (.ishl, 1) := by decide +kernel
theorem dX8_fittingNumbers_41 : decode cX8_fittingNumbers 41 = .ok (.ior, 1) := by decide +kernel
theorem dX8_fittingNumbers_42 : decode cX8_fittingNumbers 42 = .ok (.istore_n 2, 1) := by decide +kernel
theorem dX8_fittingNumbers_43 : decode cX8_fittingNumbers 43 = .ok (.iinc 3 1, 3) := by decide +kernel
theorem dX8_fittingNumbers_46 : decode cX8_fittingNumbers 46 = .ok (.goto (-34), 3) := by decide +kernel
theorem dX8_fittingNumbers_49 : decode cX8_fittingNumbers 49 = .ok (.iload_n 2, 1) := by decide +kernel
theorem dX8_fittingNumbers_50 : decode cX8_fittingNumbers 50 = .ok (.ireturn, 1) := by decide +kernel
theorem dX8_plan_0 : decode cX8_plan 0 = .ok (.iload_n 1, 1) := by decide +kernel
theorem dX8_plan_1 : decode cX8_plan 1 = .ok (.iconst (-1), 1) := by decide +kernel
theorem dX8_plan_2 : decode cX8_plan 2 = .ok (.if_icmp .ne 14, 3) := by decide +kernel
theorem dX8_plan_5 : decode cX8_plan 5 = .ok (.aload_n 0, 1) := by decide +kernel
theorem dX8_plan_6 : decode cX8_plan 6 = .ok (.getfield 12, 3) := by decide +kernel
theorem dX8_plan_9 : decode cX8_plan 9 = .ok (.getfield 308, 3) := by decide +kernel
theorem dX8_plan_12 : decode cX8_plan 12 = .ok (.invokevirtual 259, 3) := by decide +kernel
theorem dX8_plan_15 : decode cX8_plan 15 = .ok (.ireturn, 1) := by decide +kernel
theorem dX8_plan_16 : decode cX8_plan 16 = .ok (.aload_n 0, 1) := by decide +kernel
theorem dX8_plan_17 : decode cX8_plan 17 = .ok (.iload_n 1, 1) := by decide +kernel
theorem dX8_plan_18 : decode cX8_plan 18 = .ok (.iload_n 2, 1) := by decide +kernel
theorem dX8_plan_19 : decode cX8_plan 19 = .ok (.invokevirtual 311, 3) := by decide +kernel
theorem dX8_plan_22 : decode cX8_plan 22 = .ok (.ifCond .ne 5, 3) := by decide +kernel
theorem dX8_plan_25 : decode cX8_plan 25 = .ok (.iconst (-1), 1) := by decide +kernel
theorem dX8_plan_26 : decode cX8_plan 26 = .ok (.ireturn, 1) := by decide +kernel
theorem dX8_plan_27 : decode cX8_plan 27 = .ok (.aload_n 0, 1) := by decide +kernel
theorem dX8_plan_28 : decode cX8_plan 28 = .ok (.getfield 12, 3) := by decide +kernel
theorem dX8_plan_31 : decode cX8_plan 31 = .ok (.getfield 308, 3) := by decide +kernel
theorem dX8_plan_34 : decode cX8_plan 34 = .ok (.iload_n 1, 1) := by decide +kernel
theorem dX8_plan_35 : decode cX8_plan 35 = .ok (.iload_n 2, 1) := by decide +kernel
theorem dX8_plan_36 : decode cX8_plan 36 = .ok (.iconst 0, 1) := by decide +kernel
theorem dX8_plan_37 : decode cX8_plan 37 = .ok (.invokevirtual 264, 3) := by decide +kernel
theorem dX8_plan_40 : decode cX8_plan 40 = .ok (.ireturn, 1) := by decide +kernel
theorem dX8_canGo_0 : decode cX8_canGo 0 = .ok (.iload_n 1, 1) := by decide +kernel
theorem dX8_canGo_1 : decode cX8_canGo 1 = .ok (.tableswitch 89 0 3 #[31, 33, 67, 84], 31) := by decide +kernel
theorem dX8_canGo_32 : decode cX8_canGo 32 = .ok (.iconst 1, 1) := by decide +kernel
theorem dX8_canGo_33 : decode cX8_canGo 33 = .ok (.ireturn, 1) := by decide +kernel
theorem dX8_canGo_34 : decode cX8_canGo 34 = .ok (.iload_n 2, 1) := by decide +kernel
theorem dX8_canGo_35 : decode cX8_canGo 35 = .ok (.ifCond .lt 31, 3) := by decide +kernel
theorem dX8_canGo_38 : decode cX8_canGo 38 = .ok (.aload_n 0, 1) := by decide +kernel
theorem dX8_canGo_39 : decode cX8_canGo 39 = .ok (.getfield 12, 3) := by decide +kernel
theorem dX8_canGo_42 : decode cX8_canGo 42 = .ok (.iload_n 2, 1) := by decide +kernel
theorem dX8_canGo_43 : decode cX8_canGo 43 = .ok (.bipush 10, 2) := by decide +kernel
theorem dX8_canGo_45 : decode cX8_canGo 45 = .ok (.idiv, 1) := by decide +kernel
theorem dX8_canGo_46 : decode cX8_canGo 46 = .ok (.invokevirtual 90, 3) := by decide +kernel
theorem dX8_canGo_49 : decode cX8_canGo 49 = .ok (.ifnull 17, 3) := by decide +kernel
theorem dX8_canGo_52 : decode cX8_canGo 52 = .ok (.iload_n 2, 1) := by decide +kernel
theorem dX8_canGo_53 : decode cX8_canGo 53 = .ok (.bipush 10, 2) := by decide +kernel
theorem dX8_canGo_55 : decode cX8_canGo 55 = .ok (.irem, 1) := by decide +kernel
theorem dX8_canGo_56 : decode cX8_canGo 56 = .ok (.invokestatic 102, 3) := by decide +kernel
theorem dX8_canGo_59 : decode cX8_canGo 59 = .ok (.ifCond .eq 7, 3) := by decide +kernel
theorem dX8_canGo_62 : decode cX8_canGo 62 = .ok (.iconst 1, 1) := by decide +kernel
theorem dX8_canGo_63 : decode cX8_canGo 63 = .ok (.goto 4, 3) := by decide +kernel
theorem dX8_canGo_66 : decode cX8_canGo 66 = .ok (.iconst 0, 1) := by decide +kernel
theorem dX8_canGo_67 : decode cX8_canGo 67 = .ok (.ireturn, 1) := by decide +kernel
theorem dX8_canGo_68 : decode cX8_canGo 68 = .ok (.aload_n 0, 1) := by decide +kernel
theorem dX8_canGo_69 : decode cX8_canGo 69 = .ok (.getfield 12, 3) := by decide +kernel
theorem dX8_canGo_72 : decode cX8_canGo 72 = .ok (.iload_n 2, 1) := by decide +kernel
theorem dX8_canGo_73 : decode cX8_canGo 73 = .ok (.invokevirtual 90, 3) := by decide +kernel
theorem dX8_canGo_76 : decode cX8_canGo 76 = .ok (.ifnull 7, 3) := by decide +kernel
theorem dX8_canGo_79 : decode cX8_canGo 79 = .ok (.iconst 1, 1) := by decide +kernel
theorem dX8_canGo_80 : decode cX8_canGo 80 = .ok (.goto 4, 3) := by decide +kernel
theorem dX8_canGo_83 : decode cX8_canGo 83 = .ok (.iconst 0, 1) := by decide +kernel
theorem dX8_canGo_84 : decode cX8_canGo 84 = .ok (.ireturn, 1) := by decide +kernel
theorem dX8_canGo_85 : decode cX8_canGo 85 = .ok (.iload_n 2, 1) := by decide +kernel
end
section
theorem dX8_canGo_86 : decode cX8_canGo 86 = .ok (.invokestatic 102, 3) := by decide +kernel
theorem dX8_canGo_89 : decode cX8_canGo 89 = .ok (.ireturn, 1) := by decide +kernel
theorem dX8_canGo_90 : decode cX8_canGo 90 = .ok (.iconst 0, 1) := by decide +kernel
theorem dX8_canGo_91 : decode cX8_canGo 91 = .ok (.ireturn, 1) := by decide +kernel
theorem dX8_ends_0 : decode cX8_ends 0 = .ok (.iload_n 1, 1) := by decide +kernel
theorem dX8_ends_1 : decode cX8_ends 1 = .ok (.ifCond .eq 10, 3) := by decide +kernel
theorem dX8_ends_4 : decode cX8_ends 4 = .ok (.iload_n 1, 1) := by decide +kernel
theorem dX8_ends_5 : decode cX8_ends 5 = .ok (.iconst 1, 1) := by decide +kernel
theorem dX8_ends_6 : decode cX8_ends 6 = .ok (.if_icmp .eq 5, 3) := by decide +kernel
theorem dX8_ends_9 : decode cX8_ends 9 = .ok (.iconst (-1), 1) := by decide +kernel
theorem dX8_ends_10 : decode cX8_ends 10 = .ok (.ireturn, 1) := by decide +kernel
theorem dX8_ends_11 : decode cX8_ends 11 = .ok (.aload_n 0, 1) := by decide +kernel
theorem dX8_ends_12 : decode cX8_ends 12 = .ok (.getfield 21, 3) := by decide +kernel
theorem dX8_ends_15 : decode cX8_ends 15 = .ok (.aload_n 0, 1) := by decide +kernel
theorem dX8_ends_16 : decode cX8_ends 16 = .ok (.getfield 12, 3) := by decide +kernel
theorem dX8_ends_19 : decode cX8_ends 19 = .ok (.invokevirtual 224, 3) := by decide +kernel
theorem dX8_ends_22 : decode cX8_ends 22 = .ok (.aload_n 0, 1) := by decide +kernel
theorem dX8_ends_23 : decode cX8_ends 23 = .ok (.invokevirtual 146, 3) := by decide +kernel
theorem dX8_ends_26 : decode cX8_ends 26 = .ok (.getfield 149, 3) := by decide +kernel
theorem dX8_ends_29 : decode cX8_ends 29 = .ok (.istore_n 2, 1) := by decide +kernel
theorem dX8_ends_30 : decode cX8_ends 30 = .ok (.iconst 0, 1) := by decide +kernel
theorem dX8_ends_31 : decode cX8_ends 31 = .ok (.istore_n 3, 1) := by decide +kernel
theorem dX8_ends_32 : decode cX8_ends 32 = .ok (.iload_n 3, 1) := by decide +kernel
theorem dX8_ends_33 : decode cX8_ends 33 = .ok (.aload_n 0, 1) := by decide +kernel
theorem dX8_ends_34 : decode cX8_ends 34 = .ok (.getfield 12, 3) := by decide +kernel
theorem dX8_ends_37 : decode cX8_ends 37 = .ok (.getfield 308, 3) := by decide +kernel
theorem dX8_ends_40 : decode cX8_ends 40 = .ok (.getfield 282, 3) := by decide +kernel
theorem dX8_ends_43 : decode cX8_ends 43 = .ok (.if_icmp .ge 38, 3) := by decide +kernel
theorem dX8_ends_46 : decode cX8_ends 46 = .ok (.aload_n 0, 1) := by decide +kernel
theorem dX8_ends_47 : decode cX8_ends 47 = .ok (.aload_n 0, 1) := by decide +kernel
theorem dX8_ends_48 : decode cX8_ends 48 = .ok (.getfield 12, 3) := by decide +kernel
theorem dX8_ends_51 : decode cX8_ends 51 = .ok (.getfield 308, 3) := by decide +kernel
theorem dX8_ends_54 : decode cX8_ends 54 = .ok (.getfield 284, 3) := by decide +kernel
theorem dX8_ends_57 : decode cX8_ends 57 = .ok (.iload_n 3, 1) := by decide +kernel
theorem dX8_ends_58 : decode cX8_ends 58 = .ok (.iaload, 1) := by decide +kernel
theorem dX8_ends_59 : decode cX8_ends 59 = .ok (.aload_n 0, 1) := by decide +kernel
theorem dX8_ends_60 : decode cX8_ends 60 = .ok (.getfield 12, 3) := by decide +kernel
theorem dX8_ends_63 : decode cX8_ends 63 = .ok (.getfield 308, 3) := by decide +kernel
theorem dX8_ends_66 : decode cX8_ends 66 = .ok (.getfield 287, 3) := by decide +kernel
theorem dX8_ends_69 : decode cX8_ends 69 = .ok (.iload_n 3, 1) := by decide +kernel
theorem dX8_ends_70 : decode cX8_ends 70 = .ok (.iaload, 1) := by decide +kernel
theorem dX8_ends_71 : decode cX8_ends 71 = .ok (.iload_n 2, 1) := by decide +kernel
theorem dX8_ends_72 : decode cX8_ends 72 = .ok (.invokevirtual 314, 3) := by decide +kernel
theorem dX8_ends_75 : decode cX8_ends 75 = .ok (.iinc 3 1, 3) := by decide +kernel
theorem dX8_ends_78 : decode cX8_ends 78 = .ok (.goto (-46), 3) := by decide +kernel
theorem dX8_ends_81 : decode cX8_ends 81 = .ok (.iload_n 1, 1) := by decide +kernel
theorem dX8_ends_82 : decode cX8_ends 82 = .ok (.ifCond .ne 13, 3) := by decide +kernel
theorem dX8_ends_85 : decode cX8_ends 85 = .ok (.aload_n 0, 1) := by decide +kernel
theorem dX8_ends_86 : decode cX8_ends 86 = .ok (.getfield 21, 3) := by decide +kernel
theorem dX8_ends_89 : decode cX8_ends 89 = .ok (.invokevirtual 228, 3) := by decide +kernel
theorem dX8_ends_92 : decode cX8_ends 92 = .ok (.goto 10, 3) := by decide +kernel
theorem dX8_ends_95 : decode cX8_ends 95 = .ok (.aload_n 0, 1) := by decide +kernel
theorem dX8_ends_96 : decode cX8_ends 96 = .ok (.getfield 21, 3) := by decide +kernel
theorem dX8_ends_99 : decode cX8_ends 99 = .ok (.invokevirtual 317, 3) := by decide +kernel
theorem dX8_ends_102 : decode cX8_ends 102 = .ok (.ireturn, 1) := by decide +kernel
theorem dX8_goOn_0 : decode cX8_goOn 0 = .ok (.iload_n 1, 1) := by decide +kernel
theorem dX8_goOn_1 : decode cX8_goOn 1 = .ok (.ifCond .ne 13, 3) := by decide +kernel
theorem dX8_goOn_4 : decode cX8_goOn 4 = .ok (.aload_n 0, 1) := by decide +kernel
theorem dX8_goOn_5 : decode cX8_goOn 5 = .ok (.getfield 21, 3) := by decide +kernel
theorem dX8_goOn_8 : decode cX8_goOn 8 = .ok (.iconst 1, 1) := by decide +kernel
theorem dX8_goOn_9 : decode cX8_goOn 9 = .ok (.iload_n 3, 1) := by decide +kernel
theorem dX8_goOn_10 : decode cX8_goOn 10 = .ok (.invokevirtual 220, 3) := by decide +kernel
theorem dX8_goOn_13 : decode cX8_goOn 13 = .ok (.return_, 1) := by decide +kernel
theorem dX8_goOn_14 : decode cX8_goOn 14 = .ok (.aload_n 0, 1) := by decide +kernel
theorem dX8_goOn_15 : decode cX8_goOn 15 = .ok (.getfield 21, 3) := by decide +kernel
theorem dX8_goOn_18 : decode cX8_goOn 18 = .ok (.iload_n 1, 1) := by decide +kernel
theorem dX8_goOn_19 : decode cX8_goOn 19 = .ok (.iconst 1, 1) := by decide +kernel
theorem dX8_goOn_20 : decode cX8_goOn 20 = .ok (.if_icmp .ne 10, 3) := by decide +kernel
theorem dX8_goOn_23 : decode cX8_goOn 23 = .ok (.iload_n 2, 1) := by decide +kernel
theorem dX8_goOn_24 : decode cX8_goOn 24 = .ok (.bipush 10, 2) := by decide +kernel
theorem dX8_goOn_26 : decode cX8_goOn 26 = .ok (.idiv, 1) := by decide +kernel
theorem dX8_goOn_27 : decode cX8_goOn 27 = .ok (.goto 4, 3) := by decide +kernel
theorem dX8_goOn_30 : decode cX8_goOn 30 = .ok (.iload_n 2, 1) := by decide +kernel
theorem dX8_goOn_31 : decode cX8_goOn 31 = .ok (.invokevirtual 90, 3) := by decide +kernel
theorem dX8_goOn_34 : decode cX8_goOn 34 = .ok (.astore 4, 2) := by decide +kernel
theorem dX8_goOn_36 : decode cX8_goOn 36 = .ok (.aload 4, 2) := by decide +kernel
theorem dX8_goOn_38 : decode cX8_goOn 38 = .ok (.ifnonnull 4, 3) := by decide +kernel
theorem dX8_goOn_41 : decode cX8_goOn 41 = .ok (.return_, 1) := by decide +kernel
theorem dX8_goOn_42 : decode cX8_goOn 42 = .ok (.iload_n 1, 1) := by decide +kernel
theorem dX8_goOn_43 : decode cX8_goOn 43 = .ok (.iconst 1, 1) := by decide +kernel
theorem dX8_goOn_44 : decode cX8_goOn 44 = .ok (.if_icmp .ne 11, 3) := by decide +kernel
theorem dX8_goOn_47 : decode cX8_goOn 47 = .ok (.aload 4, 2) := by decide +kernel
theorem dX8_goOn_49 : decode cX8_goOn 49 = .ok (.invokevirtual 120, 3) := by decide +kernel
theorem dX8_goOn_52 : decode cX8_goOn 52 = .ok (.goto 14, 3) := by decide +kernel
theorem dX8_goOn_55 : decode cX8_goOn 55 = .ok (.iload_n 1, 1) := by decide +kernel
theorem dX8_goOn_56 : decode cX8_goOn 56 = .ok (.iconst 2, 1) := by decide +kernel
theorem dX8_goOn_57 : decode cX8_goOn 57 = .ok (.if_icmp .ne 9, 3) := by decide +kernel
theorem dX8_goOn_60 : decode cX8_goOn 60 = .ok (.aload 4, 2) := by decide +kernel
theorem dX8_goOn_62 : decode cX8_goOn 62 = .ok (.iconst 0, 1) := by decide +kernel
theorem dX8_goOn_63 : decode cX8_goOn 63 = .ok (.putfield 117, 3) := by decide +kernel
theorem dX8_goOn_66 : decode cX8_goOn 66 = .ok (.return_, 1) := by decide +kernel
theorem dX8_book_0 : decode cX8_book 0 = .ok (.iload_n 1, 1) := by decide +kernel
theorem dX8_book_1 : decode cX8_book 1 = .ok (.iconst (-1), 1) := by decide +kernel
theorem dX8_book_2 : decode cX8_book 2 = .ok (.if_icmp .ne 14, 3) := by decide +kernel
theorem dX8_book_5 : decode cX8_book 5 = .ok (.aload_n 0, 1) := by decide +kernel
theorem dX8_book_6 : decode cX8_book 6 = .ok (.getfield 12, 3) := by decide +kernel
theorem dX8_book_9 : decode cX8_book 9 = .ok (.getfield 320, 3) := by decide +kernel
theorem dX8_book_12 : decode cX8_book 12 = .ok (.invokevirtual 259, 3) := by decide +kernel
theorem dX8_book_15 : decode cX8_book 15 = .ok (.ireturn, 1) := by decide +kernel
theorem dX8_book_16 : decode cX8_book 16 = .ok (.aload_n 0, 1) := by decide +kernel
theorem dX8_book_17 : decode cX8_book 17 = .ok (.getfield 12, 3) := by decide +kernel
theorem dX8_book_20 : decode cX8_book 20 = .ok (.iload_n 1, 1) := by decide +kernel
theorem dX8_book_21 : decode cX8_book 21 = .ok (.invokevirtual 90, 3) := by decide +kernel
theorem dX8_book_24 : decode cX8_book 24 = .ok (.ifnonnull 5, 3) := by decide +kernel
theorem dX8_book_27 : decode cX8_book 27 = .ok (.iconst (-1), 1) := by decide +kernel
theorem dX8_book_28 : decode cX8_book 28 = .ok (.ireturn, 1) := by decide +kernel
theorem dX8_book_29 : decode cX8_book 29 = .ok (.iload_n 2, 1) := by decide +kernel
theorem dX8_book_30 : decode cX8_book 30 = .ok (.invokestatic 82, 3) := by decide +kernel
theorem dX8_book_33 : decode cX8_book 33 = .ok (.ifCond .ne 6, 3) := by decide +kernel
theorem dX8_book_36 : decode cX8_book 36 = .ok (.bipush (-2), 2) := by decide +kernel
theorem dX8_book_38 : decode cX8_book 38 = .ok (.ireturn, 1) := by decide +kernel
theorem dX8_book_39 : decode cX8_book 39 = .ok (.aload_n 0, 1) := by decide +kernel
theorem dX8_book_40 : decode cX8_book 40 = .ok (.getfield 12, 3) := by decide +kernel
theorem dX8_book_43 : decode cX8_book 43 = .ok (.getfield 320, 3) := by decide +kernel
theorem dX8_book_46 : decode cX8_book 46 = .ok (.iload_n 1, 1) := by decide +kernel
theorem dX8_book_47 : decode cX8_book 47 = .ok (.iload_n 2, 1) := by decide +kernel
theorem dX8_book_48 : decode cX8_book 48 = .ok (.iconst 0, 1) := by decide +kernel
theorem dX8_book_49 : decode cX8_book 49 = .ok (.invokevirtual 264, 3) := by decide +kernel
theorem dX8_book_52 : decode cX8_book 52 = .ok (.ireturn, 1) := by decide +kernel
theorem dX8_looked_0 : decode cX8_looked 0 = .ok (.aload_n 0, 1) := by decide +kernel
theorem dX8_looked_1 : decode cX8_looked 1 = .ok (.getfield 12, 3) := by decide +kernel
theorem dX8_looked_4 : decode cX8_looked 4 = .ok (.getfield 320, 3) := by decide +kernel
theorem dX8_looked_7 : decode cX8_looked 7 = .ok (.astore_n 1, 1) := by decide +kernel
theorem dX8_looked_8 : decode cX8_looked 8 = .ok (.iconst 0, 1) := by decide +kernel
theorem dX8_looked_9 : decode cX8_looked 9 = .ok (.istore_n 2, 1) := by decide +kernel
theorem dX8_looked_10 : decode cX8_looked 10 = .ok (.iload_n 2, 1) := by decide +kernel
theorem dX8_looked_11 : decode cX8_looked 11 = .ok (.aload_n 1, 1) := by decide +kernel
theorem dX8_looked_12 : decode cX8_looked 12 = .ok (.getfield 282, 3) := by decide +kernel
theorem dX8_looked_15 : decode cX8_looked 15 = .ok (.if_icmp .ge 42, 3) := by decide +kernel
theorem dX8_looked_18 : decode cX8_looked 18 = .ok (.aload_n 0, 1) := by decide +kernel
theorem dX8_looked_19 : decode cX8_looked 19 = .ok (.getfield 12, 3) := by decide +kernel
theorem dX8_looked_22 : decode cX8_looked 22 = .ok (.aload_n 1, 1) := by decide +kernel
theorem dX8_looked_23 : decode cX8_looked 23 = .ok (.getfield 284, 3) := by decide +kernel
theorem dX8_looked_26 : decode cX8_looked 26 = .ok (.iload_n 2, 1) := by decide +kernel
theorem dX8_looked_27 : decode cX8_looked 27 = .ok (.iaload, 1) := by decide +kernel
theorem dX8_looked_28 : decode cX8_looked 28 = .ok (.invokevirtual 90, 3) := by decide +kernel
theorem dX8_looked_31 : decode cX8_looked 31 = .ok (.astore_n 3, 1) := by decide +kernel
theorem dX8_looked_32 : decode cX8_looked 32 = .ok (.aload_n 3, 1) := by decide +kernel
theorem dX8_looked_33 : decode cX8_looked 33 = .ok (.ifnull 18, 3) := by decide +kernel
theorem dX8_looked_36 : decode cX8_looked 36 = .ok (.aload_n 3, 1) := by decide +kernel
theorem dX8_looked_37 : decode cX8_looked 37 = .ok (.getfield 117, 3) := by decide +kernel
theorem dX8_looked_40 : decode cX8_looked 40 = .ok (.aload_n 1, 1) := by decide +kernel
theorem dX8_looked_41 : decode cX8_looked 41 = .ok (.getfield 287, 3) := by decide +kernel
theorem dX8_looked_44 : decode cX8_looked 44 = .ok (.iload_n 2, 1) := by decide +kernel
theorem dX8_looked_45 : decode cX8_looked 45 = .ok (.iaload, 1) := by decide +kernel
theorem dX8_looked_46 : decode cX8_looked 46 = .ok (.if_icmp .eq 5, 3) := by decide +kernel
theorem dX8_looked_49 : decode cX8_looked 49 = .ok (.iload_n 2, 1) := by decide +kernel
theorem dX8_looked_50 : decode cX8_looked 50 = .ok (.ireturn, 1) := by decide +kernel
theorem dX8_looked_51 : decode cX8_looked 51 = .ok (.iinc 2 1, 3) := by decide +kernel
theorem dX8_looked_54 : decode cX8_looked 54 = .ok (.goto (-44), 3) := by decide +kernel
theorem dX8_looked_57 : decode cX8_looked 57 = .ok (.bipush (-5), 2) := by decide +kernel
theorem dX8_looked_59 : decode cX8_looked 59 = .ok (.ireturn, 1) := by decide +kernel
theorem dX8_judge_0 : decode cX8_judge 0 = .ok (.aload_n 0, 1) := by decide +kernel
theorem dX8_judge_1 : decode cX8_judge 1 = .ok (.iload_n 1, 1) := by decide +kernel
theorem dX8_judge_2 : decode cX8_judge 2 = .ok (.invokevirtual 323, 3) := by decide +kernel
theorem dX8_judge_5 : decode cX8_judge 5 = .ok (.astore_n 3, 1) := by decide +kernel
theorem dX8_judge_6 : decode cX8_judge 6 = .ok (.aload_n 3, 1) := by decide +kernel
theorem dX8_judge_7 : decode cX8_judge 7 = .ok (.ifnonnull 5, 3) := by decide +kernel
theorem dX8_judge_10 : decode cX8_judge 10 = .ok (.iconst (-1), 1) := by decide +kernel
theorem dX8_judge_11 : decode cX8_judge 11 = .ok (.ireturn, 1) := by decide +kernel
theorem dX8_judge_12 : decode cX8_judge 12 = .ok (.aload_n 3, 1) := by decide +kernel
theorem dX8_judge_13 : decode cX8_judge 13 = .ok (.getfield 327, 3) := by decide +kernel
theorem dX8_judge_16 : decode cX8_judge 16 = .ok (.iconst (-1), 1) := by decide +kernel
theorem dX8_judge_17 : decode cX8_judge 17 = .ok (.if_icmp .ne 6, 3) := by decide +kernel
theorem dX8_judge_20 : decode cX8_judge 20 = .ok (.bipush 100, 2) := by decide +kernel
theorem dX8_judge_22 : decode cX8_judge 22 = .ok (.ireturn, 1) := by decide +kernel
theorem dX8_judge_23 : decode cX8_judge 23 = .ok (.aload_n 3, 1) := by decide +kernel
theorem dX8_judge_24 : decode cX8_judge 24 = .ok (.getfield 327, 3) := by decide +kernel
theorem dX8_judge_27 : decode cX8_judge 27 = .ok (.iconst 4, 1) := by decide +kernel
theorem dX8_judge_28 : decode cX8_judge 28 = .ok (.if_icmp .eq 6, 3) := by decide +kernel
theorem dX8_judge_31 : decode cX8_judge 31 = .ok (.bipush (-12), 2) := by decide +kernel
theorem dX8_judge_33 : decode cX8_judge 33 = .ok (.ireturn, 1) := by decide +kernel
theorem dX8_judge_34 : decode cX8_judge 34 = .ok (.iconst 0, 1) := by decide +kernel
theorem dX8_judge_35 : decode cX8_judge 35 = .ok (.istore 4, 2) := by decide +kernel
theorem dX8_judge_37 : decode cX8_judge 37 = .ok (.iload 4, 2) := by decide +kernel
theorem dX8_judge_39 : decode cX8_judge 39 = .ok (.bipush 8, 2) := by decide +kernel
theorem dX8_judge_41 : decode cX8_judge 41 = .ok (.if_icmp .ge 71, 3) := by decide +kernel
theorem dX8_judge_44 : decode cX8_judge 44 = .ok (.aload_n 3, 1) := by decide +kernel
theorem dX8_judge_45 : decode cX8_judge 45 = .ok (.iload_n 2, 1) := by decide +kernel
theorem dX8_judge_46 : decode cX8_judge 46 = .ok (.invokevirtual 330, 3) := by decide +kernel
theorem dX8_judge_49 : decode cX8_judge 49 = .ok (.ifCond .eq 14, 3) := by decide +kernel
theorem dX8_judge_52 : decode cX8_judge 52 = .ok (.aload_n 3, 1) := by decide +kernel
theorem dX8_judge_53 : decode cX8_judge 53 = .ok (.iload_n 2, 1) := by decide +kernel
theorem dX8_judge_54 : decode cX8_judge 54 = .ok (.iload 4, 2) := by decide +kernel
theorem dX8_judge_56 : decode cX8_judge 56 = .ok (.iadd, 1) := by decide +kernel
theorem dX8_judge_57 : decode cX8_judge 57 = .ok (.invokevirtual 330, 3) := by decide +kernel
theorem dX8_judge_60 : decode cX8_judge 60 = .ok (.ifCond .ne 9, 3) := by decide +kernel
theorem dX8_judge_63 : decode cX8_judge 63 = .ok (.bipush 100, 2) := by decide +kernel
theorem dX8_judge_65 : decode cX8_judge 65 = .ok (.iload 4, 2) := by decide +kernel
theorem dX8_judge_67 : decode cX8_judge 67 = .ok (.iadd, 1) := by decide +kernel
theorem dX8_judge_68 : decode cX8_judge 68 = .ok (.ireturn, 1) := by decide +kernel
theorem dX8_judge_69 : decode cX8_judge 69 = .ok (.aload_n 3, 1) := by decide +kernel
theorem dX8_judge_70 : decode cX8_judge 70 = .ok (.getfield 333, 3) := by decide +kernel
theorem dX8_judge_73 : decode cX8_judge 73 = .ok (.iload_n 2, 1) := by decide +kernel
theorem dX8_judge_74 : decode cX8_judge 74 = .ok (.iload 4, 2) := by decide +kernel
theorem dX8_judge_76 : decode cX8_judge 76 = .ok (.iadd, 1) := by decide +kernel
theorem dX8_judge_77 : decode cX8_judge 77 = .ok (.laload, 1) := by decide +kernel
theorem dX8_judge_78 : decode cX8_judge 78 = .ok (.lconst 1, 1) := by decide +kernel
theorem dX8_judge_79 : decode cX8_judge 79 = .ok (.lcmp, 1) := by decide +kernel
theorem dX8_judge_80 : decode cX8_judge 80 = .ok (.ifCond .ne 7, 3) := by decide +kernel
theorem dX8_judge_83 : decode cX8_judge 83 = .ok (.iconst 1, 1) := by decide +kernel
theorem dX8_judge_84 : decode cX8_judge 84 = .ok (.goto 4, 3) := by decide +kernel
theorem dX8_judge_87 : decode cX8_judge 87 = .ok (.iconst 0, 1) := by decide +kernel
theorem dX8_judge_88 : decode cX8_judge 88 = .ok (.aload_n 0, 1) := by decide +kernel
theorem dX8_judge_89 : decode cX8_judge 89 = .ok (.getfield 12, 3) := by decide +kernel
theorem dX8_judge_92 : decode cX8_judge 92 = .ok (.getfield 114, 3) := by decide +kernel
theorem dX8_judge_95 : decode cX8_judge 95 = .ok (.iload 4, 2) := by decide +kernel
theorem dX8_judge_97 : decode cX8_judge 97 = .ok (.invokestatic 193, 3) := by decide +kernel
theorem dX8_judge_100 : decode cX8_judge 100 = .ok (.if_icmp .eq 6, 3) := by decide +kernel
theorem dX8_judge_103 : decode cX8_judge 103 = .ok (.iload 4, 2) := by decide +kernel
theorem dX8_judge_105 : decode cX8_judge 105 = .ok (.ireturn, 1) := by decide +kernel
theorem dX8_judge_106 : decode cX8_judge 106 = .ok (.iinc 4 1, 3) := by decide +kernel
theorem dX8_judge_109 : decode cX8_judge 109 = .ok (.goto (-72), 3) := by decide +kernel
theorem dX8_judge_112 : decode cX8_judge 112 = .ok (.bipush (-5), 2) := by decide +kernel
theorem dX8_judge_114 : decode cX8_judge 114 = .ok (.ireturn, 1) := by decide +kernel
theorem dX8_image_0 : decode cX8_image 0 = .ok (.aload_n 0, 1) := by decide +kernel
theorem dX8_image_1 : decode cX8_image 1 = .ok (.getfield 18, 3) := by decide +kernel
theorem dX8_image_4 : decode cX8_image 4 = .ok (.aload_n 0, 1) := by decide +kernel
theorem dX8_image_5 : decode cX8_image 5 = .ok (.getfield 12, 3) := by decide +kernel
theorem dX8_image_8 : decode cX8_image 8 = .ok (.invokevirtual 337, 3) := by decide +kernel
theorem dX8_image_11 : decode cX8_image 11 = .ok (.aload_n 0, 1) := by decide +kernel
theorem dX8_image_12 : decode cX8_image 12 = .ok (.iconst 1, 1) := by decide +kernel
theorem dX8_image_13 : decode cX8_image 13 = .ok (.putfield 31, 3) := by decide +kernel
theorem dX8_image_16 : decode cX8_image 16 = .ok (.aload_n 0, 1) := by decide +kernel
theorem dX8_image_17 : decode cX8_image 17 = .ok (.getfield 12, 3) := by decide +kernel
theorem dX8_image_20 : decode cX8_image 20 = .ok (.getfield 208, 3) := by decide +kernel
theorem dX8_image_23 : decode cX8_image 23 = .ok (.ireturn, 1) := by decide +kernel
theorem dX8_undo_0 : decode cX8_undo 0 = .ok (.aload_n 0, 1) := by decide +kernel
theorem dX8_undo_1 : decode cX8_undo 1 = .ok (.getfield 31, 3) := by decide +kernel
theorem dX8_undo_4 : decode cX8_undo 4 = .ok (.ifCond .ne 6, 3) := by decide +kernel
theorem dX8_undo_7 : decode cX8_undo 7 = .ok (.bipush (-3), 2) := by decide +kernel
theorem dX8_undo_9 : decode cX8_undo 9 = .ok (.ireturn, 1) := by decide +kernel
theorem dX8_undo_10 : decode cX8_undo 10 = .ok (.aload_n 0, 1) := by decide +kernel
theorem dX8_undo_11 : decode cX8_undo 11 = .ok (.getfield 12, 3) := by decide +kernel
theorem dX8_undo_14 : decode cX8_undo 14 = .ok (.aload_n 0, 1) := by decide +kernel
theorem dX8_undo_15 : decode cX8_undo 15 = .ok (.getfield 18, 3) := by decide +kernel
theorem dX8_undo_18 : decode cX8_undo 18 = .ok (.invokevirtual 337, 3) := by decide +kernel
theorem dX8_undo_21 : decode cX8_undo 21 = .ok (.aload_n 0, 1) := by decide +kernel
theorem dX8_undo_22 : decode cX8_undo 22 = .ok (.getfield 12, 3) := by decide +kernel
theorem dX8_undo_25 : decode cX8_undo 25 = .ok (.getfield 208, 3) := by decide +kernel
theorem dX8_undo_28 : decode cX8_undo 28 = .ok (.ireturn, 1) := by decide +kernel
theorem dX8_act_0 : decode cX8_act 0 = .ok (.aload_n 0, 1) := by decide +kernel
theorem dX8_act_1 : decode cX8_act 1 = .ok (.getfield 71, 3) := by decide +kernel
theorem dX8_act_4 : decode cX8_act 4 = .ok (.invokevirtual 339, 3) := by decide +kernel
theorem dX8_act_7 : decode cX8_act 7 = .ok (.aload_n 0, 1) := by decide +kernel
theorem dX8_act_8 : decode cX8_act 8 = .ok (.getfield 12, 3) := by decide +kernel
theorem dX8_act_11 : decode cX8_act 11 = .ok (.iload_n 1, 1) := by decide +kernel
theorem dX8_act_12 : decode cX8_act 12 = .ok (.invokevirtual 90, 3) := by decide +kernel
theorem dX8_act_15 : decode cX8_act 15 = .ok (.astore 4, 2) := by decide +kernel
theorem dX8_act_17 : decode cX8_act 17 = .ok (.aload 4, 2) := by decide +kernel
theorem dX8_act_19 : decode cX8_act 19 = .ok (.ifnull 12, 3) := by decide +kernel
theorem dX8_act_22 : decode cX8_act 22 = .ok (.iload_n 2, 1) := by decide +kernel
theorem dX8_act_23 : decode cX8_act 23 = .ok (.ifCond .lt 8, 3) := by decide +kernel
theorem dX8_act_26 : decode cX8_act 26 = .ok (.iload_n 2, 1) := by decide +kernel
theorem dX8_act_27 : decode cX8_act 27 = .ok (.iconst 2, 1) := by decide +kernel
theorem dX8_act_28 : decode cX8_act 28 = .ok (.if_icmp .le 5, 3) := by decide +kernel
theorem dX8_act_31 : decode cX8_act 31 = .ok (.iconst 0, 1) := by decide +kernel
theorem dX8_act_32 : decode cX8_act 32 = .ok (.ireturn, 1) := by decide +kernel
theorem dX8_act_33 : decode cX8_act 33 = .ok (.aload_n 0, 1) := by decide +kernel
theorem dX8_act_34 : decode cX8_act 34 = .ok (.getfield 71, 3) := by decide +kernel
theorem dX8_act_37 : decode cX8_act 37 = .ok (.aload 4, 2) := by decide +kernel
theorem dX8_act_39 : decode cX8_act 39 = .ok (.aload 4, 2) := by decide +kernel
theorem dX8_act_41 : decode cX8_act 41 = .ok (.getfield 123, 3) := by decide +kernel
theorem dX8_act_44 : decode cX8_act 44 = .ok (.iload_n 2, 1) := by decide +kernel
theorem dX8_act_45 : decode cX8_act 45 = .ok (.iload_n 3, 1) := by decide +kernel
theorem dX8_act_46 : decode cX8_act 46 = .ok (.iconst 0, 1) := by decide +kernel
theorem dX8_act_47 : decode cX8_act 47 = .ok (.invokevirtual 342, 3) := by decide +kernel
theorem dX8_act_50 : decode cX8_act 50 = .ok (.ireturn, 1) := by decide +kernel
theorem dX8_trace_0 : decode cX8_trace 0 = .ok (.iload_n 1, 1) := by decide +kernel
theorem dX8_trace_1 : decode cX8_trace 1 = .ok (.ifCond .lt 26, 3) := by decide +kernel
theorem dX8_trace_4 : decode cX8_trace 4 = .ok (.iload_n 1, 1) := by decide +kernel
theorem dX8_trace_5 : decode cX8_trace 5 = .ok (.aload_n 0, 1) := by decide +kernel
theorem dX8_trace_6 : decode cX8_trace 6 = .ok (.getfield 71, 3) := by decide +kernel
theorem dX8_trace_9 : decode cX8_trace 9 = .ok (.invokevirtual 346, 3) := by decide +kernel
theorem dX8_trace_12 : decode cX8_trace 12 = .ok (.if_icmp .ge 15, 3) := by decide +kernel
theorem dX8_trace_15 : decode cX8_trace 15 = .ok (.aload_n 0, 1) := by decide +kernel
theorem dX8_trace_16 : decode cX8_trace 16 = .ok (.getfield 71, 3) := by decide +kernel
theorem dX8_trace_19 : decode cX8_trace 19 = .ok (.getfield 349, 3) := by decide +kernel
theorem dX8_trace_22 : decode cX8_trace 22 = .ok (.iload_n 1, 1) := by decide +kernel
theorem dX8_trace_23 : decode cX8_trace 23 = .ok (.iaload, 1) := by decide +kernel
theorem dX8_trace_24 : decode cX8_trace 24 = .ok (.goto 4, 3) := by decide +kernel
theorem dX8_trace_27 : decode cX8_trace 27 = .ok (.iconst (-1), 1) := by decide +kernel
theorem dX8_trace_28 : decode cX8_trace 28 = .ok (.ireturn, 1) := by decide +kernel
theorem dX8_taken_0 : decode cX8_taken 0 = .ok (.iload_n 2, 1) := by decide +kernel
theorem dX8_taken_1 : decode cX8_taken 1 = .ok (.ifCond .lt 9, 3) := by decide +kernel
theorem dX8_taken_4 : decode cX8_taken 4 = .ok (.iload_n 2, 1) := by decide +kernel
theorem dX8_taken_5 : decode cX8_taken 5 = .ok (.bipush 7, 2) := by decide +kernel
theorem dX8_taken_7 : decode cX8_taken 7 = .ok (.if_icmp .lt 6, 3) := by decide +kernel
theorem dX8_taken_10 : decode cX8_taken 10 = .ok (.bipush (-2), 2) := by decide +kernel
theorem dX8_taken_12 : decode cX8_taken 12 = .ok (.ireturn, 1) := by decide +kernel
theorem dX8_taken_13 : decode cX8_taken 13 = .ok (.aload_n 0, 1) := by decide +kernel
theorem dX8_taken_14 : decode cX8_taken 14 = .ok (.getfield 12, 3) := by decide +kernel
theorem dX8_taken_17 : decode cX8_taken 17 = .ok (.iload_n 1, 1) := by decide +kernel
theorem dX8_taken_18 : decode cX8_taken 18 = .ok (.invokevirtual 90, 3) := by decide +kernel
theorem dX8_taken_21 : decode cX8_taken 21 = .ok (.astore_n 3, 1) := by decide +kernel
theorem dX8_taken_22 : decode cX8_taken 22 = .ok (.aload_n 3, 1) := by decide +kernel
theorem dX8_taken_23 : decode cX8_taken 23 = .ok (.ifnonnull 6, 3) := by decide +kernel
theorem dX8_taken_26 : decode cX8_taken 26 = .ok (.bipush (-11), 2) := by decide +kernel
theorem dX8_taken_28 : decode cX8_taken 28 = .ok (.ireturn, 1) := by decide +kernel
theorem dX8_taken_29 : decode cX8_taken 29 = .ok (.aload_n 3, 1) := by decide +kernel
theorem dX8_taken_30 : decode cX8_taken 30 = .ok (.getfield 123, 3) := by decide +kernel
theorem dX8_taken_33 : decode cX8_taken 33 = .ok (.iload_n 2, 1) := by decide +kernel
theorem dX8_taken_34 : decode cX8_taken 34 = .ok (.invokestatic 352, 3) := by decide +kernel
theorem dX8_taken_37 : decode cX8_taken 37 = .ok (.ifCond .eq 10, 3) := by decide +kernel
theorem dX8_taken_40 : decode cX8_taken 40 = .ok (.aload_n 3, 1) := by decide +kernel
theorem dX8_taken_41 : decode cX8_taken 41 = .ok (.getfield 123, 3) := by decide +kernel
theorem dX8_taken_44 : decode cX8_taken 44 = .ok (.goto 5, 3) := by decide +kernel
theorem dX8_taken_47 : decode cX8_taken 47 = .ok (.bipush (-12), 2) := by decide +kernel
theorem dX8_taken_49 : decode cX8_taken 49 = .ok (.ireturn, 1) := by decide +kernel
theorem dX8_isUnder_0 : decode cX8_isUnder 0 = .ok (.iload_n 0, 1) := by decide +kernel
theorem dX8_isUnder_1 : decode cX8_isUnder 1 = .ok (.istore_n 2, 1) := by decide +kernel
theorem dX8_isUnder_2 : decode cX8_isUnder 2 = .ok (.iconst 0, 1) := by decide +kernel
theorem dX8_isUnder_3 : decode cX8_isUnder 3 = .ok (.istore_n 3, 1) := by decide +kernel
theorem dX8_isUnder_4 : decode cX8_isUnder 4 = .ok (.iload_n 3, 1) := by decide +kernel
theorem dX8_isUnder_5 : decode cX8_isUnder 5 = .ok (.bipush 7, 2) := by decide +kernel
theorem dX8_isUnder_7 : decode cX8_isUnder 7 = .ok (.if_icmp .ge 24, 3) := by decide +kernel
theorem dX8_isUnder_10 : decode cX8_isUnder 10 = .ok (.iload_n 2, 1) := by decide +kernel
theorem dX8_isUnder_11 : decode cX8_isUnder 11 = .ok (.iload_n 1, 1) := by decide +kernel
theorem dX8_isUnder_12 : decode cX8_isUnder 12 = .ok (.if_icmp .eq 19, 3) := by decide +kernel
theorem dX8_isUnder_15 : decode cX8_isUnder 15 = .ok (.iload_n 2, 1) := by decide +kernel
theorem dX8_isUnder_16 : decode cX8_isUnder 16 = .ok (.ifCond .le 15, 3) := by decide +kernel
theorem dX8_isUnder_19 : decode cX8_isUnder 19 = .ok (.getstatic 355, 3) := by decide +kernel
theorem dX8_isUnder_22 : decode cX8_isUnder 22 = .ok (.iload_n 2, 1) := by decide +kernel
theorem dX8_isUnder_23 : decode cX8_isUnder 23 = .ok (.iaload, 1) := by decide +kernel
theorem dX8_isUnder_24 : decode cX8_isUnder 24 = .ok (.istore_n 2, 1) := by decide +kernel
theorem dX8_isUnder_25 : decode cX8_isUnder 25 = .ok (.iinc 3 1, 3) := by decide +kernel
theorem dX8_isUnder_28 : decode cX8_isUnder 28 = .ok (.goto (-24), 3) := by decide +kernel
theorem dX8_isUnder_31 : decode cX8_isUnder 31 = .ok (.iload_n 2, 1) := by decide +kernel
theorem dX8_isUnder_32 : decode cX8_isUnder 32 = .ok (.iload_n 1, 1) := by decide +kernel
theorem dX8_isUnder_33 : decode cX8_isUnder 33 = .ok (.if_icmp .ne 7, 3) := by decide +kernel
theorem dX8_isUnder_36 : decode cX8_isUnder 36 = .ok (.iconst 1, 1) := by decide +kernel
theorem dX8_isUnder_37 : decode cX8_isUnder 37 = .ok (.goto 4, 3) := by decide +kernel
theorem dX8_isUnder_40 : decode cX8_isUnder 40 = .ok (.iconst 0, 1) := by decide +kernel
theorem dX8_isUnder_41 : decode cX8_isUnder 41 = .ok (.ireturn, 1) := by decide +kernel
theorem dX8_count_0 : decode cX8_count 0 = .ok (.iload_n 1, 1) := by decide +kernel
theorem dX8_count_1 : decode cX8_count 1 = .ok (.tableswitch 105 0 6 #[43, 51, 56, 67, 78, 89, 97], 43) := by decide +kernel
theorem dX8_count_44 : decode cX8_count 44 = .ok (.aload_n 0, 1) := by decide +kernel
theorem dX8_count_45 : decode cX8_count 45 = .ok (.getfield 12, 3) := by decide +kernel
theorem dX8_count_48 : decode cX8_count 48 = .ok (.getfield 208, 3) := by decide +kernel
theorem dX8_count_51 : decode cX8_count 51 = .ok (.ireturn, 1) := by decide +kernel
theorem dX8_count_52 : decode cX8_count 52 = .ok (.aload_n 0, 1) := by decide +kernel
theorem dX8_count_53 : decode cX8_count 53 = .ok (.getfield 53, 3) := by decide +kernel
theorem dX8_count_56 : decode cX8_count 56 = .ok (.ireturn, 1) := by decide +kernel
theorem dX8_count_57 : decode cX8_count 57 = .ok (.aload_n 0, 1) := by decide +kernel
theorem dX8_count_58 : decode cX8_count 58 = .ok (.getfield 12, 3) := by decide +kernel
theorem dX8_count_61 : decode cX8_count 61 = .ok (.getfield 255, 3) := by decide +kernel
theorem dX8_count_64 : decode cX8_count 64 = .ok (.getfield 282, 3) := by decide +kernel
theorem dX8_count_67 : decode cX8_count 67 = .ok (.ireturn, 1) := by decide +kernel
theorem dX8_count_68 : decode cX8_count 68 = .ok (.aload_n 0, 1) := by decide +kernel
theorem dX8_count_69 : decode cX8_count 69 = .ok (.getfield 12, 3) := by decide +kernel
theorem dX8_count_72 : decode cX8_count 72 = .ok (.getfield 308, 3) := by decide +kernel
theorem dX8_count_75 : decode cX8_count 75 = .ok (.getfield 282, 3) := by decide +kernel
theorem dX8_count_78 : decode cX8_count 78 = .ok (.ireturn, 1) := by decide +kernel
theorem dX8_count_79 : decode cX8_count 79 = .ok (.aload_n 0, 1) := by decide +kernel
theorem dX8_count_80 : decode cX8_count 80 = .ok (.getfield 12, 3) := by decide +kernel
theorem dX8_count_83 : decode cX8_count 83 = .ok (.getfield 320, 3) := by decide +kernel
theorem dX8_count_86 : decode cX8_count 86 = .ok (.getfield 282, 3) := by decide +kernel
theorem dX8_count_89 : decode cX8_count 89 = .ok (.ireturn, 1) := by decide +kernel
theorem dX8_count_90 : decode cX8_count 90 = .ok (.aload_n 0, 1) := by decide +kernel
theorem dX8_count_91 : decode cX8_count 91 = .ok (.getfield 38, 3) := by decide +kernel
theorem dX8_count_94 : decode cX8_count 94 = .ok (.getfield 358, 3) := by decide +kernel
theorem dX8_count_97 : decode cX8_count 97 = .ok (.ireturn, 1) := by decide +kernel
theorem dX8_count_98 : decode cX8_count 98 = .ok (.aload_n 0, 1) := by decide +kernel
theorem dX8_count_99 : decode cX8_count 99 = .ok (.getfield 71, 3) := by decide +kernel
theorem dX8_count_102 : decode cX8_count 102 = .ok (.getfield 361, 3) := by decide +kernel
theorem dX8_count_105 : decode cX8_count 105 = .ok (.ireturn, 1) := by decide +kernel
theorem dX8_count_106 : decode cX8_count 106 = .ok (.bipush (-2), 2) := by decide +kernel
theorem dX8_count_108 : decode cX8_count 108 = .ok (.ireturn, 1) := by decide +kernel
theorem dX8_tape_0 : decode cX8_tape 0 = .ok (.aload_n 0, 1) := by decide +kernel
theorem dX8_tape_1 : decode cX8_tape 1 = .ok (.iload_n 1, 1) := by decide +kernel
theorem dX8_tape_2 : decode cX8_tape 2 = .ok (.invokevirtual 323, 3) := by decide +kernel
theorem dX8_tape_5 : decode cX8_tape 5 = .ok (.astore 4, 2) := by decide +kernel
theorem dX8_tape_7 : decode cX8_tape 7 = .ok (.aload 4, 2) := by decide +kernel
theorem dX8_tape_9 : decode cX8_tape 9 = .ok (.ifnonnull 5, 3) := by decide +kernel
theorem dX8_tape_12 : decode cX8_tape 12 = .ok (.iconst (-1), 1) := by decide +kernel
theorem dX8_tape_13 : decode cX8_tape 13 = .ok (.ireturn, 1) := by decide +kernel
theorem dX8_tape_14 : decode cX8_tape 14 = .ok (.iload_n 2, 1) := by decide +kernel
theorem dX8_tape_15 : decode cX8_tape 15 = .ok (.iconst (-1), 1) := by decide +kernel
theorem dX8_tape_16 : decode cX8_tape 16 = .ok (.if_icmp .ne 12, 3) := by decide +kernel
theorem dX8_tape_19 : decode cX8_tape 19 = .ok (.aload 4, 2) := by decide +kernel
theorem dX8_tape_21 : decode cX8_tape 21 = .ok (.iconst (-1), 1) := by decide +kernel
theorem dX8_tape_22 : decode cX8_tape 22 = .ok (.iconst 0, 1) := by decide +kernel
theorem dX8_tape_23 : decode cX8_tape 23 = .ok (.invokevirtual 364, 3) := by decide +kernel
theorem dX8_tape_26 : decode cX8_tape 26 = .ok (.iconst 1, 1) := by decide +kernel
theorem dX8_tape_27 : decode cX8_tape 27 = .ok (.ireturn, 1) := by decide +kernel
theorem dX8_tape_28 : decode cX8_tape 28 = .ok (.iload_n 2, 1) := by decide +kernel
theorem dX8_tape_29 : decode cX8_tape 29 = .ok (.ifCond .lt 14, 3) := by decide +kernel
theorem dX8_tape_32 : decode cX8_tape 32 = .ok (.iload_n 2, 1) := by decide +kernel
theorem dX8_tape_33 : decode cX8_tape 33 = .ok (.iconst 4, 1) := by decide +kernel
theorem dX8_tape_34 : decode cX8_tape 34 = .ok (.if_icmp .gt 9, 3) := by decide +kernel
theorem dX8_tape_37 : decode cX8_tape 37 = .ok (.iload_n 3, 1) := by decide +kernel
theorem dX8_tape_38 : decode cX8_tape 38 = .ok (.bipush 60, 2) := by decide +kernel
theorem dX8_tape_40 : decode cX8_tape 40 = .ok (.if_icmp .le 6, 3) := by decide +kernel
theorem dX8_tape_43 : decode cX8_tape 43 = .ok (.bipush (-2), 2) := by decide +kernel
theorem dX8_tape_45 : decode cX8_tape 45 = .ok (.ireturn, 1) := by decide +kernel
theorem dX8_tape_46 : decode cX8_tape 46 = .ok (.iload_n 3, 1) := by decide +kernel
theorem dX8_tape_47 : decode cX8_tape 47 = .ok (.ifCond .ge 6, 3) := by decide +kernel
theorem dX8_tape_50 : decode cX8_tape 50 = .ok (.bipush (-14), 2) := by decide +kernel
theorem dX8_tape_52 : decode cX8_tape 52 = .ok (.ireturn, 1) := by decide +kernel
theorem dX8_tape_53 : decode cX8_tape 53 = .ok (.aload 4, 2) := by decide +kernel
theorem dX8_tape_55 : decode cX8_tape 55 = .ok (.iload_n 2, 1) := by decide +kernel
theorem dX8_tape_56 : decode cX8_tape 56 = .ok (.iload_n 3, 1) := by decide +kernel
theorem dX8_tape_57 : decode cX8_tape 57 = .ok (.invokevirtual 364, 3) := by decide +kernel
theorem dX8_tape_60 : decode cX8_tape 60 = .ok (.iconst 1, 1) := by decide +kernel
theorem dX8_tape_61 : decode cX8_tape 61 = .ok (.ireturn, 1) := by decide +kernel
theorem dX8_item_0 : decode cX8_item 0 = .ok (.aload_n 0, 1) := by decide +kernel
theorem dX8_item_1 : decode cX8_item 1 = .ok (.iload_n 1, 1) := by decide +kernel
theorem dX8_item_2 : decode cX8_item 2 = .ok (.invokevirtual 323, 3) := by decide +kernel
theorem dX8_item_5 : decode cX8_item 5 = .ok (.astore 5, 2) := by decide +kernel
theorem dX8_item_7 : decode cX8_item 7 = .ok (.aload 5, 2) := by decide +kernel
theorem dX8_item_9 : decode cX8_item 9 = .ok (.ifnonnull 5, 3) := by decide +kernel
theorem dX8_item_12 : decode cX8_item 12 = .ok (.iconst (-1), 1) := by decide +kernel
theorem dX8_item_13 : decode cX8_item 13 = .ok (.ireturn, 1) := by decide +kernel
theorem dX8_item_14 : decode cX8_item 14 = .ok (.aload 5, 2) := by decide +kernel
theorem dX8_item_16 : decode cX8_item 16 = .ok (.getfield 327, 3) := by decide +kernel
theorem dX8_item_19 : decode cX8_item 19 = .ok (.iconst (-1), 1) := by decide +kernel
theorem dX8_item_20 : decode cX8_item 20 = .ok (.if_icmp .ne 6, 3) := by decide +kernel
theorem dX8_item_23 : decode cX8_item 23 = .ok (.bipush (-11), 2) := by decide +kernel
theorem dX8_item_25 : decode cX8_item 25 = .ok (.ireturn, 1) := by decide +kernel
theorem dX8_item_26 : decode cX8_item 26 = .ok (.aload 5, 2) := by decide +kernel
theorem dX8_item_28 : decode cX8_item 28 = .ok (.iload_n 2, 1) := by decide +kernel
theorem dX8_item_29 : decode cX8_item 29 = .ok (.invokevirtual 330, 3) := by decide +kernel
theorem dX8_item_32 : decode cX8_item 32 = .ok (.ifCond .ne 6, 3) := by decide +kernel
theorem dX8_item_35 : decode cX8_item 35 = .ok (.bipush (-13), 2) := by decide +kernel
theorem dX8_item_37 : decode cX8_item 37 = .ok (.ireturn, 1) := by decide +kernel
theorem dX8_item_38 : decode cX8_item 38 = .ok (.aload 5, 2) := by decide +kernel
theorem dX8_item_40 : decode cX8_item 40 = .ok (.getfield 333, 3) := by decide +kernel
theorem dX8_item_43 : decode cX8_item 43 = .ok (.iload_n 2, 1) := by decide +kernel
theorem dX8_item_44 : decode cX8_item 44 = .ok (.aload 5, 2) := by decide +kernel
theorem dX8_item_46 : decode cX8_item 46 = .ok (.lload_n 3, 1) := by decide +kernel
theorem dX8_item_47 : decode cX8_item 47 = .ok (.invokevirtual 367, 3) := by decide +kernel
theorem dX8_item_50 : decode cX8_item 50 = .ok (.lastore, 1) := by decide +kernel
theorem dX8_item_51 : decode cX8_item 51 = .ok (.iconst 1, 1) := by decide +kernel
theorem dX8_item_52 : decode cX8_item 52 = .ok (.ireturn, 1) := by decide +kernel
theorem dX8_read_0 : decode cX8_read 0 = .ok (.aload_n 0, 1) := by decide +kernel
theorem dX8_read_1 : decode cX8_read 1 = .ok (.iload_n 1, 1) := by decide +kernel
theorem dX8_read_2 : decode cX8_read 2 = .ok (.invokevirtual 323, 3) := by decide +kernel
theorem dX8_read_5 : decode cX8_read 5 = .ok (.astore_n 3, 1) := by decide +kernel
theorem dX8_read_6 : decode cX8_read 6 = .ok (.aload_n 3, 1) := by decide +kernel
theorem dX8_read_7 : decode cX8_read 7 = .ok (.ifnull 20, 3) := by decide +kernel
theorem dX8_read_10 : decode cX8_read 10 = .ok (.aload_n 3, 1) := by decide +kernel
theorem dX8_read_11 : decode cX8_read 11 = .ok (.iload_n 2, 1) := by decide +kernel
theorem dX8_read_12 : decode cX8_read 12 = .ok (.invokevirtual 330, 3) := by decide +kernel
theorem dX8_read_15 : decode cX8_read 15 = .ok (.ifCond .eq 12, 3) := by decide +kernel
theorem dX8_read_18 : decode cX8_read 18 = .ok (.aload_n 3, 1) := by decide +kernel
theorem dX8_read_19 : decode cX8_read 19 = .ok (.getfield 333, 3) := by decide +kernel
theorem dX8_read_22 : decode cX8_read 22 = .ok (.iload_n 2, 1) := by decide +kernel
theorem dX8_read_23 : decode cX8_read 23 = .ok (.laload, 1) := by decide +kernel
theorem dX8_read_24 : decode cX8_read 24 = .ok (.goto 6, 3) := by decide +kernel
theorem dX8_read_27 : decode cX8_read 27 = .ok (.ldc2_w 272, 3) := by decide +kernel
theorem dX8_read_30 : decode cX8_read 30 = .ok (.lreturn, 1) := by decide +kernel
theorem dX8_shift_0 : decode cX8_shift 0 = .ok (.aload_n 0, 1) := by decide +kernel
theorem dX8_shift_1 : decode cX8_shift 1 = .ok (.iload_n 1, 1) := by decide +kernel
theorem dX8_shift_2 : decode cX8_shift 2 = .ok (.invokevirtual 323, 3) := by decide +kernel
theorem dX8_shift_5 : decode cX8_shift 5 = .ok (.astore 6, 2) := by decide +kernel
theorem dX8_shift_7 : decode cX8_shift 7 = .ok (.aload_n 0, 1) := by decide +kernel
theorem dX8_shift_8 : decode cX8_shift 8 = .ok (.iload_n 3, 1) := by decide +kernel
theorem dX8_shift_9 : decode cX8_shift 9 = .ok (.invokevirtual 323, 3) := by decide +kernel
theorem dX8_shift_12 : decode cX8_shift 12 = .ok (.astore 7, 2) := by decide +kernel
theorem dX8_shift_14 : decode cX8_shift 14 = .ok (.aload 6, 2) := by decide +kernel
theorem dX8_shift_16 : decode cX8_shift 16 = .ok (.ifnull 8, 3) := by decide +kernel
theorem dX8_shift_19 : decode cX8_shift 19 = .ok (.aload 7, 2) := by decide +kernel
theorem dX8_shift_21 : decode cX8_shift 21 = .ok (.ifnonnull 5, 3) := by decide +kernel
theorem dX8_shift_24 : decode cX8_shift 24 = .ok (.iconst (-1), 1) := by decide +kernel
theorem dX8_shift_25 : decode cX8_shift 25 = .ok (.ireturn, 1) := by decide +kernel
theorem dX8_shift_26 : decode cX8_shift 26 = .ok (.aload 6, 2) := by decide +kernel
theorem dX8_shift_28 : decode cX8_shift 28 = .ok (.getfield 327, 3) := by decide +kernel
theorem dX8_shift_31 : decode cX8_shift 31 = .ok (.iconst (-1), 1) := by decide +kernel
theorem dX8_shift_32 : decode cX8_shift 32 = .ok (.if_icmp .eq 12, 3) := by decide +kernel
theorem dX8_shift_35 : decode cX8_shift 35 = .ok (.aload 7, 2) := by decide +kernel
theorem dX8_shift_37 : decode cX8_shift 37 = .ok (.getfield 327, 3) := by decide +kernel
theorem dX8_shift_40 : decode cX8_shift 40 = .ok (.iconst (-1), 1) := by decide +kernel
theorem dX8_shift_41 : decode cX8_shift 41 = .ok (.if_icmp .ne 6, 3) := by decide +kernel
theorem dX8_shift_44 : decode cX8_shift 44 = .ok (.bipush (-11), 2) := by decide +kernel
theorem dX8_shift_46 : decode cX8_shift 46 = .ok (.ireturn, 1) := by decide +kernel
theorem dX8_shift_47 : decode cX8_shift 47 = .ok (.aload 6, 2) := by decide +kernel
theorem dX8_shift_49 : decode cX8_shift 49 = .ok (.getfield 327, 3) := by decide +kernel
theorem dX8_shift_52 : decode cX8_shift 52 = .ok (.aload 7, 2) := by decide +kernel
theorem dX8_shift_54 : decode cX8_shift 54 = .ok (.getfield 327, 3) := by decide +kernel
theorem dX8_shift_57 : decode cX8_shift 57 = .ok (.if_icmp .eq 6, 3) := by decide +kernel
theorem dX8_shift_60 : decode cX8_shift 60 = .ok (.bipush (-12), 2) := by decide +kernel
theorem dX8_shift_62 : decode cX8_shift 62 = .ok (.ireturn, 1) := by decide +kernel
theorem dX8_shift_63 : decode cX8_shift 63 = .ok (.aload 6, 2) := by decide +kernel
theorem dX8_shift_65 : decode cX8_shift 65 = .ok (.iload_n 2, 1) := by decide +kernel
theorem dX8_shift_66 : decode cX8_shift 66 = .ok (.iload 5, 2) := by decide +kernel
theorem dX8_shift_68 : decode cX8_shift 68 = .ok (.invokevirtual 371, 3) := by decide +kernel
theorem dX8_shift_71 : decode cX8_shift 71 = .ok (.ifCond .eq 15, 3) := by decide +kernel
theorem dX8_shift_74 : decode cX8_shift 74 = .ok (.aload 7, 2) := by decide +kernel
theorem dX8_shift_76 : decode cX8_shift 76 = .ok (.iload 4, 2) := by decide +kernel
theorem dX8_shift_78 : decode cX8_shift 78 = .ok (.iload 5, 2) := by decide +kernel
theorem dX8_shift_80 : decode cX8_shift 80 = .ok (.invokevirtual 371, 3) := by decide +kernel
theorem dX8_shift_83 : decode cX8_shift 83 = .ok (.ifCond .ne 6, 3) := by decide +kernel
theorem dX8_shift_86 : decode cX8_shift 86 = .ok (.bipush (-13), 2) := by decide +kernel
theorem dX8_shift_88 : decode cX8_shift 88 = .ok (.ireturn, 1) := by decide +kernel
theorem dX8_shift_89 : decode cX8_shift 89 = .ok (.aload 6, 2) := by decide +kernel
theorem dX8_shift_91 : decode cX8_shift 91 = .ok (.getfield 333, 3) := by decide +kernel
theorem dX8_shift_94 : decode cX8_shift 94 = .ok (.iload_n 2, 1) := by decide +kernel
theorem dX8_shift_95 : decode cX8_shift 95 = .ok (.aload 7, 2) := by decide +kernel
theorem dX8_shift_97 : decode cX8_shift 97 = .ok (.getfield 333, 3) := by decide +kernel
theorem dX8_shift_100 : decode cX8_shift 100 = .ok (.iload 4, 2) := by decide +kernel
theorem dX8_shift_102 : decode cX8_shift 102 = .ok (.iload 5, 2) := by decide +kernel
theorem dX8_shift_104 : decode cX8_shift 104 = .ok (.invokestatic 374, 3) := by decide +kernel
theorem dX8_shift_107 : decode cX8_shift 107 = .ok (.iload 5, 2) := by decide +kernel
theorem dX8_shift_109 : decode cX8_shift 109 = .ok (.ireturn, 1) := by decide +kernel
theorem dX8_tapeAt_0 : decode cX8_tapeAt 0 = .ok (.iload_n 1, 1) := by decide +kernel
theorem dX8_tapeAt_1 : decode cX8_tapeAt 1 = .ok (.ifCond .lt 18, 3) := by decide +kernel
theorem dX8_tapeAt_4 : decode cX8_tapeAt 4 = .ok (.iload_n 1, 1) := by decide +kernel
theorem dX8_tapeAt_5 : decode cX8_tapeAt 5 = .ok (.bipush 6, 2) := by decide +kernel
theorem dX8_tapeAt_7 : decode cX8_tapeAt 7 = .ok (.if_icmp .ge 12, 3) := by decide +kernel
theorem dX8_tapeAt_10 : decode cX8_tapeAt 10 = .ok (.aload_n 0, 1) := by decide +kernel
theorem dX8_tapeAt_11 : decode cX8_tapeAt 11 = .ok (.getfield 77, 3) := by decide +kernel
theorem dX8_tapeAt_14 : decode cX8_tapeAt 14 = .ok (.iload_n 1, 1) := by decide +kernel
theorem dX8_tapeAt_15 : decode cX8_tapeAt 15 = .ok (.aaload, 1) := by decide +kernel
theorem dX8_tapeAt_16 : decode cX8_tapeAt 16 = .ok (.goto 4, 3) := by decide +kernel
theorem dX8_tapeAt_19 : decode cX8_tapeAt 19 = .ok (.aconst_null, 1) := by decide +kernel
theorem dX8_tapeAt_20 : decode cX8_tapeAt 20 = .ok (.areturn, 1) := by decide +kernel
theorem dX9_init_0 : decode cX9_init 0 = .ok (.aload_n 0, 1) := by decide +kernel
theorem dX9_init_1 : decode cX9_init 1 = .ok (.invokespecial 3, 3) := by decide +kernel
theorem dX9_init_4 : decode cX9_init 4 = .ok (.aload_n 0, 1) := by decide +kernel
theorem dX9_init_5 : decode cX9_init 5 = .ok (.bipush 115, 2) := by decide +kernel
theorem dX9_init_7 : decode cX9_init 7 = .ok (.newarray .int, 2) := by decide +kernel
theorem dX9_init_9 : decode cX9_init 9 = .ok (.putfield 9, 3) := by decide +kernel
theorem dX9_init_12 : decode cX9_init 12 = .ok (.aload_n 0, 1) := by decide +kernel
theorem dX9_init_13 : decode cX9_init 13 = .ok (.bipush 115, 2) := by decide +kernel
theorem dX9_init_15 : decode cX9_init 15 = .ok (.newarray .int, 2) := by decide +kernel
theorem dX9_init_17 : decode cX9_init 17 = .ok (.putfield 15, 3) := by decide +kernel
theorem dX9_init_20 : decode cX9_init 20 = .ok (.aload_n 0, 1) := by decide +kernel
theorem dX9_init_21 : decode cX9_init 21 = .ok (.bipush 115, 2) := by decide +kernel
theorem dX9_init_23 : decode cX9_init 23 = .ok (.newarray .int, 2) := by decide +kernel
theorem dX9_init_25 : decode cX9_init 25 = .ok (.putfield 18, 3) := by decide +kernel
theorem dX9_init_28 : decode cX9_init 28 = .ok (.aload_n 0, 1) := by decide +kernel
theorem dX9_init_29 : decode cX9_init 29 = .ok (.bipush 100, 2) := by decide +kernel
theorem dX9_init_31 : decode cX9_init 31 = .ok (.newarray .int, 2) := by decide +kernel
theorem dX9_init_33 : decode cX9_init 33 = .ok (.putfield 21, 3) := by decide +kernel
theorem dX9_init_36 : decode cX9_init 36 = .ok (.aload_n 0, 1) := by decide +kernel
theorem dX9_init_37 : decode cX9_init 37 = .ok (.sipush 600, 3) := by decide +kernel
theorem dX9_init_40 : decode cX9_init 40 = .ok (.newarray .int, 2) := by decide +kernel
theorem dX9_init_42 : decode cX9_init 42 = .ok (.putfield 24, 3) := by decide +kernel
theorem dX9_init_45 : decode cX9_init 45 = .ok (.aload_n 0, 1) := by decide +kernel
theorem dX9_init_46 : decode cX9_init 46 = .ok (.bipush 6, 2) := by decide +kernel
theorem dX9_init_48 : decode cX9_init 48 = .ok (.newarray .int, 2) := by decide +kernel
theorem dX9_init_50 : decode cX9_init 50 = .ok (.putfield 27, 3) := by decide +kernel
theorem dX9_init_53 : decode cX9_init 53 = .ok (.aload_n 0, 1) := by decide +kernel
theorem dX9_init_54 : decode cX9_init 54 = .ok (.bipush 100, 2) := by decide +kernel
theorem dX9_init_56 : decode cX9_init 56 = .ok (.newarray .int, 2) := by decide +kernel
theorem dX9_init_58 : decode cX9_init 58 = .ok (.putfield 30, 3) := by decide +kernel
theorem dX9_init_61 : decode cX9_init 61 = .ok (.aload_n 0, 1) := by decide +kernel
theorem dX9_init_62 : decode cX9_init 62 = .ok (.bipush 6, 2) := by decide +kernel
theorem dX9_init_64 : decode cX9_init 64 = .ok (.newarray .int, 2) := by decide +kernel
theorem dX9_init_66 : decode cX9_init 66 = .ok (.putfield 33, 3) := by decide +kernel
theorem dX9_init_69 : decode cX9_init 69 = .ok (.aload_n 0, 1) := by decide +kernel
theorem dX9_init_70 : decode cX9_init 70 = .ok (.bipush 6, 2) := by decide +kernel
theorem dX9_init_72 : decode cX9_init 72 = .ok (.newarray .char, 2) := by decide +kernel
theorem dX9_init_74 : decode cX9_init 74 = .ok (.dup, 1) := by decide +kernel
theorem dX9_init_75 : decode cX9_init 75 = .ok (.iconst 0, 1) := by decide +kernel
theorem dX9_init_76 : decode cX9_init 76 = .ok (.bipush 112, 2) := by decide +kernel
theorem dX9_init_78 : decode cX9_init 78 = .ok (.castore, 1) := by decide +kernel
theorem dX9_init_79 : decode cX9_init 79 = .ok (.dup, 1) := by decide +kernel
theorem dX9_init_80 : decode cX9_init 80 = .ok (.iconst 1, 1) := by decide +kernel
theorem dX9_init_81 : decode cX9_init 81 = .ok (.bipush 107, 2) := by decide +kernel
theorem dX9_init_83 : decode cX9_init 83 = .ok (.castore, 1) := by decide +kernel
theorem dX9_init_84 : decode cX9_init 84 = .ok (.dup, 1) := by decide +kernel
theorem dX9_init_85 : decode cX9_init 85 = .ok (.iconst 2, 1) := by decide +kernel
theorem dX9_init_86 : decode cX9_init 86 = .ok (.bipush 118, 2) := by decide +kernel
theorem dX9_init_88 : decode cX9_init 88 = .ok (.castore, 1) := by decide +kernel
theorem dX9_init_89 : decode cX9_init 89 = .ok (.dup, 1) := by decide +kernel
theorem dX9_init_90 : decode cX9_init 90 = .ok (.iconst 3, 1) := by decide +kernel
theorem dX9_init_91 : decode cX9_init 91 = .ok (.bipush 102, 2) := by decide +kernel
theorem dX9_init_93 : decode cX9_init 93 = .ok (.castore, 1) := by decide +kernel
theorem dX9_init_94 : decode cX9_init 94 = .ok (.dup, 1) := by decide +kernel
theorem dX9_init_95 : decode cX9_init 95 = .ok (.iconst 4, 1) := by decide +kernel
theorem dX9_init_96 : decode cX9_init 96 = .ok (.bipush 115, 2) := by decide +kernel
theorem dX9_init_98 : decode cX9_init 98 = .ok (.castore, 1) := by decide +kernel
theorem dX9_init_99 : decode cX9_init 99 = .ok (.dup, 1) := by decide +kernel
theorem dX9_init_100 : decode cX9_init 100 = .ok (.iconst 5, 1) := by decide +kernel
theorem dX9_init_101 : decode cX9_init 101 = .ok (.bipush 97, 2) := by decide +kernel
theorem dX9_init_103 : decode cX9_init 103 = .ok (.castore, 1) := by decide +kernel
theorem dX9_init_104 : decode cX9_init 104 = .ok (.putfield 36, 3) := by decide +kernel
theorem dX9_init_107 : decode cX9_init 107 = .ok (.aload_n 0, 1) := by decide +kernel
theorem dX9_init_108 : decode cX9_init 108 = .ok (.iconst 3, 1) := by decide +kernel
theorem dX9_init_109 : decode cX9_init 109 = .ok (.newarray .char, 2) := by decide +kernel
theorem dX9_init_111 : decode cX9_init 111 = .ok (.dup, 1) := by decide +kernel
theorem dX9_init_112 : decode cX9_init 112 = .ok (.iconst 0, 1) := by decide +kernel
theorem dX9_init_113 : decode cX9_init 113 = .ok (.bipush 115, 2) := by decide +kernel
theorem dX9_init_115 : decode cX9_init 115 = .ok (.castore, 1) := by decide +kernel
theorem dX9_init_116 : decode cX9_init 116 = .ok (.dup, 1) := by decide +kernel
theorem dX9_init_117 : decode cX9_init 117 = .ok (.iconst 1, 1) := by decide +kernel
theorem dX9_init_118 : decode cX9_init 118 = .ok (.bipush 104, 2) := by decide +kernel
theorem dX9_init_120 : decode cX9_init 120 = .ok (.castore, 1) := by decide +kernel
theorem dX9_init_121 : decode cX9_init 121 = .ok (.dup, 1) := by decide +kernel
theorem dX9_init_122 : decode cX9_init 122 = .ok (.iconst 2, 1) := by decide +kernel
theorem dX9_init_123 : decode cX9_init 123 = .ok (.bipush 107, 2) := by decide +kernel
theorem dX9_init_125 : decode cX9_init 125 = .ok (.castore, 1) := by decide +kernel
theorem dX9_init_126 : decode cX9_init 126 = .ok (.putfield 40, 3) := by decide +kernel
theorem dX9_init_129 : decode cX9_init 129 = .ok (.aload_n 0, 1) := by decide +kernel
theorem dX9_init_130 : decode cX9_init 130 = .ok (.bipush 15, 2) := by decide +kernel
theorem dX9_init_132 : decode cX9_init 132 = .ok (.newarray .char, 2) := by decide +kernel
theorem dX9_init_134 : decode cX9_init 134 = .ok (.dup, 1) := by decide +kernel
theorem dX9_init_135 : decode cX9_init 135 = .ok (.iconst 0, 1) := by decide +kernel
theorem dX9_init_136 : decode cX9_init 136 = .ok (.bipush 115, 2) := by decide +kernel
theorem dX9_init_138 : decode cX9_init 138 = .ok (.castore, 1) := by decide +kernel
theorem dX9_init_139 : decode cX9_init 139 = .ok (.dup, 1) := by decide +kernel
theorem dX9_init_140 : decode cX9_init 140 = .ok (.iconst 1, 1) := by decide +kernel
theorem dX9_init_141 : decode cX9_init 141 = .ok (.bipush 119, 2) := by decide +kernel
theorem dX9_init_143 : decode cX9_init 143 = .ok (.castore, 1) := by decide +kernel
theorem dX9_init_144 : decode cX9_init 144 = .ok (.dup, 1) := by decide +kernel
theorem dX9_init_145 : decode cX9_init 145 = .ok (.iconst 2, 1) := by decide +kernel
theorem dX9_init_146 : decode cX9_init 146 = .ok (.bipush 101, 2) := by decide +kernel
theorem dX9_init_148 : decode cX9_init 148 = .ok (.castore, 1) := by decide +kernel
theorem dX9_init_149 : decode cX9_init 149 = .ok (.dup, 1) := by decide +kernel
theorem dX9_init_150 : decode cX9_init 150 = .ok (.iconst 3, 1) := by decide +kernel
theorem dX9_init_151 : decode cX9_init 151 = .ok (.bipush 101, 2) := by decide +kernel
theorem dX9_init_153 : decode cX9_init 153 = .ok (.castore, 1) := by decide +kernel
theorem dX9_init_154 : decode cX9_init 154 = .ok (.dup, 1) := by decide +kernel
theorem dX9_init_155 : decode cX9_init 155 = .ok (.iconst 4, 1) := by decide +kernel
theorem dX9_init_156 : decode cX9_init 156 = .ok (.bipush 116, 2) := by decide +kernel
theorem dX9_init_158 : decode cX9_init 158 = .ok (.castore, 1) := by decide +kernel
theorem dX9_init_159 : decode cX9_init 159 = .ok (.dup, 1) := by decide +kernel
theorem dX9_init_160 : decode cX9_init 160 = .ok (.iconst 5, 1) := by decide +kernel
theorem dX9_init_161 : decode cX9_init 161 = .ok (.bipush 104, 2) := by decide +kernel
theorem dX9_init_163 : decode cX9_init 163 = .ok (.castore, 1) := by decide +kernel
theorem dX9_init_164 : decode cX9_init 164 = .ok (.dup, 1) := by decide +kernel
theorem dX9_init_165 : decode cX9_init 165 = .ok (.bipush 6, 2) := by decide +kernel
theorem dX9_init_167 : decode cX9_init 167 = .ok (.bipush 97, 2) := by decide +kernel
theorem dX9_init_169 : decode cX9_init 169 = .ok (.castore, 1) := by decide +kernel
theorem dX9_init_170 : decode cX9_init 170 = .ok (.dup, 1) := by decide +kernel
theorem dX9_init_171 : decode cX9_init 171 = .ok (.bipush 7, 2) := by decide +kernel
theorem dX9_init_173 : decode cX9_init 173 = .ok (.bipush 122, 2) := by decide +kernel
theorem dX9_init_175 : decode cX9_init 175 = .ok (.castore, 1) := by decide +kernel
theorem dX9_init_176 : decode cX9_init 176 = .ok (.dup, 1) := by decide +kernel
theorem dX9_init_177 : decode cX9_init 177 = .ok (.bipush 8, 2) := by decide +kernel
theorem dX9_init_179 : decode cX9_init 179 = .ok (.bipush 101, 2) := by decide +kernel
theorem dX9_init_181 : decode cX9_init 181 = .ok (.castore, 1) := by decide +kernel
theorem dX9_init_182 : decode cX9_init 182 = .ok (.dup, 1) := by decide +kernel
theorem dX9_init_183 : decode cX9_init 183 = .ok (.bipush 9, 2) := by decide +kernel
theorem dX9_init_185 : decode cX9_init 185 = .ok (.iconst 0, 1) := by decide +kernel
theorem dX9_init_186 : decode cX9_init 186 = .ok (.castore, 1) := by decide +kernel
theorem dX9_init_187 : decode cX9_init 187 = .ok (.dup, 1) := by decide +kernel
theorem dX9_init_188 : decode cX9_init 188 = .ok (.bipush 10, 2) := by decide +kernel
theorem dX9_init_190 : decode cX9_init 190 = .ok (.bipush 107, 2) := by decide +kernel
theorem dX9_init_192 : decode cX9_init 192 = .ok (.castore, 1) := by decide +kernel
theorem dX9_init_193 : decode cX9_init 193 = .ok (.dup, 1) := by decide +kernel
theorem dX9_init_194 : decode cX9_init 194 = .ok (.bipush 11, 2) := by decide +kernel
theorem dX9_init_196 : decode cX9_init 196 = .ok (.bipush 101, 2) := by decide +kernel
theorem dX9_init_198 : decode cX9_init 198 = .ok (.castore, 1) := by decide +kernel
theorem dX9_init_199 : decode cX9_init 199 = .ok (.dup, 1) := by decide +kernel
theorem dX9_init_200 : decode cX9_init 200 = .ok (.bipush 12, 2) := by decide +kernel
theorem dX9_init_202 : decode cX9_init 202 = .ok (.bipush 101, 2) := by decide +kernel
theorem dX9_init_204 : decode cX9_init 204 = .ok (.castore, 1) := by decide +kernel
theorem dX9_init_205 : decode cX9_init 205 = .ok (.dup, 1) := by decide +kernel
theorem dX9_init_206 : decode cX9_init 206 = .ok (.bipush 13, 2) := by decide +kernel
theorem dX9_init_208 : decode cX9_init 208 = .ok (.bipush 112, 2) := by decide +kernel
theorem dX9_init_210 : decode cX9_init 210 = .ok (.castore, 1) := by decide +kernel
theorem dX9_init_211 : decode cX9_init 211 = .ok (.dup, 1) := by decide +kernel
theorem dX9_init_212 : decode cX9_init 212 = .ok (.bipush 14, 2) := by decide +kernel
theorem dX9_init_214 : decode cX9_init 214 = .ok (.iconst 0, 1) := by decide +kernel
theorem dX9_init_215 : decode cX9_init 215 = .ok (.castore, 1) := by decide +kernel
theorem dX9_init_216 : decode cX9_init 216 = .ok (.putfield 43, 3) := by decide +kernel
theorem dX9_init_219 : decode cX9_init 219 = .ok (.aload_n 0, 1) := by decide +kernel
theorem dX9_init_220 : decode cX9_init 220 = .ok (.bipush 6, 2) := by decide +kernel
theorem dX9_init_222 : decode cX9_init 222 = .ok (.newarray .int, 2) := by decide +kernel
theorem dX9_init_224 : decode cX9_init 224 = .ok (.putfield 46, 3) := by decide +kernel
theorem dX9_init_227 : decode cX9_init 227 = .ok (.aload_n 0, 1) := by decide +kernel
theorem dX9_init_228 : decode cX9_init 228 = .ok (.sipush 256, 3) := by decide +kernel
theorem dX9_init_231 : decode cX9_init 231 = .ok (.newarray .boolean, 2) := by decide +kernel
theorem dX9_init_233 : decode cX9_init 233 = .ok (.putfield 49, 3) := by decide +kernel
theorem dX9_init_236 : decode cX9_init 236 = .ok (.aload_n 0, 1) := by decide +kernel
theorem dX9_init_237 : decode cX9_init 237 = .ok (.iconst 3, 1) := by decide +kernel
theorem dX9_init_238 : decode cX9_init 238 = .ok (.newarray .int, 2) := by decide +kernel
theorem dX9_init_240 : decode cX9_init 240 = .ok (.putfield 53, 3) := by decide +kernel
theorem dX9_init_243 : decode cX9_init 243 = .ok (.aload_n 0, 1) := by decide +kernel
theorem dX9_init_244 : decode cX9_init 244 = .ok (.bipush 6, 2) := by decide +kernel
theorem dX9_init_246 : decode cX9_init 246 = .ok (.newarray .int, 2) := by decide +kernel
theorem dX9_init_248 : decode cX9_init 248 = .ok (.putfield 56, 3) := by decide +kernel
theorem dX9_init_251 : decode cX9_init 251 = .ok (.aload_n 0, 1) := by decide +kernel
theorem dX9_init_252 : decode cX9_init 252 = .ok (.bipush 7, 2) := by decide +kernel
theorem dX9_init_254 : decode cX9_init 254 = .ok (.newarray .int, 2) := by decide +kernel
theorem dX9_init_256 : decode cX9_init 256 = .ok (.dup, 1) := by decide +kernel
theorem dX9_init_257 : decode cX9_init 257 = .ok (.iconst 0, 1) := by decide +kernel
theorem dX9_init_258 : decode cX9_init 258 = .ok (.iconst (-1), 1) := by decide +kernel
theorem dX9_init_259 : decode cX9_init 259 = .ok (.iastore, 1) := by decide +kernel
theorem dX9_init_260 : decode cX9_init 260 = .ok (.dup, 1) := by decide +kernel
theorem dX9_init_261 : decode cX9_init 261 = .ok (.iconst 1, 1) := by decide +kernel
theorem dX9_init_262 : decode cX9_init 262 = .ok (.iconst 0, 1) := by decide +kernel
theorem dX9_init_263 : decode cX9_init 263 = .ok (.iastore, 1) := by decide +kernel
theorem dX9_init_264 : decode cX9_init 264 = .ok (.dup, 1) := by decide +kernel
theorem dX9_init_265 : decode cX9_init 265 = .ok (.iconst 2, 1) := by decide +kernel
theorem dX9_init_266 : decode cX9_init 266 = .ok (.iconst 0, 1) := by decide +kernel
theorem dX9_init_267 : decode cX9_init 267 = .ok (.iastore, 1) := by decide +kernel
theorem dX9_init_268 : decode cX9_init 268 = .ok (.dup, 1) := by decide +kernel
theorem dX9_init_269 : decode cX9_init 269 = .ok (.iconst 3, 1) := by decide +kernel
theorem dX9_init_270 : decode cX9_init 270 = .ok (.iconst 0, 1) := by decide +kernel
theorem dX9_init_271 : decode cX9_init 271 = .ok (.iastore, 1) := by decide +kernel
theorem dX9_init_272 : decode cX9_init 272 = .ok (.dup, 1) := by decide +kernel
theorem dX9_init_273 : decode cX9_init 273 = .ok (.iconst 4, 1) := by decide +kernel
theorem dX9_init_274 : decode cX9_init 274 = .ok (.iconst 1, 1) := by decide +kernel
theorem dX9_init_275 : decode cX9_init 275 = .ok (.iastore, 1) := by decide +kernel
theorem dX9_init_276 : decode cX9_init 276 = .ok (.dup, 1) := by decide +kernel
theorem dX9_init_277 : decode cX9_init 277 = .ok (.iconst 5, 1) := by decide +kernel
theorem dX9_init_278 : decode cX9_init 278 = .ok (.iconst 2, 1) := by decide +kernel
theorem dX9_init_279 : decode cX9_init 279 = .ok (.iastore, 1) := by decide +kernel
theorem dX9_init_280 : decode cX9_init 280 = .ok (.dup, 1) := by decide +kernel
theorem dX9_init_281 : decode cX9_init 281 = .ok (.bipush 6, 2) := by decide +kernel
theorem dX9_init_283 : decode cX9_init 283 = .ok (.iconst 3, 1) := by decide +kernel
theorem dX9_init_284 : decode cX9_init 284 = .ok (.iastore, 1) := by decide +kernel
theorem dX9_init_285 : decode cX9_init 285 = .ok (.putfield 59, 3) := by decide +kernel
theorem dX9_init_288 : decode cX9_init 288 = .ok (.aload_n 0, 1) := by decide +kernel
theorem dX9_init_289 : decode cX9_init 289 = .ok (.bipush 21, 2) := by decide +kernel
theorem dX9_init_291 : decode cX9_init 291 = .ok (.newarray .int, 2) := by decide +kernel
theorem dX9_init_293 : decode cX9_init 293 = .ok (.dup, 1) := by decide +kernel
theorem dX9_init_294 : decode cX9_init 294 = .ok (.iconst 0, 1) := by decide +kernel
theorem dX9_init_295 : decode cX9_init 295 = .ok (.bipush 10, 2) := by decide +kernel
theorem dX9_init_297 : decode cX9_init 297 = .ok (.iastore, 1) := by decide +kernel
theorem dX9_init_298 : decode cX9_init 298 = .ok (.dup, 1) := by decide +kernel
theorem dX9_init_299 : decode cX9_init 299 = .ok (.iconst 1, 1) := by decide +kernel
theorem dX9_init_300 : decode cX9_init 300 = .ok (.bipush 11, 2) := by decide +kernel
theorem dX9_init_302 : decode cX9_init 302 = .ok (.iastore, 1) := by decide +kernel
theorem dX9_init_303 : decode cX9_init 303 = .ok (.dup, 1) := by decide +kernel
theorem dX9_init_304 : decode cX9_init 304 = .ok (.iconst 2, 1) := by decide +kernel
theorem dX9_init_305 : decode cX9_init 305 = .ok (.bipush 12, 2) := by decide +kernel
theorem dX9_init_307 : decode cX9_init 307 = .ok (.iastore, 1) := by decide +kernel
theorem dX9_init_308 : decode cX9_init 308 = .ok (.dup, 1) := by decide +kernel
theorem dX9_init_309 : decode cX9_init 309 = .ok (.iconst 3, 1) := by decide +kernel
theorem dX9_init_310 : decode cX9_init 310 = .ok (.iconst 0, 1) := by decide +kernel
theorem dX9_init_311 : decode cX9_init 311 = .ok (.iastore, 1) := by decide +kernel
theorem dX9_init_312 : decode cX9_init 312 = .ok (.dup, 1) := by decide +kernel
theorem dX9_init_313 : decode cX9_init 313 = .ok (.iconst 4, 1) := by decide +kernel
theorem dX9_init_314 : decode cX9_init 314 = .ok (.bipush 20, 2) := by decide +kernel
theorem dX9_init_316 : decode cX9_init 316 = .ok (.iastore, 1) := by decide +kernel
theorem dX9_init_317 : decode cX9_init 317 = .ok (.dup, 1) := by decide +kernel
theorem dX9_init_318 : decode cX9_init 318 = .ok (.iconst 5, 1) := by decide +kernel
theorem dX9_init_319 : decode cX9_init 319 = .ok (.iconst 0, 1) := by decide +kernel
theorem dX9_init_320 : decode cX9_init 320 = .ok (.iastore, 1) := by decide +kernel
theorem dX9_init_321 : decode cX9_init 321 = .ok (.dup, 1) := by decide +kernel
theorem dX9_init_322 : decode cX9_init 322 = .ok (.bipush 6, 2) := by decide +kernel
theorem dX9_init_324 : decode cX9_init 324 = .ok (.bipush 30, 2) := by decide +kernel
theorem dX9_init_326 : decode cX9_init 326 = .ok (.iastore, 1) := by decide +kernel
theorem dX9_init_327 : decode cX9_init 327 = .ok (.dup, 1) := by decide +kernel
theorem dX9_init_328 : decode cX9_init 328 = .ok (.bipush 7, 2) := by decide +kernel
theorem dX9_init_330 : decode cX9_init 330 = .ok (.iconst 0, 1) := by decide +kernel
theorem dX9_init_331 : decode cX9_init 331 = .ok (.iastore, 1) := by decide +kernel
theorem dX9_init_332 : decode cX9_init 332 = .ok (.dup, 1) := by decide +kernel
theorem dX9_init_333 : decode cX9_init 333 = .ok (.bipush 8, 2) := by decide +kernel
theorem dX9_init_335 : decode cX9_init 335 = .ok (.iconst 0, 1) := by decide +kernel
theorem dX9_init_336 : decode cX9_init 336 = .ok (.iastore, 1) := by decide +kernel
theorem dX9_init_337 : decode cX9_init 337 = .ok (.dup, 1) := by decide +kernel
theorem dX9_init_338 : decode cX9_init 338 = .ok (.bipush 9, 2) := by decide +kernel
theorem dX9_init_340 : decode cX9_init 340 = .ok (.iconst 0, 1) := by decide +kernel
theorem dX9_init_341 : decode cX9_init 341 = .ok (.iastore, 1) := by decide +kernel
theorem dX9_init_342 : decode cX9_init 342 = .ok (.dup, 1) := by decide +kernel
theorem dX9_init_343 : decode cX9_init 343 = .ok (.bipush 10, 2) := by decide +kernel
theorem dX9_init_345 : decode cX9_init 345 = .ok (.iconst 0, 1) := by decide +kernel
theorem dX9_init_346 : decode cX9_init 346 = .ok (.iastore, 1) := by decide +kernel
theorem dX9_init_347 : decode cX9_init 347 = .ok (.dup, 1) := by decide +kernel
theorem dX9_init_348 : decode cX9_init 348 = .ok (.bipush 11, 2) := by decide +kernel
theorem dX9_init_350 : decode cX9_init 350 = .ok (.bipush 40, 2) := by decide +kernel
theorem dX9_init_352 : decode cX9_init 352 = .ok (.iastore, 1) := by decide +kernel
theorem dX9_init_353 : decode cX9_init 353 = .ok (.dup, 1) := by decide +kernel
theorem dX9_init_354 : decode cX9_init 354 = .ok (.bipush 12, 2) := by decide +kernel
theorem dX9_init_356 : decode cX9_init 356 = .ok (.bipush 50, 2) := by decide +kernel
theorem dX9_init_358 : decode cX9_init 358 = .ok (.iastore, 1) := by decide +kernel
theorem dX9_init_359 : decode cX9_init 359 = .ok (.dup, 1) := by decide +kernel
theorem dX9_init_360 : decode cX9_init 360 = .ok (.bipush 13, 2) := by decide +kernel
theorem dX9_init_362 : decode cX9_init 362 = .ok (.bipush 51, 2) := by decide +kernel
theorem dX9_init_364 : decode cX9_init 364 = .ok (.iastore, 1) := by decide +kernel
theorem dX9_init_365 : decode cX9_init 365 = .ok (.dup, 1) := by decide +kernel
theorem dX9_init_366 : decode cX9_init 366 = .ok (.bipush 14, 2) := by decide +kernel
theorem dX9_init_368 : decode cX9_init 368 = .ok (.iconst 0, 1) := by decide +kernel
theorem dX9_init_369 : decode cX9_init 369 = .ok (.iastore, 1) := by decide +kernel
theorem dX9_init_370 : decode cX9_init 370 = .ok (.dup, 1) := by decide +kernel
theorem dX9_init_371 : decode cX9_init 371 = .ok (.bipush 15, 2) := by decide +kernel
theorem dX9_init_373 : decode cX9_init 373 = .ok (.iconst 0, 1) := by decide +kernel
theorem dX9_init_374 : decode cX9_init 374 = .ok (.iastore, 1) := by decide +kernel
theorem dX9_init_375 : decode cX9_init 375 = .ok (.dup, 1) := by decide +kernel
theorem dX9_init_376 : decode cX9_init 376 = .ok (.bipush 16, 2) := by decide +kernel
theorem dX9_init_378 : decode cX9_init 378 = .ok (.iconst 0, 1) := by decide +kernel
theorem dX9_init_379 : decode cX9_init 379 = .ok (.iastore, 1) := by decide +kernel
theorem dX9_init_380 : decode cX9_init 380 = .ok (.dup, 1) := by decide +kernel
theorem dX9_init_381 : decode cX9_init 381 = .ok (.bipush 17, 2) := by decide +kernel
theorem dX9_init_383 : decode cX9_init 383 = .ok (.bipush 60, 2) := by decide +kernel
theorem dX9_init_385 : decode cX9_init 385 = .ok (.iastore, 1) := by decide +kernel
theorem dX9_init_386 : decode cX9_init 386 = .ok (.dup, 1) := by decide +kernel
theorem dX9_init_387 : decode cX9_init 387 = .ok (.bipush 18, 2) := by decide +kernel
theorem dX9_init_389 : decode cX9_init 389 = .ok (.bipush 71, 2) := by decide +kernel
theorem dX9_init_391 : decode cX9_init 391 = .ok (.iastore, 1) := by decide +kernel
theorem dX9_init_392 : decode cX9_init 392 = .ok (.dup, 1) := by decide +kernel
theorem dX9_init_393 : decode cX9_init 393 = .ok (.bipush 19, 2) := by decide +kernel
theorem dX9_init_395 : decode cX9_init 395 = .ok (.bipush 70, 2) := by decide +kernel
theorem dX9_init_397 : decode cX9_init 397 = .ok (.iastore, 1) := by decide +kernel
theorem dX9_init_398 : decode cX9_init 398 = .ok (.dup, 1) := by decide +kernel
theorem dX9_init_399 : decode cX9_init 399 = .ok (.bipush 20, 2) := by decide +kernel
theorem dX9_init_401 : decode cX9_init 401 = .ok (.iconst 0, 1) := by decide +kernel
theorem dX9_init_402 : decode cX9_init 402 = .ok (.iastore, 1) := by decide +kernel
theorem dX9_init_403 : decode cX9_init 403 = .ok (.putfield 62, 3) := by decide +kernel
theorem dX9_init_406 : decode cX9_init 406 = .ok (.aload_n 0, 1) := by decide +kernel
theorem dX9_init_407 : decode cX9_init 407 = .ok (.bipush 20, 2) := by decide +kernel
theorem dX9_init_409 : decode cX9_init 409 = .ok (.newarray .int, 2) := by decide +kernel
theorem dX9_init_411 : decode cX9_init 411 = .ok (.putfield 65, 3) := by decide +kernel
theorem dX9_init_414 : decode cX9_init 414 = .ok (.aload_n 0, 1) := by decide +kernel
theorem dX9_init_415 : decode cX9_init 415 = .ok (.bipush 6, 2) := by decide +kernel
theorem dX9_init_417 : decode cX9_init 417 = .ok (.newarray .int, 2) := by decide +kernel
theorem dX9_init_419 : decode cX9_init 419 = .ok (.dup, 1) := by decide +kernel
theorem dX9_init_420 : decode cX9_init 420 = .ok (.iconst 0, 1) := by decide +kernel
theorem dX9_init_421 : decode cX9_init 421 = .ok (.iconst (-1), 1) := by decide +kernel
theorem dX9_init_422 : decode cX9_init 422 = .ok (.iastore, 1) := by decide +kernel
theorem dX9_init_423 : decode cX9_init 423 = .ok (.dup, 1) := by decide +kernel
theorem dX9_init_424 : decode cX9_init 424 = .ok (.iconst 1, 1) := by decide +kernel
theorem dX9_init_425 : decode cX9_init 425 = .ok (.iconst (-1), 1) := by decide +kernel
theorem dX9_init_426 : decode cX9_init 426 = .ok (.iastore, 1) := by decide +kernel
theorem dX9_init_427 : decode cX9_init 427 = .ok (.dup, 1) := by decide +kernel
theorem dX9_init_428 : decode cX9_init 428 = .ok (.iconst 2, 1) := by decide +kernel
theorem dX9_init_429 : decode cX9_init 429 = .ok (.iconst (-1), 1) := by decide +kernel
theorem dX9_init_430 : decode cX9_init 430 = .ok (.iastore, 1) := by decide +kernel
theorem dX9_init_431 : decode cX9_init 431 = .ok (.dup, 1) := by decide +kernel
theorem dX9_init_432 : decode cX9_init 432 = .ok (.iconst 3, 1) := by decide +kernel
theorem dX9_init_433 : decode cX9_init 433 = .ok (.iconst (-1), 1) := by decide +kernel
theorem dX9_init_434 : decode cX9_init 434 = .ok (.iastore, 1) := by decide +kernel
theorem dX9_init_435 : decode cX9_init 435 = .ok (.dup, 1) := by decide +kernel
theorem dX9_init_436 : decode cX9_init 436 = .ok (.iconst 4, 1) := by decide +kernel
theorem dX9_init_437 : decode cX9_init 437 = .ok (.iconst (-1), 1) := by decide +kernel
theorem dX9_init_438 : decode cX9_init 438 = .ok (.iastore, 1) := by decide +kernel
theorem dX9_init_439 : decode cX9_init 439 = .ok (.dup, 1) := by decide +kernel
theorem dX9_init_440 : decode cX9_init 440 = .ok (.iconst 5, 1) := by decide +kernel
theorem dX9_init_441 : decode cX9_init 441 = .ok (.iconst (-1), 1) := by decide +kernel
theorem dX9_init_442 : decode cX9_init 442 = .ok (.iastore, 1) := by decide +kernel
theorem dX9_init_443 : decode cX9_init 443 = .ok (.putfield 68, 3) := by decide +kernel
theorem dX9_init_446 : decode cX9_init 446 = .ok (.aload_n 0, 1) := by decide +kernel
theorem dX9_init_447 : decode cX9_init 447 = .ok (.bipush 6, 2) := by decide +kernel
theorem dX9_init_449 : decode cX9_init 449 = .ok (.newarray .int, 2) := by decide +kernel
theorem dX9_init_451 : decode cX9_init 451 = .ok (.putfield 71, 3) := by decide +kernel
theorem dX9_init_454 : decode cX9_init 454 = .ok (.aload_n 0, 1) := by decide +kernel
theorem dX9_init_455 : decode cX9_init 455 = .ok (.sipush 360, 3) := by decide +kernel
theorem dX9_init_458 : decode cX9_init 458 = .ok (.newarray .long, 2) := by decide +kernel
theorem dX9_init_460 : decode cX9_init 460 = .ok (.putfield 74, 3) := by decide +kernel
theorem dX9_init_463 : decode cX9_init 463 = .ok (.aload_n 0, 1) := by decide +kernel
theorem dX9_init_464 : decode cX9_init 464 = .ok (.bipush 60, 2) := by decide +kernel
theorem dX9_init_466 : decode cX9_init 466 = .ok (.newarray .long, 2) := by decide +kernel
theorem dX9_init_468 : decode cX9_init 468 = .ok (.putfield 78, 3) := by decide +kernel
theorem dX9_init_471 : decode cX9_init 471 = .ok (.return_, 1) := by decide +kernel
theorem dX9_isIn_0 : decode cX9_isIn 0 = .ok (.iload_n 0, 1) := by decide +kernel
theorem dX9_isIn_1 : decode cX9_isIn 1 = .ok (.iload_n 1, 1) := by decide +kernel
theorem dX9_isIn_2 : decode cX9_isIn 2 = .ok (.if_icmp .lt 12, 3) := by decide +kernel
theorem dX9_isIn_5 : decode cX9_isIn 5 = .ok (.iload_n 0, 1) := by decide +kernel
theorem dX9_isIn_6 : decode cX9_isIn 6 = .ok (.iload_n 2, 1) := by decide +kernel
theorem dX9_isIn_7 : decode cX9_isIn 7 = .ok (.if_icmp .gt 7, 3) := by decide +kernel
theorem dX9_isIn_10 : decode cX9_isIn 10 = .ok (.iconst 1, 1) := by decide +kernel
theorem dX9_isIn_11 : decode cX9_isIn 11 = .ok (.goto 4, 3) := by decide +kernel
theorem dX9_isIn_14 : decode cX9_isIn 14 = .ok (.iconst 0, 1) := by decide +kernel
theorem dX9_isIn_15 : decode cX9_isIn 15 = .ok (.ireturn, 1) := by decide +kernel
theorem dX9_move_0 : decode cX9_move 0 = .ok (.iconst 0, 1) := by decide +kernel
theorem dX9_move_1 : decode cX9_move 1 = .ok (.istore_n 2, 1) := by decide +kernel
theorem dX9_move_2 : decode cX9_move 2 = .ok (.iload_n 2, 1) := by decide +kernel
theorem dX9_move_3 : decode cX9_move 3 = .ok (.bipush 115, 2) := by decide +kernel
theorem dX9_move_5 : decode cX9_move 5 = .ok (.if_icmp .ge 15, 3) := by decide +kernel
theorem dX9_move_8 : decode cX9_move 8 = .ok (.aload_n 1, 1) := by decide +kernel
theorem dX9_move_9 : decode cX9_move 9 = .ok (.iload_n 2, 1) := by decide +kernel
theorem dX9_move_10 : decode cX9_move 10 = .ok (.aload_n 0, 1) := by decide +kernel
theorem dX9_move_11 : decode cX9_move 11 = .ok (.iload_n 2, 1) := by decide +kernel
theorem dX9_move_12 : decode cX9_move 12 = .ok (.iaload, 1) := by decide +kernel
theorem dX9_move_13 : decode cX9_move 13 = .ok (.iastore, 1) := by decide +kernel
theorem dX9_move_14 : decode cX9_move 14 = .ok (.iinc 2 1, 3) := by decide +kernel
theorem dX9_move_17 : decode cX9_move 17 = .ok (.goto (-15), 3) := by decide +kernel
theorem dX9_move_20 : decode cX9_move 20 = .ok (.return_, 1) := by decide +kernel
theorem dX9_image_0 : decode cX9_image 0 = .ok (.aload_n 0, 1) := by decide +kernel
theorem dX9_image_1 : decode cX9_image 1 = .ok (.iconst 1, 1) := by decide +kernel
theorem dX9_image_2 : decode cX9_image 2 = .ok (.putfield 81, 3) := by decide +kernel
theorem dX9_image_5 : decode cX9_image 5 = .ok (.aload_n 0, 1) := by decide +kernel
theorem dX9_image_6 : decode cX9_image 6 = .ok (.getfield 9, 3) := by decide +kernel
theorem dX9_image_9 : decode cX9_image 9 = .ok (.aload_n 0, 1) := by decide +kernel
theorem dX9_image_10 : decode cX9_image 10 = .ok (.getfield 18, 3) := by decide +kernel
theorem dX9_image_13 : decode cX9_image 13 = .ok (.invokestatic 85, 3) := by decide +kernel
theorem dX9_image_16 : decode cX9_image 16 = .ok (.aload_n 0, 1) := by decide +kernel
theorem dX9_image_17 : decode cX9_image 17 = .ok (.getfield 9, 3) := by decide +kernel
theorem dX9_image_20 : decode cX9_image 20 = .ok (.bipush 54, 2) := by decide +kernel
theorem dX9_image_22 : decode cX9_image 22 = .ok (.iaload, 1) := by decide +kernel
theorem dX9_image_23 : decode cX9_image 23 = .ok (.ireturn, 1) := by decide +kernel
theorem dX9_undo_0 : decode cX9_undo 0 = .ok (.aload_n 0, 1) := by decide +kernel
theorem dX9_undo_1 : decode cX9_undo 1 = .ok (.getfield 81, 3) := by decide +kernel
theorem dX9_undo_4 : decode cX9_undo 4 = .ok (.ifCond .ne 6, 3) := by decide +kernel
theorem dX9_undo_7 : decode cX9_undo 7 = .ok (.bipush (-3), 2) := by decide +kernel
theorem dX9_undo_9 : decode cX9_undo 9 = .ok (.ireturn, 1) := by decide +kernel
theorem dX9_undo_10 : decode cX9_undo 10 = .ok (.aload_n 0, 1) := by decide +kernel
theorem dX9_undo_11 : decode cX9_undo 11 = .ok (.getfield 18, 3) := by decide +kernel
theorem dX9_undo_14 : decode cX9_undo 14 = .ok (.aload_n 0, 1) := by decide +kernel
theorem dX9_undo_15 : decode cX9_undo 15 = .ok (.getfield 9, 3) := by decide +kernel
theorem dX9_undo_18 : decode cX9_undo 18 = .ok (.invokestatic 85, 3) := by decide +kernel
theorem dX9_undo_21 : decode cX9_undo 21 = .ok (.aload_n 0, 1) := by decide +kernel
theorem dX9_undo_22 : decode cX9_undo 22 = .ok (.getfield 9, 3) := by decide +kernel
theorem dX9_undo_25 : decode cX9_undo 25 = .ok (.bipush 54, 2) := by decide +kernel
theorem dX9_undo_27 : decode cX9_undo 27 = .ok (.iaload, 1) := by decide +kernel
theorem dX9_undo_28 : decode cX9_undo 28 = .ok (.ireturn, 1) := by decide +kernel
theorem dX9_isPot_0 : decode cX9_isPot 0 = .ok (.iload_n 1, 1) := by decide +kernel
theorem dX9_isPot_1 : decode cX9_isPot 1 = .ok (.iconst 0, 1) := by decide +kernel
theorem dX9_isPot_2 : decode cX9_isPot 2 = .ok (.aload_n 0, 1) := by decide +kernel
theorem dX9_isPot_3 : decode cX9_isPot 3 = .ok (.getfield 9, 3) := by decide +kernel
theorem dX9_isPot_6 : decode cX9_isPot 6 = .ok (.bipush 54, 2) := by decide +kernel
theorem dX9_isPot_8 : decode cX9_isPot 8 = .ok (.iaload, 1) := by decide +kernel
theorem dX9_isPot_9 : decode cX9_isPot 9 = .ok (.iconst 1, 1) := by decide +kernel
theorem dX9_isPot_10 : decode cX9_isPot 10 = .ok (.isub, 1) := by decide +kernel
theorem dX9_isPot_11 : decode cX9_isPot 11 = .ok (.invokestatic 89, 3) := by decide +kernel
theorem dX9_isPot_14 : decode cX9_isPot 14 = .ok (.ireturn, 1) := by decide +kernel
theorem dX9_isFact_0 : decode cX9_isFact 0 = .ok (.iload_n 0, 1) := by decide +kernel
theorem dX9_isFact_1 : decode cX9_isFact 1 = .ok (.iconst 0, 1) := by decide +kernel
theorem dX9_isFact_2 : decode cX9_isFact 2 = .ok (.bipush 7, 2) := by decide +kernel
theorem dX9_isFact_4 : decode cX9_isFact 4 = .ok (.invokestatic 89, 3) := by decide +kernel
theorem dX9_isFact_7 : decode cX9_isFact 7 = .ok (.ireturn, 1) := by decide +kernel
theorem dX9_one_0 : decode cX9_one 0 = .ok (.aload_n 0, 1) := by decide +kernel
theorem dX9_one_1 : decode cX9_one 1 = .ok (.getfield 9, 3) := by decide +kernel
theorem dX9_one_4 : decode cX9_one 4 = .ok (.bipush 9, 2) := by decide +kernel
theorem dX9_one_6 : decode cX9_one 6 = .ok (.iload_n 1, 1) := by decide +kernel
theorem dX9_one_7 : decode cX9_one 7 = .ok (.imul, 1) := by decide +kernel
theorem dX9_one_8 : decode cX9_one 8 = .ok (.iload_n 2, 1) := by decide +kernel
theorem dX9_one_9 : decode cX9_one 9 = .ok (.iadd, 1) := by decide +kernel
theorem dX9_one_10 : decode cX9_one 10 = .ok (.iaload, 1) := by decide +kernel
theorem dX9_one_11 : decode cX9_one 11 = .ok (.ireturn, 1) := by decide +kernel
theorem dX9_change_0 : decode cX9_change 0 = .ok (.aload_n 0, 1) := by decide +kernel
theorem dX9_change_1 : decode cX9_change 1 = .ok (.iload_n 1, 1) := by decide +kernel
theorem dX9_change_2 : decode cX9_change 2 = .ok (.iload_n 2, 1) := by decide +kernel
theorem dX9_change_3 : decode cX9_change 3 = .ok (.invokevirtual 93, 3) := by decide +kernel
theorem dX9_change_6 : decode cX9_change 6 = .ok (.istore 4, 2) := by decide +kernel
theorem dX9_change_8 : decode cX9_change 8 = .ok (.aload_n 0, 1) := by decide +kernel
theorem dX9_change_9 : decode cX9_change 9 = .ok (.getfield 9, 3) := by decide +kernel
theorem dX9_change_12 : decode cX9_change 12 = .ok (.bipush 9, 2) := by decide +kernel
theorem dX9_change_14 : decode cX9_change 14 = .ok (.iload_n 1, 1) := by decide +kernel
theorem dX9_change_15 : decode cX9_change 15 = .ok (.imul, 1) := by decide +kernel
theorem dX9_change_16 : decode cX9_change 16 = .ok (.iload_n 2, 1) := by decide +kernel
theorem dX9_change_17 : decode cX9_change 17 = .ok (.iadd, 1) := by decide +kernel
theorem dX9_change_18 : decode cX9_change 18 = .ok (.iload_n 3, 1) := by decide +kernel
theorem dX9_change_19 : decode cX9_change 19 = .ok (.iastore, 1) := by decide +kernel
theorem dX9_change_20 : decode cX9_change 20 = .ok (.iload 4, 2) := by decide +kernel
theorem dX9_change_22 : decode cX9_change 22 = .ok (.ireturn, 1) := by decide +kernel
theorem dX9_many_0 : decode cX9_many 0 = .ok (.iconst 0, 1) := by decide +kernel
theorem dX9_many_1 : decode cX9_many 1 = .ok (.istore_n 1, 1) := by decide +kernel
theorem dX9_many_2 : decode cX9_many 2 = .ok (.iconst 0, 1) := by decide +kernel
theorem dX9_many_3 : decode cX9_many 3 = .ok (.istore_n 2, 1) := by decide +kernel
theorem dX9_many_4 : decode cX9_many 4 = .ok (.iload_n 2, 1) := by decide +kernel
theorem dX9_many_5 : decode cX9_many 5 = .ok (.bipush 8, 2) := by decide +kernel
theorem dX9_many_7 : decode cX9_many 7 = .ok (.if_icmp .ge 17, 3) := by decide +kernel
theorem dX9_many_10 : decode cX9_many 10 = .ok (.iload_n 1, 1) := by decide +kernel
theorem dX9_many_11 : decode cX9_many 11 = .ok (.iload_n 0, 1) := by decide +kernel
theorem dX9_many_12 : decode cX9_many 12 = .ok (.iload_n 2, 1) := by decide +kernel
theorem dX9_many_13 : decode cX9_many 13 = .ok (.ishr, 1) := by decide +kernel
theorem dX9_many_14 : decode cX9_many 14 = .ok (.iconst 1, 1) := by decide +kernel
theorem dX9_many_15 : decode cX9_many 15 = .ok (.iand, 1) := by decide +kernel
theorem dX9_many_16 : decode cX9_many 16 = .ok (.iadd, 1) := by decide +kernel
theorem dX9_many_17 : decode cX9_many 17 = .ok (.istore_n 1, 1) := by decide +kernel
theorem dX9_many_18 : decode cX9_many 18 = .ok (.iinc 2 1, 3) := by decide +kernel
theorem dX9_many_21 : decode cX9_many 21 = .ok (.goto (-17), 3) := by decide +kernel
theorem dX9_many_24 : decode cX9_many 24 = .ok (.iload_n 1, 1) := by decide +kernel
theorem dX9_many_25 : decode cX9_many 25 = .ok (.ireturn, 1) := by decide +kernel
theorem dX9_pot_0 : decode cX9_pot 0 = .ok (.iload_n 1, 1) := by decide +kernel
theorem dX9_pot_1 : decode cX9_pot 1 = .ok (.iconst 0, 1) := by decide +kernel
theorem dX9_pot_2 : decode cX9_pot 2 = .ok (.bipush 6, 2) := by decide +kernel
theorem dX9_pot_4 : decode cX9_pot 4 = .ok (.invokestatic 89, 3) := by decide +kernel
theorem dX9_pot_7 : decode cX9_pot 7 = .ok (.ifCond .ne 5, 3) := by decide +kernel
theorem dX9_pot_10 : decode cX9_pot 10 = .ok (.iconst (-1), 1) := by decide +kernel
theorem dX9_pot_11 : decode cX9_pot 11 = .ok (.ireturn, 1) := by decide +kernel
theorem dX9_pot_12 : decode cX9_pot 12 = .ok (.iload_n 2, 1) := by decide +kernel
theorem dX9_pot_13 : decode cX9_pot 13 = .ok (.iconst 0, 1) := by decide +kernel
theorem dX9_pot_14 : decode cX9_pot 14 = .ok (.bipush 9, 2) := by decide +kernel
theorem dX9_pot_16 : decode cX9_pot 16 = .ok (.invokestatic 89, 3) := by decide +kernel
theorem dX9_pot_19 : decode cX9_pot 19 = .ok (.ifCond .eq 13, 3) := by decide +kernel
theorem dX9_pot_22 : decode cX9_pot 22 = .ok (.iload_n 3, 1) := by decide +kernel
theorem dX9_pot_23 : decode cX9_pot 23 = .ok (.iconst 0, 1) := by decide +kernel
theorem dX9_pot_24 : decode cX9_pot 24 = .ok (.bipush 9, 2) := by decide +kernel
theorem dX9_pot_26 : decode cX9_pot 26 = .ok (.invokestatic 89, 3) := by decide +kernel
theorem dX9_pot_29 : decode cX9_pot 29 = .ok (.ifCond .ne 6, 3) := by decide +kernel
theorem dX9_pot_32 : decode cX9_pot 32 = .ok (.bipush (-2), 2) := by decide +kernel
theorem dX9_pot_34 : decode cX9_pot 34 = .ok (.ireturn, 1) := by decide +kernel
theorem dX9_pot_35 : decode cX9_pot 35 = .ok (.aload_n 0, 1) := by decide +kernel
theorem dX9_pot_36 : decode cX9_pot 36 = .ok (.getfield 9, 3) := by decide +kernel
theorem dX9_pot_39 : decode cX9_pot 39 = .ok (.bipush 54, 2) := by decide +kernel
theorem dX9_pot_41 : decode cX9_pot 41 = .ok (.iaload, 1) := by decide +kernel
theorem dX9_pot_42 : decode cX9_pot 42 = .ok (.istore 4, 2) := by decide +kernel
theorem dX9_pot_44 : decode cX9_pot 44 = .ok (.iload 4, 2) := by decide +kernel
theorem dX9_pot_46 : decode cX9_pot 46 = .ok (.bipush 6, 2) := by decide +kernel
theorem dX9_pot_48 : decode cX9_pot 48 = .ok (.if_icmp .ne 6, 3) := by decide +kernel
theorem dX9_pot_51 : decode cX9_pot 51 = .ok (.bipush (-4), 2) := by decide +kernel
theorem dX9_pot_53 : decode cX9_pot 53 = .ok (.ireturn, 1) := by decide +kernel
theorem dX9_pot_54 : decode cX9_pot 54 = .ok (.iconst 0, 1) := by decide +kernel
theorem dX9_pot_55 : decode cX9_pot 55 = .ok (.istore 5, 2) := by decide +kernel
theorem dX9_pot_57 : decode cX9_pot 57 = .ok (.iload 5, 2) := by decide +kernel
theorem dX9_pot_59 : decode cX9_pot 59 = .ok (.bipush 9, 2) := by decide +kernel
theorem dX9_pot_61 : decode cX9_pot 61 = .ok (.if_icmp .ge 19, 3) := by decide +kernel
theorem dX9_pot_64 : decode cX9_pot 64 = .ok (.aload_n 0, 1) := by decide +kernel
theorem dX9_pot_65 : decode cX9_pot 65 = .ok (.iload 4, 2) := by decide +kernel
theorem dX9_pot_67 : decode cX9_pot 67 = .ok (.iload 5, 2) := by decide +kernel
theorem dX9_pot_69 : decode cX9_pot 69 = .ok (.iconst 0, 1) := by decide +kernel
theorem dX9_pot_70 : decode cX9_pot 70 = .ok (.invokevirtual 97, 3) := by decide +kernel
theorem dX9_pot_73 : decode cX9_pot 73 = .ok (.pop, 1) := by decide +kernel
theorem dX9_pot_74 : decode cX9_pot 74 = .ok (.iinc 5 1, 3) := by decide +kernel
theorem dX9_pot_77 : decode cX9_pot 77 = .ok (.goto (-20), 3) := by decide +kernel
theorem dX9_pot_80 : decode cX9_pot 80 = .ok (.aload_n 0, 1) := by decide +kernel
theorem dX9_pot_81 : decode cX9_pot 81 = .ok (.iload 4, 2) := by decide +kernel
theorem dX9_pot_83 : decode cX9_pot 83 = .ok (.iconst 0, 1) := by decide +kernel
theorem dX9_pot_84 : decode cX9_pot 84 = .ok (.iload_n 1, 1) := by decide +kernel
theorem dX9_pot_85 : decode cX9_pot 85 = .ok (.invokevirtual 97, 3) := by decide +kernel
theorem dX9_pot_88 : decode cX9_pot 88 = .ok (.pop, 1) := by decide +kernel
theorem dX9_pot_89 : decode cX9_pot 89 = .ok (.aload_n 0, 1) := by decide +kernel
theorem dX9_pot_90 : decode cX9_pot 90 = .ok (.iload 4, 2) := by decide +kernel
theorem dX9_pot_92 : decode cX9_pot 92 = .ok (.iconst 1, 1) := by decide +kernel
theorem dX9_pot_93 : decode cX9_pot 93 = .ok (.iload_n 2, 1) := by decide +kernel
theorem dX9_pot_94 : decode cX9_pot 94 = .ok (.invokevirtual 97, 3) := by decide +kernel
theorem dX9_pot_97 : decode cX9_pot 97 = .ok (.pop, 1) := by decide +kernel
theorem dX9_pot_98 : decode cX9_pot 98 = .ok (.aload_n 0, 1) := by decide +kernel
theorem dX9_pot_99 : decode cX9_pot 99 = .ok (.iload 4, 2) := by decide +kernel
theorem dX9_pot_101 : decode cX9_pot 101 = .ok (.iconst 2, 1) := by decide +kernel
theorem dX9_pot_102 : decode cX9_pot 102 = .ok (.iload_n 3, 1) := by decide +kernel
theorem dX9_pot_103 : decode cX9_pot 103 = .ok (.invokevirtual 97, 3) := by decide +kernel
theorem dX9_pot_106 : decode cX9_pot 106 = .ok (.pop, 1) := by decide +kernel
theorem dX9_pot_107 : decode cX9_pot 107 = .ok (.aload_n 0, 1) := by decide +kernel
theorem dX9_pot_108 : decode cX9_pot 108 = .ok (.getfield 9, 3) := by decide +kernel
theorem dX9_pot_111 : decode cX9_pot 111 = .ok (.bipush 54, 2) := by decide +kernel
theorem dX9_pot_113 : decode cX9_pot 113 = .ok (.dup2, 1) := by decide +kernel
theorem dX9_pot_114 : decode cX9_pot 114 = .ok (.iaload, 1) := by decide +kernel
theorem dX9_pot_115 : decode cX9_pot 115 = .ok (.iconst 1, 1) := by decide +kernel
theorem dX9_pot_116 : decode cX9_pot 116 = .ok (.iadd, 1) := by decide +kernel
theorem dX9_pot_117 : decode cX9_pot 117 = .ok (.iastore, 1) := by decide +kernel
theorem dX9_pot_118 : decode cX9_pot 118 = .ok (.iload 4, 2) := by decide +kernel
theorem dX9_pot_120 : decode cX9_pot 120 = .ok (.ireturn, 1) := by decide +kernel
theorem dX9_of_0 : decode cX9_of 0 = .ok (.aload_n 0, 1) := by decide +kernel
theorem dX9_of_1 : decode cX9_of 1 = .ok (.iload_n 1, 1) := by decide +kernel
theorem dX9_of_2 : decode cX9_of 2 = .ok (.invokevirtual 101, 3) := by decide +kernel
theorem dX9_of_5 : decode cX9_of 5 = .ok (.ifCond .ne 7, 3) := by decide +kernel
theorem dX9_of_8 : decode cX9_of 8 = .ok (.sipush (-10001), 3) := by decide +kernel
theorem dX9_of_11 : decode cX9_of 11 = .ok (.ireturn, 1) := by decide +kernel
theorem dX9_of_12 : decode cX9_of 12 = .ok (.iload_n 2, 1) := by decide +kernel
theorem dX9_of_13 : decode cX9_of 13 = .ok (.iconst 0, 1) := by decide +kernel
theorem dX9_of_14 : decode cX9_of 14 = .ok (.iconst 4, 1) := by decide +kernel
theorem dX9_of_15 : decode cX9_of 15 = .ok (.invokestatic 89, 3) := by decide +kernel
theorem dX9_of_18 : decode cX9_of 18 = .ok (.ifCond .eq 10, 3) := by decide +kernel
theorem dX9_of_21 : decode cX9_of 21 = .ok (.aload_n 0, 1) := by decide +kernel
theorem dX9_of_22 : decode cX9_of 22 = .ok (.iload_n 1, 1) := by decide +kernel
theorem dX9_of_23 : decode cX9_of 23 = .ok (.iload_n 2, 1) := by decide +kernel
theorem dX9_of_24 : decode cX9_of 24 = .ok (.invokevirtual 93, 3) := by decide +kernel
theorem dX9_of_27 : decode cX9_of 27 = .ok (.ireturn, 1) := by decide +kernel
theorem dX9_of_28 : decode cX9_of 28 = .ok (.iload_n 2, 1) := by decide +kernel
theorem dX9_of_29 : decode cX9_of 29 = .ok (.iconst 5, 1) := by decide +kernel
theorem dX9_of_30 : decode cX9_of 30 = .ok (.if_icmp .ne 10, 3) := by decide +kernel
theorem dX9_of_33 : decode cX9_of 33 = .ok (.aload_n 0, 1) := by decide +kernel
theorem dX9_of_34 : decode cX9_of 34 = .ok (.iload_n 1, 1) := by decide +kernel
theorem dX9_of_35 : decode cX9_of 35 = .ok (.iconst 2, 1) := by decide +kernel
theorem dX9_of_36 : decode cX9_of 36 = .ok (.invokevirtual 105, 3) := by decide +kernel
theorem dX9_of_39 : decode cX9_of 39 = .ok (.ireturn, 1) := by decide +kernel
theorem dX9_of_40 : decode cX9_of 40 = .ok (.iload_n 2, 1) := by decide +kernel
theorem dX9_of_41 : decode cX9_of 41 = .ok (.bipush 10, 2) := by decide +kernel
theorem dX9_of_43 : decode cX9_of 43 = .ok (.isub, 1) := by decide +kernel
theorem dX9_of_44 : decode cX9_of 44 = .ok (.invokestatic 108, 3) := by decide +kernel
theorem dX9_of_47 : decode cX9_of 47 = .ok (.ifCond .eq 15, 3) := by decide +kernel
theorem dX9_of_50 : decode cX9_of 50 = .ok (.aload_n 0, 1) := by decide +kernel
theorem dX9_of_51 : decode cX9_of 51 = .ok (.iload_n 1, 1) := by decide +kernel
theorem dX9_of_52 : decode cX9_of 52 = .ok (.iload_n 2, 1) := by decide +kernel
theorem dX9_of_53 : decode cX9_of 53 = .ok (.bipush 10, 2) := by decide +kernel
theorem dX9_of_55 : decode cX9_of 55 = .ok (.isub, 1) := by decide +kernel
theorem dX9_of_56 : decode cX9_of 56 = .ok (.invokevirtual 111, 3) := by decide +kernel
theorem dX9_of_59 : decode cX9_of 59 = .ok (.goto 57, 3) := by decide +kernel
theorem dX9_of_62 : decode cX9_of 62 = .ok (.iload_n 2, 1) := by decide +kernel
theorem dX9_of_63 : decode cX9_of 63 = .ok (.bipush 20, 2) := by decide +kernel
theorem dX9_of_65 : decode cX9_of 65 = .ok (.isub, 1) := by decide +kernel
theorem dX9_of_66 : decode cX9_of 66 = .ok (.invokestatic 108, 3) := by decide +kernel
theorem dX9_of_69 : decode cX9_of 69 = .ok (.ifCond .eq 22, 3) := by decide +kernel
theorem dX9_of_72 : decode cX9_of 72 = .ok (.aload_n 0, 1) := by decide +kernel
theorem dX9_of_73 : decode cX9_of 73 = .ok (.iload_n 1, 1) := by decide +kernel
theorem dX9_of_74 : decode cX9_of 74 = .ok (.iload_n 2, 1) := by decide +kernel
theorem dX9_of_75 : decode cX9_of 75 = .ok (.bipush 20, 2) := by decide +kernel
theorem dX9_of_77 : decode cX9_of 77 = .ok (.isub, 1) := by decide +kernel
theorem dX9_of_78 : decode cX9_of 78 = .ok (.aload_n 0, 1) := by decide +kernel
theorem dX9_of_79 : decode cX9_of 79 = .ok (.getfield 9, 3) := by decide +kernel
theorem dX9_of_82 : decode cX9_of 82 = .ok (.bipush 55, 2) := by decide +kernel
theorem dX9_of_84 : decode cX9_of 84 = .ok (.iaload, 1) := by decide +kernel
theorem dX9_of_85 : decode cX9_of 85 = .ok (.invokevirtual 114, 3) := by decide +kernel
theorem dX9_of_88 : decode cX9_of 88 = .ok (.goto 28, 3) := by decide +kernel
theorem dX9_of_91 : decode cX9_of 91 = .ok (.iload_n 2, 1) := by decide +kernel
theorem dX9_of_92 : decode cX9_of 92 = .ok (.bipush 30, 2) := by decide +kernel
theorem dX9_of_94 : decode cX9_of 94 = .ok (.isub, 1) := by decide +kernel
theorem dX9_of_95 : decode cX9_of 95 = .ok (.invokestatic 108, 3) := by decide +kernel
theorem dX9_of_98 : decode cX9_of 98 = .ok (.ifCond .eq 15, 3) := by decide +kernel
theorem dX9_of_101 : decode cX9_of 101 = .ok (.aload_n 0, 1) := by decide +kernel
theorem dX9_of_102 : decode cX9_of 102 = .ok (.iload_n 1, 1) := by decide +kernel
theorem dX9_of_103 : decode cX9_of 103 = .ok (.iload_n 2, 1) := by decide +kernel
theorem dX9_of_104 : decode cX9_of 104 = .ok (.bipush 30, 2) := by decide +kernel
theorem dX9_of_106 : decode cX9_of 106 = .ok (.isub, 1) := by decide +kernel
theorem dX9_of_107 : decode cX9_of 107 = .ok (.invokevirtual 117, 3) := by decide +kernel
theorem dX9_of_110 : decode cX9_of 110 = .ok (.goto 6, 3) := by decide +kernel
theorem dX9_of_113 : decode cX9_of 113 = .ok (.sipush (-10001), 3) := by decide +kernel
theorem dX9_of_116 : decode cX9_of 116 = .ok (.ireturn, 1) := by decide +kernel
theorem dX9_world_0 : decode cX9_world 0 = .ok (.iload_n 1, 1) := by decide +kernel
theorem dX9_world_1 : decode cX9_world 1 = .ok (.iconst 0, 1) := by decide +kernel
theorem dX9_world_2 : decode cX9_world 2 = .ok (.sipush 255, 3) := by decide +kernel
theorem dX9_world_5 : decode cX9_world 5 = .ok (.invokestatic 89, 3) := by decide +kernel
theorem dX9_world_8 : decode cX9_world 8 = .ok (.ifCond .ne 6, 3) := by decide +kernel
theorem dX9_world_11 : decode cX9_world 11 = .ok (.bipush (-2), 2) := by decide +kernel
theorem dX9_world_13 : decode cX9_world 13 = .ok (.ireturn, 1) := by decide +kernel
theorem dX9_world_14 : decode cX9_world 14 = .ok (.aload_n 0, 1) := by decide +kernel
theorem dX9_world_15 : decode cX9_world 15 = .ok (.getfield 9, 3) := by decide +kernel
theorem dX9_world_18 : decode cX9_world 18 = .ok (.bipush 55, 2) := by decide +kernel
theorem dX9_world_20 : decode cX9_world 20 = .ok (.iaload, 1) := by decide +kernel
theorem dX9_world_21 : decode cX9_world 21 = .ok (.istore_n 2, 1) := by decide +kernel
theorem dX9_world_22 : decode cX9_world 22 = .ok (.aload_n 0, 1) := by decide +kernel
theorem dX9_world_23 : decode cX9_world 23 = .ok (.getfield 9, 3) := by decide +kernel
theorem dX9_world_26 : decode cX9_world 26 = .ok (.bipush 55, 2) := by decide +kernel
theorem dX9_world_28 : decode cX9_world 28 = .ok (.iload_n 1, 1) := by decide +kernel
theorem dX9_world_29 : decode cX9_world 29 = .ok (.iastore, 1) := by decide +kernel
theorem dX9_world_30 : decode cX9_world 30 = .ok (.iload_n 2, 1) := by decide +kernel
theorem dX9_world_31 : decode cX9_world 31 = .ok (.ireturn, 1) := by decide +kernel
theorem dX9_sugar_0 : decode cX9_sugar 0 = .ok (.aload_n 0, 1) := by decide +kernel
theorem dX9_sugar_1 : decode cX9_sugar 1 = .ok (.iload_n 1, 1) := by decide +kernel
theorem dX9_sugar_2 : decode cX9_sugar 2 = .ok (.invokevirtual 101, 3) := by decide +kernel
theorem dX9_sugar_5 : decode cX9_sugar 5 = .ok (.ifCond .ne 5, 3) := by decide +kernel
theorem dX9_sugar_8 : decode cX9_sugar 8 = .ok (.iconst (-1), 1) := by decide +kernel
theorem dX9_sugar_9 : decode cX9_sugar 9 = .ok (.ireturn, 1) := by decide +kernel
theorem dX9_sugar_10 : decode cX9_sugar 10 = .ok (.iload_n 2, 1) := by decide +kernel
theorem dX9_sugar_11 : decode cX9_sugar 11 = .ok (.iconst 0, 1) := by decide +kernel
theorem dX9_sugar_12 : decode cX9_sugar 12 = .ok (.bipush 9, 2) := by decide +kernel
theorem dX9_sugar_14 : decode cX9_sugar 14 = .ok (.invokestatic 89, 3) := by decide +kernel
theorem dX9_sugar_17 : decode cX9_sugar 17 = .ok (.ifCond .eq 13, 3) := by decide +kernel
theorem dX9_sugar_20 : decode cX9_sugar 20 = .ok (.aload_n 0, 1) := by decide +kernel
theorem dX9_sugar_21 : decode cX9_sugar 21 = .ok (.iload_n 1, 1) := by decide +kernel
theorem dX9_sugar_22 : decode cX9_sugar 22 = .ok (.iconst 2, 1) := by decide +kernel
theorem dX9_sugar_23 : decode cX9_sugar 23 = .ok (.iload_n 2, 1) := by decide +kernel
theorem dX9_sugar_24 : decode cX9_sugar 24 = .ok (.invokevirtual 97, 3) := by decide +kernel
theorem dX9_sugar_27 : decode cX9_sugar 27 = .ok (.goto 5, 3) := by decide +kernel
theorem dX9_sugar_30 : decode cX9_sugar 30 = .ok (.bipush (-2), 2) := by decide +kernel
theorem dX9_sugar_32 : decode cX9_sugar 32 = .ok (.ireturn, 1) := by decide +kernel
theorem dX9_opens_0 : decode cX9_opens 0 = .ok (.aload_n 0, 1) := by decide +kernel
theorem dX9_opens_1 : decode cX9_opens 1 = .ok (.iload_n 1, 1) := by decide +kernel
theorem dX9_opens_2 : decode cX9_opens 2 = .ok (.iconst 4, 1) := by decide +kernel
theorem dX9_opens_3 : decode cX9_opens 3 = .ok (.bipush 9, 2) := by decide +kernel
theorem dX9_opens_5 : decode cX9_opens 5 = .ok (.aload_n 0, 1) := by decide +kernel
theorem dX9_opens_6 : decode cX9_opens 6 = .ok (.iload_n 1, 1) := by decide +kernel
theorem dX9_opens_7 : decode cX9_opens 7 = .ok (.iconst 4, 1) := by decide +kernel
theorem dX9_opens_8 : decode cX9_opens 8 = .ok (.invokevirtual 93, 3) := by decide +kernel
theorem dX9_opens_11 : decode cX9_opens 11 = .ok (.iconst 1, 1) := by decide +kernel
theorem dX9_opens_12 : decode cX9_opens 12 = .ok (.iadd, 1) := by decide +kernel
theorem dX9_opens_13 : decode cX9_opens 13 = .ok (.invokestatic 120, 3) := by decide +kernel
theorem dX9_opens_16 : decode cX9_opens 16 = .ok (.invokevirtual 97, 3) := by decide +kernel
theorem dX9_opens_19 : decode cX9_opens 19 = .ok (.pop, 1) := by decide +kernel
theorem dX9_opens_20 : decode cX9_opens 20 = .ok (.aload_n 0, 1) := by decide +kernel
theorem dX9_opens_21 : decode cX9_opens 21 = .ok (.iload_n 1, 1) := by decide +kernel
theorem dX9_opens_22 : decode cX9_opens 22 = .ok (.iconst 2, 1) := by decide +kernel
theorem dX9_opens_23 : decode cX9_opens 23 = .ok (.iconst 0, 1) := by decide +kernel
theorem dX9_opens_24 : decode cX9_opens 24 = .ok (.aload_n 0, 1) := by decide +kernel
theorem dX9_opens_25 : decode cX9_opens 25 = .ok (.iload_n 1, 1) := by decide +kernel
theorem dX9_opens_26 : decode cX9_opens 26 = .ok (.iconst 2, 1) := by decide +kernel
theorem dX9_opens_27 : decode cX9_opens 27 = .ok (.invokevirtual 93, 3) := by decide +kernel
theorem dX9_opens_30 : decode cX9_opens 30 = .ok (.iconst 1, 1) := by decide +kernel
theorem dX9_opens_31 : decode cX9_opens 31 = .ok (.isub, 1) := by decide +kernel
theorem dX9_opens_32 : decode cX9_opens 32 = .ok (.invokestatic 125, 3) := by decide +kernel
theorem dX9_opens_35 : decode cX9_opens 35 = .ok (.invokevirtual 97, 3) := by decide +kernel
theorem dX9_opens_38 : decode cX9_opens 38 = .ok (.pop, 1) := by decide +kernel
theorem dX9_opens_39 : decode cX9_opens 39 = .ok (.return_, 1) := by decide +kernel
theorem dX9_spoon_0 : decode cX9_spoon 0 = .ok (.aload_n 0, 1) := by decide +kernel
theorem dX9_spoon_1 : decode cX9_spoon 1 = .ok (.iload_n 1, 1) := by decide +kernel
theorem dX9_spoon_2 : decode cX9_spoon 2 = .ok (.invokevirtual 101, 3) := by decide +kernel
theorem dX9_spoon_5 : decode cX9_spoon 5 = .ok (.ifCond .eq 10, 3) := by decide +kernel
theorem dX9_spoon_8 : decode cX9_spoon 8 = .ok (.iload_n 2, 1) := by decide +kernel
theorem dX9_spoon_9 : decode cX9_spoon 9 = .ok (.invokestatic 108, 3) := by decide +kernel
theorem dX9_spoon_12 : decode cX9_spoon 12 = .ok (.ifCond .ne 7, 3) := by decide +kernel
theorem dX9_spoon_15 : decode cX9_spoon 15 = .ok (.sipush (-10001), 3) := by decide +kernel
theorem dX9_spoon_18 : decode cX9_spoon 18 = .ok (.ireturn, 1) := by decide +kernel
theorem dX9_spoon_19 : decode cX9_spoon 19 = .ok (.aload_n 0, 1) := by decide +kernel
theorem dX9_spoon_20 : decode cX9_spoon 20 = .ok (.iload_n 1, 1) := by decide +kernel
theorem dX9_spoon_21 : decode cX9_spoon 21 = .ok (.iload_n 2, 1) := by decide +kernel
theorem dX9_spoon_22 : decode cX9_spoon 22 = .ok (.aload_n 0, 1) := by decide +kernel
theorem dX9_spoon_23 : decode cX9_spoon 23 = .ok (.getfield 9, 3) := by decide +kernel
theorem dX9_spoon_26 : decode cX9_spoon 26 = .ok (.bipush 55, 2) := by decide +kernel
theorem dX9_spoon_28 : decode cX9_spoon 28 = .ok (.iaload, 1) := by decide +kernel
theorem dX9_spoon_29 : decode cX9_spoon 29 = .ok (.invokevirtual 114, 3) := by decide +kernel
theorem dX9_spoon_32 : decode cX9_spoon 32 = .ok (.istore_n 3, 1) := by decide +kernel
theorem dX9_spoon_33 : decode cX9_spoon 33 = .ok (.aload_n 0, 1) := by decide +kernel
theorem dX9_spoon_34 : decode cX9_spoon 34 = .ok (.iload_n 1, 1) := by decide +kernel
theorem dX9_spoon_35 : decode cX9_spoon 35 = .ok (.invokevirtual 128, 3) := by decide +kernel
theorem dX9_spoon_38 : decode cX9_spoon 38 = .ok (.iload_n 3, 1) := by decide +kernel
theorem dX9_spoon_39 : decode cX9_spoon 39 = .ok (.ireturn, 1) := by decide +kernel
theorem dX9_row_0 : decode cX9_row 0 = .ok (.aload_n 0, 1) := by decide +kernel
theorem dX9_row_1 : decode cX9_row 1 = .ok (.iload_n 1, 1) := by decide +kernel
theorem dX9_row_2 : decode cX9_row 2 = .ok (.invokevirtual 101, 3) := by decide +kernel
theorem dX9_row_5 : decode cX9_row 5 = .ok (.ifCond .eq 12, 3) := by decide +kernel
theorem dX9_row_8 : decode cX9_row 8 = .ok (.iload_n 2, 1) := by decide +kernel
theorem dX9_row_9 : decode cX9_row 9 = .ok (.iconst 0, 1) := by decide +kernel
theorem dX9_row_10 : decode cX9_row 10 = .ok (.iconst 3, 1) := by decide +kernel
theorem dX9_row_11 : decode cX9_row 11 = .ok (.invokestatic 89, 3) := by decide +kernel
theorem dX9_row_14 : decode cX9_row 14 = .ok (.ifCond .ne 5, 3) := by decide +kernel
theorem dX9_row_17 : decode cX9_row 17 = .ok (.iconst (-1), 1) := by decide +kernel
theorem dX9_row_18 : decode cX9_row 18 = .ok (.ireturn, 1) := by decide +kernel
theorem dX9_row_19 : decode cX9_row 19 = .ok (.iload_n 3, 1) := by decide +kernel
theorem dX9_row_20 : decode cX9_row 20 = .ok (.iconst 0, 1) := by decide +kernel
theorem dX9_row_21 : decode cX9_row 21 = .ok (.bipush 9, 2) := by decide +kernel
theorem dX9_row_23 : decode cX9_row 23 = .ok (.invokestatic 89, 3) := by decide +kernel
theorem dX9_row_26 : decode cX9_row 26 = .ok (.ifCond .ne 6, 3) := by decide +kernel
theorem dX9_row_29 : decode cX9_row 29 = .ok (.bipush (-2), 2) := by decide +kernel
theorem dX9_row_31 : decode cX9_row 31 = .ok (.ireturn, 1) := by decide +kernel
theorem dX9_row_32 : decode cX9_row 32 = .ok (.aload_n 0, 1) := by decide +kernel
theorem dX9_row_33 : decode cX9_row 33 = .ok (.iload_n 1, 1) := by decide +kernel
theorem dX9_row_34 : decode cX9_row 34 = .ok (.iconst 0, 1) := by decide +kernel
theorem dX9_row_35 : decode cX9_row 35 = .ok (.invokevirtual 93, 3) := by decide +kernel
theorem dX9_row_38 : decode cX9_row 38 = .ok (.bipush 6, 2) := by decide +kernel
theorem dX9_row_40 : decode cX9_row 40 = .ok (.if_icmp .ne 15, 3) := by decide +kernel
theorem dX9_row_43 : decode cX9_row 43 = .ok (.aload_n 0, 1) := by decide +kernel
theorem dX9_row_44 : decode cX9_row 44 = .ok (.iload_n 1, 1) := by decide +kernel
theorem dX9_row_45 : decode cX9_row 45 = .ok (.iconst 5, 1) := by decide +kernel
theorem dX9_row_46 : decode cX9_row 46 = .ok (.iload_n 2, 1) := by decide +kernel
theorem dX9_row_47 : decode cX9_row 47 = .ok (.iadd, 1) := by decide +kernel
theorem dX9_row_48 : decode cX9_row 48 = .ok (.iload_n 3, 1) := by decide +kernel
theorem dX9_row_49 : decode cX9_row 49 = .ok (.invokevirtual 97, 3) := by decide +kernel
theorem dX9_row_52 : decode cX9_row 52 = .ok (.goto 5, 3) := by decide +kernel
theorem dX9_row_55 : decode cX9_row 55 = .ok (.bipush (-3), 2) := by decide +kernel
theorem dX9_row_57 : decode cX9_row 57 = .ok (.ireturn, 1) := by decide +kernel
theorem dX9_feed_0 : decode cX9_feed 0 = .ok (.iload_n 1, 1) := by decide +kernel
theorem dX9_feed_1 : decode cX9_feed 1 = .ok (.iconst 0, 1) := by decide +kernel
theorem dX9_feed_2 : decode cX9_feed 2 = .ok (.bipush 127, 2) := by decide +kernel
theorem dX9_feed_4 : decode cX9_feed 4 = .ok (.invokestatic 89, 3) := by decide +kernel
theorem dX9_feed_7 : decode cX9_feed 7 = .ok (.ifCond .ne 6, 3) := by decide +kernel
theorem dX9_feed_10 : decode cX9_feed 10 = .ok (.bipush (-2), 2) := by decide +kernel
theorem dX9_feed_12 : decode cX9_feed 12 = .ok (.ireturn, 1) := by decide +kernel
theorem dX9_feed_13 : decode cX9_feed 13 = .ok (.aload_n 0, 1) := by decide +kernel
theorem dX9_feed_14 : decode cX9_feed 14 = .ok (.getfield 132, 3) := by decide +kernel
theorem dX9_feed_17 : decode cX9_feed 17 = .ok (.bipush 100, 2) := by decide +kernel
theorem dX9_feed_19 : decode cX9_feed 19 = .ok (.if_icmp .ne 6, 3) := by decide +kernel
theorem dX9_feed_22 : decode cX9_feed 22 = .ok (.bipush (-4), 2) := by decide +kernel
theorem dX9_feed_24 : decode cX9_feed 24 = .ok (.ireturn, 1) := by decide +kernel
theorem dX9_feed_25 : decode cX9_feed 25 = .ok (.aload_n 0, 1) := by decide +kernel
theorem dX9_feed_26 : decode cX9_feed 26 = .ok (.getfield 21, 3) := by decide +kernel
theorem dX9_feed_29 : decode cX9_feed 29 = .ok (.aload_n 0, 1) := by decide +kernel
theorem dX9_feed_30 : decode cX9_feed 30 = .ok (.getfield 132, 3) := by decide +kernel
theorem dX9_feed_33 : decode cX9_feed 33 = .ok (.iload_n 1, 1) := by decide +kernel
theorem dX9_feed_34 : decode cX9_feed 34 = .ok (.iastore, 1) := by decide +kernel
theorem dX9_feed_35 : decode cX9_feed 35 = .ok (.aload_n 0, 1) := by decide +kernel
theorem dX9_feed_36 : decode cX9_feed 36 = .ok (.dup, 1) := by decide +kernel
theorem dX9_feed_37 : decode cX9_feed 37 = .ok (.getfield 132, 3) := by decide +kernel
theorem dX9_feed_40 : decode cX9_feed 40 = .ok (.iconst 1, 1) := by decide +kernel
theorem dX9_feed_41 : decode cX9_feed 41 = .ok (.iadd, 1) := by decide +kernel
theorem dX9_feed_42 : decode cX9_feed 42 = .ok (.putfield 132, 3) := by decide +kernel
theorem dX9_feed_45 : decode cX9_feed 45 = .ok (.aload_n 0, 1) := by decide +kernel
theorem dX9_feed_46 : decode cX9_feed 46 = .ok (.getfield 132, 3) := by decide +kernel
theorem dX9_feed_49 : decode cX9_feed 49 = .ok (.ireturn, 1) := by decide +kernel
theorem dX9_isAt_0 : decode cX9_isAt 0 = .ok (.aload_n 0, 1) := by decide +kernel
theorem dX9_isAt_1 : decode cX9_isAt 1 = .ok (.getfield 136, 3) := by decide +kernel
theorem dX9_isAt_4 : decode cX9_isAt 4 = .ok (.ifCond .eq 31, 3) := by decide +kernel
theorem dX9_isAt_7 : decode cX9_isAt 7 = .ok (.aload_n 0, 1) := by decide +kernel
theorem dX9_isAt_8 : decode cX9_isAt 8 = .ok (.getfield 139, 3) := by decide +kernel
theorem dX9_isAt_11 : decode cX9_isAt 11 = .ok (.aload_n 0, 1) := by decide +kernel
theorem dX9_isAt_12 : decode cX9_isAt 12 = .ok (.getfield 142, 3) := by decide +kernel
theorem dX9_isAt_15 : decode cX9_isAt 15 = .ok (.if_icmp .ge 20, 3) := by decide +kernel
theorem dX9_isAt_18 : decode cX9_isAt 18 = .ok (.aload_n 0, 1) := by decide +kernel
theorem dX9_isAt_19 : decode cX9_isAt 19 = .ok (.getfield 30, 3) := by decide +kernel
theorem dX9_isAt_22 : decode cX9_isAt 22 = .ok (.aload_n 0, 1) := by decide +kernel
theorem dX9_isAt_23 : decode cX9_isAt 23 = .ok (.getfield 139, 3) := by decide +kernel
theorem dX9_isAt_26 : decode cX9_isAt 26 = .ok (.iaload, 1) := by decide +kernel
theorem dX9_isAt_27 : decode cX9_isAt 27 = .ok (.iload_n 1, 1) := by decide +kernel
theorem dX9_isAt_28 : decode cX9_isAt 28 = .ok (.if_icmp .ne 7, 3) := by decide +kernel
theorem dX9_isAt_31 : decode cX9_isAt 31 = .ok (.iconst 1, 1) := by decide +kernel
theorem dX9_isAt_32 : decode cX9_isAt 32 = .ok (.goto 4, 3) := by decide +kernel
theorem dX9_isAt_35 : decode cX9_isAt 35 = .ok (.iconst 0, 1) := by decide +kernel
theorem dX9_isAt_36 : decode cX9_isAt 36 = .ok (.ireturn, 1) := by decide +kernel
theorem dX9_takes_0 : decode cX9_takes 0 = .ok (.aload_n 0, 1) := by decide +kernel
theorem dX9_takes_1 : decode cX9_takes 1 = .ok (.iload_n 1, 1) := by decide +kernel
theorem dX9_takes_2 : decode cX9_takes 2 = .ok (.invokevirtual 145, 3) := by decide +kernel
theorem dX9_takes_5 : decode cX9_takes 5 = .ok (.ifCond .eq 16, 3) := by decide +kernel
theorem dX9_takes_8 : decode cX9_takes 8 = .ok (.aload_n 0, 1) := by decide +kernel
theorem dX9_takes_9 : decode cX9_takes 9 = .ok (.dup, 1) := by decide +kernel
theorem dX9_takes_10 : decode cX9_takes 10 = .ok (.getfield 139, 3) := by decide +kernel
theorem dX9_takes_13 : decode cX9_takes 13 = .ok (.iconst 1, 1) := by decide +kernel
theorem dX9_takes_14 : decode cX9_takes 14 = .ok (.iadd, 1) := by decide +kernel
theorem dX9_takes_15 : decode cX9_takes 15 = .ok (.putfield 139, 3) := by decide +kernel
theorem dX9_takes_18 : decode cX9_takes 18 = .ok (.goto 8, 3) := by decide +kernel
theorem dX9_takes_21 : decode cX9_takes 21 = .ok (.aload_n 0, 1) := by decide +kernel
theorem dX9_takes_22 : decode cX9_takes 22 = .ok (.iconst 0, 1) := by decide +kernel
theorem dX9_takes_23 : decode cX9_takes 23 = .ok (.putfield 136, 3) := by decide +kernel
theorem dX9_takes_26 : decode cX9_takes 26 = .ok (.return_, 1) := by decide +kernel
theorem dX9_isDigit_0 : decode cX9_isDigit 0 = .ok (.aload_n 0, 1) := by decide +kernel
theorem dX9_isDigit_1 : decode cX9_isDigit 1 = .ok (.getfield 136, 3) := by decide +kernel
theorem dX9_isDigit_4 : decode cX9_isDigit 4 = .ok (.ifCond .eq 46, 3) := by decide +kernel
theorem dX9_isDigit_7 : decode cX9_isDigit 7 = .ok (.aload_n 0, 1) := by decide +kernel
theorem dX9_isDigit_8 : decode cX9_isDigit 8 = .ok (.getfield 139, 3) := by decide +kernel
theorem dX9_isDigit_11 : decode cX9_isDigit 11 = .ok (.aload_n 0, 1) := by decide +kernel
theorem dX9_isDigit_12 : decode cX9_isDigit 12 = .ok (.getfield 142, 3) := by decide +kernel
theorem dX9_isDigit_15 : decode cX9_isDigit 15 = .ok (.if_icmp .ge 35, 3) := by decide +kernel
theorem dX9_isDigit_18 : decode cX9_isDigit 18 = .ok (.aload_n 0, 1) := by decide +kernel
theorem dX9_isDigit_19 : decode cX9_isDigit 19 = .ok (.getfield 30, 3) := by decide +kernel
theorem dX9_isDigit_22 : decode cX9_isDigit 22 = .ok (.aload_n 0, 1) := by decide +kernel
theorem dX9_isDigit_23 : decode cX9_isDigit 23 = .ok (.getfield 139, 3) := by decide +kernel
theorem dX9_isDigit_26 : decode cX9_isDigit 26 = .ok (.iaload, 1) := by decide +kernel
theorem dX9_isDigit_27 : decode cX9_isDigit 27 = .ok (.bipush 48, 2) := by decide +kernel
theorem dX9_isDigit_29 : decode cX9_isDigit 29 = .ok (.if_icmp .lt 21, 3) := by decide +kernel
theorem dX9_isDigit_32 : decode cX9_isDigit 32 = .ok (.aload_n 0, 1) := by decide +kernel
theorem dX9_isDigit_33 : decode cX9_isDigit 33 = .ok (.getfield 30, 3) := by decide +kernel
theorem dX9_isDigit_36 : decode cX9_isDigit 36 = .ok (.aload_n 0, 1) := by decide +kernel
theorem dX9_isDigit_37 : decode cX9_isDigit 37 = .ok (.getfield 139, 3) := by decide +kernel
theorem dX9_isDigit_40 : decode cX9_isDigit 40 = .ok (.iaload, 1) := by decide +kernel
theorem dX9_isDigit_41 : decode cX9_isDigit 41 = .ok (.bipush 57, 2) := by decide +kernel
theorem dX9_isDigit_43 : decode cX9_isDigit 43 = .ok (.if_icmp .gt 7, 3) := by decide +kernel
theorem dX9_isDigit_46 : decode cX9_isDigit 46 = .ok (.iconst 1, 1) := by decide +kernel
theorem dX9_isDigit_47 : decode cX9_isDigit 47 = .ok (.goto 4, 3) := by decide +kernel
theorem dX9_isDigit_50 : decode cX9_isDigit 50 = .ok (.iconst 0, 1) := by decide +kernel
theorem dX9_isDigit_51 : decode cX9_isDigit 51 = .ok (.ireturn, 1) := by decide +kernel
theorem dX9_number_0 : decode cX9_number 0 = .ok (.aload_n 0, 1) := by decide +kernel
theorem dX9_number_1 : decode cX9_number 1 = .ok (.invokevirtual 148, 3) := by decide +kernel
theorem dX9_number_4 : decode cX9_number 4 = .ok (.ifCond .ne 10, 3) := by decide +kernel
theorem dX9_number_7 : decode cX9_number 7 = .ok (.aload_n 0, 1) := by decide +kernel
theorem dX9_number_8 : decode cX9_number 8 = .ok (.iconst 0, 1) := by decide +kernel
theorem dX9_number_9 : decode cX9_number 9 = .ok (.putfield 136, 3) := by decide +kernel
theorem dX9_number_12 : decode cX9_number 12 = .ok (.iconst 0, 1) := by decide +kernel
theorem dX9_number_13 : decode cX9_number 13 = .ok (.ireturn, 1) := by decide +kernel
theorem dX9_number_14 : decode cX9_number 14 = .ok (.aload_n 0, 1) := by decide +kernel
theorem dX9_number_15 : decode cX9_number 15 = .ok (.getfield 30, 3) := by decide +kernel
theorem dX9_number_18 : decode cX9_number 18 = .ok (.aload_n 0, 1) := by decide +kernel
theorem dX9_number_19 : decode cX9_number 19 = .ok (.getfield 139, 3) := by decide +kernel
theorem dX9_number_22 : decode cX9_number 22 = .ok (.iaload, 1) := by decide +kernel
theorem dX9_number_23 : decode cX9_number 23 = .ok (.bipush 48, 2) := by decide +kernel
theorem dX9_number_25 : decode cX9_number 25 = .ok (.isub, 1) := by decide +kernel
theorem dX9_number_26 : decode cX9_number 26 = .ok (.istore_n 1, 1) := by decide +kernel
theorem dX9_number_27 : decode cX9_number 27 = .ok (.aload_n 0, 1) := by decide +kernel
theorem dX9_number_28 : decode cX9_number 28 = .ok (.dup, 1) := by decide +kernel
theorem dX9_number_29 : decode cX9_number 29 = .ok (.getfield 139, 3) := by decide +kernel
theorem dX9_number_32 : decode cX9_number 32 = .ok (.iconst 1, 1) := by decide +kernel
theorem dX9_number_33 : decode cX9_number 33 = .ok (.iadd, 1) := by decide +kernel
theorem dX9_number_34 : decode cX9_number 34 = .ok (.putfield 139, 3) := by decide +kernel
theorem dX9_number_37 : decode cX9_number 37 = .ok (.aload_n 0, 1) := by decide +kernel
theorem dX9_number_38 : decode cX9_number 38 = .ok (.invokevirtual 148, 3) := by decide +kernel
theorem dX9_number_41 : decode cX9_number 41 = .ok (.ifCond .eq 31, 3) := by decide +kernel
theorem dX9_number_44 : decode cX9_number 44 = .ok (.bipush 10, 2) := by decide +kernel
theorem dX9_number_46 : decode cX9_number 46 = .ok (.iload_n 1, 1) := by decide +kernel
theorem dX9_number_47 : decode cX9_number 47 = .ok (.imul, 1) := by decide +kernel
theorem dX9_number_48 : decode cX9_number 48 = .ok (.aload_n 0, 1) := by decide +kernel
theorem dX9_number_49 : decode cX9_number 49 = .ok (.getfield 30, 3) := by decide +kernel
theorem dX9_number_52 : decode cX9_number 52 = .ok (.aload_n 0, 1) := by decide +kernel
theorem dX9_number_53 : decode cX9_number 53 = .ok (.getfield 139, 3) := by decide +kernel
theorem dX9_number_56 : decode cX9_number 56 = .ok (.iaload, 1) := by decide +kernel
theorem dX9_number_57 : decode cX9_number 57 = .ok (.iadd, 1) := by decide +kernel
theorem dX9_number_58 : decode cX9_number 58 = .ok (.bipush 48, 2) := by decide +kernel
theorem dX9_number_60 : decode cX9_number 60 = .ok (.isub, 1) := by decide +kernel
theorem dX9_number_61 : decode cX9_number 61 = .ok (.istore_n 1, 1) := by decide +kernel
theorem dX9_number_62 : decode cX9_number 62 = .ok (.aload_n 0, 1) := by decide +kernel
theorem dX9_number_63 : decode cX9_number 63 = .ok (.dup, 1) := by decide +kernel
theorem dX9_number_64 : decode cX9_number 64 = .ok (.getfield 139, 3) := by decide +kernel
theorem dX9_number_67 : decode cX9_number 67 = .ok (.iconst 1, 1) := by decide +kernel
theorem dX9_number_68 : decode cX9_number 68 = .ok (.iadd, 1) := by decide +kernel
theorem dX9_number_69 : decode cX9_number 69 = .ok (.putfield 139, 3) := by decide +kernel
theorem dX9_number_72 : decode cX9_number 72 = .ok (.iload_n 1, 1) := by decide +kernel
theorem dX9_number_73 : decode cX9_number 73 = .ok (.ireturn, 1) := by decide +kernel
theorem dX9_test_0 : decode cX9_test 0 = .ok (.iconst (-1), 1) := by decide +kernel
theorem dX9_test_1 : decode cX9_test 1 = .ok (.istore_n 1, 1) := by decide +kernel
theorem dX9_test_2 : decode cX9_test 2 = .ok (.iconst 0, 1) := by decide +kernel
theorem dX9_test_3 : decode cX9_test 3 = .ok (.istore_n 2, 1) := by decide +kernel
theorem dX9_test_4 : decode cX9_test 4 = .ok (.iload_n 2, 1) := by decide +kernel
theorem dX9_test_5 : decode cX9_test 5 = .ok (.bipush 6, 2) := by decide +kernel
theorem dX9_test_7 : decode cX9_test 7 = .ok (.if_icmp .ge 28, 3) := by decide +kernel
theorem dX9_test_10 : decode cX9_test 10 = .ok (.aload_n 0, 1) := by decide +kernel
theorem dX9_test_11 : decode cX9_test 11 = .ok (.aload_n 0, 1) := by decide +kernel
theorem dX9_test_12 : decode cX9_test 12 = .ok (.getfield 36, 3) := by decide +kernel
theorem dX9_test_15 : decode cX9_test 15 = .ok (.iload_n 2, 1) := by decide +kernel
theorem dX9_test_16 : decode cX9_test 16 = .ok (.caload, 1) := by decide +kernel
theorem dX9_test_17 : decode cX9_test 17 = .ok (.invokevirtual 145, 3) := by decide +kernel
theorem dX9_test_20 : decode cX9_test 20 = .ok (.ifCond .eq 7, 3) := by decide +kernel
theorem dX9_test_23 : decode cX9_test 23 = .ok (.iload_n 2, 1) := by decide +kernel
theorem dX9_test_24 : decode cX9_test 24 = .ok (.goto 4, 3) := by decide +kernel
theorem dX9_test_27 : decode cX9_test 27 = .ok (.iload_n 1, 1) := by decide +kernel
theorem dX9_test_28 : decode cX9_test 28 = .ok (.istore_n 1, 1) := by decide +kernel
theorem dX9_test_29 : decode cX9_test 29 = .ok (.iinc 2 1, 3) := by decide +kernel
theorem dX9_test_32 : decode cX9_test 32 = .ok (.goto (-28), 3) := by decide +kernel
theorem dX9_test_35 : decode cX9_test 35 = .ok (.iload_n 1, 1) := by decide +kernel
theorem dX9_test_36 : decode cX9_test 36 = .ok (.iconst (-1), 1) := by decide +kernel
theorem dX9_test_37 : decode cX9_test 37 = .ok (.if_icmp .ne 10, 3) := by decide +kernel
theorem dX9_test_40 : decode cX9_test 40 = .ok (.aload_n 0, 1) := by decide +kernel
theorem dX9_test_41 : decode cX9_test 41 = .ok (.iconst 0, 1) := by decide +kernel
theorem dX9_test_42 : decode cX9_test 42 = .ok (.putfield 136, 3) := by decide +kernel
theorem dX9_test_45 : decode cX9_test 45 = .ok (.iconst 0, 1) := by decide +kernel
theorem dX9_test_46 : decode cX9_test 46 = .ok (.ireturn, 1) := by decide +kernel
theorem dX9_test_47 : decode cX9_test 47 = .ok (.aload_n 0, 1) := by decide +kernel
theorem dX9_test_48 : decode cX9_test 48 = .ok (.dup, 1) := by decide +kernel
theorem dX9_test_49 : decode cX9_test 49 = .ok (.getfield 139, 3) := by decide +kernel
theorem dX9_test_52 : decode cX9_test 52 = .ok (.iconst 1, 1) := by decide +kernel
theorem dX9_test_53 : decode cX9_test 53 = .ok (.iadd, 1) := by decide +kernel
theorem dX9_test_54 : decode cX9_test 54 = .ok (.putfield 139, 3) := by decide +kernel
theorem dX9_test_57 : decode cX9_test 57 = .ok (.aload_n 0, 1) := by decide +kernel
theorem dX9_test_58 : decode cX9_test 58 = .ok (.bipush 60, 2) := by decide +kernel
theorem dX9_test_60 : decode cX9_test 60 = .ok (.invokevirtual 145, 3) := by decide +kernel
theorem dX9_test_63 : decode cX9_test 63 = .ok (.ifCond .eq 7, 3) := by decide +kernel
theorem dX9_test_66 : decode cX9_test 66 = .ok (.iconst (-1), 1) := by decide +kernel
theorem dX9_test_67 : decode cX9_test 67 = .ok (.goto 17, 3) := by decide +kernel
theorem dX9_test_70 : decode cX9_test 70 = .ok (.aload_n 0, 1) := by decide +kernel
theorem dX9_test_71 : decode cX9_test 71 = .ok (.bipush 62, 2) := by decide +kernel
theorem dX9_test_73 : decode cX9_test 73 = .ok (.invokevirtual 145, 3) := by decide +kernel
theorem dX9_test_76 : decode cX9_test 76 = .ok (.ifCond .eq 7, 3) := by decide +kernel
theorem dX9_test_79 : decode cX9_test 79 = .ok (.iconst 1, 1) := by decide +kernel
theorem dX9_test_80 : decode cX9_test 80 = .ok (.goto 4, 3) := by decide +kernel
theorem dX9_test_83 : decode cX9_test 83 = .ok (.iconst 0, 1) := by decide +kernel
theorem dX9_test_84 : decode cX9_test 84 = .ok (.istore_n 2, 1) := by decide +kernel
theorem dX9_test_85 : decode cX9_test 85 = .ok (.aload_n 0, 1) := by decide +kernel
theorem dX9_test_86 : decode cX9_test 86 = .ok (.iload_n 2, 1) := by decide +kernel
theorem dX9_test_87 : decode cX9_test 87 = .ok (.ifCond .ge 8, 3) := by decide +kernel
theorem dX9_test_90 : decode cX9_test 90 = .ok (.bipush 60, 2) := by decide +kernel
theorem dX9_test_92 : decode cX9_test 92 = .ok (.goto 14, 3) := by decide +kernel
theorem dX9_test_95 : decode cX9_test 95 = .ok (.iload_n 2, 1) := by decide +kernel
theorem dX9_test_96 : decode cX9_test 96 = .ok (.ifCond .le 8, 3) := by decide +kernel
theorem dX9_test_99 : decode cX9_test 99 = .ok (.bipush 62, 2) := by decide +kernel
theorem dX9_test_101 : decode cX9_test 101 = .ok (.goto 5, 3) := by decide +kernel
theorem dX9_test_104 : decode cX9_test 104 = .ok (.bipush 61, 2) := by decide +kernel
theorem dX9_test_106 : decode cX9_test 106 = .ok (.invokevirtual 152, 3) := by decide +kernel
end
section
theorem dX9_test_109 : decode cX9_test 109 = .ok (.aload_n 0, 1) := by decide +kernel
theorem dX9_test_110 : decode cX9_test 110 = .ok (.invokevirtual 155, 3) := by decide +kernel
theorem dX9_test_113 : decode cX9_test 113 = .ok (.istore_n 3, 1) := by decide +kernel
theorem dX9_test_114 : decode cX9_test 114 = .ok (.iload_n 2, 1) := by decide +kernel
theorem dX9_test_115 : decode cX9_test 115 = .ok (.ifCond .ge 21, 3) := by decide +kernel
theorem dX9_test_118 : decode cX9_test 118 = .ok (.aload_n 0, 1) := by decide +kernel
theorem dX9_test_119 : decode cX9_test 119 = .ok (.getfield 33, 3) := by decide +kernel
theorem dX9_test_122 : decode cX9_test 122 = .ok (.iload_n 1, 1) := by decide +kernel
theorem dX9_test_123 : decode cX9_test 123 = .ok (.iaload, 1) := by decide +kernel
theorem dX9_test_124 : decode cX9_test 124 = .ok (.iload_n 3, 1) := by decide +kernel
theorem dX9_test_125 : decode cX9_test 125 = .ok (.if_icmp .ge 7, 3) := by decide +kernel
theorem dX9_test_128 : decode cX9_test 128 = .ok (.iconst 1, 1) := by decide +kernel
theorem dX9_test_129 : decode cX9_test 129 = .ok (.goto 44, 3) := by decide +kernel
theorem dX9_test_132 : decode cX9_test 132 = .ok (.iconst 0, 1) := by decide +kernel
theorem dX9_test_133 : decode cX9_test 133 = .ok (.goto 40, 3) := by decide +kernel
theorem dX9_test_136 : decode cX9_test 136 = .ok (.iload_n 2, 1) := by decide +kernel
theorem dX9_test_137 : decode cX9_test 137 = .ok (.ifCond .le 21, 3) := by decide +kernel
theorem dX9_test_140 : decode cX9_test 140 = .ok (.aload_n 0, 1) := by decide +kernel
theorem dX9_test_141 : decode cX9_test 141 = .ok (.getfield 33, 3) := by decide +kernel
theorem dX9_test_144 : decode cX9_test 144 = .ok (.iload_n 1, 1) := by decide +kernel
theorem dX9_test_145 : decode cX9_test 145 = .ok (.iaload, 1) := by decide +kernel
theorem dX9_test_146 : decode cX9_test 146 = .ok (.iload_n 3, 1) := by decide +kernel
theorem dX9_test_147 : decode cX9_test 147 = .ok (.if_icmp .le 7, 3) := by decide +kernel
theorem dX9_test_150 : decode cX9_test 150 = .ok (.iconst 1, 1) := by decide +kernel
theorem dX9_test_151 : decode cX9_test 151 = .ok (.goto 22, 3) := by decide +kernel
theorem dX9_test_154 : decode cX9_test 154 = .ok (.iconst 0, 1) := by decide +kernel
theorem dX9_test_155 : decode cX9_test 155 = .ok (.goto 18, 3) := by decide +kernel
theorem dX9_test_158 : decode cX9_test 158 = .ok (.aload_n 0, 1) := by decide +kernel
theorem dX9_test_159 : decode cX9_test 159 = .ok (.getfield 33, 3) := by decide +kernel
theorem dX9_test_162 : decode cX9_test 162 = .ok (.iload_n 1, 1) := by decide +kernel
theorem dX9_test_163 : decode cX9_test 163 = .ok (.iaload, 1) := by decide +kernel
theorem dX9_test_164 : decode cX9_test 164 = .ok (.iload_n 3, 1) := by decide +kernel
theorem dX9_test_165 : decode cX9_test 165 = .ok (.if_icmp .ne 7, 3) := by decide +kernel
theorem dX9_test_168 : decode cX9_test 168 = .ok (.iconst 1, 1) := by decide +kernel
theorem dX9_test_169 : decode cX9_test 169 = .ok (.goto 4, 3) := by decide +kernel
theorem dX9_test_172 : decode cX9_test 172 = .ok (.iconst 0, 1) := by decide +kernel
theorem dX9_test_173 : decode cX9_test 173 = .ok (.ireturn, 1) := by decide +kernel
theorem dX9_factor_0 : decode cX9_factor 0 = .ok (.aload_n 0, 1) := by decide +kernel
theorem dX9_factor_1 : decode cX9_factor 1 = .ok (.getfield 159, 3) := by decide +kernel
theorem dX9_factor_4 : decode cX9_factor 4 = .ok (.iconst 4, 1) := by decide +kernel
theorem dX9_factor_5 : decode cX9_factor 5 = .ok (.if_icmp .ge 58, 3) := by decide +kernel
theorem dX9_factor_8 : decode cX9_factor 8 = .ok (.aload_n 0, 1) := by decide +kernel
theorem dX9_factor_9 : decode cX9_factor 9 = .ok (.bipush 33, 2) := by decide +kernel
theorem dX9_factor_11 : decode cX9_factor 11 = .ok (.invokevirtual 145, 3) := by decide +kernel
theorem dX9_factor_14 : decode cX9_factor 14 = .ok (.ifCond .eq 49, 3) := by decide +kernel
theorem dX9_factor_17 : decode cX9_factor 17 = .ok (.aload_n 0, 1) := by decide +kernel
theorem dX9_factor_18 : decode cX9_factor 18 = .ok (.dup, 1) := by decide +kernel
theorem dX9_factor_19 : decode cX9_factor 19 = .ok (.getfield 139, 3) := by decide +kernel
theorem dX9_factor_22 : decode cX9_factor 22 = .ok (.iconst 1, 1) := by decide +kernel
theorem dX9_factor_23 : decode cX9_factor 23 = .ok (.iadd, 1) := by decide +kernel
theorem dX9_factor_24 : decode cX9_factor 24 = .ok (.putfield 139, 3) := by decide +kernel
theorem dX9_factor_27 : decode cX9_factor 27 = .ok (.aload_n 0, 1) := by decide +kernel
theorem dX9_factor_28 : decode cX9_factor 28 = .ok (.dup, 1) := by decide +kernel
theorem dX9_factor_29 : decode cX9_factor 29 = .ok (.getfield 159, 3) := by decide +kernel
theorem dX9_factor_32 : decode cX9_factor 32 = .ok (.iconst 1, 1) := by decide +kernel
theorem dX9_factor_33 : decode cX9_factor 33 = .ok (.iadd, 1) := by decide +kernel
theorem dX9_factor_34 : decode cX9_factor 34 = .ok (.putfield 159, 3) := by decide +kernel
theorem dX9_factor_37 : decode cX9_factor 37 = .ok (.aload_n 0, 1) := by decide +kernel
theorem dX9_factor_38 : decode cX9_factor 38 = .ok (.invokevirtual 162, 3) := by decide +kernel
theorem dX9_factor_41 : decode cX9_factor 41 = .ok (.ifCond .ne 7, 3) := by decide +kernel
theorem dX9_factor_44 : decode cX9_factor 44 = .ok (.iconst 1, 1) := by decide +kernel
theorem dX9_factor_45 : decode cX9_factor 45 = .ok (.goto 4, 3) := by decide +kernel
theorem dX9_factor_48 : decode cX9_factor 48 = .ok (.iconst 0, 1) := by decide +kernel
theorem dX9_factor_49 : decode cX9_factor 49 = .ok (.istore_n 1, 1) := by decide +kernel
theorem dX9_factor_50 : decode cX9_factor 50 = .ok (.aload_n 0, 1) := by decide +kernel
theorem dX9_factor_51 : decode cX9_factor 51 = .ok (.dup, 1) := by decide +kernel
theorem dX9_factor_52 : decode cX9_factor 52 = .ok (.getfield 159, 3) := by decide +kernel
theorem dX9_factor_55 : decode cX9_factor 55 = .ok (.iconst 1, 1) := by decide +kernel
theorem dX9_factor_56 : decode cX9_factor 56 = .ok (.isub, 1) := by decide +kernel
theorem dX9_factor_57 : decode cX9_factor 57 = .ok (.putfield 159, 3) := by decide +kernel
theorem dX9_factor_60 : decode cX9_factor 60 = .ok (.goto 69, 3) := by decide +kernel
theorem dX9_factor_63 : decode cX9_factor 63 = .ok (.aload_n 0, 1) := by decide +kernel
theorem dX9_factor_64 : decode cX9_factor 64 = .ok (.getfield 159, 3) := by decide +kernel
theorem dX9_factor_67 : decode cX9_factor 67 = .ok (.iconst 4, 1) := by decide +kernel
theorem dX9_factor_68 : decode cX9_factor 68 = .ok (.if_icmp .ge 56, 3) := by decide +kernel
theorem dX9_factor_71 : decode cX9_factor 71 = .ok (.aload_n 0, 1) := by decide +kernel
theorem dX9_factor_72 : decode cX9_factor 72 = .ok (.bipush 40, 2) := by decide +kernel
theorem dX9_factor_74 : decode cX9_factor 74 = .ok (.invokevirtual 145, 3) := by decide +kernel
theorem dX9_factor_77 : decode cX9_factor 77 = .ok (.ifCond .eq 47, 3) := by decide +kernel
theorem dX9_factor_80 : decode cX9_factor 80 = .ok (.aload_n 0, 1) := by decide +kernel
theorem dX9_factor_81 : decode cX9_factor 81 = .ok (.dup, 1) := by decide +kernel
theorem dX9_factor_82 : decode cX9_factor 82 = .ok (.getfield 139, 3) := by decide +kernel
theorem dX9_factor_85 : decode cX9_factor 85 = .ok (.iconst 1, 1) := by decide +kernel
theorem dX9_factor_86 : decode cX9_factor 86 = .ok (.iadd, 1) := by decide +kernel
theorem dX9_factor_87 : decode cX9_factor 87 = .ok (.putfield 139, 3) := by decide +kernel
theorem dX9_factor_90 : decode cX9_factor 90 = .ok (.aload_n 0, 1) := by decide +kernel
theorem dX9_factor_91 : decode cX9_factor 91 = .ok (.dup, 1) := by decide +kernel
theorem dX9_factor_92 : decode cX9_factor 92 = .ok (.getfield 159, 3) := by decide +kernel
theorem dX9_factor_95 : decode cX9_factor 95 = .ok (.iconst 1, 1) := by decide +kernel
theorem dX9_factor_96 : decode cX9_factor 96 = .ok (.iadd, 1) := by decide +kernel
theorem dX9_factor_97 : decode cX9_factor 97 = .ok (.putfield 159, 3) := by decide +kernel
theorem dX9_factor_100 : decode cX9_factor 100 = .ok (.aload_n 0, 1) := by decide +kernel
theorem dX9_factor_101 : decode cX9_factor 101 = .ok (.invokevirtual 165, 3) := by decide +kernel
theorem dX9_factor_104 : decode cX9_factor 104 = .ok (.istore_n 1, 1) := by decide +kernel
theorem dX9_factor_105 : decode cX9_factor 105 = .ok (.aload_n 0, 1) := by decide +kernel
theorem dX9_factor_106 : decode cX9_factor 106 = .ok (.dup, 1) := by decide +kernel
theorem dX9_factor_107 : decode cX9_factor 107 = .ok (.getfield 159, 3) := by decide +kernel
theorem dX9_factor_110 : decode cX9_factor 110 = .ok (.iconst 1, 1) := by decide +kernel
theorem dX9_factor_111 : decode cX9_factor 111 = .ok (.isub, 1) := by decide +kernel
theorem dX9_factor_112 : decode cX9_factor 112 = .ok (.putfield 159, 3) := by decide +kernel
theorem dX9_factor_115 : decode cX9_factor 115 = .ok (.aload_n 0, 1) := by decide +kernel
theorem dX9_factor_116 : decode cX9_factor 116 = .ok (.bipush 41, 2) := by decide +kernel
theorem dX9_factor_118 : decode cX9_factor 118 = .ok (.invokevirtual 152, 3) := by decide +kernel
theorem dX9_factor_121 : decode cX9_factor 121 = .ok (.goto 8, 3) := by decide +kernel
theorem dX9_factor_124 : decode cX9_factor 124 = .ok (.aload_n 0, 1) := by decide +kernel
theorem dX9_factor_125 : decode cX9_factor 125 = .ok (.invokevirtual 168, 3) := by decide +kernel
theorem dX9_factor_128 : decode cX9_factor 128 = .ok (.istore_n 1, 1) := by decide +kernel
theorem dX9_factor_129 : decode cX9_factor 129 = .ok (.iload_n 1, 1) := by decide +kernel
theorem dX9_factor_130 : decode cX9_factor 130 = .ok (.ireturn, 1) := by decide +kernel
theorem dX9_both_0 : decode cX9_both 0 = .ok (.aload_n 0, 1) := by decide +kernel
theorem dX9_both_1 : decode cX9_both 1 = .ok (.invokevirtual 162, 3) := by decide +kernel
theorem dX9_both_4 : decode cX9_both 4 = .ok (.istore_n 1, 1) := by decide +kernel
theorem dX9_both_5 : decode cX9_both 5 = .ok (.aload_n 0, 1) := by decide +kernel
theorem dX9_both_6 : decode cX9_both 6 = .ok (.bipush 38, 2) := by decide +kernel
theorem dX9_both_8 : decode cX9_both 8 = .ok (.invokevirtual 145, 3) := by decide +kernel
theorem dX9_both_11 : decode cX9_both 11 = .ok (.ifCond .eq 35, 3) := by decide +kernel
theorem dX9_both_14 : decode cX9_both 14 = .ok (.aload_n 0, 1) := by decide +kernel
theorem dX9_both_15 : decode cX9_both 15 = .ok (.dup, 1) := by decide +kernel
theorem dX9_both_16 : decode cX9_both 16 = .ok (.getfield 139, 3) := by decide +kernel
theorem dX9_both_19 : decode cX9_both 19 = .ok (.iconst 1, 1) := by decide +kernel
theorem dX9_both_20 : decode cX9_both 20 = .ok (.iadd, 1) := by decide +kernel
theorem dX9_both_21 : decode cX9_both 21 = .ok (.putfield 139, 3) := by decide +kernel
theorem dX9_both_24 : decode cX9_both 24 = .ok (.aload_n 0, 1) := by decide +kernel
theorem dX9_both_25 : decode cX9_both 25 = .ok (.invokevirtual 162, 3) := by decide +kernel
theorem dX9_both_28 : decode cX9_both 28 = .ok (.istore_n 2, 1) := by decide +kernel
theorem dX9_both_29 : decode cX9_both 29 = .ok (.iload_n 1, 1) := by decide +kernel
theorem dX9_both_30 : decode cX9_both 30 = .ok (.ifCond .eq 11, 3) := by decide +kernel
theorem dX9_both_33 : decode cX9_both 33 = .ok (.iload_n 2, 1) := by decide +kernel
theorem dX9_both_34 : decode cX9_both 34 = .ok (.ifCond .eq 7, 3) := by decide +kernel
theorem dX9_both_37 : decode cX9_both 37 = .ok (.iconst 1, 1) := by decide +kernel
theorem dX9_both_38 : decode cX9_both 38 = .ok (.goto 4, 3) := by decide +kernel
theorem dX9_both_41 : decode cX9_both 41 = .ok (.iconst 0, 1) := by decide +kernel
theorem dX9_both_42 : decode cX9_both 42 = .ok (.istore_n 1, 1) := by decide +kernel
theorem dX9_both_43 : decode cX9_both 43 = .ok (.goto (-38), 3) := by decide +kernel
theorem dX9_both_46 : decode cX9_both 46 = .ok (.iload_n 1, 1) := by decide +kernel
theorem dX9_both_47 : decode cX9_both 47 = .ok (.ireturn, 1) := by decide +kernel
theorem dX9_any_0 : decode cX9_any 0 = .ok (.aload_n 0, 1) := by decide +kernel
theorem dX9_any_1 : decode cX9_any 1 = .ok (.invokevirtual 171, 3) := by decide +kernel
theorem dX9_any_4 : decode cX9_any 4 = .ok (.istore_n 1, 1) := by decide +kernel
theorem dX9_any_5 : decode cX9_any 5 = .ok (.aload_n 0, 1) := by decide +kernel
theorem dX9_any_6 : decode cX9_any 6 = .ok (.bipush 124, 2) := by decide +kernel
theorem dX9_any_8 : decode cX9_any 8 = .ok (.invokevirtual 145, 3) := by decide +kernel
theorem dX9_any_11 : decode cX9_any 11 = .ok (.ifCond .eq 35, 3) := by decide +kernel
theorem dX9_any_14 : decode cX9_any 14 = .ok (.aload_n 0, 1) := by decide +kernel
theorem dX9_any_15 : decode cX9_any 15 = .ok (.dup, 1) := by decide +kernel
theorem dX9_any_16 : decode cX9_any 16 = .ok (.getfield 139, 3) := by decide +kernel
theorem dX9_any_19 : decode cX9_any 19 = .ok (.iconst 1, 1) := by decide +kernel
theorem dX9_any_20 : decode cX9_any 20 = .ok (.iadd, 1) := by decide +kernel
theorem dX9_any_21 : decode cX9_any 21 = .ok (.putfield 139, 3) := by decide +kernel
theorem dX9_any_24 : decode cX9_any 24 = .ok (.aload_n 0, 1) := by decide +kernel
theorem dX9_any_25 : decode cX9_any 25 = .ok (.invokevirtual 171, 3) := by decide +kernel
theorem dX9_any_28 : decode cX9_any 28 = .ok (.istore_n 2, 1) := by decide +kernel
theorem dX9_any_29 : decode cX9_any 29 = .ok (.iload_n 1, 1) := by decide +kernel
theorem dX9_any_30 : decode cX9_any 30 = .ok (.ifCond .ne 7, 3) := by decide +kernel
theorem dX9_any_33 : decode cX9_any 33 = .ok (.iload_n 2, 1) := by decide +kernel
theorem dX9_any_34 : decode cX9_any 34 = .ok (.ifCond .eq 7, 3) := by decide +kernel
theorem dX9_any_37 : decode cX9_any 37 = .ok (.iconst 1, 1) := by decide +kernel
theorem dX9_any_38 : decode cX9_any 38 = .ok (.goto 4, 3) := by decide +kernel
theorem dX9_any_41 : decode cX9_any 41 = .ok (.iconst 0, 1) := by decide +kernel
theorem dX9_any_42 : decode cX9_any 42 = .ok (.istore_n 1, 1) := by decide +kernel
theorem dX9_any_43 : decode cX9_any 43 = .ok (.goto (-38), 3) := by decide +kernel
theorem dX9_any_46 : decode cX9_any 46 = .ok (.iload_n 1, 1) := by decide +kernel
theorem dX9_any_47 : decode cX9_any 47 = .ok (.ireturn, 1) := by decide +kernel
theorem dX9_clause_0 : decode cX9_clause 0 = .ok (.iconst (-1), 1) := by decide +kernel
theorem dX9_clause_1 : decode cX9_clause 1 = .ok (.istore_n 1, 1) := by decide +kernel
theorem dX9_clause_2 : decode cX9_clause 2 = .ok (.iconst 0, 1) := by decide +kernel
theorem dX9_clause_3 : decode cX9_clause 3 = .ok (.istore_n 2, 1) := by decide +kernel
theorem dX9_clause_4 : decode cX9_clause 4 = .ok (.iload_n 2, 1) := by decide +kernel
theorem dX9_clause_5 : decode cX9_clause 5 = .ok (.iconst 3, 1) := by decide +kernel
theorem dX9_clause_6 : decode cX9_clause 6 = .ok (.if_icmp .ge 28, 3) := by decide +kernel
theorem dX9_clause_9 : decode cX9_clause 9 = .ok (.aload_n 0, 1) := by decide +kernel
theorem dX9_clause_10 : decode cX9_clause 10 = .ok (.aload_n 0, 1) := by decide +kernel
theorem dX9_clause_11 : decode cX9_clause 11 = .ok (.getfield 40, 3) := by decide +kernel
theorem dX9_clause_14 : decode cX9_clause 14 = .ok (.iload_n 2, 1) := by decide +kernel
theorem dX9_clause_15 : decode cX9_clause 15 = .ok (.caload, 1) := by decide +kernel
theorem dX9_clause_16 : decode cX9_clause 16 = .ok (.invokevirtual 145, 3) := by decide +kernel
theorem dX9_clause_19 : decode cX9_clause 19 = .ok (.ifCond .eq 7, 3) := by decide +kernel
theorem dX9_clause_22 : decode cX9_clause 22 = .ok (.iload_n 2, 1) := by decide +kernel
theorem dX9_clause_23 : decode cX9_clause 23 = .ok (.goto 4, 3) := by decide +kernel
theorem dX9_clause_26 : decode cX9_clause 26 = .ok (.iload_n 1, 1) := by decide +kernel
theorem dX9_clause_27 : decode cX9_clause 27 = .ok (.istore_n 1, 1) := by decide +kernel
theorem dX9_clause_28 : decode cX9_clause 28 = .ok (.iinc 2 1, 3) := by decide +kernel
theorem dX9_clause_31 : decode cX9_clause 31 = .ok (.goto (-27), 3) := by decide +kernel
theorem dX9_clause_34 : decode cX9_clause 34 = .ok (.iload_n 1, 1) := by decide +kernel
theorem dX9_clause_35 : decode cX9_clause 35 = .ok (.iconst (-1), 1) := by decide +kernel
theorem dX9_clause_36 : decode cX9_clause 36 = .ok (.if_icmp .ne 9, 3) := by decide +kernel
theorem dX9_clause_39 : decode cX9_clause 39 = .ok (.aload_n 0, 1) := by decide +kernel
theorem dX9_clause_40 : decode cX9_clause 40 = .ok (.iconst 0, 1) := by decide +kernel
theorem dX9_clause_41 : decode cX9_clause 41 = .ok (.putfield 136, 3) := by decide +kernel
theorem dX9_clause_44 : decode cX9_clause 44 = .ok (.return_, 1) := by decide +kernel
theorem dX9_clause_45 : decode cX9_clause 45 = .ok (.iconst 0, 1) := by decide +kernel
theorem dX9_clause_46 : decode cX9_clause 46 = .ok (.istore_n 2, 1) := by decide +kernel
theorem dX9_clause_47 : decode cX9_clause 47 = .ok (.iload_n 2, 1) := by decide +kernel
theorem dX9_clause_48 : decode cX9_clause 48 = .ok (.iconst 5, 1) := by decide +kernel
theorem dX9_clause_49 : decode cX9_clause 49 = .ok (.if_icmp .ge 36, 3) := by decide +kernel
theorem dX9_clause_52 : decode cX9_clause 52 = .ok (.aload_n 0, 1) := by decide +kernel
theorem dX9_clause_53 : decode cX9_clause 53 = .ok (.getfield 43, 3) := by decide +kernel
theorem dX9_clause_56 : decode cX9_clause 56 = .ok (.iconst 5, 1) := by decide +kernel
theorem dX9_clause_57 : decode cX9_clause 57 = .ok (.iload_n 1, 1) := by decide +kernel
theorem dX9_clause_58 : decode cX9_clause 58 = .ok (.imul, 1) := by decide +kernel
theorem dX9_clause_59 : decode cX9_clause 59 = .ok (.iload_n 2, 1) := by decide +kernel
theorem dX9_clause_60 : decode cX9_clause 60 = .ok (.iadd, 1) := by decide +kernel
theorem dX9_clause_61 : decode cX9_clause 61 = .ok (.caload, 1) := by decide +kernel
theorem dX9_clause_62 : decode cX9_clause 62 = .ok (.ifCond .eq 23, 3) := by decide +kernel
theorem dX9_clause_65 : decode cX9_clause 65 = .ok (.aload_n 0, 1) := by decide +kernel
theorem dX9_clause_66 : decode cX9_clause 66 = .ok (.aload_n 0, 1) := by decide +kernel
theorem dX9_clause_67 : decode cX9_clause 67 = .ok (.getfield 43, 3) := by decide +kernel
theorem dX9_clause_70 : decode cX9_clause 70 = .ok (.iconst 5, 1) := by decide +kernel
theorem dX9_clause_71 : decode cX9_clause 71 = .ok (.iload_n 1, 1) := by decide +kernel
theorem dX9_clause_72 : decode cX9_clause 72 = .ok (.imul, 1) := by decide +kernel
theorem dX9_clause_73 : decode cX9_clause 73 = .ok (.iload_n 2, 1) := by decide +kernel
theorem dX9_clause_74 : decode cX9_clause 74 = .ok (.iadd, 1) := by decide +kernel
theorem dX9_clause_75 : decode cX9_clause 75 = .ok (.caload, 1) := by decide +kernel
theorem dX9_clause_76 : decode cX9_clause 76 = .ok (.invokevirtual 152, 3) := by decide +kernel
theorem dX9_clause_79 : decode cX9_clause 79 = .ok (.iinc 2 1, 3) := by decide +kernel
theorem dX9_clause_82 : decode cX9_clause 82 = .ok (.goto (-35), 3) := by decide +kernel
theorem dX9_clause_85 : decode cX9_clause 85 = .ok (.aload_n 0, 1) := by decide +kernel
theorem dX9_clause_86 : decode cX9_clause 86 = .ok (.bipush 32, 2) := by decide +kernel
theorem dX9_clause_88 : decode cX9_clause 88 = .ok (.invokevirtual 152, 3) := by decide +kernel
theorem dX9_clause_91 : decode cX9_clause 91 = .ok (.aload_n 0, 1) := by decide +kernel
theorem dX9_clause_92 : decode cX9_clause 92 = .ok (.invokevirtual 155, 3) := by decide +kernel
theorem dX9_clause_95 : decode cX9_clause 95 = .ok (.istore_n 2, 1) := by decide +kernel
theorem dX9_clause_96 : decode cX9_clause 96 = .ok (.iload_n 1, 1) := by decide +kernel
theorem dX9_clause_97 : decode cX9_clause 97 = .ok (.iconst 2, 1) := by decide +kernel
theorem dX9_clause_98 : decode cX9_clause 98 = .ok (.if_icmp .ne 9, 3) := by decide +kernel
theorem dX9_clause_101 : decode cX9_clause 101 = .ok (.aload_n 0, 1) := by decide +kernel
theorem dX9_clause_102 : decode cX9_clause 102 = .ok (.iload_n 2, 1) := by decide +kernel
theorem dX9_clause_103 : decode cX9_clause 103 = .ok (.putfield 174, 3) := by decide +kernel
theorem dX9_clause_106 : decode cX9_clause 106 = .ok (.return_, 1) := by decide +kernel
theorem dX9_clause_107 : decode cX9_clause 107 = .ok (.aload_n 0, 1) := by decide +kernel
theorem dX9_clause_108 : decode cX9_clause 108 = .ok (.bipush 32, 2) := by decide +kernel
theorem dX9_clause_110 : decode cX9_clause 110 = .ok (.invokevirtual 152, 3) := by decide +kernel
theorem dX9_clause_113 : decode cX9_clause 113 = .ok (.aload_n 0, 1) := by decide +kernel
theorem dX9_clause_114 : decode cX9_clause 114 = .ok (.iconst 0, 1) := by decide +kernel
theorem dX9_clause_115 : decode cX9_clause 115 = .ok (.putfield 159, 3) := by decide +kernel
theorem dX9_clause_118 : decode cX9_clause 118 = .ok (.aload_n 0, 1) := by decide +kernel
theorem dX9_clause_119 : decode cX9_clause 119 = .ok (.invokevirtual 165, 3) := by decide +kernel
theorem dX9_clause_122 : decode cX9_clause 122 = .ok (.istore_n 3, 1) := by decide +kernel
theorem dX9_clause_123 : decode cX9_clause 123 = .ok (.aload_n 0, 1) := by decide +kernel
theorem dX9_clause_124 : decode cX9_clause 124 = .ok (.dup, 1) := by decide +kernel
theorem dX9_clause_125 : decode cX9_clause 125 = .ok (.getfield 177, 3) := by decide +kernel
theorem dX9_clause_128 : decode cX9_clause 128 = .ok (.iload_n 3, 1) := by decide +kernel
theorem dX9_clause_129 : decode cX9_clause 129 = .ok (.ifCond .ne 7, 3) := by decide +kernel
theorem dX9_clause_132 : decode cX9_clause 132 = .ok (.iconst 0, 1) := by decide +kernel
theorem dX9_clause_133 : decode cX9_clause 133 = .ok (.goto 13, 3) := by decide +kernel
theorem dX9_clause_136 : decode cX9_clause 136 = .ok (.iload_n 1, 1) := by decide +kernel
theorem dX9_clause_137 : decode cX9_clause 137 = .ok (.ifCond .ne 7, 3) := by decide +kernel
theorem dX9_clause_140 : decode cX9_clause 140 = .ok (.iload_n 2, 1) := by decide +kernel
theorem dX9_clause_141 : decode cX9_clause 141 = .ok (.goto 5, 3) := by decide +kernel
theorem dX9_clause_144 : decode cX9_clause 144 = .ok (.iload_n 2, 1) := by decide +kernel
theorem dX9_clause_145 : decode cX9_clause 145 = .ok (.ineg, 1) := by decide +kernel
theorem dX9_clause_146 : decode cX9_clause 146 = .ok (.iadd, 1) := by decide +kernel
theorem dX9_clause_147 : decode cX9_clause 147 = .ok (.putfield 177, 3) := by decide +kernel
theorem dX9_clause_150 : decode cX9_clause 150 = .ok (.return_, 1) := by decide +kernel
theorem dX9_readAll_0 : decode cX9_readAll 0 = .ok (.aload_n 0, 1) := by decide +kernel
theorem dX9_readAll_1 : decode cX9_readAll 1 = .ok (.iconst 0, 1) := by decide +kernel
theorem dX9_readAll_2 : decode cX9_readAll 2 = .ok (.putfield 139, 3) := by decide +kernel
theorem dX9_readAll_5 : decode cX9_readAll 5 = .ok (.aload_n 0, 1) := by decide +kernel
theorem dX9_readAll_6 : decode cX9_readAll 6 = .ok (.iconst 1, 1) := by decide +kernel
theorem dX9_readAll_7 : decode cX9_readAll 7 = .ok (.putfield 136, 3) := by decide +kernel
theorem dX9_readAll_10 : decode cX9_readAll 10 = .ok (.aload_n 0, 1) := by decide +kernel
theorem dX9_readAll_11 : decode cX9_readAll 11 = .ok (.aload_n 0, 1) := by decide +kernel
theorem dX9_readAll_12 : decode cX9_readAll 12 = .ok (.getfield 33, 3) := by decide +kernel
theorem dX9_readAll_15 : decode cX9_readAll 15 = .ok (.iconst 4, 1) := by decide +kernel
theorem dX9_readAll_16 : decode cX9_readAll 16 = .ok (.iaload, 1) := by decide +kernel
theorem dX9_readAll_17 : decode cX9_readAll 17 = .ok (.putfield 177, 3) := by decide +kernel
theorem dX9_readAll_20 : decode cX9_readAll 20 = .ok (.aload_n 0, 1) := by decide +kernel
theorem dX9_readAll_21 : decode cX9_readAll 21 = .ok (.iconst 5, 1) := by decide +kernel
theorem dX9_readAll_22 : decode cX9_readAll 22 = .ok (.putfield 174, 3) := by decide +kernel
theorem dX9_readAll_25 : decode cX9_readAll 25 = .ok (.iconst 1, 1) := by decide +kernel
theorem dX9_readAll_26 : decode cX9_readAll 26 = .ok (.istore_n 1, 1) := by decide +kernel
theorem dX9_readAll_27 : decode cX9_readAll 27 = .ok (.aload_n 0, 1) := by decide +kernel
theorem dX9_readAll_28 : decode cX9_readAll 28 = .ok (.invokevirtual 180, 3) := by decide +kernel
theorem dX9_readAll_31 : decode cX9_readAll 31 = .ok (.iload_n 1, 1) := by decide +kernel
theorem dX9_readAll_32 : decode cX9_readAll 32 = .ok (.bipush 10, 2) := by decide +kernel
theorem dX9_readAll_34 : decode cX9_readAll 34 = .ok (.if_icmp .ge 32, 3) := by decide +kernel
theorem dX9_readAll_37 : decode cX9_readAll 37 = .ok (.aload_n 0, 1) := by decide +kernel
theorem dX9_readAll_38 : decode cX9_readAll 38 = .ok (.bipush 59, 2) := by decide +kernel
theorem dX9_readAll_40 : decode cX9_readAll 40 = .ok (.invokevirtual 145, 3) := by decide +kernel
theorem dX9_readAll_43 : decode cX9_readAll 43 = .ok (.ifCond .eq 23, 3) := by decide +kernel
theorem dX9_readAll_46 : decode cX9_readAll 46 = .ok (.aload_n 0, 1) := by decide +kernel
theorem dX9_readAll_47 : decode cX9_readAll 47 = .ok (.dup, 1) := by decide +kernel
theorem dX9_readAll_48 : decode cX9_readAll 48 = .ok (.getfield 139, 3) := by decide +kernel
theorem dX9_readAll_51 : decode cX9_readAll 51 = .ok (.iconst 1, 1) := by decide +kernel
theorem dX9_readAll_52 : decode cX9_readAll 52 = .ok (.iadd, 1) := by decide +kernel
theorem dX9_readAll_53 : decode cX9_readAll 53 = .ok (.putfield 139, 3) := by decide +kernel
theorem dX9_readAll_56 : decode cX9_readAll 56 = .ok (.aload_n 0, 1) := by decide +kernel
theorem dX9_readAll_57 : decode cX9_readAll 57 = .ok (.invokevirtual 180, 3) := by decide +kernel
theorem dX9_readAll_60 : decode cX9_readAll 60 = .ok (.iinc 1 1, 3) := by decide +kernel
theorem dX9_readAll_63 : decode cX9_readAll 63 = .ok (.goto (-32), 3) := by decide +kernel
theorem dX9_readAll_66 : decode cX9_readAll 66 = .ok (.aload_n 0, 1) := by decide +kernel
theorem dX9_readAll_67 : decode cX9_readAll 67 = .ok (.getfield 136, 3) := by decide +kernel
theorem dX9_readAll_70 : decode cX9_readAll 70 = .ok (.ifCond .eq 18, 3) := by decide +kernel
theorem dX9_readAll_73 : decode cX9_readAll 73 = .ok (.aload_n 0, 1) := by decide +kernel
theorem dX9_readAll_74 : decode cX9_readAll 74 = .ok (.getfield 139, 3) := by decide +kernel
theorem dX9_readAll_77 : decode cX9_readAll 77 = .ok (.aload_n 0, 1) := by decide +kernel
theorem dX9_readAll_78 : decode cX9_readAll 78 = .ok (.getfield 142, 3) := by decide +kernel
theorem dX9_readAll_81 : decode cX9_readAll 81 = .ok (.if_icmp .ne 7, 3) := by decide +kernel
theorem dX9_readAll_84 : decode cX9_readAll 84 = .ok (.iconst 1, 1) := by decide +kernel
theorem dX9_readAll_85 : decode cX9_readAll 85 = .ok (.goto 4, 3) := by decide +kernel
theorem dX9_readAll_88 : decode cX9_readAll 88 = .ok (.iconst 0, 1) := by decide +kernel
theorem dX9_readAll_89 : decode cX9_readAll 89 = .ok (.ireturn, 1) := by decide +kernel
theorem dX9_readFor_0 : decode cX9_readFor 0 = .ok (.aload_n 0, 1) := by decide +kernel
theorem dX9_readFor_1 : decode cX9_readFor 1 = .ok (.getfield 33, 3) := by decide +kernel
theorem dX9_readFor_4 : decode cX9_readFor 4 = .ok (.iconst 0, 1) := by decide +kernel
theorem dX9_readFor_5 : decode cX9_readFor 5 = .ok (.iload_n 1, 1) := by decide +kernel
theorem dX9_readFor_6 : decode cX9_readFor 6 = .ok (.iastore, 1) := by decide +kernel
theorem dX9_readFor_7 : decode cX9_readFor 7 = .ok (.aload_n 0, 1) := by decide +kernel
theorem dX9_readFor_8 : decode cX9_readFor 8 = .ok (.getfield 33, 3) := by decide +kernel
theorem dX9_readFor_11 : decode cX9_readFor 11 = .ok (.iconst 1, 1) := by decide +kernel
theorem dX9_readFor_12 : decode cX9_readFor 12 = .ok (.aload_n 0, 1) := by decide +kernel
theorem dX9_readFor_13 : decode cX9_readFor 13 = .ok (.iload_n 1, 1) := by decide +kernel
theorem dX9_readFor_14 : decode cX9_readFor 14 = .ok (.iconst 0, 1) := by decide +kernel
theorem dX9_readFor_15 : decode cX9_readFor 15 = .ok (.invokevirtual 93, 3) := by decide +kernel
theorem dX9_readFor_18 : decode cX9_readFor 18 = .ok (.iastore, 1) := by decide +kernel
theorem dX9_readFor_19 : decode cX9_readFor 19 = .ok (.aload_n 0, 1) := by decide +kernel
theorem dX9_readFor_20 : decode cX9_readFor 20 = .ok (.getfield 33, 3) := by decide +kernel
theorem dX9_readFor_23 : decode cX9_readFor 23 = .ok (.iconst 2, 1) := by decide +kernel
theorem dX9_readFor_24 : decode cX9_readFor 24 = .ok (.aload_n 0, 1) := by decide +kernel
theorem dX9_readFor_25 : decode cX9_readFor 25 = .ok (.iload_n 1, 1) := by decide +kernel
theorem dX9_readFor_26 : decode cX9_readFor 26 = .ok (.iconst 1, 1) := by decide +kernel
theorem dX9_readFor_27 : decode cX9_readFor 27 = .ok (.invokevirtual 93, 3) := by decide +kernel
theorem dX9_readFor_30 : decode cX9_readFor 30 = .ok (.iastore, 1) := by decide +kernel
theorem dX9_readFor_31 : decode cX9_readFor 31 = .ok (.aload_n 0, 1) := by decide +kernel
theorem dX9_readFor_32 : decode cX9_readFor 32 = .ok (.getfield 33, 3) := by decide +kernel
theorem dX9_readFor_35 : decode cX9_readFor 35 = .ok (.iconst 3, 1) := by decide +kernel
theorem dX9_readFor_36 : decode cX9_readFor 36 = .ok (.iload_n 2, 1) := by decide +kernel
theorem dX9_readFor_37 : decode cX9_readFor 37 = .ok (.iastore, 1) := by decide +kernel
theorem dX9_readFor_38 : decode cX9_readFor 38 = .ok (.aload_n 0, 1) := by decide +kernel
theorem dX9_readFor_39 : decode cX9_readFor 39 = .ok (.getfield 33, 3) := by decide +kernel
theorem dX9_readFor_42 : decode cX9_readFor 42 = .ok (.iconst 4, 1) := by decide +kernel
theorem dX9_readFor_43 : decode cX9_readFor 43 = .ok (.aload_n 0, 1) := by decide +kernel
theorem dX9_readFor_44 : decode cX9_readFor 44 = .ok (.iload_n 1, 1) := by decide +kernel
theorem dX9_readFor_45 : decode cX9_readFor 45 = .ok (.iconst 2, 1) := by decide +kernel
theorem dX9_readFor_46 : decode cX9_readFor 46 = .ok (.invokevirtual 93, 3) := by decide +kernel
theorem dX9_readFor_49 : decode cX9_readFor 49 = .ok (.iastore, 1) := by decide +kernel
theorem dX9_readFor_50 : decode cX9_readFor 50 = .ok (.aload_n 0, 1) := by decide +kernel
theorem dX9_readFor_51 : decode cX9_readFor 51 = .ok (.getfield 33, 3) := by decide +kernel
theorem dX9_readFor_54 : decode cX9_readFor 54 = .ok (.iconst 5, 1) := by decide +kernel
theorem dX9_readFor_55 : decode cX9_readFor 55 = .ok (.aload_n 0, 1) := by decide +kernel
theorem dX9_readFor_56 : decode cX9_readFor 56 = .ok (.iload_n 1, 1) := by decide +kernel
theorem dX9_readFor_57 : decode cX9_readFor 57 = .ok (.iconst 3, 1) := by decide +kernel
theorem dX9_readFor_58 : decode cX9_readFor 58 = .ok (.invokevirtual 93, 3) := by decide +kernel
theorem dX9_readFor_61 : decode cX9_readFor 61 = .ok (.bipush 10, 2) := by decide +kernel
theorem dX9_readFor_63 : decode cX9_readFor 63 = .ok (.irem, 1) := by decide +kernel
theorem dX9_readFor_64 : decode cX9_readFor 64 = .ok (.iastore, 1) := by decide +kernel
theorem dX9_readFor_65 : decode cX9_readFor 65 = .ok (.aload_n 0, 1) := by decide +kernel
theorem dX9_readFor_66 : decode cX9_readFor 66 = .ok (.getfield 9, 3) := by decide +kernel
theorem dX9_readFor_69 : decode cX9_readFor 69 = .ok (.bipush 57, 2) := by decide +kernel
theorem dX9_readFor_71 : decode cX9_readFor 71 = .ok (.iaload, 1) := by decide +kernel
theorem dX9_readFor_72 : decode cX9_readFor 72 = .ok (.ifCond .ne 19, 3) := by decide +kernel
theorem dX9_readFor_75 : decode cX9_readFor 75 = .ok (.aload_n 0, 1) := by decide +kernel
theorem dX9_readFor_76 : decode cX9_readFor 76 = .ok (.aload_n 0, 1) := by decide +kernel
theorem dX9_readFor_77 : decode cX9_readFor 77 = .ok (.getfield 33, 3) := by decide +kernel
theorem dX9_readFor_80 : decode cX9_readFor 80 = .ok (.iconst 4, 1) := by decide +kernel
theorem dX9_readFor_81 : decode cX9_readFor 81 = .ok (.iaload, 1) := by decide +kernel
theorem dX9_readFor_82 : decode cX9_readFor 82 = .ok (.putfield 177, 3) := by decide +kernel
theorem dX9_readFor_85 : decode cX9_readFor 85 = .ok (.aload_n 0, 1) := by decide +kernel
theorem dX9_readFor_86 : decode cX9_readFor 86 = .ok (.iconst 5, 1) := by decide +kernel
theorem dX9_readFor_87 : decode cX9_readFor 87 = .ok (.putfield 174, 3) := by decide +kernel
theorem dX9_readFor_90 : decode cX9_readFor 90 = .ok (.return_, 1) := by decide +kernel
theorem dX9_readFor_91 : decode cX9_readFor 91 = .ok (.aload_n 0, 1) := by decide +kernel
theorem dX9_readFor_92 : decode cX9_readFor 92 = .ok (.getfield 9, 3) := by decide +kernel
theorem dX9_readFor_95 : decode cX9_readFor 95 = .ok (.bipush 57, 2) := by decide +kernel
theorem dX9_readFor_97 : decode cX9_readFor 97 = .ok (.iaload, 1) := by decide +kernel
theorem dX9_readFor_98 : decode cX9_readFor 98 = .ok (.iconst 1, 1) := by decide +kernel
theorem dX9_readFor_99 : decode cX9_readFor 99 = .ok (.isub, 1) := by decide +kernel
theorem dX9_readFor_100 : decode cX9_readFor 100 = .ok (.istore_n 3, 1) := by decide +kernel
theorem dX9_readFor_101 : decode cX9_readFor 101 = .ok (.aload_n 0, 1) := by decide +kernel
theorem dX9_readFor_102 : decode cX9_readFor 102 = .ok (.aload_n 0, 1) := by decide +kernel
theorem dX9_readFor_103 : decode cX9_readFor 103 = .ok (.getfield 27, 3) := by decide +kernel
theorem dX9_readFor_106 : decode cX9_readFor 106 = .ok (.iload_n 3, 1) := by decide +kernel
theorem dX9_readFor_107 : decode cX9_readFor 107 = .ok (.iaload, 1) := by decide +kernel
theorem dX9_readFor_108 : decode cX9_readFor 108 = .ok (.putfield 142, 3) := by decide +kernel
theorem dX9_readFor_111 : decode cX9_readFor 111 = .ok (.iconst 0, 1) := by decide +kernel
theorem dX9_readFor_112 : decode cX9_readFor 112 = .ok (.istore 4, 2) := by decide +kernel
theorem dX9_readFor_114 : decode cX9_readFor 114 = .ok (.iload 4, 2) := by decide +kernel
theorem dX9_readFor_116 : decode cX9_readFor 116 = .ok (.aload_n 0, 1) := by decide +kernel
theorem dX9_readFor_117 : decode cX9_readFor 117 = .ok (.getfield 142, 3) := by decide +kernel
theorem dX9_readFor_120 : decode cX9_readFor 120 = .ok (.if_icmp .ge 28, 3) := by decide +kernel
theorem dX9_readFor_123 : decode cX9_readFor 123 = .ok (.aload_n 0, 1) := by decide +kernel
theorem dX9_readFor_124 : decode cX9_readFor 124 = .ok (.getfield 30, 3) := by decide +kernel
theorem dX9_readFor_127 : decode cX9_readFor 127 = .ok (.iload 4, 2) := by decide +kernel
theorem dX9_readFor_129 : decode cX9_readFor 129 = .ok (.aload_n 0, 1) := by decide +kernel
theorem dX9_readFor_130 : decode cX9_readFor 130 = .ok (.getfield 24, 3) := by decide +kernel
theorem dX9_readFor_133 : decode cX9_readFor 133 = .ok (.bipush 100, 2) := by decide +kernel
theorem dX9_readFor_135 : decode cX9_readFor 135 = .ok (.iload_n 3, 1) := by decide +kernel
theorem dX9_readFor_136 : decode cX9_readFor 136 = .ok (.imul, 1) := by decide +kernel
theorem dX9_readFor_137 : decode cX9_readFor 137 = .ok (.iload 4, 2) := by decide +kernel
theorem dX9_readFor_139 : decode cX9_readFor 139 = .ok (.iadd, 1) := by decide +kernel
theorem dX9_readFor_140 : decode cX9_readFor 140 = .ok (.iaload, 1) := by decide +kernel
theorem dX9_readFor_141 : decode cX9_readFor 141 = .ok (.iastore, 1) := by decide +kernel
theorem dX9_readFor_142 : decode cX9_readFor 142 = .ok (.iinc 4 1, 3) := by decide +kernel
theorem dX9_readFor_145 : decode cX9_readFor 145 = .ok (.goto (-31), 3) := by decide +kernel
theorem dX9_readFor_148 : decode cX9_readFor 148 = .ok (.aload_n 0, 1) := by decide +kernel
theorem dX9_readFor_149 : decode cX9_readFor 149 = .ok (.invokevirtual 183, 3) := by decide +kernel
theorem dX9_readFor_152 : decode cX9_readFor 152 = .ok (.pop, 1) := by decide +kernel
theorem dX9_readFor_153 : decode cX9_readFor 153 = .ok (.return_, 1) := by decide +kernel
theorem dX9_cellar_0 : decode cX9_cellar 0 = .ok (.aload_n 0, 1) := by decide +kernel
theorem dX9_cellar_1 : decode cX9_cellar 1 = .ok (.getfield 186, 3) := by decide +kernel
theorem dX9_cellar_4 : decode cX9_cellar 4 = .ok (.bipush 6, 2) := by decide +kernel
theorem dX9_cellar_6 : decode cX9_cellar 6 = .ok (.if_icmp .ne 6, 3) := by decide +kernel
theorem dX9_cellar_9 : decode cX9_cellar 9 = .ok (.bipush (-4), 2) := by decide +kernel
theorem dX9_cellar_11 : decode cX9_cellar 11 = .ok (.ireturn, 1) := by decide +kernel
theorem dX9_cellar_12 : decode cX9_cellar 12 = .ok (.aload_n 0, 1) := by decide +kernel
theorem dX9_cellar_13 : decode cX9_cellar 13 = .ok (.aload_n 0, 1) := by decide +kernel
theorem dX9_cellar_14 : decode cX9_cellar 14 = .ok (.getfield 132, 3) := by decide +kernel
theorem dX9_cellar_17 : decode cX9_cellar 17 = .ok (.putfield 142, 3) := by decide +kernel
theorem dX9_cellar_20 : decode cX9_cellar 20 = .ok (.iconst 0, 1) := by decide +kernel
theorem dX9_cellar_21 : decode cX9_cellar 21 = .ok (.istore_n 1, 1) := by decide +kernel
theorem dX9_cellar_22 : decode cX9_cellar 22 = .ok (.iload_n 1, 1) := by decide +kernel
theorem dX9_cellar_23 : decode cX9_cellar 23 = .ok (.aload_n 0, 1) := by decide +kernel
theorem dX9_cellar_24 : decode cX9_cellar 24 = .ok (.getfield 142, 3) := by decide +kernel
theorem dX9_cellar_27 : decode cX9_cellar 27 = .ok (.if_icmp .ge 21, 3) := by decide +kernel
theorem dX9_cellar_30 : decode cX9_cellar 30 = .ok (.aload_n 0, 1) := by decide +kernel
theorem dX9_cellar_31 : decode cX9_cellar 31 = .ok (.getfield 30, 3) := by decide +kernel
theorem dX9_cellar_34 : decode cX9_cellar 34 = .ok (.iload_n 1, 1) := by decide +kernel
theorem dX9_cellar_35 : decode cX9_cellar 35 = .ok (.aload_n 0, 1) := by decide +kernel
theorem dX9_cellar_36 : decode cX9_cellar 36 = .ok (.getfield 21, 3) := by decide +kernel
theorem dX9_cellar_39 : decode cX9_cellar 39 = .ok (.iload_n 1, 1) := by decide +kernel
theorem dX9_cellar_40 : decode cX9_cellar 40 = .ok (.iaload, 1) := by decide +kernel
theorem dX9_cellar_41 : decode cX9_cellar 41 = .ok (.iastore, 1) := by decide +kernel
theorem dX9_cellar_42 : decode cX9_cellar 42 = .ok (.iinc 1 1, 3) := by decide +kernel
theorem dX9_cellar_45 : decode cX9_cellar 45 = .ok (.goto (-23), 3) := by decide +kernel
theorem dX9_cellar_48 : decode cX9_cellar 48 = .ok (.aload_n 0, 1) := by decide +kernel
theorem dX9_cellar_49 : decode cX9_cellar 49 = .ok (.iconst 0, 1) := by decide +kernel
theorem dX9_cellar_50 : decode cX9_cellar 50 = .ok (.putfield 132, 3) := by decide +kernel
theorem dX9_cellar_53 : decode cX9_cellar 53 = .ok (.aload_n 0, 1) := by decide +kernel
theorem dX9_cellar_54 : decode cX9_cellar 54 = .ok (.invokevirtual 183, 3) := by decide +kernel
theorem dX9_cellar_57 : decode cX9_cellar 57 = .ok (.ifCond .ne 11, 3) := by decide +kernel
theorem dX9_cellar_60 : decode cX9_cellar 60 = .ok (.bipush (-10), 2) := by decide +kernel
theorem dX9_cellar_62 : decode cX9_cellar 62 = .ok (.aload_n 0, 1) := by decide +kernel
theorem dX9_cellar_63 : decode cX9_cellar 63 = .ok (.getfield 139, 3) := by decide +kernel
theorem dX9_cellar_66 : decode cX9_cellar 66 = .ok (.isub, 1) := by decide +kernel
theorem dX9_cellar_67 : decode cX9_cellar 67 = .ok (.ireturn, 1) := by decide +kernel
theorem dX9_cellar_68 : decode cX9_cellar 68 = .ok (.iconst 0, 1) := by decide +kernel
theorem dX9_cellar_69 : decode cX9_cellar 69 = .ok (.istore_n 1, 1) := by decide +kernel
theorem dX9_cellar_70 : decode cX9_cellar 70 = .ok (.iload_n 1, 1) := by decide +kernel
theorem dX9_cellar_71 : decode cX9_cellar 71 = .ok (.aload_n 0, 1) := by decide +kernel
theorem dX9_cellar_72 : decode cX9_cellar 72 = .ok (.getfield 142, 3) := by decide +kernel
theorem dX9_cellar_75 : decode cX9_cellar 75 = .ok (.if_icmp .ge 29, 3) := by decide +kernel
theorem dX9_cellar_78 : decode cX9_cellar 78 = .ok (.aload_n 0, 1) := by decide +kernel
theorem dX9_cellar_79 : decode cX9_cellar 79 = .ok (.getfield 24, 3) := by decide +kernel
theorem dX9_cellar_82 : decode cX9_cellar 82 = .ok (.bipush 100, 2) := by decide +kernel
theorem dX9_cellar_84 : decode cX9_cellar 84 = .ok (.aload_n 0, 1) := by decide +kernel
theorem dX9_cellar_85 : decode cX9_cellar 85 = .ok (.getfield 186, 3) := by decide +kernel
theorem dX9_cellar_88 : decode cX9_cellar 88 = .ok (.imul, 1) := by decide +kernel
theorem dX9_cellar_89 : decode cX9_cellar 89 = .ok (.iload_n 1, 1) := by decide +kernel
theorem dX9_cellar_90 : decode cX9_cellar 90 = .ok (.iadd, 1) := by decide +kernel
theorem dX9_cellar_91 : decode cX9_cellar 91 = .ok (.aload_n 0, 1) := by decide +kernel
theorem dX9_cellar_92 : decode cX9_cellar 92 = .ok (.getfield 30, 3) := by decide +kernel
theorem dX9_cellar_95 : decode cX9_cellar 95 = .ok (.iload_n 1, 1) := by decide +kernel
theorem dX9_cellar_96 : decode cX9_cellar 96 = .ok (.iaload, 1) := by decide +kernel
theorem dX9_cellar_97 : decode cX9_cellar 97 = .ok (.iastore, 1) := by decide +kernel
theorem dX9_cellar_98 : decode cX9_cellar 98 = .ok (.iinc 1 1, 3) := by decide +kernel
theorem dX9_cellar_101 : decode cX9_cellar 101 = .ok (.goto (-31), 3) := by decide +kernel
theorem dX9_cellar_104 : decode cX9_cellar 104 = .ok (.aload_n 0, 1) := by decide +kernel
theorem dX9_cellar_105 : decode cX9_cellar 105 = .ok (.getfield 27, 3) := by decide +kernel
theorem dX9_cellar_108 : decode cX9_cellar 108 = .ok (.aload_n 0, 1) := by decide +kernel
theorem dX9_cellar_109 : decode cX9_cellar 109 = .ok (.getfield 186, 3) := by decide +kernel
theorem dX9_cellar_112 : decode cX9_cellar 112 = .ok (.aload_n 0, 1) := by decide +kernel
theorem dX9_cellar_113 : decode cX9_cellar 113 = .ok (.getfield 142, 3) := by decide +kernel
theorem dX9_cellar_116 : decode cX9_cellar 116 = .ok (.iastore, 1) := by decide +kernel
theorem dX9_cellar_117 : decode cX9_cellar 117 = .ok (.aload_n 0, 1) := by decide +kernel
theorem dX9_cellar_118 : decode cX9_cellar 118 = .ok (.dup, 1) := by decide +kernel
theorem dX9_cellar_119 : decode cX9_cellar 119 = .ok (.getfield 186, 3) := by decide +kernel
theorem dX9_cellar_122 : decode cX9_cellar 122 = .ok (.iconst 1, 1) := by decide +kernel
theorem dX9_cellar_123 : decode cX9_cellar 123 = .ok (.iadd, 1) := by decide +kernel
theorem dX9_cellar_124 : decode cX9_cellar 124 = .ok (.putfield 186, 3) := by decide +kernel
theorem dX9_cellar_127 : decode cX9_cellar 127 = .ok (.aload_n 0, 1) := by decide +kernel
theorem dX9_cellar_128 : decode cX9_cellar 128 = .ok (.getfield 9, 3) := by decide +kernel
theorem dX9_cellar_131 : decode cX9_cellar 131 = .ok (.bipush 57, 2) := by decide +kernel
theorem dX9_cellar_133 : decode cX9_cellar 133 = .ok (.aload_n 0, 1) := by decide +kernel
theorem dX9_cellar_134 : decode cX9_cellar 134 = .ok (.getfield 186, 3) := by decide +kernel
theorem dX9_cellar_137 : decode cX9_cellar 137 = .ok (.iastore, 1) := by decide +kernel
theorem dX9_cellar_138 : decode cX9_cellar 138 = .ok (.aload_n 0, 1) := by decide +kernel
theorem dX9_cellar_139 : decode cX9_cellar 139 = .ok (.getfield 186, 3) := by decide +kernel
theorem dX9_cellar_142 : decode cX9_cellar 142 = .ok (.iconst 1, 1) := by decide +kernel
theorem dX9_cellar_143 : decode cX9_cellar 143 = .ok (.isub, 1) := by decide +kernel
theorem dX9_cellar_144 : decode cX9_cellar 144 = .ok (.ireturn, 1) := by decide +kernel
theorem dX9_clear_0 : decode cX9_clear 0 = .ok (.aload_n 0, 1) := by decide +kernel
theorem dX9_clear_1 : decode cX9_clear 1 = .ok (.iload_n 1, 1) := by decide +kernel
theorem dX9_clear_2 : decode cX9_clear 2 = .ok (.iload_n 2, 1) := by decide +kernel
theorem dX9_clear_3 : decode cX9_clear 3 = .ok (.invokevirtual 189, 3) := by decide +kernel
theorem dX9_clear_6 : decode cX9_clear 6 = .ok (.aload_n 0, 1) := by decide +kernel
theorem dX9_clear_7 : decode cX9_clear 7 = .ok (.getfield 177, 3) := by decide +kernel
theorem dX9_clear_10 : decode cX9_clear 10 = .ok (.iconst 2, 1) := by decide +kernel
theorem dX9_clear_11 : decode cX9_clear 11 = .ok (.aload_n 0, 1) := by decide +kernel
theorem dX9_clear_12 : decode cX9_clear 12 = .ok (.iload_n 1, 1) := by decide +kernel
theorem dX9_clear_13 : decode cX9_clear 13 = .ok (.iconst 4, 1) := by decide +kernel
theorem dX9_clear_14 : decode cX9_clear 14 = .ok (.invokevirtual 93, 3) := by decide +kernel
theorem dX9_clear_17 : decode cX9_clear 17 = .ok (.imul, 1) := by decide +kernel
theorem dX9_clear_18 : decode cX9_clear 18 = .ok (.isub, 1) := by decide +kernel
theorem dX9_clear_19 : decode cX9_clear 19 = .ok (.istore_n 3, 1) := by decide +kernel
theorem dX9_clear_20 : decode cX9_clear 20 = .ok (.aload_n 0, 1) := by decide +kernel
theorem dX9_clear_21 : decode cX9_clear 21 = .ok (.iload_n 1, 1) := by decide +kernel
theorem dX9_clear_22 : decode cX9_clear 22 = .ok (.iconst 0, 1) := by decide +kernel
theorem dX9_clear_23 : decode cX9_clear 23 = .ok (.invokevirtual 93, 3) := by decide +kernel
theorem dX9_clear_26 : decode cX9_clear 26 = .ok (.tableswitch 126 1 6 #[38, 50, 57, 59, 90, 111], 38) := by decide +kernel
theorem dX9_clear_64 : decode cX9_clear 64 = .ok (.aload_n 0, 1) := by decide +kernel
theorem dX9_clear_65 : decode cX9_clear 65 = .ok (.getfield 177, 3) := by decide +kernel
theorem dX9_clear_68 : decode cX9_clear 68 = .ok (.aload_n 0, 1) := by decide +kernel
theorem dX9_clear_69 : decode cX9_clear 69 = .ok (.iload_n 1, 1) := by decide +kernel
theorem dX9_clear_70 : decode cX9_clear 70 = .ok (.iconst 1, 1) := by decide +kernel
theorem dX9_clear_71 : decode cX9_clear 71 = .ok (.invokevirtual 93, 3) := by decide +kernel
theorem dX9_clear_74 : decode cX9_clear 74 = .ok (.iadd, 1) := by decide +kernel
theorem dX9_clear_75 : decode cX9_clear 75 = .ok (.ireturn, 1) := by decide +kernel
theorem dX9_clear_76 : decode cX9_clear 76 = .ok (.aload_n 0, 1) := by decide +kernel
theorem dX9_clear_77 : decode cX9_clear 77 = .ok (.getfield 177, 3) := by decide +kernel
theorem dX9_clear_80 : decode cX9_clear 80 = .ok (.iconst 2, 1) := by decide +kernel
theorem dX9_clear_81 : decode cX9_clear 81 = .ok (.idiv, 1) := by decide +kernel
theorem dX9_clear_82 : decode cX9_clear 82 = .ok (.ireturn, 1) := by decide +kernel
theorem dX9_clear_83 : decode cX9_clear 83 = .ok (.iload_n 3, 1) := by decide +kernel
theorem dX9_clear_84 : decode cX9_clear 84 = .ok (.ireturn, 1) := by decide +kernel
theorem dX9_clear_85 : decode cX9_clear 85 = .ok (.aload_n 0, 1) := by decide +kernel
theorem dX9_clear_86 : decode cX9_clear 86 = .ok (.iload_n 1, 1) := by decide +kernel
theorem dX9_clear_87 : decode cX9_clear 87 = .ok (.iconst 3, 1) := by decide +kernel
theorem dX9_clear_88 : decode cX9_clear 88 = .ok (.invokevirtual 93, 3) := by decide +kernel
theorem dX9_clear_91 : decode cX9_clear 91 = .ok (.aload_n 0, 1) := by decide +kernel
theorem dX9_clear_92 : decode cX9_clear 92 = .ok (.iload_n 1, 1) := by decide +kernel
theorem dX9_clear_93 : decode cX9_clear 93 = .ok (.iconst 1, 1) := by decide +kernel
theorem dX9_clear_94 : decode cX9_clear 94 = .ok (.invokevirtual 93, 3) := by decide +kernel
theorem dX9_clear_97 : decode cX9_clear 97 = .ok (.if_icmp .ge 7, 3) := by decide +kernel
theorem dX9_clear_100 : decode cX9_clear 100 = .ok (.iconst 0, 1) := by decide +kernel
theorem dX9_clear_101 : decode cX9_clear 101 = .ok (.goto 14, 3) := by decide +kernel
theorem dX9_clear_104 : decode cX9_clear 104 = .ok (.aload_n 0, 1) := by decide +kernel
theorem dX9_clear_105 : decode cX9_clear 105 = .ok (.getfield 177, 3) := by decide +kernel
theorem dX9_clear_108 : decode cX9_clear 108 = .ok (.aload_n 0, 1) := by decide +kernel
theorem dX9_clear_109 : decode cX9_clear 109 = .ok (.iload_n 1, 1) := by decide +kernel
theorem dX9_clear_110 : decode cX9_clear 110 = .ok (.iconst 1, 1) := by decide +kernel
theorem dX9_clear_111 : decode cX9_clear 111 = .ok (.invokevirtual 93, 3) := by decide +kernel
theorem dX9_clear_114 : decode cX9_clear 114 = .ok (.iadd, 1) := by decide +kernel
theorem dX9_clear_115 : decode cX9_clear 115 = .ok (.ireturn, 1) := by decide +kernel
theorem dX9_clear_116 : decode cX9_clear 116 = .ok (.aload_n 0, 1) := by decide +kernel
theorem dX9_clear_117 : decode cX9_clear 117 = .ok (.getfield 177, 3) := by decide +kernel
theorem dX9_clear_120 : decode cX9_clear 120 = .ok (.iconst 2, 1) := by decide +kernel
theorem dX9_clear_121 : decode cX9_clear 121 = .ok (.idiv, 1) := by decide +kernel
theorem dX9_clear_122 : decode cX9_clear 122 = .ok (.iload_n 2, 1) := by decide +kernel
theorem dX9_clear_123 : decode cX9_clear 123 = .ok (.iconst 2, 1) := by decide +kernel
theorem dX9_clear_124 : decode cX9_clear 124 = .ok (.irem, 1) := by decide +kernel
theorem dX9_clear_125 : decode cX9_clear 125 = .ok (.iconst 1, 1) := by decide +kernel
theorem dX9_clear_126 : decode cX9_clear 126 = .ok (.if_icmp .ne 8, 3) := by decide +kernel
theorem dX9_clear_129 : decode cX9_clear 129 = .ok (.bipush 6, 2) := by decide +kernel
theorem dX9_clear_131 : decode cX9_clear 131 = .ok (.goto 4, 3) := by decide +kernel
theorem dX9_clear_134 : decode cX9_clear 134 = .ok (.iconst 0, 1) := by decide +kernel
theorem dX9_clear_135 : decode cX9_clear 135 = .ok (.isub, 1) := by decide +kernel
theorem dX9_clear_136 : decode cX9_clear 136 = .ok (.ireturn, 1) := by decide +kernel
theorem dX9_clear_137 : decode cX9_clear 137 = .ok (.iload_n 3, 1) := by decide +kernel
theorem dX9_clear_138 : decode cX9_clear 138 = .ok (.aload_n 0, 1) := by decide +kernel
theorem dX9_clear_139 : decode cX9_clear 139 = .ok (.iload_n 1, 1) := by decide +kernel
theorem dX9_clear_140 : decode cX9_clear 140 = .ok (.iconst 5, 1) := by decide +kernel
theorem dX9_clear_141 : decode cX9_clear 141 = .ok (.iload_n 2, 1) := by decide +kernel
theorem dX9_clear_142 : decode cX9_clear 142 = .ok (.iconst 4, 1) := by decide +kernel
theorem dX9_clear_143 : decode cX9_clear 143 = .ok (.irem, 1) := by decide +kernel
theorem dX9_clear_144 : decode cX9_clear 144 = .ok (.iadd, 1) := by decide +kernel
theorem dX9_clear_145 : decode cX9_clear 145 = .ok (.invokevirtual 93, 3) := by decide +kernel
theorem dX9_clear_148 : decode cX9_clear 148 = .ok (.iadd, 1) := by decide +kernel
theorem dX9_clear_149 : decode cX9_clear 149 = .ok (.iconst 4, 1) := by decide +kernel
theorem dX9_clear_150 : decode cX9_clear 150 = .ok (.isub, 1) := by decide +kernel
theorem dX9_clear_151 : decode cX9_clear 151 = .ok (.ireturn, 1) := by decide +kernel
theorem dX9_clear_152 : decode cX9_clear 152 = .ok (.aload_n 0, 1) := by decide +kernel
theorem dX9_clear_153 : decode cX9_clear 153 = .ok (.getfield 177, 3) := by decide +kernel
theorem dX9_clear_156 : decode cX9_clear 156 = .ok (.ireturn, 1) := by decide +kernel
theorem dX9_saysBy_0 : decode cX9_saysBy 0 = .ok (.iload_n 2, 1) := by decide +kernel
theorem dX9_saysBy_1 : decode cX9_saysBy 1 = .ok (.iload_n 1, 1) := by decide +kernel
theorem dX9_saysBy_2 : decode cX9_saysBy 2 = .ok (.ishr, 1) := by decide +kernel
theorem dX9_saysBy_3 : decode cX9_saysBy 3 = .ok (.iconst 1, 1) := by decide +kernel
theorem dX9_saysBy_4 : decode cX9_saysBy 4 = .ok (.iand, 1) := by decide +kernel
theorem dX9_saysBy_5 : decode cX9_saysBy 5 = .ok (.istore_n 3, 1) := by decide +kernel
theorem dX9_saysBy_6 : decode cX9_saysBy 6 = .ok (.iload_n 0, 1) := by decide +kernel
theorem dX9_saysBy_7 : decode cX9_saysBy 7 = .ok (.iconst 4, 1) := by decide +kernel
theorem dX9_saysBy_8 : decode cX9_saysBy 8 = .ok (.if_icmp .lt 7, 3) := by decide +kernel
theorem dX9_saysBy_11 : decode cX9_saysBy 11 = .ok (.iload_n 3, 1) := by decide +kernel
theorem dX9_saysBy_12 : decode cX9_saysBy 12 = .ok (.goto 15, 3) := by decide +kernel
theorem dX9_saysBy_15 : decode cX9_saysBy 15 = .ok (.iload_n 0, 1) := by decide +kernel
theorem dX9_saysBy_16 : decode cX9_saysBy 16 = .ok (.ifCond .ge 9, 3) := by decide +kernel
theorem dX9_saysBy_19 : decode cX9_saysBy 19 = .ok (.iconst 1, 1) := by decide +kernel
theorem dX9_saysBy_20 : decode cX9_saysBy 20 = .ok (.iload_n 3, 1) := by decide +kernel
theorem dX9_saysBy_21 : decode cX9_saysBy 21 = .ok (.isub, 1) := by decide +kernel
theorem dX9_saysBy_22 : decode cX9_saysBy 22 = .ok (.goto 5, 3) := by decide +kernel
theorem dX9_saysBy_25 : decode cX9_saysBy 25 = .ok (.bipush (-5), 2) := by decide +kernel
theorem dX9_saysBy_27 : decode cX9_saysBy 27 = .ok (.ireturn, 1) := by decide +kernel
theorem dX9_says_0 : decode cX9_says 0 = .ok (.aload_n 0, 1) := by decide +kernel
theorem dX9_says_1 : decode cX9_says 1 = .ok (.iload_n 1, 1) := by decide +kernel
theorem dX9_says_2 : decode cX9_says 2 = .ok (.iload_n 2, 1) := by decide +kernel
theorem dX9_says_3 : decode cX9_says 3 = .ok (.invokevirtual 111, 3) := by decide +kernel
theorem dX9_says_6 : decode cX9_says 6 = .ok (.iload_n 2, 1) := by decide +kernel
theorem dX9_says_7 : decode cX9_says 7 = .ok (.iload_n 3, 1) := by decide +kernel
theorem dX9_says_8 : decode cX9_says 8 = .ok (.invokestatic 193, 3) := by decide +kernel
theorem dX9_says_11 : decode cX9_says 11 = .ok (.ireturn, 1) := by decide +kernel
theorem dX9_keepNow_0 : decode cX9_keepNow 0 = .ok (.aload_n 0, 1) := by decide +kernel
theorem dX9_keepNow_1 : decode cX9_keepNow 1 = .ok (.iconst 0, 1) := by decide +kernel
theorem dX9_keepNow_2 : decode cX9_keepNow 2 = .ok (.iconst 0, 1) := by decide +kernel
theorem dX9_keepNow_3 : decode cX9_keepNow 3 = .ok (.invokevirtual 189, 3) := by decide +kernel
theorem dX9_keepNow_6 : decode cX9_keepNow 6 = .ok (.aload_n 0, 1) := by decide +kernel
theorem dX9_keepNow_7 : decode cX9_keepNow 7 = .ok (.getfield 174, 3) := by decide +kernel
theorem dX9_keepNow_10 : decode cX9_keepNow 10 = .ok (.ireturn, 1) := by decide +kernel
theorem dX9_term_0 : decode cX9_term 0 = .ok (.aload_n 0, 1) := by decide +kernel
theorem dX9_term_1 : decode cX9_term 1 = .ok (.invokevirtual 196, 3) := by decide +kernel
theorem dX9_term_4 : decode cX9_term 4 = .ok (.istore_n 1, 1) := by decide +kernel
theorem dX9_term_5 : decode cX9_term 5 = .ok (.iconst 0, 1) := by decide +kernel
theorem dX9_term_6 : decode cX9_term 6 = .ok (.istore_n 2, 1) := by decide +kernel
theorem dX9_term_7 : decode cX9_term 7 = .ok (.iload_n 2, 1) := by decide +kernel
theorem dX9_term_8 : decode cX9_term 8 = .ok (.aload_n 0, 1) := by decide +kernel
theorem dX9_term_9 : decode cX9_term 9 = .ok (.getfield 9, 3) := by decide +kernel
theorem dX9_term_12 : decode cX9_term 12 = .ok (.bipush 54, 2) := by decide +kernel
theorem dX9_term_14 : decode cX9_term 14 = .ok (.iaload, 1) := by decide +kernel
theorem dX9_term_15 : decode cX9_term 15 = .ok (.if_icmp .ge 73, 3) := by decide +kernel
theorem dX9_term_18 : decode cX9_term 18 = .ok (.aload_n 0, 1) := by decide +kernel
theorem dX9_term_19 : decode cX9_term 19 = .ok (.iload_n 2, 1) := by decide +kernel
theorem dX9_term_20 : decode cX9_term 20 = .ok (.iconst 3, 1) := by decide +kernel
theorem dX9_term_21 : decode cX9_term 21 = .ok (.aload_n 0, 1) := by decide +kernel
theorem dX9_term_22 : decode cX9_term 22 = .ok (.iload_n 2, 1) := by decide +kernel
theorem dX9_term_23 : decode cX9_term 23 = .ok (.iconst 3, 1) := by decide +kernel
theorem dX9_term_24 : decode cX9_term 24 = .ok (.invokevirtual 93, 3) := by decide +kernel
theorem dX9_term_27 : decode cX9_term 27 = .ok (.iconst 1, 1) := by decide +kernel
theorem dX9_term_28 : decode cX9_term 28 = .ok (.iadd, 1) := by decide +kernel
theorem dX9_term_29 : decode cX9_term 29 = .ok (.invokevirtual 97, 3) := by decide +kernel
theorem dX9_term_32 : decode cX9_term 32 = .ok (.pop, 1) := by decide +kernel
theorem dX9_term_33 : decode cX9_term 33 = .ok (.iload_n 1, 1) := by decide +kernel
theorem dX9_term_34 : decode cX9_term 34 = .ok (.ifCond .le 18, 3) := by decide +kernel
theorem dX9_term_37 : decode cX9_term 37 = .ok (.aload_n 0, 1) := by decide +kernel
theorem dX9_term_38 : decode cX9_term 38 = .ok (.iload_n 2, 1) := by decide +kernel
theorem dX9_term_39 : decode cX9_term 39 = .ok (.iconst 3, 1) := by decide +kernel
theorem dX9_term_40 : decode cX9_term 40 = .ok (.invokevirtual 93, 3) := by decide +kernel
theorem dX9_term_43 : decode cX9_term 43 = .ok (.iload_n 1, 1) := by decide +kernel
theorem dX9_term_44 : decode cX9_term 44 = .ok (.irem, 1) := by decide +kernel
theorem dX9_term_45 : decode cX9_term 45 = .ok (.ifCond .ne 7, 3) := by decide +kernel
theorem dX9_term_48 : decode cX9_term 48 = .ok (.iconst 1, 1) := by decide +kernel
theorem dX9_term_49 : decode cX9_term 49 = .ok (.goto 4, 3) := by decide +kernel
theorem dX9_term_52 : decode cX9_term 52 = .ok (.iconst 0, 1) := by decide +kernel
theorem dX9_term_53 : decode cX9_term 53 = .ok (.istore_n 3, 1) := by decide +kernel
theorem dX9_term_54 : decode cX9_term 54 = .ok (.aload_n 0, 1) := by decide +kernel
theorem dX9_term_55 : decode cX9_term 55 = .ok (.iload_n 2, 1) := by decide +kernel
theorem dX9_term_56 : decode cX9_term 56 = .ok (.iconst 2, 1) := by decide +kernel
theorem dX9_term_57 : decode cX9_term 57 = .ok (.bipush 9, 2) := by decide +kernel
theorem dX9_term_59 : decode cX9_term 59 = .ok (.aload_n 0, 1) := by decide +kernel
theorem dX9_term_60 : decode cX9_term 60 = .ok (.iload_n 2, 1) := by decide +kernel
theorem dX9_term_61 : decode cX9_term 61 = .ok (.iconst 2, 1) := by decide +kernel
theorem dX9_term_62 : decode cX9_term 62 = .ok (.invokevirtual 93, 3) := by decide +kernel
theorem dX9_term_65 : decode cX9_term 65 = .ok (.iload_n 3, 1) := by decide +kernel
theorem dX9_term_66 : decode cX9_term 66 = .ok (.ifCond .eq 7, 3) := by decide +kernel
theorem dX9_term_69 : decode cX9_term 69 = .ok (.iconst 1, 1) := by decide +kernel
theorem dX9_term_70 : decode cX9_term 70 = .ok (.goto 4, 3) := by decide +kernel
theorem dX9_term_73 : decode cX9_term 73 = .ok (.iconst 0, 1) := by decide +kernel
theorem dX9_term_74 : decode cX9_term 74 = .ok (.iadd, 1) := by decide +kernel
theorem dX9_term_75 : decode cX9_term 75 = .ok (.invokestatic 120, 3) := by decide +kernel
theorem dX9_term_78 : decode cX9_term 78 = .ok (.invokevirtual 97, 3) := by decide +kernel
theorem dX9_term_81 : decode cX9_term 81 = .ok (.pop, 1) := by decide +kernel
theorem dX9_term_82 : decode cX9_term 82 = .ok (.iinc 2 1, 3) := by decide +kernel
theorem dX9_term_85 : decode cX9_term 85 = .ok (.goto (-78), 3) := by decide +kernel
theorem dX9_term_88 : decode cX9_term 88 = .ok (.aload_n 0, 1) := by decide +kernel
theorem dX9_term_89 : decode cX9_term 89 = .ok (.getfield 9, 3) := by decide +kernel
theorem dX9_term_92 : decode cX9_term 92 = .ok (.bipush 56, 2) := by decide +kernel
theorem dX9_term_94 : decode cX9_term 94 = .ok (.dup2, 1) := by decide +kernel
theorem dX9_term_95 : decode cX9_term 95 = .ok (.iaload, 1) := by decide +kernel
theorem dX9_term_96 : decode cX9_term 96 = .ok (.iconst 1, 1) := by decide +kernel
theorem dX9_term_97 : decode cX9_term 97 = .ok (.iadd, 1) := by decide +kernel
theorem dX9_term_98 : decode cX9_term 98 = .ok (.iastore, 1) := by decide +kernel
theorem dX9_term_99 : decode cX9_term 99 = .ok (.return_, 1) := by decide +kernel
theorem dX9_terms_0 : decode cX9_terms 0 = .ok (.iconst 0, 1) := by decide +kernel
theorem dX9_terms_1 : decode cX9_terms 1 = .ok (.istore_n 2, 1) := by decide +kernel
theorem dX9_terms_2 : decode cX9_terms 2 = .ok (.iload_n 2, 1) := by decide +kernel
theorem dX9_terms_3 : decode cX9_terms 3 = .ok (.iload_n 1, 1) := by decide +kernel
theorem dX9_terms_4 : decode cX9_terms 4 = .ok (.if_icmp .ge 13, 3) := by decide +kernel
theorem dX9_terms_7 : decode cX9_terms 7 = .ok (.aload_n 0, 1) := by decide +kernel
theorem dX9_terms_8 : decode cX9_terms 8 = .ok (.invokevirtual 199, 3) := by decide +kernel
theorem dX9_terms_11 : decode cX9_terms 11 = .ok (.iinc 2 1, 3) := by decide +kernel
theorem dX9_terms_14 : decode cX9_terms 14 = .ok (.goto (-12), 3) := by decide +kernel
theorem dX9_terms_17 : decode cX9_terms 17 = .ok (.return_, 1) := by decide +kernel
theorem dX9_all_0 : decode cX9_all 0 = .ok (.iconst 0, 1) := by decide +kernel
theorem dX9_all_1 : decode cX9_all 1 = .ok (.istore_n 2, 1) := by decide +kernel
theorem dX9_all_2 : decode cX9_all 2 = .ok (.iconst 0, 1) := by decide +kernel
theorem dX9_all_3 : decode cX9_all 3 = .ok (.istore_n 3, 1) := by decide +kernel
theorem dX9_all_4 : decode cX9_all 4 = .ok (.iload_n 3, 1) := by decide +kernel
theorem dX9_all_5 : decode cX9_all 5 = .ok (.aload_n 0, 1) := by decide +kernel
theorem dX9_all_6 : decode cX9_all 6 = .ok (.getfield 9, 3) := by decide +kernel
theorem dX9_all_9 : decode cX9_all 9 = .ok (.bipush 54, 2) := by decide +kernel
theorem dX9_all_11 : decode cX9_all 11 = .ok (.iaload, 1) := by decide +kernel
theorem dX9_all_12 : decode cX9_all 12 = .ok (.if_icmp .ge 18, 3) := by decide +kernel
theorem dX9_all_15 : decode cX9_all 15 = .ok (.iload_n 2, 1) := by decide +kernel
theorem dX9_all_16 : decode cX9_all 16 = .ok (.aload_n 0, 1) := by decide +kernel
theorem dX9_all_17 : decode cX9_all 17 = .ok (.iload_n 3, 1) := by decide +kernel
theorem dX9_all_18 : decode cX9_all 18 = .ok (.iload_n 1, 1) := by decide +kernel
theorem dX9_all_19 : decode cX9_all 19 = .ok (.invokevirtual 93, 3) := by decide +kernel
theorem dX9_all_22 : decode cX9_all 22 = .ok (.iadd, 1) := by decide +kernel
theorem dX9_all_23 : decode cX9_all 23 = .ok (.istore_n 2, 1) := by decide +kernel
theorem dX9_all_24 : decode cX9_all 24 = .ok (.iinc 3 1, 3) := by decide +kernel
theorem dX9_all_27 : decode cX9_all 27 = .ok (.goto (-23), 3) := by decide +kernel
theorem dX9_all_30 : decode cX9_all 30 = .ok (.iload_n 2, 1) := by decide +kernel
theorem dX9_all_31 : decode cX9_all 31 = .ok (.ireturn, 1) := by decide +kernel
theorem dX9_when_0 : decode cX9_when 0 = .ok (.aload_n 0, 1) := by decide +kernel
theorem dX9_when_1 : decode cX9_when 1 = .ok (.getfield 9, 3) := by decide +kernel
theorem dX9_when_4 : decode cX9_when 4 = .ok (.aload_n 0, 1) := by decide +kernel
theorem dX9_when_5 : decode cX9_when 5 = .ok (.getfield 15, 3) := by decide +kernel
theorem dX9_when_8 : decode cX9_when 8 = .ok (.invokestatic 85, 3) := by decide +kernel
theorem dX9_when_11 : decode cX9_when 11 = .ok (.bipush (-5), 2) := by decide +kernel
theorem dX9_when_13 : decode cX9_when 13 = .ok (.istore_n 3, 1) := by decide +kernel
theorem dX9_when_14 : decode cX9_when 14 = .ok (.iconst 0, 1) := by decide +kernel
theorem dX9_when_15 : decode cX9_when 15 = .ok (.istore 4, 2) := by decide +kernel
theorem dX9_when_17 : decode cX9_when 17 = .ok (.iload 4, 2) := by decide +kernel
theorem dX9_when_19 : decode cX9_when 19 = .ok (.bipush 60, 2) := by decide +kernel
theorem dX9_when_21 : decode cX9_when 21 = .ok (.if_icmp .gt 37, 3) := by decide +kernel
theorem dX9_when_24 : decode cX9_when 24 = .ok (.iload_n 3, 1) := by decide +kernel
theorem dX9_when_25 : decode cX9_when 25 = .ok (.bipush (-5), 2) := by decide +kernel
theorem dX9_when_27 : decode cX9_when 27 = .ok (.if_icmp .ne 31, 3) := by decide +kernel
theorem dX9_when_30 : decode cX9_when 30 = .ok (.aload_n 0, 1) := by decide +kernel
theorem dX9_when_31 : decode cX9_when 31 = .ok (.iload_n 1, 1) := by decide +kernel
theorem dX9_when_32 : decode cX9_when 32 = .ok (.iload_n 2, 1) := by decide +kernel
theorem dX9_when_33 : decode cX9_when 33 = .ok (.invokevirtual 111, 3) := by decide +kernel
theorem dX9_when_36 : decode cX9_when 36 = .ok (.iconst 4, 1) := by decide +kernel
theorem dX9_when_37 : decode cX9_when 37 = .ok (.if_icmp .lt 8, 3) := by decide +kernel
theorem dX9_when_40 : decode cX9_when 40 = .ok (.iload 4, 2) := by decide +kernel
theorem dX9_when_42 : decode cX9_when 42 = .ok (.goto 5, 3) := by decide +kernel
theorem dX9_when_45 : decode cX9_when 45 = .ok (.bipush (-5), 2) := by decide +kernel
theorem dX9_when_47 : decode cX9_when 47 = .ok (.istore_n 3, 1) := by decide +kernel
theorem dX9_when_48 : decode cX9_when 48 = .ok (.aload_n 0, 1) := by decide +kernel
theorem dX9_when_49 : decode cX9_when 49 = .ok (.invokevirtual 199, 3) := by decide +kernel
theorem dX9_when_52 : decode cX9_when 52 = .ok (.iinc 4 1, 3) := by decide +kernel
theorem dX9_when_55 : decode cX9_when 55 = .ok (.goto (-38), 3) := by decide +kernel
theorem dX9_when_58 : decode cX9_when 58 = .ok (.aload_n 0, 1) := by decide +kernel
theorem dX9_when_59 : decode cX9_when 59 = .ok (.getfield 15, 3) := by decide +kernel
theorem dX9_when_62 : decode cX9_when 62 = .ok (.aload_n 0, 1) := by decide +kernel
theorem dX9_when_63 : decode cX9_when 63 = .ok (.getfield 9, 3) := by decide +kernel
theorem dX9_when_66 : decode cX9_when 66 = .ok (.invokestatic 85, 3) := by decide +kernel
theorem dX9_when_69 : decode cX9_when 69 = .ok (.iload_n 3, 1) := by decide +kernel
theorem dX9_when_70 : decode cX9_when 70 = .ok (.ireturn, 1) := by decide +kernel
theorem dX9_look_0 : decode cX9_look 0 = .ok (.iconst 0, 1) := by decide +kernel
theorem dX9_look_1 : decode cX9_look 1 = .ok (.istore_n 1, 1) := by decide +kernel
theorem dX9_look_2 : decode cX9_look 2 = .ok (.iload_n 1, 1) := by decide +kernel
theorem dX9_look_3 : decode cX9_look 3 = .ok (.aload_n 0, 1) := by decide +kernel
theorem dX9_look_4 : decode cX9_look 4 = .ok (.getfield 9, 3) := by decide +kernel
theorem dX9_look_7 : decode cX9_look 7 = .ok (.bipush 58, 2) := by decide +kernel
theorem dX9_look_9 : decode cX9_look 9 = .ok (.iaload, 1) := by decide +kernel
theorem dX9_look_10 : decode cX9_look 10 = .ok (.if_icmp .ge 40, 3) := by decide +kernel
theorem dX9_look_13 : decode cX9_look 13 = .ok (.bipush 59, 2) := by decide +kernel
theorem dX9_look_15 : decode cX9_look 15 = .ok (.iconst 3, 1) := by decide +kernel
theorem dX9_look_16 : decode cX9_look 16 = .ok (.iload_n 1, 1) := by decide +kernel
theorem dX9_look_17 : decode cX9_look 17 = .ok (.imul, 1) := by decide +kernel
theorem dX9_look_18 : decode cX9_look 18 = .ok (.iadd, 1) := by decide +kernel
theorem dX9_look_19 : decode cX9_look 19 = .ok (.istore_n 2, 1) := by decide +kernel
theorem dX9_look_20 : decode cX9_look 20 = .ok (.aload_n 0, 1) := by decide +kernel
theorem dX9_look_21 : decode cX9_look 21 = .ok (.getfield 46, 3) := by decide +kernel
theorem dX9_look_24 : decode cX9_look 24 = .ok (.iload_n 1, 1) := by decide +kernel
theorem dX9_look_25 : decode cX9_look 25 = .ok (.aload_n 0, 1) := by decide +kernel
theorem dX9_look_26 : decode cX9_look 26 = .ok (.aload_n 0, 1) := by decide +kernel
theorem dX9_look_27 : decode cX9_look 27 = .ok (.getfield 9, 3) := by decide +kernel
theorem dX9_look_30 : decode cX9_look 30 = .ok (.iload_n 2, 1) := by decide +kernel
theorem dX9_look_31 : decode cX9_look 31 = .ok (.iaload, 1) := by decide +kernel
theorem dX9_look_32 : decode cX9_look 32 = .ok (.aload_n 0, 1) := by decide +kernel
theorem dX9_look_33 : decode cX9_look 33 = .ok (.getfield 9, 3) := by decide +kernel
theorem dX9_look_36 : decode cX9_look 36 = .ok (.iload_n 2, 1) := by decide +kernel
theorem dX9_look_37 : decode cX9_look 37 = .ok (.iconst 1, 1) := by decide +kernel
theorem dX9_look_38 : decode cX9_look 38 = .ok (.iadd, 1) := by decide +kernel
theorem dX9_look_39 : decode cX9_look 39 = .ok (.iaload, 1) := by decide +kernel
theorem dX9_look_40 : decode cX9_look 40 = .ok (.invokevirtual 111, 3) := by decide +kernel
theorem dX9_look_43 : decode cX9_look 43 = .ok (.iastore, 1) := by decide +kernel
theorem dX9_look_44 : decode cX9_look 44 = .ok (.iinc 1 1, 3) := by decide +kernel
theorem dX9_look_47 : decode cX9_look 47 = .ok (.goto (-45), 3) := by decide +kernel
theorem dX9_look_50 : decode cX9_look 50 = .ok (.iconst 0, 1) := by decide +kernel
theorem dX9_look_51 : decode cX9_look 51 = .ok (.istore_n 1, 1) := by decide +kernel
theorem dX9_look_52 : decode cX9_look 52 = .ok (.iconst 0, 1) := by decide +kernel
theorem dX9_look_53 : decode cX9_look 53 = .ok (.istore_n 2, 1) := by decide +kernel
theorem dX9_look_54 : decode cX9_look 54 = .ok (.iload_n 2, 1) := by decide +kernel
theorem dX9_look_55 : decode cX9_look 55 = .ok (.sipush 256, 3) := by decide +kernel
theorem dX9_look_58 : decode cX9_look 58 = .ok (.if_icmp .ge 133, 3) := by decide +kernel
theorem dX9_look_61 : decode cX9_look 61 = .ok (.aload_n 0, 1) := by decide +kernel
theorem dX9_look_62 : decode cX9_look 62 = .ok (.getfield 49, 3) := by decide +kernel
theorem dX9_look_65 : decode cX9_look 65 = .ok (.iload_n 2, 1) := by decide +kernel
theorem dX9_look_66 : decode cX9_look 66 = .ok (.iconst 1, 1) := by decide +kernel
theorem dX9_look_67 : decode cX9_look 67 = .ok (.bastore, 1) := by decide +kernel
theorem dX9_look_68 : decode cX9_look 68 = .ok (.iconst 0, 1) := by decide +kernel
theorem dX9_look_69 : decode cX9_look 69 = .ok (.istore_n 3, 1) := by decide +kernel
theorem dX9_look_70 : decode cX9_look 70 = .ok (.iload_n 3, 1) := by decide +kernel
theorem dX9_look_71 : decode cX9_look 71 = .ok (.aload_n 0, 1) := by decide +kernel
theorem dX9_look_72 : decode cX9_look 72 = .ok (.getfield 9, 3) := by decide +kernel
theorem dX9_look_75 : decode cX9_look 75 = .ok (.bipush 58, 2) := by decide +kernel
theorem dX9_look_77 : decode cX9_look 77 = .ok (.iaload, 1) := by decide +kernel
theorem dX9_look_78 : decode cX9_look 78 = .ok (.if_icmp .ge 90, 3) := by decide +kernel
theorem dX9_look_81 : decode cX9_look 81 = .ok (.bipush 59, 2) := by decide +kernel
theorem dX9_look_83 : decode cX9_look 83 = .ok (.iconst 3, 1) := by decide +kernel
theorem dX9_look_84 : decode cX9_look 84 = .ok (.iload_n 3, 1) := by decide +kernel
theorem dX9_look_85 : decode cX9_look 85 = .ok (.imul, 1) := by decide +kernel
theorem dX9_look_86 : decode cX9_look 86 = .ok (.iadd, 1) := by decide +kernel
theorem dX9_look_87 : decode cX9_look 87 = .ok (.istore 4, 2) := by decide +kernel
theorem dX9_look_89 : decode cX9_look 89 = .ok (.aload_n 0, 1) := by decide +kernel
theorem dX9_look_90 : decode cX9_look 90 = .ok (.getfield 9, 3) := by decide +kernel
theorem dX9_look_93 : decode cX9_look 93 = .ok (.iload 4, 2) := by decide +kernel
theorem dX9_look_95 : decode cX9_look 95 = .ok (.iconst 2, 1) := by decide +kernel
theorem dX9_look_96 : decode cX9_look 96 = .ok (.iadd, 1) := by decide +kernel
theorem dX9_look_97 : decode cX9_look 97 = .ok (.iaload, 1) := by decide +kernel
theorem dX9_look_98 : decode cX9_look 98 = .ok (.iconst (-1), 1) := by decide +kernel
theorem dX9_look_99 : decode cX9_look 99 = .ok (.if_icmp .ne 8, 3) := by decide +kernel
theorem dX9_look_102 : decode cX9_look 102 = .ok (.bipush (-5), 2) := by decide +kernel
theorem dX9_look_104 : decode cX9_look 104 = .ok (.goto 12, 3) := by decide +kernel
theorem dX9_look_107 : decode cX9_look 107 = .ok (.aload_n 0, 1) := by decide +kernel
theorem dX9_look_108 : decode cX9_look 108 = .ok (.getfield 9, 3) := by decide +kernel
theorem dX9_look_111 : decode cX9_look 111 = .ok (.iload 4, 2) := by decide +kernel
theorem dX9_look_113 : decode cX9_look 113 = .ok (.iconst 2, 1) := by decide +kernel
theorem dX9_look_114 : decode cX9_look 114 = .ok (.iadd, 1) := by decide +kernel
theorem dX9_look_115 : decode cX9_look 115 = .ok (.iaload, 1) := by decide +kernel
theorem dX9_look_116 : decode cX9_look 116 = .ok (.istore 5, 2) := by decide +kernel
theorem dX9_look_118 : decode cX9_look 118 = .ok (.aload_n 0, 1) := by decide +kernel
theorem dX9_look_119 : decode cX9_look 119 = .ok (.getfield 49, 3) := by decide +kernel
theorem dX9_look_122 : decode cX9_look 122 = .ok (.iload_n 2, 1) := by decide +kernel
theorem dX9_look_123 : decode cX9_look 123 = .ok (.aload_n 0, 1) := by decide +kernel
theorem dX9_look_124 : decode cX9_look 124 = .ok (.getfield 49, 3) := by decide +kernel
theorem dX9_look_127 : decode cX9_look 127 = .ok (.iload_n 2, 1) := by decide +kernel
theorem dX9_look_128 : decode cX9_look 128 = .ok (.baload, 1) := by decide +kernel
theorem dX9_look_129 : decode cX9_look 129 = .ok (.ifCond .eq 31, 3) := by decide +kernel
theorem dX9_look_132 : decode cX9_look 132 = .ok (.aload_n 0, 1) := by decide +kernel
theorem dX9_look_133 : decode cX9_look 133 = .ok (.getfield 46, 3) := by decide +kernel
theorem dX9_look_136 : decode cX9_look 136 = .ok (.iload_n 3, 1) := by decide +kernel
theorem dX9_look_137 : decode cX9_look 137 = .ok (.iaload, 1) := by decide +kernel
theorem dX9_look_138 : decode cX9_look 138 = .ok (.aload_n 0, 1) := by decide +kernel
theorem dX9_look_139 : decode cX9_look 139 = .ok (.getfield 9, 3) := by decide +kernel
theorem dX9_look_142 : decode cX9_look 142 = .ok (.iload 4, 2) := by decide +kernel
theorem dX9_look_144 : decode cX9_look 144 = .ok (.iconst 1, 1) := by decide +kernel
theorem dX9_look_145 : decode cX9_look 145 = .ok (.iadd, 1) := by decide +kernel
theorem dX9_look_146 : decode cX9_look 146 = .ok (.iaload, 1) := by decide +kernel
theorem dX9_look_147 : decode cX9_look 147 = .ok (.iload_n 2, 1) := by decide +kernel
theorem dX9_look_148 : decode cX9_look 148 = .ok (.invokestatic 193, 3) := by decide +kernel
theorem dX9_look_151 : decode cX9_look 151 = .ok (.iload 5, 2) := by decide +kernel
theorem dX9_look_153 : decode cX9_look 153 = .ok (.if_icmp .ne 7, 3) := by decide +kernel
theorem dX9_look_156 : decode cX9_look 156 = .ok (.iconst 1, 1) := by decide +kernel
theorem dX9_look_157 : decode cX9_look 157 = .ok (.goto 4, 3) := by decide +kernel
theorem dX9_look_160 : decode cX9_look 160 = .ok (.iconst 0, 1) := by decide +kernel
theorem dX9_look_161 : decode cX9_look 161 = .ok (.bastore, 1) := by decide +kernel
theorem dX9_look_162 : decode cX9_look 162 = .ok (.iinc 3 1, 3) := by decide +kernel
theorem dX9_look_165 : decode cX9_look 165 = .ok (.goto (-95), 3) := by decide +kernel
theorem dX9_look_168 : decode cX9_look 168 = .ok (.iload_n 1, 1) := by decide +kernel
theorem dX9_look_169 : decode cX9_look 169 = .ok (.aload_n 0, 1) := by decide +kernel
theorem dX9_look_170 : decode cX9_look 170 = .ok (.getfield 49, 3) := by decide +kernel
theorem dX9_look_173 : decode cX9_look 173 = .ok (.iload_n 2, 1) := by decide +kernel
theorem dX9_look_174 : decode cX9_look 174 = .ok (.baload, 1) := by decide +kernel
theorem dX9_look_175 : decode cX9_look 175 = .ok (.ifCond .eq 7, 3) := by decide +kernel
theorem dX9_look_178 : decode cX9_look 178 = .ok (.iconst 1, 1) := by decide +kernel
theorem dX9_look_179 : decode cX9_look 179 = .ok (.goto 4, 3) := by decide +kernel
theorem dX9_look_182 : decode cX9_look 182 = .ok (.iconst 0, 1) := by decide +kernel
theorem dX9_look_183 : decode cX9_look 183 = .ok (.iadd, 1) := by decide +kernel
theorem dX9_look_184 : decode cX9_look 184 = .ok (.istore_n 1, 1) := by decide +kernel
theorem dX9_look_185 : decode cX9_look 185 = .ok (.iinc 2 1, 3) := by decide +kernel
theorem dX9_look_188 : decode cX9_look 188 = .ok (.goto (-134), 3) := by decide +kernel
theorem dX9_look_191 : decode cX9_look 191 = .ok (.iload_n 1, 1) := by decide +kernel
theorem dX9_look_192 : decode cX9_look 192 = .ok (.ireturn, 1) := by decide +kernel
theorem dX9_leastFit_0 : decode cX9_leastFit 0 = .ok (.aload_n 0, 1) := by decide +kernel
theorem dX9_leastFit_1 : decode cX9_leastFit 1 = .ok (.invokevirtual 202, 3) := by decide +kernel
theorem dX9_leastFit_4 : decode cX9_leastFit 4 = .ok (.pop, 1) := by decide +kernel
theorem dX9_leastFit_5 : decode cX9_leastFit 5 = .ok (.iconst 0, 1) := by decide +kernel
theorem dX9_leastFit_6 : decode cX9_leastFit 6 = .ok (.istore_n 1, 1) := by decide +kernel
theorem dX9_leastFit_7 : decode cX9_leastFit 7 = .ok (.iload_n 1, 1) := by decide +kernel
theorem dX9_leastFit_8 : decode cX9_leastFit 8 = .ok (.sipush 256, 3) := by decide +kernel
theorem dX9_leastFit_11 : decode cX9_leastFit 11 = .ok (.if_icmp .ge 20, 3) := by decide +kernel
theorem dX9_leastFit_14 : decode cX9_leastFit 14 = .ok (.aload_n 0, 1) := by decide +kernel
theorem dX9_leastFit_15 : decode cX9_leastFit 15 = .ok (.getfield 49, 3) := by decide +kernel
theorem dX9_leastFit_18 : decode cX9_leastFit 18 = .ok (.iload_n 1, 1) := by decide +kernel
theorem dX9_leastFit_19 : decode cX9_leastFit 19 = .ok (.baload, 1) := by decide +kernel
theorem dX9_leastFit_20 : decode cX9_leastFit 20 = .ok (.ifCond .eq 5, 3) := by decide +kernel
theorem dX9_leastFit_23 : decode cX9_leastFit 23 = .ok (.iload_n 1, 1) := by decide +kernel
theorem dX9_leastFit_24 : decode cX9_leastFit 24 = .ok (.ireturn, 1) := by decide +kernel
theorem dX9_leastFit_25 : decode cX9_leastFit 25 = .ok (.iinc 1 1, 3) := by decide +kernel
theorem dX9_leastFit_28 : decode cX9_leastFit 28 = .ok (.goto (-21), 3) := by decide +kernel
theorem dX9_leastFit_31 : decode cX9_leastFit 31 = .ok (.bipush (-5), 2) := by decide +kernel
theorem dX9_leastFit_33 : decode cX9_leastFit 33 = .ok (.ireturn, 1) := by decide +kernel
theorem dX9_sure_0 : decode cX9_sure 0 = .ok (.aload_n 0, 1) := by decide +kernel
theorem dX9_sure_1 : decode cX9_sure 1 = .ok (.invokevirtual 202, 3) := by decide +kernel
theorem dX9_sure_4 : decode cX9_sure 4 = .ok (.istore_n 2, 1) := by decide +kernel
theorem dX9_sure_5 : decode cX9_sure 5 = .ok (.sipush 255, 3) := by decide +kernel
theorem dX9_sure_8 : decode cX9_sure 8 = .ok (.istore_n 3, 1) := by decide +kernel
theorem dX9_sure_9 : decode cX9_sure 9 = .ok (.iconst 0, 1) := by decide +kernel
theorem dX9_sure_10 : decode cX9_sure 10 = .ok (.istore 4, 2) := by decide +kernel
theorem dX9_sure_12 : decode cX9_sure 12 = .ok (.iconst 0, 1) := by decide +kernel
theorem dX9_sure_13 : decode cX9_sure 13 = .ok (.istore 5, 2) := by decide +kernel
theorem dX9_sure_15 : decode cX9_sure 15 = .ok (.iload 5, 2) := by decide +kernel
theorem dX9_sure_17 : decode cX9_sure 17 = .ok (.sipush 256, 3) := by decide +kernel
theorem dX9_sure_20 : decode cX9_sure 20 = .ok (.if_icmp .ge 51, 3) := by decide +kernel
theorem dX9_sure_23 : decode cX9_sure 23 = .ok (.iload_n 3, 1) := by decide +kernel
theorem dX9_sure_24 : decode cX9_sure 24 = .ok (.aload_n 0, 1) := by decide +kernel
theorem dX9_sure_25 : decode cX9_sure 25 = .ok (.getfield 49, 3) := by decide +kernel
theorem dX9_sure_28 : decode cX9_sure 28 = .ok (.iload 5, 2) := by decide +kernel
theorem dX9_sure_30 : decode cX9_sure 30 = .ok (.baload, 1) := by decide +kernel
theorem dX9_sure_31 : decode cX9_sure 31 = .ok (.ifCond .eq 8, 3) := by decide +kernel
theorem dX9_sure_34 : decode cX9_sure 34 = .ok (.iload 5, 2) := by decide +kernel
theorem dX9_sure_36 : decode cX9_sure 36 = .ok (.goto 6, 3) := by decide +kernel
theorem dX9_sure_39 : decode cX9_sure 39 = .ok (.sipush 255, 3) := by decide +kernel
theorem dX9_sure_42 : decode cX9_sure 42 = .ok (.iand, 1) := by decide +kernel
theorem dX9_sure_43 : decode cX9_sure 43 = .ok (.istore_n 3, 1) := by decide +kernel
theorem dX9_sure_44 : decode cX9_sure 44 = .ok (.iload 4, 2) := by decide +kernel
theorem dX9_sure_46 : decode cX9_sure 46 = .ok (.aload_n 0, 1) := by decide +kernel
theorem dX9_sure_47 : decode cX9_sure 47 = .ok (.getfield 49, 3) := by decide +kernel
theorem dX9_sure_50 : decode cX9_sure 50 = .ok (.iload 5, 2) := by decide +kernel
theorem dX9_sure_52 : decode cX9_sure 52 = .ok (.baload, 1) := by decide +kernel
theorem dX9_sure_53 : decode cX9_sure 53 = .ok (.ifCond .eq 8, 3) := by decide +kernel
theorem dX9_sure_56 : decode cX9_sure 56 = .ok (.iload 5, 2) := by decide +kernel
theorem dX9_sure_58 : decode cX9_sure 58 = .ok (.goto 4, 3) := by decide +kernel
theorem dX9_sure_61 : decode cX9_sure 61 = .ok (.iconst 0, 1) := by decide +kernel
theorem dX9_sure_62 : decode cX9_sure 62 = .ok (.ior, 1) := by decide +kernel
theorem dX9_sure_63 : decode cX9_sure 63 = .ok (.istore 4, 2) := by decide +kernel
theorem dX9_sure_65 : decode cX9_sure 65 = .ok (.iinc 5 1, 3) := by decide +kernel
theorem dX9_sure_68 : decode cX9_sure 68 = .ok (.goto (-53), 3) := by decide +kernel
theorem dX9_sure_71 : decode cX9_sure 71 = .ok (.iload_n 1, 1) := by decide +kernel
theorem dX9_sure_72 : decode cX9_sure 72 = .ok (.ifCond .eq 15, 3) := by decide +kernel
theorem dX9_sure_75 : decode cX9_sure 75 = .ok (.iload_n 2, 1) := by decide +kernel
theorem dX9_sure_76 : decode cX9_sure 76 = .ok (.ifCond .ne 7, 3) := by decide +kernel
theorem dX9_sure_79 : decode cX9_sure 79 = .ok (.iconst 0, 1) := by decide +kernel
theorem dX9_sure_80 : decode cX9_sure 80 = .ok (.goto 15, 3) := by decide +kernel
theorem dX9_sure_83 : decode cX9_sure 83 = .ok (.iload_n 3, 1) := by decide +kernel
theorem dX9_sure_84 : decode cX9_sure 84 = .ok (.goto 11, 3) := by decide +kernel
theorem dX9_sure_87 : decode cX9_sure 87 = .ok (.sipush 255, 3) := by decide +kernel
theorem dX9_sure_90 : decode cX9_sure 90 = .ok (.iload 4, 2) := by decide +kernel
theorem dX9_sure_92 : decode cX9_sure 92 = .ok (.iconst (-1), 1) := by decide +kernel
theorem dX9_sure_93 : decode cX9_sure 93 = .ok (.ixor, 1) := by decide +kernel
theorem dX9_sure_94 : decode cX9_sure 94 = .ok (.iand, 1) := by decide +kernel
theorem dX9_sure_95 : decode cX9_sure 95 = .ok (.ireturn, 1) := by decide +kernel
theorem dX9_next_0 : decode cX9_next 0 = .ok (.aload_n 0, 1) := by decide +kernel
theorem dX9_next_1 : decode cX9_next 1 = .ok (.invokevirtual 202, 3) := by decide +kernel
theorem dX9_next_4 : decode cX9_next 4 = .ok (.istore_n 1, 1) := by decide +kernel
theorem dX9_next_5 : decode cX9_next 5 = .ok (.bipush (-5), 2) := by decide +kernel
theorem dX9_next_7 : decode cX9_next 7 = .ok (.istore_n 2, 1) := by decide +kernel
theorem dX9_next_8 : decode cX9_next 8 = .ok (.sipush 257, 3) := by decide +kernel
theorem dX9_next_11 : decode cX9_next 11 = .ok (.istore_n 3, 1) := by decide +kernel
theorem dX9_next_12 : decode cX9_next 12 = .ok (.iconst 0, 1) := by decide +kernel
theorem dX9_next_13 : decode cX9_next 13 = .ok (.istore 4, 2) := by decide +kernel
theorem dX9_next_15 : decode cX9_next 15 = .ok (.iload 4, 2) := by decide +kernel
theorem dX9_next_17 : decode cX9_next 17 = .ok (.aload_n 0, 1) := by decide +kernel
theorem dX9_next_18 : decode cX9_next 18 = .ok (.getfield 9, 3) := by decide +kernel
theorem dX9_next_21 : decode cX9_next 21 = .ok (.bipush 54, 2) := by decide +kernel
theorem dX9_next_23 : decode cX9_next 23 = .ok (.iaload, 1) := by decide +kernel
theorem dX9_next_24 : decode cX9_next 24 = .ok (.if_icmp .ge 176, 3) := by decide +kernel
theorem dX9_next_27 : decode cX9_next 27 = .ok (.iload_n 1, 1) := by decide +kernel
theorem dX9_next_28 : decode cX9_next 28 = .ok (.ifCond .le 172, 3) := by decide +kernel
theorem dX9_next_31 : decode cX9_next 31 = .ok (.iconst 0, 1) := by decide +kernel
theorem dX9_next_32 : decode cX9_next 32 = .ok (.istore 5, 2) := by decide +kernel
theorem dX9_next_34 : decode cX9_next 34 = .ok (.iload 5, 2) := by decide +kernel
theorem dX9_next_36 : decode cX9_next 36 = .ok (.bipush 8, 2) := by decide +kernel
theorem dX9_next_38 : decode cX9_next 38 = .ok (.if_icmp .ge 156, 3) := by decide +kernel
theorem dX9_next_41 : decode cX9_next 41 = .ok (.aload_n 0, 1) := by decide +kernel
theorem dX9_next_42 : decode cX9_next 42 = .ok (.iload 4, 2) := by decide +kernel
theorem dX9_next_44 : decode cX9_next 44 = .ok (.iload 5, 2) := by decide +kernel
theorem dX9_next_46 : decode cX9_next 46 = .ok (.invokevirtual 111, 3) := by decide +kernel
theorem dX9_next_49 : decode cX9_next 49 = .ok (.istore 6, 2) := by decide +kernel
theorem dX9_next_51 : decode cX9_next 51 = .ok (.aload_n 0, 1) := by decide +kernel
theorem dX9_next_52 : decode cX9_next 52 = .ok (.getfield 53, 3) := by decide +kernel
theorem dX9_next_55 : decode cX9_next 55 = .ok (.iconst 0, 1) := by decide +kernel
theorem dX9_next_56 : decode cX9_next 56 = .ok (.iconst 0, 1) := by decide +kernel
theorem dX9_next_57 : decode cX9_next 57 = .ok (.iastore, 1) := by decide +kernel
theorem dX9_next_58 : decode cX9_next 58 = .ok (.aload_n 0, 1) := by decide +kernel
theorem dX9_next_59 : decode cX9_next 59 = .ok (.getfield 53, 3) := by decide +kernel
theorem dX9_next_62 : decode cX9_next 62 = .ok (.iconst 1, 1) := by decide +kernel
theorem dX9_next_63 : decode cX9_next 63 = .ok (.iconst 0, 1) := by decide +kernel
theorem dX9_next_64 : decode cX9_next 64 = .ok (.iastore, 1) := by decide +kernel
theorem dX9_next_65 : decode cX9_next 65 = .ok (.aload_n 0, 1) := by decide +kernel
theorem dX9_next_66 : decode cX9_next 66 = .ok (.getfield 53, 3) := by decide +kernel
theorem dX9_next_69 : decode cX9_next 69 = .ok (.iconst 2, 1) := by decide +kernel
theorem dX9_next_70 : decode cX9_next 70 = .ok (.iconst 0, 1) := by decide +kernel
theorem dX9_next_71 : decode cX9_next 71 = .ok (.iastore, 1) := by decide +kernel
theorem dX9_next_72 : decode cX9_next 72 = .ok (.iconst 0, 1) := by decide +kernel
theorem dX9_next_73 : decode cX9_next 73 = .ok (.istore 7, 2) := by decide +kernel
theorem dX9_next_75 : decode cX9_next 75 = .ok (.iload 7, 2) := by decide +kernel
theorem dX9_next_77 : decode cX9_next 77 = .ok (.sipush 256, 3) := by decide +kernel
theorem dX9_next_80 : decode cX9_next 80 = .ok (.if_icmp .ge 56, 3) := by decide +kernel
theorem dX9_next_83 : decode cX9_next 83 = .ok (.iload 6, 2) := by decide +kernel
theorem dX9_next_85 : decode cX9_next 85 = .ok (.iload 5, 2) := by decide +kernel
theorem dX9_next_87 : decode cX9_next 87 = .ok (.iload 7, 2) := by decide +kernel
theorem dX9_next_89 : decode cX9_next 89 = .ok (.invokestatic 193, 3) := by decide +kernel
theorem dX9_next_92 : decode cX9_next 92 = .ok (.istore 8, 2) := by decide +kernel
theorem dX9_next_94 : decode cX9_next 94 = .ok (.aload_n 0, 1) := by decide +kernel
theorem dX9_next_95 : decode cX9_next 95 = .ok (.getfield 53, 3) := by decide +kernel
theorem dX9_next_98 : decode cX9_next 98 = .ok (.iload 8, 2) := by decide +kernel
theorem dX9_next_100 : decode cX9_next 100 = .ok (.bipush (-5), 2) := by decide +kernel
theorem dX9_next_102 : decode cX9_next 102 = .ok (.if_icmp .ne 7, 3) := by decide +kernel
theorem dX9_next_105 : decode cX9_next 105 = .ok (.iconst 2, 1) := by decide +kernel
theorem dX9_next_106 : decode cX9_next 106 = .ok (.goto 5, 3) := by decide +kernel
theorem dX9_next_109 : decode cX9_next 109 = .ok (.iload 8, 2) := by decide +kernel
theorem dX9_next_111 : decode cX9_next 111 = .ok (.dup2, 1) := by decide +kernel
theorem dX9_next_112 : decode cX9_next 112 = .ok (.iaload, 1) := by decide +kernel
theorem dX9_next_113 : decode cX9_next 113 = .ok (.aload_n 0, 1) := by decide +kernel
theorem dX9_next_114 : decode cX9_next 114 = .ok (.getfield 49, 3) := by decide +kernel
theorem dX9_next_117 : decode cX9_next 117 = .ok (.iload 7, 2) := by decide +kernel
theorem dX9_next_119 : decode cX9_next 119 = .ok (.baload, 1) := by decide +kernel
theorem dX9_next_120 : decode cX9_next 120 = .ok (.ifCond .eq 7, 3) := by decide +kernel
theorem dX9_next_123 : decode cX9_next 123 = .ok (.iconst 1, 1) := by decide +kernel
theorem dX9_next_124 : decode cX9_next 124 = .ok (.goto 4, 3) := by decide +kernel
theorem dX9_next_127 : decode cX9_next 127 = .ok (.iconst 0, 1) := by decide +kernel
theorem dX9_next_128 : decode cX9_next 128 = .ok (.iadd, 1) := by decide +kernel
theorem dX9_next_129 : decode cX9_next 129 = .ok (.iastore, 1) := by decide +kernel
theorem dX9_next_130 : decode cX9_next 130 = .ok (.iinc 7 1, 3) := by decide +kernel
theorem dX9_next_133 : decode cX9_next 133 = .ok (.goto (-58), 3) := by decide +kernel
theorem dX9_next_136 : decode cX9_next 136 = .ok (.aload_n 0, 1) := by decide +kernel
theorem dX9_next_137 : decode cX9_next 137 = .ok (.getfield 53, 3) := by decide +kernel
theorem dX9_next_140 : decode cX9_next 140 = .ok (.iconst 0, 1) := by decide +kernel
theorem dX9_next_141 : decode cX9_next 141 = .ok (.iaload, 1) := by decide +kernel
theorem dX9_next_142 : decode cX9_next 142 = .ok (.aload_n 0, 1) := by decide +kernel
theorem dX9_next_143 : decode cX9_next 143 = .ok (.getfield 53, 3) := by decide +kernel
theorem dX9_next_146 : decode cX9_next 146 = .ok (.iconst 1, 1) := by decide +kernel
theorem dX9_next_147 : decode cX9_next 147 = .ok (.iaload, 1) := by decide +kernel
theorem dX9_next_148 : decode cX9_next 148 = .ok (.aload_n 0, 1) := by decide +kernel
theorem dX9_next_149 : decode cX9_next 149 = .ok (.getfield 53, 3) := by decide +kernel
theorem dX9_next_152 : decode cX9_next 152 = .ok (.iconst 2, 1) := by decide +kernel
theorem dX9_next_153 : decode cX9_next 153 = .ok (.iaload, 1) := by decide +kernel
theorem dX9_next_154 : decode cX9_next 154 = .ok (.invokestatic 125, 3) := by decide +kernel
theorem dX9_next_157 : decode cX9_next 157 = .ok (.invokestatic 125, 3) := by decide +kernel
theorem dX9_next_160 : decode cX9_next 160 = .ok (.istore 7, 2) := by decide +kernel
theorem dX9_next_162 : decode cX9_next 162 = .ok (.iload 7, 2) := by decide +kernel
theorem dX9_next_164 : decode cX9_next 164 = .ok (.iload_n 3, 1) := by decide +kernel
theorem dX9_next_165 : decode cX9_next 165 = .ok (.if_icmp .ge 14, 3) := by decide +kernel
theorem dX9_next_168 : decode cX9_next 168 = .ok (.bipush 10, 2) := by decide +kernel
theorem dX9_next_170 : decode cX9_next 170 = .ok (.iload 4, 2) := by decide +kernel
theorem dX9_next_172 : decode cX9_next 172 = .ok (.imul, 1) := by decide +kernel
theorem dX9_next_173 : decode cX9_next 173 = .ok (.iload 5, 2) := by decide +kernel
theorem dX9_next_175 : decode cX9_next 175 = .ok (.iadd, 1) := by decide +kernel
theorem dX9_next_176 : decode cX9_next 176 = .ok (.goto 4, 3) := by decide +kernel
theorem dX9_next_179 : decode cX9_next 179 = .ok (.iload_n 2, 1) := by decide +kernel
theorem dX9_next_180 : decode cX9_next 180 = .ok (.istore_n 2, 1) := by decide +kernel
theorem dX9_next_181 : decode cX9_next 181 = .ok (.iload 7, 2) := by decide +kernel
theorem dX9_next_183 : decode cX9_next 183 = .ok (.iload_n 3, 1) := by decide +kernel
theorem dX9_next_184 : decode cX9_next 184 = .ok (.invokestatic 120, 3) := by decide +kernel
theorem dX9_next_187 : decode cX9_next 187 = .ok (.istore_n 3, 1) := by decide +kernel
theorem dX9_next_188 : decode cX9_next 188 = .ok (.iinc 5 1, 3) := by decide +kernel
theorem dX9_next_191 : decode cX9_next 191 = .ok (.goto (-157), 3) := by decide +kernel
theorem dX9_next_194 : decode cX9_next 194 = .ok (.iinc 4 1, 3) := by decide +kernel
theorem dX9_next_197 : decode cX9_next 197 = .ok (.goto (-182), 3) := by decide +kernel
theorem dX9_next_200 : decode cX9_next 200 = .ok (.iload_n 2, 1) := by decide +kernel
theorem dX9_next_201 : decode cX9_next 201 = .ok (.ireturn, 1) := by decide +kernel
theorem dX9_found_0 : decode cX9_found 0 = .ok (.iconst 0, 1) := by decide +kernel
theorem dX9_found_1 : decode cX9_found 1 = .ok (.istore_n 2, 1) := by decide +kernel
theorem dX9_found_2 : decode cX9_found 2 = .ok (.iconst 0, 1) := by decide +kernel
theorem dX9_found_3 : decode cX9_found 3 = .ok (.istore_n 3, 1) := by decide +kernel
theorem dX9_found_4 : decode cX9_found 4 = .ok (.iload_n 3, 1) := by decide +kernel
theorem dX9_found_5 : decode cX9_found 5 = .ok (.aload_n 0, 1) := by decide +kernel
theorem dX9_found_6 : decode cX9_found 6 = .ok (.getfield 9, 3) := by decide +kernel
theorem dX9_found_9 : decode cX9_found 9 = .ok (.bipush 54, 2) := by decide +kernel
theorem dX9_found_11 : decode cX9_found 11 = .ok (.iaload, 1) := by decide +kernel
theorem dX9_found_12 : decode cX9_found 12 = .ok (.if_icmp .ge 66, 3) := by decide +kernel
theorem dX9_found_15 : decode cX9_found 15 = .ok (.aload_n 0, 1) := by decide +kernel
theorem dX9_found_16 : decode cX9_found 16 = .ok (.iload_n 3, 1) := by decide +kernel
theorem dX9_found_17 : decode cX9_found 17 = .ok (.iload_n 1, 1) := by decide +kernel
theorem dX9_found_18 : decode cX9_found 18 = .ok (.invokevirtual 111, 3) := by decide +kernel
theorem dX9_found_21 : decode cX9_found 21 = .ok (.istore 4, 2) := by decide +kernel
theorem dX9_found_23 : decode cX9_found 23 = .ok (.iload 4, 2) := by decide +kernel
theorem dX9_found_25 : decode cX9_found 25 = .ok (.iload_n 1, 1) := by decide +kernel
theorem dX9_found_26 : decode cX9_found 26 = .ok (.aload_n 0, 1) := by decide +kernel
theorem dX9_found_27 : decode cX9_found 27 = .ok (.getfield 9, 3) := by decide +kernel
theorem dX9_found_30 : decode cX9_found 30 = .ok (.bipush 55, 2) := by decide +kernel
theorem dX9_found_32 : decode cX9_found 32 = .ok (.iaload, 1) := by decide +kernel
theorem dX9_found_33 : decode cX9_found 33 = .ok (.invokestatic 193, 3) := by decide +kernel
theorem dX9_found_36 : decode cX9_found 36 = .ok (.istore 5, 2) := by decide +kernel
theorem dX9_found_38 : decode cX9_found 38 = .ok (.iload_n 2, 1) := by decide +kernel
theorem dX9_found_39 : decode cX9_found 39 = .ok (.iload 5, 2) := by decide +kernel
theorem dX9_found_41 : decode cX9_found 41 = .ok (.bipush (-5), 2) := by decide +kernel
theorem dX9_found_43 : decode cX9_found 43 = .ok (.if_icmp .ne 7, 3) := by decide +kernel
theorem dX9_found_46 : decode cX9_found 46 = .ok (.iconst 0, 1) := by decide +kernel
theorem dX9_found_47 : decode cX9_found 47 = .ok (.goto 23, 3) := by decide +kernel
theorem dX9_found_50 : decode cX9_found 50 = .ok (.iload 5, 2) := by decide +kernel
theorem dX9_found_52 : decode cX9_found 52 = .ok (.iconst 1, 1) := by decide +kernel
theorem dX9_found_53 : decode cX9_found 53 = .ok (.if_icmp .ne 11, 3) := by decide +kernel
theorem dX9_found_56 : decode cX9_found 56 = .ok (.iload 4, 2) := by decide +kernel
theorem dX9_found_58 : decode cX9_found 58 = .ok (.invokestatic 205, 3) := by decide +kernel
theorem dX9_found_61 : decode cX9_found 61 = .ok (.goto 9, 3) := by decide +kernel
theorem dX9_found_64 : decode cX9_found 64 = .ok (.iload 4, 2) := by decide +kernel
theorem dX9_found_66 : decode cX9_found 66 = .ok (.invokestatic 205, 3) := by decide +kernel
theorem dX9_found_69 : decode cX9_found 69 = .ok (.ineg, 1) := by decide +kernel
theorem dX9_found_70 : decode cX9_found 70 = .ok (.iadd, 1) := by decide +kernel
theorem dX9_found_71 : decode cX9_found 71 = .ok (.istore_n 2, 1) := by decide +kernel
theorem dX9_found_72 : decode cX9_found 72 = .ok (.iinc 3 1, 3) := by decide +kernel
theorem dX9_found_75 : decode cX9_found 75 = .ok (.goto (-71), 3) := by decide +kernel
theorem dX9_found_78 : decode cX9_found 78 = .ok (.iload_n 2, 1) := by decide +kernel
theorem dX9_found_79 : decode cX9_found 79 = .ok (.ireturn, 1) := by decide +kernel
theorem dX9_told_0 : decode cX9_told 0 = .ok (.iload_n 1, 1) := by decide +kernel
theorem dX9_told_1 : decode cX9_told 1 = .ok (.tableswitch 95 0 7 #[47, 55, 60, 68, 73, 78, 84, 90], 47) := by decide +kernel
theorem dX9_told_48 : decode cX9_told 48 = .ok (.aload_n 0, 1) := by decide +kernel
theorem dX9_told_49 : decode cX9_told 49 = .ok (.getfield 9, 3) := by decide +kernel
theorem dX9_told_52 : decode cX9_told 52 = .ok (.bipush 56, 2) := by decide +kernel
theorem dX9_told_54 : decode cX9_told 54 = .ok (.iaload, 1) := by decide +kernel
theorem dX9_told_55 : decode cX9_told 55 = .ok (.ireturn, 1) := by decide +kernel
theorem dX9_told_56 : decode cX9_told 56 = .ok (.aload_n 0, 1) := by decide +kernel
theorem dX9_told_57 : decode cX9_told 57 = .ok (.invokevirtual 196, 3) := by decide +kernel
theorem dX9_told_60 : decode cX9_told 60 = .ok (.ireturn, 1) := by decide +kernel
theorem dX9_told_61 : decode cX9_told 61 = .ok (.aload_n 0, 1) := by decide +kernel
theorem dX9_told_62 : decode cX9_told 62 = .ok (.getfield 9, 3) := by decide +kernel
theorem dX9_told_65 : decode cX9_told 65 = .ok (.bipush 55, 2) := by decide +kernel
theorem dX9_told_67 : decode cX9_told 67 = .ok (.iaload, 1) := by decide +kernel
theorem dX9_told_68 : decode cX9_told 68 = .ok (.ireturn, 1) := by decide +kernel
theorem dX9_told_69 : decode cX9_told 69 = .ok (.aload_n 0, 1) := by decide +kernel
theorem dX9_told_70 : decode cX9_told 70 = .ok (.invokevirtual 202, 3) := by decide +kernel
theorem dX9_told_73 : decode cX9_told 73 = .ok (.ireturn, 1) := by decide +kernel
theorem dX9_told_74 : decode cX9_told 74 = .ok (.aload_n 0, 1) := by decide +kernel
theorem dX9_told_75 : decode cX9_told 75 = .ok (.invokevirtual 209, 3) := by decide +kernel
theorem dX9_told_78 : decode cX9_told 78 = .ok (.ireturn, 1) := by decide +kernel
theorem dX9_told_79 : decode cX9_told 79 = .ok (.aload_n 0, 1) := by decide +kernel
theorem dX9_told_80 : decode cX9_told 80 = .ok (.iconst 1, 1) := by decide +kernel
theorem dX9_told_81 : decode cX9_told 81 = .ok (.invokevirtual 212, 3) := by decide +kernel
theorem dX9_told_84 : decode cX9_told 84 = .ok (.ireturn, 1) := by decide +kernel
theorem dX9_told_85 : decode cX9_told 85 = .ok (.aload_n 0, 1) := by decide +kernel
theorem dX9_told_86 : decode cX9_told 86 = .ok (.iconst 0, 1) := by decide +kernel
theorem dX9_told_87 : decode cX9_told 87 = .ok (.invokevirtual 212, 3) := by decide +kernel
theorem dX9_told_90 : decode cX9_told 90 = .ok (.ireturn, 1) := by decide +kernel
theorem dX9_told_91 : decode cX9_told 91 = .ok (.aload_n 0, 1) := by decide +kernel
theorem dX9_told_92 : decode cX9_told 92 = .ok (.invokevirtual 216, 3) := by decide +kernel
theorem dX9_told_95 : decode cX9_told 95 = .ok (.ireturn, 1) := by decide +kernel
theorem dX9_told_96 : decode cX9_told 96 = .ok (.iload_n 1, 1) := by decide +kernel
theorem dX9_told_97 : decode cX9_told 97 = .ok (.bipush 10, 2) := by decide +kernel
theorem dX9_told_99 : decode cX9_told 99 = .ok (.isub, 1) := by decide +kernel
theorem dX9_told_100 : decode cX9_told 100 = .ok (.invokestatic 108, 3) := by decide +kernel
theorem dX9_told_103 : decode cX9_told 103 = .ok (.ifCond .eq 14, 3) := by decide +kernel
theorem dX9_told_106 : decode cX9_told 106 = .ok (.aload_n 0, 1) := by decide +kernel
theorem dX9_told_107 : decode cX9_told 107 = .ok (.iload_n 1, 1) := by decide +kernel
theorem dX9_told_108 : decode cX9_told 108 = .ok (.bipush 10, 2) := by decide +kernel
theorem dX9_told_110 : decode cX9_told 110 = .ok (.isub, 1) := by decide +kernel
theorem dX9_told_111 : decode cX9_told 111 = .ok (.invokevirtual 219, 3) := by decide +kernel
theorem dX9_told_114 : decode cX9_told 114 = .ok (.goto 6, 3) := by decide +kernel
theorem dX9_told_117 : decode cX9_told 117 = .ok (.sipush (-10001), 3) := by decide +kernel
theorem dX9_told_120 : decode cX9_told 120 = .ok (.ireturn, 1) := by decide +kernel
theorem dX9_pass_0 : decode cX9_pass 0 = .ok (.iload_n 1, 1) := by decide +kernel
theorem dX9_pass_1 : decode cX9_pass 1 = .ok (.iconst 0, 1) := by decide +kernel
theorem dX9_pass_2 : decode cX9_pass 2 = .ok (.bipush 60, 2) := by decide +kernel
theorem dX9_pass_4 : decode cX9_pass 4 = .ok (.invokestatic 89, 3) := by decide +kernel
theorem dX9_pass_7 : decode cX9_pass 7 = .ok (.ifCond .ne 6, 3) := by decide +kernel
theorem dX9_pass_10 : decode cX9_pass 10 = .ok (.bipush (-2), 2) := by decide +kernel
theorem dX9_pass_12 : decode cX9_pass 12 = .ok (.ireturn, 1) := by decide +kernel
theorem dX9_pass_13 : decode cX9_pass 13 = .ok (.aload_n 0, 1) := by decide +kernel
theorem dX9_pass_14 : decode cX9_pass 14 = .ok (.getfield 9, 3) := by decide +kernel
theorem dX9_pass_17 : decode cX9_pass 17 = .ok (.bipush 56, 2) := by decide +kernel
theorem dX9_pass_19 : decode cX9_pass 19 = .ok (.iaload, 1) := by decide +kernel
theorem dX9_pass_20 : decode cX9_pass 20 = .ok (.iload_n 1, 1) := by decide +kernel
theorem dX9_pass_21 : decode cX9_pass 21 = .ok (.iadd, 1) := by decide +kernel
theorem dX9_pass_22 : decode cX9_pass 22 = .ok (.sipush 9999, 3) := by decide +kernel
theorem dX9_pass_25 : decode cX9_pass 25 = .ok (.if_icmp .le 6, 3) := by decide +kernel
theorem dX9_pass_28 : decode cX9_pass 28 = .ok (.bipush (-3), 2) := by decide +kernel
theorem dX9_pass_30 : decode cX9_pass 30 = .ok (.ireturn, 1) := by decide +kernel
theorem dX9_pass_31 : decode cX9_pass 31 = .ok (.aload_n 0, 1) := by decide +kernel
theorem dX9_pass_32 : decode cX9_pass 32 = .ok (.iload_n 1, 1) := by decide +kernel
theorem dX9_pass_33 : decode cX9_pass 33 = .ok (.invokevirtual 222, 3) := by decide +kernel
theorem dX9_pass_36 : decode cX9_pass 36 = .ok (.aload_n 0, 1) := by decide +kernel
theorem dX9_pass_37 : decode cX9_pass 37 = .ok (.getfield 9, 3) := by decide +kernel
theorem dX9_pass_40 : decode cX9_pass 40 = .ok (.bipush 56, 2) := by decide +kernel
theorem dX9_pass_42 : decode cX9_pass 42 = .ok (.iaload, 1) := by decide +kernel
theorem dX9_pass_43 : decode cX9_pass 43 = .ok (.ireturn, 1) := by decide +kernel
theorem dX9_on_0 : decode cX9_on 0 = .ok (.iload_n 2, 1) := by decide +kernel
theorem dX9_on_1 : decode cX9_on 1 = .ok (.ifCond .eq 29, 3) := by decide +kernel
theorem dX9_on_4 : decode cX9_on 4 = .ok (.aload_n 0, 1) := by decide +kernel
theorem dX9_on_5 : decode cX9_on 5 = .ok (.iload_n 2, 1) := by decide +kernel
theorem dX9_on_6 : decode cX9_on 6 = .ok (.bipush 10, 2) := by decide +kernel
theorem dX9_on_8 : decode cX9_on 8 = .ok (.isub, 1) := by decide +kernel
theorem dX9_on_9 : decode cX9_on 9 = .ok (.invokevirtual 101, 3) := by decide +kernel
theorem dX9_on_12 : decode cX9_on 12 = .ok (.ifCond .ne 18, 3) := by decide +kernel
theorem dX9_on_15 : decode cX9_on 15 = .ok (.aload_n 0, 1) := by decide +kernel
theorem dX9_on_16 : decode cX9_on 16 = .ok (.iload_n 2, 1) := by decide +kernel
theorem dX9_on_17 : decode cX9_on 17 = .ok (.bipush 20, 2) := by decide +kernel
theorem dX9_on_19 : decode cX9_on 19 = .ok (.isub, 1) := by decide +kernel
theorem dX9_on_20 : decode cX9_on 20 = .ok (.invokevirtual 101, 3) := by decide +kernel
theorem dX9_on_23 : decode cX9_on 23 = .ok (.ifCond .ne 7, 3) := by decide +kernel
theorem dX9_on_26 : decode cX9_on 26 = .ok (.sipush (-10001), 3) := by decide +kernel
theorem dX9_on_29 : decode cX9_on 29 = .ok (.ireturn, 1) := by decide +kernel
theorem dX9_on_30 : decode cX9_on 30 = .ok (.iload_n 1, 1) := by decide +kernel
theorem dX9_on_31 : decode cX9_on 31 = .ok (.iconst 0, 1) := by decide +kernel
theorem dX9_on_32 : decode cX9_on 32 = .ok (.bipush 60, 2) := by decide +kernel
theorem dX9_on_34 : decode cX9_on 34 = .ok (.invokestatic 89, 3) := by decide +kernel
theorem dX9_on_37 : decode cX9_on 37 = .ok (.ifCond .ne 6, 3) := by decide +kernel
theorem dX9_on_40 : decode cX9_on 40 = .ok (.bipush (-2), 2) := by decide +kernel
theorem dX9_on_42 : decode cX9_on 42 = .ok (.ireturn, 1) := by decide +kernel
theorem dX9_on_43 : decode cX9_on 43 = .ok (.aload_n 0, 1) := by decide +kernel
theorem dX9_on_44 : decode cX9_on 44 = .ok (.getfield 9, 3) := by decide +kernel
theorem dX9_on_47 : decode cX9_on 47 = .ok (.aload_n 0, 1) := by decide +kernel
theorem dX9_on_48 : decode cX9_on 48 = .ok (.getfield 15, 3) := by decide +kernel
theorem dX9_on_51 : decode cX9_on 51 = .ok (.invokestatic 85, 3) := by decide +kernel
theorem dX9_on_54 : decode cX9_on 54 = .ok (.aload_n 0, 1) := by decide +kernel
theorem dX9_on_55 : decode cX9_on 55 = .ok (.iload_n 1, 1) := by decide +kernel
theorem dX9_on_56 : decode cX9_on 56 = .ok (.invokevirtual 222, 3) := by decide +kernel
theorem dX9_on_59 : decode cX9_on 59 = .ok (.iload_n 2, 1) := by decide +kernel
theorem dX9_on_60 : decode cX9_on 60 = .ok (.ifCond .ne 11, 3) := by decide +kernel
theorem dX9_on_63 : decode cX9_on 63 = .ok (.aload_n 0, 1) := by decide +kernel
theorem dX9_on_64 : decode cX9_on 64 = .ok (.iconst 2, 1) := by decide +kernel
theorem dX9_on_65 : decode cX9_on 65 = .ok (.invokevirtual 225, 3) := by decide +kernel
theorem dX9_on_68 : decode cX9_on 68 = .ok (.goto 37, 3) := by decide +kernel
theorem dX9_on_71 : decode cX9_on 71 = .ok (.iload_n 2, 1) := by decide +kernel
theorem dX9_on_72 : decode cX9_on 72 = .ok (.bipush 20, 2) := by decide +kernel
theorem dX9_on_74 : decode cX9_on 74 = .ok (.if_icmp .ge 15, 3) := by decide +kernel
theorem dX9_on_77 : decode cX9_on 77 = .ok (.aload_n 0, 1) := by decide +kernel
theorem dX9_on_78 : decode cX9_on 78 = .ok (.iload_n 2, 1) := by decide +kernel
theorem dX9_on_79 : decode cX9_on 79 = .ok (.bipush 10, 2) := by decide +kernel
theorem dX9_on_81 : decode cX9_on 81 = .ok (.isub, 1) := by decide +kernel
theorem dX9_on_82 : decode cX9_on 82 = .ok (.iconst 2, 1) := by decide +kernel
theorem dX9_on_83 : decode cX9_on 83 = .ok (.invokevirtual 93, 3) := by decide +kernel
theorem dX9_on_86 : decode cX9_on 86 = .ok (.goto 19, 3) := by decide +kernel
theorem dX9_on_89 : decode cX9_on 89 = .ok (.aload_n 0, 1) := by decide +kernel
theorem dX9_on_90 : decode cX9_on 90 = .ok (.iload_n 2, 1) := by decide +kernel
theorem dX9_on_91 : decode cX9_on 91 = .ok (.bipush 20, 2) := by decide +kernel
theorem dX9_on_93 : decode cX9_on 93 = .ok (.isub, 1) := by decide +kernel
theorem dX9_on_94 : decode cX9_on 94 = .ok (.iconst 0, 1) := by decide +kernel
theorem dX9_on_95 : decode cX9_on 95 = .ok (.aload_n 0, 1) := by decide +kernel
theorem dX9_on_96 : decode cX9_on 96 = .ok (.getfield 9, 3) := by decide +kernel
theorem dX9_on_99 : decode cX9_on 99 = .ok (.bipush 55, 2) := by decide +kernel
theorem dX9_on_101 : decode cX9_on 101 = .ok (.iaload, 1) := by decide +kernel
theorem dX9_on_102 : decode cX9_on 102 = .ok (.invokevirtual 114, 3) := by decide +kernel
theorem dX9_on_105 : decode cX9_on 105 = .ok (.istore_n 3, 1) := by decide +kernel
theorem dX9_on_106 : decode cX9_on 106 = .ok (.aload_n 0, 1) := by decide +kernel
theorem dX9_on_107 : decode cX9_on 107 = .ok (.getfield 15, 3) := by decide +kernel
theorem dX9_on_110 : decode cX9_on 110 = .ok (.aload_n 0, 1) := by decide +kernel
theorem dX9_on_111 : decode cX9_on 111 = .ok (.getfield 9, 3) := by decide +kernel
theorem dX9_on_114 : decode cX9_on 114 = .ok (.invokestatic 85, 3) := by decide +kernel
theorem dX9_on_117 : decode cX9_on 117 = .ok (.iload_n 3, 1) := by decide +kernel
theorem dX9_on_118 : decode cX9_on 118 = .ok (.ireturn, 1) := by decide +kernel
theorem dX9_ask_0 : decode cX9_ask 0 = .ok (.iconst 0, 1) := by decide +kernel
theorem dX9_ask_1 : decode cX9_ask 1 = .ok (.istore_n 1, 1) := by decide +kernel
theorem dX9_ask_2 : decode cX9_ask 2 = .ok (.iload_n 1, 1) := by decide +kernel
theorem dX9_ask_3 : decode cX9_ask 3 = .ok (.aload_n 0, 1) := by decide +kernel
theorem dX9_ask_4 : decode cX9_ask 4 = .ok (.getfield 9, 3) := by decide +kernel
theorem dX9_ask_7 : decode cX9_ask 7 = .ok (.bipush 54, 2) := by decide +kernel
theorem dX9_ask_9 : decode cX9_ask 9 = .ok (.iaload, 1) := by decide +kernel
theorem dX9_ask_10 : decode cX9_ask 10 = .ok (.if_icmp .ge 64, 3) := by decide +kernel
theorem dX9_ask_13 : decode cX9_ask 13 = .ok (.aload_n 0, 1) := by decide +kernel
theorem dX9_ask_14 : decode cX9_ask 14 = .ok (.getfield 56, 3) := by decide +kernel
theorem dX9_ask_17 : decode cX9_ask 17 = .ok (.iload_n 1, 1) := by decide +kernel
theorem dX9_ask_18 : decode cX9_ask 18 = .ok (.iconst 0, 1) := by decide +kernel
theorem dX9_ask_19 : decode cX9_ask 19 = .ok (.iastore, 1) := by decide +kernel
theorem dX9_ask_20 : decode cX9_ask 20 = .ok (.iconst 0, 1) := by decide +kernel
theorem dX9_ask_21 : decode cX9_ask 21 = .ok (.istore_n 2, 1) := by decide +kernel
theorem dX9_ask_22 : decode cX9_ask 22 = .ok (.iload_n 2, 1) := by decide +kernel
theorem dX9_ask_23 : decode cX9_ask 23 = .ok (.bipush 8, 2) := by decide +kernel
theorem dX9_ask_25 : decode cX9_ask 25 = .ok (.if_icmp .ge 43, 3) := by decide +kernel
theorem dX9_ask_28 : decode cX9_ask 28 = .ok (.aload_n 0, 1) := by decide +kernel
theorem dX9_ask_29 : decode cX9_ask 29 = .ok (.getfield 56, 3) := by decide +kernel
theorem dX9_ask_32 : decode cX9_ask 32 = .ok (.iload_n 1, 1) := by decide +kernel
theorem dX9_ask_33 : decode cX9_ask 33 = .ok (.dup2, 1) := by decide +kernel
theorem dX9_ask_34 : decode cX9_ask 34 = .ok (.iaload, 1) := by decide +kernel
theorem dX9_ask_35 : decode cX9_ask 35 = .ok (.aload_n 0, 1) := by decide +kernel
theorem dX9_ask_36 : decode cX9_ask 36 = .ok (.iload_n 1, 1) := by decide +kernel
theorem dX9_ask_37 : decode cX9_ask 37 = .ok (.iload_n 2, 1) := by decide +kernel
theorem dX9_ask_38 : decode cX9_ask 38 = .ok (.aload_n 0, 1) := by decide +kernel
theorem dX9_ask_39 : decode cX9_ask 39 = .ok (.getfield 9, 3) := by decide +kernel
theorem dX9_ask_42 : decode cX9_ask 42 = .ok (.bipush 55, 2) := by decide +kernel
theorem dX9_ask_44 : decode cX9_ask 44 = .ok (.iaload, 1) := by decide +kernel
theorem dX9_ask_45 : decode cX9_ask 45 = .ok (.invokevirtual 114, 3) := by decide +kernel
theorem dX9_ask_48 : decode cX9_ask 48 = .ok (.bipush (-5), 2) := by decide +kernel
theorem dX9_ask_50 : decode cX9_ask 50 = .ok (.if_icmp .ne 7, 3) := by decide +kernel
theorem dX9_ask_53 : decode cX9_ask 53 = .ok (.iconst 0, 1) := by decide +kernel
theorem dX9_ask_54 : decode cX9_ask 54 = .ok (.goto 6, 3) := by decide +kernel
theorem dX9_ask_57 : decode cX9_ask 57 = .ok (.iconst 1, 1) := by decide +kernel
theorem dX9_ask_58 : decode cX9_ask 58 = .ok (.iload_n 2, 1) := by decide +kernel
theorem dX9_ask_59 : decode cX9_ask 59 = .ok (.ishl, 1) := by decide +kernel
theorem dX9_ask_60 : decode cX9_ask 60 = .ok (.ior, 1) := by decide +kernel
theorem dX9_ask_61 : decode cX9_ask 61 = .ok (.iastore, 1) := by decide +kernel
theorem dX9_ask_62 : decode cX9_ask 62 = .ok (.iinc 2 1, 3) := by decide +kernel
theorem dX9_ask_65 : decode cX9_ask 65 = .ok (.goto (-43), 3) := by decide +kernel
theorem dX9_ask_68 : decode cX9_ask 68 = .ok (.iinc 1 1, 3) := by decide +kernel
theorem dX9_ask_71 : decode cX9_ask 71 = .ok (.goto (-69), 3) := by decide +kernel
theorem dX9_ask_74 : decode cX9_ask 74 = .ok (.return_, 1) := by decide +kernel
theorem dX9_enough_0 : decode cX9_enough 0 = .ok (.bipush (-5), 2) := by decide +kernel
theorem dX9_enough_2 : decode cX9_enough 2 = .ok (.istore_n 2, 1) := by decide +kernel
theorem dX9_enough_3 : decode cX9_enough 3 = .ok (.iconst 0, 1) := by decide +kernel
theorem dX9_enough_4 : decode cX9_enough 4 = .ok (.istore_n 3, 1) := by decide +kernel
theorem dX9_enough_5 : decode cX9_enough 5 = .ok (.iload_n 3, 1) := by decide +kernel
theorem dX9_enough_6 : decode cX9_enough 6 = .ok (.iconst 1, 1) := by decide +kernel
theorem dX9_enough_7 : decode cX9_enough 7 = .ok (.aload_n 0, 1) := by decide +kernel
theorem dX9_enough_8 : decode cX9_enough 8 = .ok (.getfield 9, 3) := by decide +kernel
theorem dX9_enough_11 : decode cX9_enough 11 = .ok (.bipush 54, 2) := by decide +kernel
theorem dX9_enough_13 : decode cX9_enough 13 = .ok (.iaload, 1) := by decide +kernel
theorem dX9_enough_14 : decode cX9_enough 14 = .ok (.ishl, 1) := by decide +kernel
theorem dX9_enough_15 : decode cX9_enough 15 = .ok (.if_icmp .ge 91, 3) := by decide +kernel
theorem dX9_enough_18 : decode cX9_enough 18 = .ok (.iconst 0, 1) := by decide +kernel
theorem dX9_enough_19 : decode cX9_enough 19 = .ok (.istore 4, 2) := by decide +kernel
theorem dX9_enough_21 : decode cX9_enough 21 = .ok (.iconst 0, 1) := by decide +kernel
theorem dX9_enough_22 : decode cX9_enough 22 = .ok (.istore 5, 2) := by decide +kernel
theorem dX9_enough_24 : decode cX9_enough 24 = .ok (.iload 5, 2) := by decide +kernel
theorem dX9_enough_26 : decode cX9_enough 26 = .ok (.aload_n 0, 1) := by decide +kernel
theorem dX9_enough_27 : decode cX9_enough 27 = .ok (.getfield 9, 3) := by decide +kernel
theorem dX9_enough_30 : decode cX9_enough 30 = .ok (.bipush 54, 2) := by decide +kernel
theorem dX9_enough_32 : decode cX9_enough 32 = .ok (.iaload, 1) := by decide +kernel
theorem dX9_enough_33 : decode cX9_enough 33 = .ok (.if_icmp .ge 35, 3) := by decide +kernel
theorem dX9_enough_36 : decode cX9_enough 36 = .ok (.iload 4, 2) := by decide +kernel
theorem dX9_enough_38 : decode cX9_enough 38 = .ok (.iload_n 3, 1) := by decide +kernel
theorem dX9_enough_39 : decode cX9_enough 39 = .ok (.iload 5, 2) := by decide +kernel
theorem dX9_enough_41 : decode cX9_enough 41 = .ok (.ishr, 1) := by decide +kernel
theorem dX9_enough_42 : decode cX9_enough 42 = .ok (.iconst 1, 1) := by decide +kernel
theorem dX9_enough_43 : decode cX9_enough 43 = .ok (.iand, 1) := by decide +kernel
theorem dX9_enough_44 : decode cX9_enough 44 = .ok (.iconst 1, 1) := by decide +kernel
theorem dX9_enough_45 : decode cX9_enough 45 = .ok (.if_icmp .ne 13, 3) := by decide +kernel
theorem dX9_enough_48 : decode cX9_enough 48 = .ok (.aload_n 0, 1) := by decide +kernel
theorem dX9_enough_49 : decode cX9_enough 49 = .ok (.getfield 56, 3) := by decide +kernel
theorem dX9_enough_52 : decode cX9_enough 52 = .ok (.iload 5, 2) := by decide +kernel
theorem dX9_enough_54 : decode cX9_enough 54 = .ok (.iaload, 1) := by decide +kernel
theorem dX9_enough_55 : decode cX9_enough 55 = .ok (.goto 4, 3) := by decide +kernel
theorem dX9_enough_58 : decode cX9_enough 58 = .ok (.iconst 0, 1) := by decide +kernel
theorem dX9_enough_59 : decode cX9_enough 59 = .ok (.ior, 1) := by decide +kernel
theorem dX9_enough_60 : decode cX9_enough 60 = .ok (.istore 4, 2) := by decide +kernel
theorem dX9_enough_62 : decode cX9_enough 62 = .ok (.iinc 5 1, 3) := by decide +kernel
theorem dX9_enough_65 : decode cX9_enough 65 = .ok (.goto (-41), 3) := by decide +kernel
theorem dX9_enough_68 : decode cX9_enough 68 = .ok (.iload_n 1, 1) := by decide +kernel
theorem dX9_enough_69 : decode cX9_enough 69 = .ok (.iload 4, 2) := by decide +kernel
theorem dX9_enough_71 : decode cX9_enough 71 = .ok (.iconst (-1), 1) := by decide +kernel
theorem dX9_enough_72 : decode cX9_enough 72 = .ok (.ixor, 1) := by decide +kernel
theorem dX9_enough_73 : decode cX9_enough 73 = .ok (.iand, 1) := by decide +kernel
theorem dX9_enough_74 : decode cX9_enough 74 = .ok (.ifCond .ne 24, 3) := by decide +kernel
theorem dX9_enough_77 : decode cX9_enough 77 = .ok (.iload_n 2, 1) := by decide +kernel
theorem dX9_enough_78 : decode cX9_enough 78 = .ok (.bipush (-5), 2) := by decide +kernel
theorem dX9_enough_80 : decode cX9_enough 80 = .ok (.if_icmp .eq 14, 3) := by decide +kernel
theorem dX9_enough_83 : decode cX9_enough 83 = .ok (.iload_n 3, 1) := by decide +kernel
theorem dX9_enough_84 : decode cX9_enough 84 = .ok (.invokestatic 228, 3) := by decide +kernel
theorem dX9_enough_87 : decode cX9_enough 87 = .ok (.iload_n 2, 1) := by decide +kernel
theorem dX9_enough_88 : decode cX9_enough 88 = .ok (.invokestatic 228, 3) := by decide +kernel
theorem dX9_enough_91 : decode cX9_enough 91 = .ok (.if_icmp .ge 7, 3) := by decide +kernel
theorem dX9_enough_94 : decode cX9_enough 94 = .ok (.iload_n 3, 1) := by decide +kernel
theorem dX9_enough_95 : decode cX9_enough 95 = .ok (.goto 4, 3) := by decide +kernel
theorem dX9_enough_98 : decode cX9_enough 98 = .ok (.iload_n 2, 1) := by decide +kernel
theorem dX9_enough_99 : decode cX9_enough 99 = .ok (.istore_n 2, 1) := by decide +kernel
theorem dX9_enough_100 : decode cX9_enough 100 = .ok (.iinc 3 1, 3) := by decide +kernel
theorem dX9_enough_103 : decode cX9_enough 103 = .ok (.goto (-98), 3) := by decide +kernel
theorem dX9_enough_106 : decode cX9_enough 106 = .ok (.iload_n 2, 1) := by decide +kernel
theorem dX9_enough_107 : decode cX9_enough 107 = .ok (.ireturn, 1) := by decide +kernel
theorem dX9_own_0 : decode cX9_own 0 = .ok (.iload_n 1, 1) := by decide +kernel
theorem dX9_own_1 : decode cX9_own 1 = .ok (.aload_n 0, 1) := by decide +kernel
theorem dX9_own_2 : decode cX9_own 2 = .ok (.getfield 9, 3) := by decide +kernel
theorem dX9_own_5 : decode cX9_own 5 = .ok (.bipush 54, 2) := by decide +kernel
theorem dX9_own_7 : decode cX9_own 7 = .ok (.iaload, 1) := by decide +kernel
theorem dX9_own_8 : decode cX9_own 8 = .ok (.if_icmp .ne 5, 3) := by decide +kernel
theorem dX9_own_11 : decode cX9_own 11 = .ok (.iconst 0, 1) := by decide +kernel
theorem dX9_own_12 : decode cX9_own 12 = .ok (.ireturn, 1) := by decide +kernel
theorem dX9_own_13 : decode cX9_own 13 = .ok (.aload_n 0, 1) := by decide +kernel
theorem dX9_own_14 : decode cX9_own 14 = .ok (.iload_n 1, 1) := by decide +kernel
theorem dX9_own_15 : decode cX9_own 15 = .ok (.iconst 1, 1) := by decide +kernel
theorem dX9_own_16 : decode cX9_own 16 = .ok (.iadd, 1) := by decide +kernel
theorem dX9_own_17 : decode cX9_own 17 = .ok (.iload_n 2, 1) := by decide +kernel
theorem dX9_own_18 : decode cX9_own 18 = .ok (.invokevirtual 231, 3) := by decide +kernel
theorem dX9_own_21 : decode cX9_own 21 = .ok (.istore_n 3, 1) := by decide +kernel
theorem dX9_own_22 : decode cX9_own 22 = .ok (.iconst 0, 1) := by decide +kernel
theorem dX9_own_23 : decode cX9_own 23 = .ok (.istore 4, 2) := by decide +kernel
theorem dX9_own_25 : decode cX9_own 25 = .ok (.iload 4, 2) := by decide +kernel
theorem dX9_own_27 : decode cX9_own 27 = .ok (.bipush 8, 2) := by decide +kernel
theorem dX9_own_29 : decode cX9_own 29 = .ok (.if_icmp .ge 47, 3) := by decide +kernel
theorem dX9_own_32 : decode cX9_own 32 = .ok (.iload_n 2, 1) := by decide +kernel
theorem dX9_own_33 : decode cX9_own 33 = .ok (.aload_n 0, 1) := by decide +kernel
theorem dX9_own_34 : decode cX9_own 34 = .ok (.getfield 56, 3) := by decide +kernel
theorem dX9_own_37 : decode cX9_own 37 = .ok (.iload_n 1, 1) := by decide +kernel
theorem dX9_own_38 : decode cX9_own 38 = .ok (.iaload, 1) := by decide +kernel
theorem dX9_own_39 : decode cX9_own 39 = .ok (.iand, 1) := by decide +kernel
theorem dX9_own_40 : decode cX9_own 40 = .ok (.iconst 1, 1) := by decide +kernel
theorem dX9_own_41 : decode cX9_own 41 = .ok (.iload 4, 2) := by decide +kernel
theorem dX9_own_43 : decode cX9_own 43 = .ok (.ishl, 1) := by decide +kernel
theorem dX9_own_44 : decode cX9_own 44 = .ok (.iand, 1) := by decide +kernel
theorem dX9_own_45 : decode cX9_own 45 = .ok (.ifCond .eq 25, 3) := by decide +kernel
theorem dX9_own_48 : decode cX9_own 48 = .ok (.iload_n 3, 1) := by decide +kernel
theorem dX9_own_49 : decode cX9_own 49 = .ok (.iconst 1, 1) := by decide +kernel
theorem dX9_own_50 : decode cX9_own 50 = .ok (.aload_n 0, 1) := by decide +kernel
theorem dX9_own_51 : decode cX9_own 51 = .ok (.iload_n 1, 1) := by decide +kernel
theorem dX9_own_52 : decode cX9_own 52 = .ok (.iconst 1, 1) := by decide +kernel
theorem dX9_own_53 : decode cX9_own 53 = .ok (.iadd, 1) := by decide +kernel
theorem dX9_own_54 : decode cX9_own 54 = .ok (.iload_n 2, 1) := by decide +kernel
theorem dX9_own_55 : decode cX9_own 55 = .ok (.iconst 1, 1) := by decide +kernel
theorem dX9_own_56 : decode cX9_own 56 = .ok (.iload 4, 2) := by decide +kernel
theorem dX9_own_58 : decode cX9_own 58 = .ok (.ishl, 1) := by decide +kernel
theorem dX9_own_59 : decode cX9_own 59 = .ok (.iconst (-1), 1) := by decide +kernel
theorem dX9_own_60 : decode cX9_own 60 = .ok (.ixor, 1) := by decide +kernel
theorem dX9_own_61 : decode cX9_own 61 = .ok (.iand, 1) := by decide +kernel
theorem dX9_own_62 : decode cX9_own 62 = .ok (.invokevirtual 231, 3) := by decide +kernel
theorem dX9_own_65 : decode cX9_own 65 = .ok (.iadd, 1) := by decide +kernel
theorem dX9_own_66 : decode cX9_own 66 = .ok (.invokestatic 125, 3) := by decide +kernel
theorem dX9_own_69 : decode cX9_own 69 = .ok (.istore_n 3, 1) := by decide +kernel
theorem dX9_own_70 : decode cX9_own 70 = .ok (.iinc 4 1, 3) := by decide +kernel
theorem dX9_own_73 : decode cX9_own 73 = .ok (.goto (-48), 3) := by decide +kernel
theorem dX9_own_76 : decode cX9_own 76 = .ok (.iload_n 3, 1) := by decide +kernel
theorem dX9_own_77 : decode cX9_own 77 = .ok (.ireturn, 1) := by decide +kernel
theorem dX9_cases_0 : decode cX9_cases 0 = .ok (.iload_n 2, 1) := by decide +kernel
theorem dX9_cases_1 : decode cX9_cases 1 = .ok (.iconst 0, 1) := by decide +kernel
theorem dX9_cases_2 : decode cX9_cases 2 = .ok (.iconst 1, 1) := by decide +kernel
theorem dX9_cases_3 : decode cX9_cases 3 = .ok (.invokestatic 89, 3) := by decide +kernel
theorem dX9_cases_6 : decode cX9_cases 6 = .ok (.ifCond .ne 5, 3) := by decide +kernel
theorem dX9_cases_9 : decode cX9_cases 9 = .ok (.iconst (-1), 1) := by decide +kernel
theorem dX9_cases_10 : decode cX9_cases 10 = .ok (.ireturn, 1) := by decide +kernel
theorem dX9_cases_11 : decode cX9_cases 11 = .ok (.iload_n 1, 1) := by decide +kernel
theorem dX9_cases_12 : decode cX9_cases 12 = .ok (.iconst 0, 1) := by decide +kernel
theorem dX9_cases_13 : decode cX9_cases 13 = .ok (.sipush 255, 3) := by decide +kernel
theorem dX9_cases_16 : decode cX9_cases 16 = .ok (.invokestatic 89, 3) := by decide +kernel
theorem dX9_cases_19 : decode cX9_cases 19 = .ok (.ifCond .ne 6, 3) := by decide +kernel
theorem dX9_cases_22 : decode cX9_cases 22 = .ok (.bipush (-2), 2) := by decide +kernel
theorem dX9_cases_24 : decode cX9_cases 24 = .ok (.ireturn, 1) := by decide +kernel
theorem dX9_cases_25 : decode cX9_cases 25 = .ok (.aload_n 0, 1) := by decide +kernel
theorem dX9_cases_26 : decode cX9_cases 26 = .ok (.invokevirtual 234, 3) := by decide +kernel
theorem dX9_cases_29 : decode cX9_cases 29 = .ok (.iload_n 2, 1) := by decide +kernel
theorem dX9_cases_30 : decode cX9_cases 30 = .ok (.ifCond .ne 11, 3) := by decide +kernel
theorem dX9_cases_33 : decode cX9_cases 33 = .ok (.aload_n 0, 1) := by decide +kernel
theorem dX9_cases_34 : decode cX9_cases 34 = .ok (.iload_n 1, 1) := by decide +kernel
theorem dX9_cases_35 : decode cX9_cases 35 = .ok (.invokevirtual 237, 3) := by decide +kernel
theorem dX9_cases_38 : decode cX9_cases 38 = .ok (.goto 9, 3) := by decide +kernel
theorem dX9_cases_41 : decode cX9_cases 41 = .ok (.aload_n 0, 1) := by decide +kernel
theorem dX9_cases_42 : decode cX9_cases 42 = .ok (.iconst 0, 1) := by decide +kernel
theorem dX9_cases_43 : decode cX9_cases 43 = .ok (.iload_n 1, 1) := by decide +kernel
theorem dX9_cases_44 : decode cX9_cases 44 = .ok (.invokevirtual 231, 3) := by decide +kernel
theorem dX9_cases_47 : decode cX9_cases 47 = .ok (.ireturn, 1) := by decide +kernel
theorem dX9_hear_0 : decode cX9_hear 0 = .ok (.iload_n 1, 1) := by decide +kernel
theorem dX9_hear_1 : decode cX9_hear 1 = .ok (.iconst (-1), 1) := by decide +kernel
theorem dX9_hear_2 : decode cX9_hear 2 = .ok (.if_icmp .ne 13, 3) := by decide +kernel
theorem dX9_hear_5 : decode cX9_hear 5 = .ok (.aload_n 0, 1) := by decide +kernel
theorem dX9_hear_6 : decode cX9_hear 6 = .ok (.getfield 9, 3) := by decide +kernel
theorem dX9_hear_9 : decode cX9_hear 9 = .ok (.bipush 58, 2) := by decide +kernel
theorem dX9_hear_11 : decode cX9_hear 11 = .ok (.iconst 0, 1) := by decide +kernel
theorem dX9_hear_12 : decode cX9_hear 12 = .ok (.iastore, 1) := by decide +kernel
theorem dX9_hear_13 : decode cX9_hear 13 = .ok (.iconst 0, 1) := by decide +kernel
theorem dX9_hear_14 : decode cX9_hear 14 = .ok (.ireturn, 1) := by decide +kernel
theorem dX9_hear_15 : decode cX9_hear 15 = .ok (.aload_n 0, 1) := by decide +kernel
end
section
theorem dX9_hear_16 : decode cX9_hear 16 = .ok (.iload_n 1, 1) := by decide +kernel
theorem dX9_hear_17 : decode cX9_hear 17 = .ok (.invokevirtual 101, 3) := by decide +kernel
theorem dX9_hear_20 : decode cX9_hear 20 = .ok (.ifCond .eq 10, 3) := by decide +kernel
theorem dX9_hear_23 : decode cX9_hear 23 = .ok (.iload_n 2, 1) := by decide +kernel
theorem dX9_hear_24 : decode cX9_hear 24 = .ok (.invokestatic 108, 3) := by decide +kernel
theorem dX9_hear_27 : decode cX9_hear 27 = .ok (.ifCond .ne 5, 3) := by decide +kernel
theorem dX9_hear_30 : decode cX9_hear 30 = .ok (.iconst (-1), 1) := by decide +kernel
theorem dX9_hear_31 : decode cX9_hear 31 = .ok (.ireturn, 1) := by decide +kernel
theorem dX9_hear_32 : decode cX9_hear 32 = .ok (.iload_n 3, 1) := by decide +kernel
theorem dX9_hear_33 : decode cX9_hear 33 = .ok (.iconst (-1), 1) := by decide +kernel
theorem dX9_hear_34 : decode cX9_hear 34 = .ok (.iconst 1, 1) := by decide +kernel
theorem dX9_hear_35 : decode cX9_hear 35 = .ok (.invokestatic 89, 3) := by decide +kernel
theorem dX9_hear_38 : decode cX9_hear 38 = .ok (.ifCond .ne 6, 3) := by decide +kernel
theorem dX9_hear_41 : decode cX9_hear 41 = .ok (.bipush (-2), 2) := by decide +kernel
theorem dX9_hear_43 : decode cX9_hear 43 = .ok (.ireturn, 1) := by decide +kernel
theorem dX9_hear_44 : decode cX9_hear 44 = .ok (.aload_n 0, 1) := by decide +kernel
theorem dX9_hear_45 : decode cX9_hear 45 = .ok (.getfield 9, 3) := by decide +kernel
theorem dX9_hear_48 : decode cX9_hear 48 = .ok (.bipush 58, 2) := by decide +kernel
theorem dX9_hear_50 : decode cX9_hear 50 = .ok (.iaload, 1) := by decide +kernel
theorem dX9_hear_51 : decode cX9_hear 51 = .ok (.bipush 6, 2) := by decide +kernel
theorem dX9_hear_53 : decode cX9_hear 53 = .ok (.if_icmp .ne 6, 3) := by decide +kernel
theorem dX9_hear_56 : decode cX9_hear 56 = .ok (.bipush (-4), 2) := by decide +kernel
theorem dX9_hear_58 : decode cX9_hear 58 = .ok (.ireturn, 1) := by decide +kernel
theorem dX9_hear_59 : decode cX9_hear 59 = .ok (.bipush 59, 2) := by decide +kernel
theorem dX9_hear_61 : decode cX9_hear 61 = .ok (.iconst 3, 1) := by decide +kernel
theorem dX9_hear_62 : decode cX9_hear 62 = .ok (.aload_n 0, 1) := by decide +kernel
theorem dX9_hear_63 : decode cX9_hear 63 = .ok (.getfield 9, 3) := by decide +kernel
theorem dX9_hear_66 : decode cX9_hear 66 = .ok (.bipush 58, 2) := by decide +kernel
theorem dX9_hear_68 : decode cX9_hear 68 = .ok (.iaload, 1) := by decide +kernel
theorem dX9_hear_69 : decode cX9_hear 69 = .ok (.imul, 1) := by decide +kernel
theorem dX9_hear_70 : decode cX9_hear 70 = .ok (.iadd, 1) := by decide +kernel
theorem dX9_hear_71 : decode cX9_hear 71 = .ok (.istore 4, 2) := by decide +kernel
theorem dX9_hear_73 : decode cX9_hear 73 = .ok (.aload_n 0, 1) := by decide +kernel
theorem dX9_hear_74 : decode cX9_hear 74 = .ok (.getfield 9, 3) := by decide +kernel
theorem dX9_hear_77 : decode cX9_hear 77 = .ok (.iload 4, 2) := by decide +kernel
theorem dX9_hear_79 : decode cX9_hear 79 = .ok (.iload_n 1, 1) := by decide +kernel
theorem dX9_hear_80 : decode cX9_hear 80 = .ok (.iastore, 1) := by decide +kernel
theorem dX9_hear_81 : decode cX9_hear 81 = .ok (.aload_n 0, 1) := by decide +kernel
theorem dX9_hear_82 : decode cX9_hear 82 = .ok (.getfield 9, 3) := by decide +kernel
theorem dX9_hear_85 : decode cX9_hear 85 = .ok (.iload 4, 2) := by decide +kernel
theorem dX9_hear_87 : decode cX9_hear 87 = .ok (.iconst 1, 1) := by decide +kernel
theorem dX9_hear_88 : decode cX9_hear 88 = .ok (.iadd, 1) := by decide +kernel
theorem dX9_hear_89 : decode cX9_hear 89 = .ok (.iload_n 2, 1) := by decide +kernel
theorem dX9_hear_90 : decode cX9_hear 90 = .ok (.iastore, 1) := by decide +kernel
theorem dX9_hear_91 : decode cX9_hear 91 = .ok (.aload_n 0, 1) := by decide +kernel
theorem dX9_hear_92 : decode cX9_hear 92 = .ok (.getfield 9, 3) := by decide +kernel
theorem dX9_hear_95 : decode cX9_hear 95 = .ok (.iload 4, 2) := by decide +kernel
theorem dX9_hear_97 : decode cX9_hear 97 = .ok (.iconst 2, 1) := by decide +kernel
theorem dX9_hear_98 : decode cX9_hear 98 = .ok (.iadd, 1) := by decide +kernel
theorem dX9_hear_99 : decode cX9_hear 99 = .ok (.iload_n 3, 1) := by decide +kernel
theorem dX9_hear_100 : decode cX9_hear 100 = .ok (.iastore, 1) := by decide +kernel
theorem dX9_hear_101 : decode cX9_hear 101 = .ok (.aload_n 0, 1) := by decide +kernel
theorem dX9_hear_102 : decode cX9_hear 102 = .ok (.getfield 9, 3) := by decide +kernel
theorem dX9_hear_105 : decode cX9_hear 105 = .ok (.bipush 58, 2) := by decide +kernel
theorem dX9_hear_107 : decode cX9_hear 107 = .ok (.dup2, 1) := by decide +kernel
theorem dX9_hear_108 : decode cX9_hear 108 = .ok (.iaload, 1) := by decide +kernel
theorem dX9_hear_109 : decode cX9_hear 109 = .ok (.iconst 1, 1) := by decide +kernel
theorem dX9_hear_110 : decode cX9_hear 110 = .ok (.iadd, 1) := by decide +kernel
theorem dX9_hear_111 : decode cX9_hear 111 = .ok (.iastore, 1) := by decide +kernel
theorem dX9_hear_112 : decode cX9_hear 112 = .ok (.aload_n 0, 1) := by decide +kernel
theorem dX9_hear_113 : decode cX9_hear 113 = .ok (.getfield 9, 3) := by decide +kernel
theorem dX9_hear_116 : decode cX9_hear 116 = .ok (.bipush 58, 2) := by decide +kernel
theorem dX9_hear_118 : decode cX9_hear 118 = .ok (.iaload, 1) := by decide +kernel
theorem dX9_hear_119 : decode cX9_hear 119 = .ok (.ireturn, 1) := by decide +kernel
theorem dX9_isAllSo_0 : decode cX9_isAllSo 0 = .ok (.iconst 1, 1) := by decide +kernel
theorem dX9_isAllSo_1 : decode cX9_isAllSo 1 = .ok (.istore_n 2, 1) := by decide +kernel
theorem dX9_isAllSo_2 : decode cX9_isAllSo 2 = .ok (.iconst 0, 1) := by decide +kernel
theorem dX9_isAllSo_3 : decode cX9_isAllSo 3 = .ok (.istore_n 3, 1) := by decide +kernel
theorem dX9_isAllSo_4 : decode cX9_isAllSo 4 = .ok (.iload_n 3, 1) := by decide +kernel
theorem dX9_isAllSo_5 : decode cX9_isAllSo 5 = .ok (.aload_n 0, 1) := by decide +kernel
theorem dX9_isAllSo_6 : decode cX9_isAllSo 6 = .ok (.getfield 9, 3) := by decide +kernel
theorem dX9_isAllSo_9 : decode cX9_isAllSo 9 = .ok (.bipush 58, 2) := by decide +kernel
theorem dX9_isAllSo_11 : decode cX9_isAllSo 11 = .ok (.iaload, 1) := by decide +kernel
theorem dX9_isAllSo_12 : decode cX9_isAllSo 12 = .ok (.if_icmp .ge 93, 3) := by decide +kernel
theorem dX9_isAllSo_15 : decode cX9_isAllSo 15 = .ok (.bipush 59, 2) := by decide +kernel
theorem dX9_isAllSo_17 : decode cX9_isAllSo 17 = .ok (.iconst 3, 1) := by decide +kernel
theorem dX9_isAllSo_18 : decode cX9_isAllSo 18 = .ok (.iload_n 3, 1) := by decide +kernel
theorem dX9_isAllSo_19 : decode cX9_isAllSo 19 = .ok (.imul, 1) := by decide +kernel
theorem dX9_isAllSo_20 : decode cX9_isAllSo 20 = .ok (.iadd, 1) := by decide +kernel
theorem dX9_isAllSo_21 : decode cX9_isAllSo 21 = .ok (.istore 4, 2) := by decide +kernel
theorem dX9_isAllSo_23 : decode cX9_isAllSo 23 = .ok (.aload_n 0, 1) := by decide +kernel
theorem dX9_isAllSo_24 : decode cX9_isAllSo 24 = .ok (.getfield 9, 3) := by decide +kernel
theorem dX9_isAllSo_27 : decode cX9_isAllSo 27 = .ok (.iload 4, 2) := by decide +kernel
theorem dX9_isAllSo_29 : decode cX9_isAllSo 29 = .ok (.iconst 2, 1) := by decide +kernel
theorem dX9_isAllSo_30 : decode cX9_isAllSo 30 = .ok (.iadd, 1) := by decide +kernel
theorem dX9_isAllSo_31 : decode cX9_isAllSo 31 = .ok (.iaload, 1) := by decide +kernel
theorem dX9_isAllSo_32 : decode cX9_isAllSo 32 = .ok (.iconst (-1), 1) := by decide +kernel
theorem dX9_isAllSo_33 : decode cX9_isAllSo 33 = .ok (.if_icmp .ne 8, 3) := by decide +kernel
theorem dX9_isAllSo_36 : decode cX9_isAllSo 36 = .ok (.bipush (-5), 2) := by decide +kernel
theorem dX9_isAllSo_38 : decode cX9_isAllSo 38 = .ok (.goto 12, 3) := by decide +kernel
theorem dX9_isAllSo_41 : decode cX9_isAllSo 41 = .ok (.aload_n 0, 1) := by decide +kernel
theorem dX9_isAllSo_42 : decode cX9_isAllSo 42 = .ok (.getfield 9, 3) := by decide +kernel
theorem dX9_isAllSo_45 : decode cX9_isAllSo 45 = .ok (.iload 4, 2) := by decide +kernel
theorem dX9_isAllSo_47 : decode cX9_isAllSo 47 = .ok (.iconst 2, 1) := by decide +kernel
theorem dX9_isAllSo_48 : decode cX9_isAllSo 48 = .ok (.iadd, 1) := by decide +kernel
theorem dX9_isAllSo_49 : decode cX9_isAllSo 49 = .ok (.iaload, 1) := by decide +kernel
theorem dX9_isAllSo_50 : decode cX9_isAllSo 50 = .ok (.istore 5, 2) := by decide +kernel
theorem dX9_isAllSo_52 : decode cX9_isAllSo 52 = .ok (.iload_n 2, 1) := by decide +kernel
theorem dX9_isAllSo_53 : decode cX9_isAllSo 53 = .ok (.ifCond .eq 44, 3) := by decide +kernel
theorem dX9_isAllSo_56 : decode cX9_isAllSo 56 = .ok (.aload_n 0, 1) := by decide +kernel
theorem dX9_isAllSo_57 : decode cX9_isAllSo 57 = .ok (.getfield 9, 3) := by decide +kernel
theorem dX9_isAllSo_60 : decode cX9_isAllSo 60 = .ok (.iload 4, 2) := by decide +kernel
theorem dX9_isAllSo_62 : decode cX9_isAllSo 62 = .ok (.iaload, 1) := by decide +kernel
theorem dX9_isAllSo_63 : decode cX9_isAllSo 63 = .ok (.iload_n 1, 1) := by decide +kernel
theorem dX9_isAllSo_64 : decode cX9_isAllSo 64 = .ok (.if_icmp .ne 29, 3) := by decide +kernel
theorem dX9_isAllSo_67 : decode cX9_isAllSo 67 = .ok (.aload_n 0, 1) := by decide +kernel
theorem dX9_isAllSo_68 : decode cX9_isAllSo 68 = .ok (.iload_n 1, 1) := by decide +kernel
theorem dX9_isAllSo_69 : decode cX9_isAllSo 69 = .ok (.aload_n 0, 1) := by decide +kernel
theorem dX9_isAllSo_70 : decode cX9_isAllSo 70 = .ok (.getfield 9, 3) := by decide +kernel
theorem dX9_isAllSo_73 : decode cX9_isAllSo 73 = .ok (.iload 4, 2) := by decide +kernel
theorem dX9_isAllSo_75 : decode cX9_isAllSo 75 = .ok (.iconst 1, 1) := by decide +kernel
theorem dX9_isAllSo_76 : decode cX9_isAllSo 76 = .ok (.iadd, 1) := by decide +kernel
theorem dX9_isAllSo_77 : decode cX9_isAllSo 77 = .ok (.iaload, 1) := by decide +kernel
theorem dX9_isAllSo_78 : decode cX9_isAllSo 78 = .ok (.aload_n 0, 1) := by decide +kernel
theorem dX9_isAllSo_79 : decode cX9_isAllSo 79 = .ok (.getfield 9, 3) := by decide +kernel
theorem dX9_isAllSo_82 : decode cX9_isAllSo 82 = .ok (.bipush 55, 2) := by decide +kernel
theorem dX9_isAllSo_84 : decode cX9_isAllSo 84 = .ok (.iaload, 1) := by decide +kernel
theorem dX9_isAllSo_85 : decode cX9_isAllSo 85 = .ok (.invokevirtual 114, 3) := by decide +kernel
theorem dX9_isAllSo_88 : decode cX9_isAllSo 88 = .ok (.iload 5, 2) := by decide +kernel
theorem dX9_isAllSo_90 : decode cX9_isAllSo 90 = .ok (.if_icmp .ne 7, 3) := by decide +kernel
theorem dX9_isAllSo_93 : decode cX9_isAllSo 93 = .ok (.iconst 1, 1) := by decide +kernel
theorem dX9_isAllSo_94 : decode cX9_isAllSo 94 = .ok (.goto 4, 3) := by decide +kernel
theorem dX9_isAllSo_97 : decode cX9_isAllSo 97 = .ok (.iconst 0, 1) := by decide +kernel
theorem dX9_isAllSo_98 : decode cX9_isAllSo 98 = .ok (.istore_n 2, 1) := by decide +kernel
theorem dX9_isAllSo_99 : decode cX9_isAllSo 99 = .ok (.iinc 3 1, 3) := by decide +kernel
theorem dX9_isAllSo_102 : decode cX9_isAllSo 102 = .ok (.goto (-98), 3) := by decide +kernel
theorem dX9_isAllSo_105 : decode cX9_isAllSo 105 = .ok (.iload_n 2, 1) := by decide +kernel
theorem dX9_isAllSo_106 : decode cX9_isAllSo 106 = .ok (.ireturn, 1) := by decide +kernel
theorem dX9_fits_0 : decode cX9_fits 0 = .ok (.aload_n 0, 1) := by decide +kernel
theorem dX9_fits_1 : decode cX9_fits 1 = .ok (.iload_n 1, 1) := by decide +kernel
theorem dX9_fits_2 : decode cX9_fits 2 = .ok (.iload_n 2, 1) := by decide +kernel
theorem dX9_fits_3 : decode cX9_fits 3 = .ok (.invokevirtual 93, 3) := by decide +kernel
theorem dX9_fits_6 : decode cX9_fits 6 = .ok (.istore_n 3, 1) := by decide +kernel
theorem dX9_fits_7 : decode cX9_fits 7 = .ok (.iconst 0, 1) := by decide +kernel
theorem dX9_fits_8 : decode cX9_fits 8 = .ok (.istore 4, 2) := by decide +kernel
theorem dX9_fits_10 : decode cX9_fits 10 = .ok (.iconst 0, 1) := by decide +kernel
theorem dX9_fits_11 : decode cX9_fits 11 = .ok (.istore 5, 2) := by decide +kernel
theorem dX9_fits_13 : decode cX9_fits 13 = .ok (.iload 5, 2) := by decide +kernel
theorem dX9_fits_15 : decode cX9_fits 15 = .ok (.bipush 10, 2) := by decide +kernel
theorem dX9_fits_17 : decode cX9_fits 17 = .ok (.if_icmp .ge 39, 3) := by decide +kernel
theorem dX9_fits_20 : decode cX9_fits 20 = .ok (.aload_n 0, 1) := by decide +kernel
theorem dX9_fits_21 : decode cX9_fits 21 = .ok (.iload_n 1, 1) := by decide +kernel
theorem dX9_fits_22 : decode cX9_fits 22 = .ok (.iload_n 2, 1) := by decide +kernel
theorem dX9_fits_23 : decode cX9_fits 23 = .ok (.iload 5, 2) := by decide +kernel
theorem dX9_fits_25 : decode cX9_fits 25 = .ok (.invokevirtual 97, 3) := by decide +kernel
theorem dX9_fits_28 : decode cX9_fits 28 = .ok (.pop, 1) := by decide +kernel
theorem dX9_fits_29 : decode cX9_fits 29 = .ok (.iload 4, 2) := by decide +kernel
theorem dX9_fits_31 : decode cX9_fits 31 = .ok (.aload_n 0, 1) := by decide +kernel
theorem dX9_fits_32 : decode cX9_fits 32 = .ok (.iload_n 1, 1) := by decide +kernel
theorem dX9_fits_33 : decode cX9_fits 33 = .ok (.invokevirtual 240, 3) := by decide +kernel
theorem dX9_fits_36 : decode cX9_fits 36 = .ok (.ifCond .eq 10, 3) := by decide +kernel
theorem dX9_fits_39 : decode cX9_fits 39 = .ok (.iconst 1, 1) := by decide +kernel
theorem dX9_fits_40 : decode cX9_fits 40 = .ok (.iload 5, 2) := by decide +kernel
theorem dX9_fits_42 : decode cX9_fits 42 = .ok (.ishl, 1) := by decide +kernel
theorem dX9_fits_43 : decode cX9_fits 43 = .ok (.goto 4, 3) := by decide +kernel
theorem dX9_fits_46 : decode cX9_fits 46 = .ok (.iconst 0, 1) := by decide +kernel
theorem dX9_fits_47 : decode cX9_fits 47 = .ok (.ior, 1) := by decide +kernel
theorem dX9_fits_48 : decode cX9_fits 48 = .ok (.istore 4, 2) := by decide +kernel
theorem dX9_fits_50 : decode cX9_fits 50 = .ok (.iinc 5 1, 3) := by decide +kernel
theorem dX9_fits_53 : decode cX9_fits 53 = .ok (.goto (-40), 3) := by decide +kernel
theorem dX9_fits_56 : decode cX9_fits 56 = .ok (.aload_n 0, 1) := by decide +kernel
theorem dX9_fits_57 : decode cX9_fits 57 = .ok (.iload_n 1, 1) := by decide +kernel
theorem dX9_fits_58 : decode cX9_fits 58 = .ok (.iload_n 2, 1) := by decide +kernel
theorem dX9_fits_59 : decode cX9_fits 59 = .ok (.iload_n 3, 1) := by decide +kernel
theorem dX9_fits_60 : decode cX9_fits 60 = .ok (.invokevirtual 97, 3) := by decide +kernel
theorem dX9_fits_63 : decode cX9_fits 63 = .ok (.pop, 1) := by decide +kernel
theorem dX9_fits_64 : decode cX9_fits 64 = .ok (.iload 4, 2) := by decide +kernel
theorem dX9_fits_66 : decode cX9_fits 66 = .ok (.ireturn, 1) := by decide +kernel
theorem dX9_can_0 : decode cX9_can 0 = .ok (.aload_n 0, 1) := by decide +kernel
theorem dX9_can_1 : decode cX9_can 1 = .ok (.iload_n 1, 1) := by decide +kernel
theorem dX9_can_2 : decode cX9_can 2 = .ok (.invokevirtual 101, 3) := by decide +kernel
theorem dX9_can_5 : decode cX9_can 5 = .ok (.ifCond .eq 12, 3) := by decide +kernel
theorem dX9_can_8 : decode cX9_can 8 = .ok (.iload_n 2, 1) := by decide +kernel
theorem dX9_can_9 : decode cX9_can 9 = .ok (.iconst 0, 1) := by decide +kernel
theorem dX9_can_10 : decode cX9_can 10 = .ok (.iconst 1, 1) := by decide +kernel
theorem dX9_can_11 : decode cX9_can 11 = .ok (.invokestatic 89, 3) := by decide +kernel
theorem dX9_can_14 : decode cX9_can 14 = .ok (.ifCond .ne 5, 3) := by decide +kernel
theorem dX9_can_17 : decode cX9_can 17 = .ok (.iconst (-1), 1) := by decide +kernel
theorem dX9_can_18 : decode cX9_can 18 = .ok (.ireturn, 1) := by decide +kernel
theorem dX9_can_19 : decode cX9_can 19 = .ok (.aload_n 0, 1) := by decide +kernel
theorem dX9_can_20 : decode cX9_can 20 = .ok (.iload_n 1, 1) := by decide +kernel
theorem dX9_can_21 : decode cX9_can 21 = .ok (.iconst 1, 1) := by decide +kernel
theorem dX9_can_22 : decode cX9_can 22 = .ok (.invokevirtual 105, 3) := by decide +kernel
theorem dX9_can_25 : decode cX9_can 25 = .ok (.istore_n 3, 1) := by decide +kernel
theorem dX9_can_26 : decode cX9_can 26 = .ok (.iconst 0, 1) := by decide +kernel
theorem dX9_can_27 : decode cX9_can 27 = .ok (.istore 4, 2) := by decide +kernel
theorem dX9_can_29 : decode cX9_can 29 = .ok (.bipush (-5), 2) := by decide +kernel
theorem dX9_can_31 : decode cX9_can 31 = .ok (.istore 5, 2) := by decide +kernel
theorem dX9_can_33 : decode cX9_can 33 = .ok (.bipush 9, 2) := by decide +kernel
theorem dX9_can_35 : decode cX9_can 35 = .ok (.istore 6, 2) := by decide +kernel
theorem dX9_can_37 : decode cX9_can 37 = .ok (.iload 6, 2) := by decide +kernel
theorem dX9_can_39 : decode cX9_can 39 = .ok (.ifCond .lt 39, 3) := by decide +kernel
theorem dX9_can_42 : decode cX9_can 42 = .ok (.iload 4, 2) := by decide +kernel
theorem dX9_can_44 : decode cX9_can 44 = .ok (.iload_n 3, 1) := by decide +kernel
theorem dX9_can_45 : decode cX9_can 45 = .ok (.iload 6, 2) := by decide +kernel
theorem dX9_can_47 : decode cX9_can 47 = .ok (.ishr, 1) := by decide +kernel
theorem dX9_can_48 : decode cX9_can 48 = .ok (.iconst 1, 1) := by decide +kernel
theorem dX9_can_49 : decode cX9_can 49 = .ok (.iand, 1) := by decide +kernel
theorem dX9_can_50 : decode cX9_can 50 = .ok (.iadd, 1) := by decide +kernel
theorem dX9_can_51 : decode cX9_can 51 = .ok (.istore 4, 2) := by decide +kernel
theorem dX9_can_53 : decode cX9_can 53 = .ok (.iload_n 3, 1) := by decide +kernel
theorem dX9_can_54 : decode cX9_can 54 = .ok (.iload 6, 2) := by decide +kernel
theorem dX9_can_56 : decode cX9_can 56 = .ok (.ishr, 1) := by decide +kernel
theorem dX9_can_57 : decode cX9_can 57 = .ok (.iconst 1, 1) := by decide +kernel
theorem dX9_can_58 : decode cX9_can 58 = .ok (.iand, 1) := by decide +kernel
theorem dX9_can_59 : decode cX9_can 59 = .ok (.iconst 1, 1) := by decide +kernel
theorem dX9_can_60 : decode cX9_can 60 = .ok (.if_icmp .ne 8, 3) := by decide +kernel
theorem dX9_can_63 : decode cX9_can 63 = .ok (.iload 6, 2) := by decide +kernel
theorem dX9_can_65 : decode cX9_can 65 = .ok (.goto 5, 3) := by decide +kernel
theorem dX9_can_68 : decode cX9_can 68 = .ok (.iload 5, 2) := by decide +kernel
theorem dX9_can_70 : decode cX9_can 70 = .ok (.istore 5, 2) := by decide +kernel
theorem dX9_can_72 : decode cX9_can 72 = .ok (.iinc 6 (-1), 3) := by decide +kernel
theorem dX9_can_75 : decode cX9_can 75 = .ok (.goto (-38), 3) := by decide +kernel
theorem dX9_can_78 : decode cX9_can 78 = .ok (.iload_n 2, 1) := by decide +kernel
theorem dX9_can_79 : decode cX9_can 79 = .ok (.ifCond .ne 8, 3) := by decide +kernel
theorem dX9_can_82 : decode cX9_can 82 = .ok (.iload 4, 2) := by decide +kernel
theorem dX9_can_84 : decode cX9_can 84 = .ok (.goto 5, 3) := by decide +kernel
theorem dX9_can_87 : decode cX9_can 87 = .ok (.iload 5, 2) := by decide +kernel
theorem dX9_can_89 : decode cX9_can 89 = .ok (.ireturn, 1) := by decide +kernel
theorem dX9_fraction_0 : decode cX9_fraction 0 = .ok (.lload_n 0, 1) := by decide +kernel
theorem dX9_fraction_1 : decode cX9_fraction 1 = .ok (.lstore 5, 2) := by decide +kernel
theorem dX9_fraction_3 : decode cX9_fraction 3 = .ok (.lload_n 2, 1) := by decide +kernel
theorem dX9_fraction_4 : decode cX9_fraction 4 = .ok (.lstore 7, 2) := by decide +kernel
theorem dX9_fraction_6 : decode cX9_fraction 6 = .ok (.lload 7, 2) := by decide +kernel
theorem dX9_fraction_8 : decode cX9_fraction 8 = .ok (.lconst 0, 1) := by decide +kernel
theorem dX9_fraction_9 : decode cX9_fraction 9 = .ok (.lcmp, 1) := by decide +kernel
theorem dX9_fraction_10 : decode cX9_fraction 10 = .ok (.ifCond .eq 21, 3) := by decide +kernel
theorem dX9_fraction_13 : decode cX9_fraction 13 = .ok (.lload 5, 2) := by decide +kernel
theorem dX9_fraction_15 : decode cX9_fraction 15 = .ok (.lload 7, 2) := by decide +kernel
theorem dX9_fraction_17 : decode cX9_fraction 17 = .ok (.lrem, 1) := by decide +kernel
theorem dX9_fraction_18 : decode cX9_fraction 18 = .ok (.lstore 9, 2) := by decide +kernel
theorem dX9_fraction_20 : decode cX9_fraction 20 = .ok (.lload 7, 2) := by decide +kernel
theorem dX9_fraction_22 : decode cX9_fraction 22 = .ok (.lstore 5, 2) := by decide +kernel
theorem dX9_fraction_24 : decode cX9_fraction 24 = .ok (.lload 9, 2) := by decide +kernel
theorem dX9_fraction_26 : decode cX9_fraction 26 = .ok (.lstore 7, 2) := by decide +kernel
theorem dX9_fraction_28 : decode cX9_fraction 28 = .ok (.goto (-22), 3) := by decide +kernel
theorem dX9_fraction_31 : decode cX9_fraction 31 = .ok (.iload 4, 2) := by decide +kernel
theorem dX9_fraction_33 : decode cX9_fraction 33 = .ok (.ifCond .ne 10, 3) := by decide +kernel
theorem dX9_fraction_36 : decode cX9_fraction 36 = .ok (.lload_n 0, 1) := by decide +kernel
theorem dX9_fraction_37 : decode cX9_fraction 37 = .ok (.lload 5, 2) := by decide +kernel
theorem dX9_fraction_39 : decode cX9_fraction 39 = .ok (.ldiv, 1) := by decide +kernel
theorem dX9_fraction_40 : decode cX9_fraction 40 = .ok (.goto 7, 3) := by decide +kernel
theorem dX9_fraction_43 : decode cX9_fraction 43 = .ok (.lload_n 2, 1) := by decide +kernel
theorem dX9_fraction_44 : decode cX9_fraction 44 = .ok (.lload 5, 2) := by decide +kernel
theorem dX9_fraction_46 : decode cX9_fraction 46 = .ok (.ldiv, 1) := by decide +kernel
theorem dX9_fraction_47 : decode cX9_fraction 47 = .ok (.lreturn, 1) := by decide +kernel
theorem dX9_odds_0 : decode cX9_odds 0 = .ok (.iload_n 1, 1) := by decide +kernel
theorem dX9_odds_1 : decode cX9_odds 1 = .ok (.invokestatic 108, 3) := by decide +kernel
theorem dX9_odds_4 : decode cX9_odds 4 = .ok (.ifCond .eq 12, 3) := by decide +kernel
theorem dX9_odds_7 : decode cX9_odds 7 = .ok (.iload_n 2, 1) := by decide +kernel
theorem dX9_odds_8 : decode cX9_odds 8 = .ok (.iconst 0, 1) := by decide +kernel
theorem dX9_odds_9 : decode cX9_odds 9 = .ok (.iconst 1, 1) := by decide +kernel
theorem dX9_odds_10 : decode cX9_odds 10 = .ok (.invokestatic 89, 3) := by decide +kernel
theorem dX9_odds_13 : decode cX9_odds 13 = .ok (.ifCond .ne 7, 3) := by decide +kernel
theorem dX9_odds_16 : decode cX9_odds 16 = .ok (.ldc2_w 243, 3) := by decide +kernel
theorem dX9_odds_19 : decode cX9_odds 19 = .ok (.lreturn, 1) := by decide +kernel
theorem dX9_odds_20 : decode cX9_odds 20 = .ok (.aload_n 0, 1) := by decide +kernel
theorem dX9_odds_21 : decode cX9_odds 21 = .ok (.invokevirtual 202, 3) := by decide +kernel
theorem dX9_odds_24 : decode cX9_odds 24 = .ok (.istore_n 3, 1) := by decide +kernel
theorem dX9_odds_25 : decode cX9_odds 25 = .ok (.iconst 0, 1) := by decide +kernel
theorem dX9_odds_26 : decode cX9_odds 26 = .ok (.istore 4, 2) := by decide +kernel
theorem dX9_odds_28 : decode cX9_odds 28 = .ok (.iconst 0, 1) := by decide +kernel
theorem dX9_odds_29 : decode cX9_odds 29 = .ok (.istore 5, 2) := by decide +kernel
theorem dX9_odds_31 : decode cX9_odds 31 = .ok (.iload 5, 2) := by decide +kernel
theorem dX9_odds_33 : decode cX9_odds 33 = .ok (.sipush 256, 3) := by decide +kernel
theorem dX9_odds_36 : decode cX9_odds 36 = .ok (.if_icmp .ge 34, 3) := by decide +kernel
theorem dX9_odds_39 : decode cX9_odds 39 = .ok (.iload 4, 2) := by decide +kernel
theorem dX9_odds_41 : decode cX9_odds 41 = .ok (.aload_n 0, 1) := by decide +kernel
theorem dX9_odds_42 : decode cX9_odds 42 = .ok (.getfield 49, 3) := by decide +kernel
theorem dX9_odds_45 : decode cX9_odds 45 = .ok (.iload 5, 2) := by decide +kernel
theorem dX9_odds_47 : decode cX9_odds 47 = .ok (.baload, 1) := by decide +kernel
theorem dX9_odds_48 : decode cX9_odds 48 = .ok (.ifCond .eq 12, 3) := by decide +kernel
theorem dX9_odds_51 : decode cX9_odds 51 = .ok (.iload 5, 2) := by decide +kernel
theorem dX9_odds_53 : decode cX9_odds 53 = .ok (.iload_n 1, 1) := by decide +kernel
theorem dX9_odds_54 : decode cX9_odds 54 = .ok (.ishr, 1) := by decide +kernel
theorem dX9_odds_55 : decode cX9_odds 55 = .ok (.iconst 1, 1) := by decide +kernel
theorem dX9_odds_56 : decode cX9_odds 56 = .ok (.iand, 1) := by decide +kernel
theorem dX9_odds_57 : decode cX9_odds 57 = .ok (.goto 4, 3) := by decide +kernel
theorem dX9_odds_60 : decode cX9_odds 60 = .ok (.iconst 0, 1) := by decide +kernel
theorem dX9_odds_61 : decode cX9_odds 61 = .ok (.iadd, 1) := by decide +kernel
theorem dX9_odds_62 : decode cX9_odds 62 = .ok (.istore 4, 2) := by decide +kernel
theorem dX9_odds_64 : decode cX9_odds 64 = .ok (.iinc 5 1, 3) := by decide +kernel
theorem dX9_odds_67 : decode cX9_odds 67 = .ok (.goto (-36), 3) := by decide +kernel
theorem dX9_odds_70 : decode cX9_odds 70 = .ok (.iload_n 3, 1) := by decide +kernel
theorem dX9_odds_71 : decode cX9_odds 71 = .ok (.ifCond .ne 9, 3) := by decide +kernel
theorem dX9_odds_74 : decode cX9_odds 74 = .ok (.ldc2_w 243, 3) := by decide +kernel
theorem dX9_odds_77 : decode cX9_odds 77 = .ok (.goto 12, 3) := by decide +kernel
theorem dX9_odds_80 : decode cX9_odds 80 = .ok (.iload 4, 2) := by decide +kernel
theorem dX9_odds_82 : decode cX9_odds 82 = .ok (.i2l, 1) := by decide +kernel
theorem dX9_odds_83 : decode cX9_odds 83 = .ok (.iload_n 3, 1) := by decide +kernel
theorem dX9_odds_84 : decode cX9_odds 84 = .ok (.i2l, 1) := by decide +kernel
theorem dX9_odds_85 : decode cX9_odds 85 = .ok (.iload_n 2, 1) := by decide +kernel
theorem dX9_odds_86 : decode cX9_odds 86 = .ok (.invokestatic 245, 3) := by decide +kernel
theorem dX9_odds_89 : decode cX9_odds 89 = .ok (.lreturn, 1) := by decide +kernel
theorem dX9_mean_0 : decode cX9_mean 0 = .ok (.iload_n 1, 1) := by decide +kernel
theorem dX9_mean_1 : decode cX9_mean 1 = .ok (.iconst 0, 1) := by decide +kernel
theorem dX9_mean_2 : decode cX9_mean 2 = .ok (.bipush 60, 2) := by decide +kernel
theorem dX9_mean_4 : decode cX9_mean 4 = .ok (.invokestatic 89, 3) := by decide +kernel
theorem dX9_mean_7 : decode cX9_mean 7 = .ok (.ifCond .eq 22, 3) := by decide +kernel
theorem dX9_mean_10 : decode cX9_mean 10 = .ok (.iload_n 2, 1) := by decide +kernel
theorem dX9_mean_11 : decode cX9_mean 11 = .ok (.iconst 0, 1) := by decide +kernel
theorem dX9_mean_12 : decode cX9_mean 12 = .ok (.iconst 1, 1) := by decide +kernel
theorem dX9_mean_13 : decode cX9_mean 13 = .ok (.invokestatic 89, 3) := by decide +kernel
theorem dX9_mean_16 : decode cX9_mean 16 = .ok (.ifCond .eq 13, 3) := by decide +kernel
theorem dX9_mean_19 : decode cX9_mean 19 = .ok (.aload_n 0, 1) := by decide +kernel
theorem dX9_mean_20 : decode cX9_mean 20 = .ok (.getfield 9, 3) := by decide +kernel
theorem dX9_mean_23 : decode cX9_mean 23 = .ok (.bipush 54, 2) := by decide +kernel
theorem dX9_mean_25 : decode cX9_mean 25 = .ok (.iaload, 1) := by decide +kernel
theorem dX9_mean_26 : decode cX9_mean 26 = .ok (.ifCond .ne 7, 3) := by decide +kernel
theorem dX9_mean_29 : decode cX9_mean 29 = .ok (.ldc2_w 243, 3) := by decide +kernel
theorem dX9_mean_32 : decode cX9_mean 32 = .ok (.lreturn, 1) := by decide +kernel
theorem dX9_mean_33 : decode cX9_mean 33 = .ok (.aload_n 0, 1) := by decide +kernel
theorem dX9_mean_34 : decode cX9_mean 34 = .ok (.iload_n 1, 1) := by decide +kernel
theorem dX9_mean_35 : decode cX9_mean 35 = .ok (.iconst 0, 1) := by decide +kernel
theorem dX9_mean_36 : decode cX9_mean 36 = .ok (.invokevirtual 249, 3) := by decide +kernel
theorem dX9_mean_39 : decode cX9_mean 39 = .ok (.i2l, 1) := by decide +kernel
theorem dX9_mean_40 : decode cX9_mean 40 = .ok (.aload_n 0, 1) := by decide +kernel
theorem dX9_mean_41 : decode cX9_mean 41 = .ok (.getfield 9, 3) := by decide +kernel
theorem dX9_mean_44 : decode cX9_mean 44 = .ok (.bipush 54, 2) := by decide +kernel
theorem dX9_mean_46 : decode cX9_mean 46 = .ok (.iaload, 1) := by decide +kernel
theorem dX9_mean_47 : decode cX9_mean 47 = .ok (.i2l, 1) := by decide +kernel
theorem dX9_mean_48 : decode cX9_mean 48 = .ok (.iload_n 2, 1) := by decide +kernel
theorem dX9_mean_49 : decode cX9_mean 49 = .ok (.invokestatic 245, 3) := by decide +kernel
theorem dX9_mean_52 : decode cX9_mean 52 = .ok (.lreturn, 1) := by decide +kernel
theorem dX9_plan_0 : decode cX9_plan 0 = .ok (.iload_n 1, 1) := by decide +kernel
theorem dX9_plan_1 : decode cX9_plan 1 = .ok (.iconst (-1), 1) := by decide +kernel
theorem dX9_plan_2 : decode cX9_plan 2 = .ok (.if_icmp .ne 13, 3) := by decide +kernel
theorem dX9_plan_5 : decode cX9_plan 5 = .ok (.aload_n 0, 1) := by decide +kernel
theorem dX9_plan_6 : decode cX9_plan 6 = .ok (.getfield 9, 3) := by decide +kernel
theorem dX9_plan_9 : decode cX9_plan 9 = .ok (.bipush 77, 2) := by decide +kernel
theorem dX9_plan_11 : decode cX9_plan 11 = .ok (.iconst 0, 1) := by decide +kernel
theorem dX9_plan_12 : decode cX9_plan 12 = .ok (.iastore, 1) := by decide +kernel
theorem dX9_plan_13 : decode cX9_plan 13 = .ok (.iconst 0, 1) := by decide +kernel
theorem dX9_plan_14 : decode cX9_plan 14 = .ok (.ireturn, 1) := by decide +kernel
theorem dX9_plan_15 : decode cX9_plan 15 = .ok (.iload_n 1, 1) := by decide +kernel
theorem dX9_plan_16 : decode cX9_plan 16 = .ok (.ifCond .eq 58, 3) := by decide +kernel
theorem dX9_plan_19 : decode cX9_plan 19 = .ok (.iload_n 1, 1) := by decide +kernel
theorem dX9_plan_20 : decode cX9_plan 20 = .ok (.iconst 1, 1) := by decide +kernel
theorem dX9_plan_21 : decode cX9_plan 21 = .ok (.if_icmp .ne 28, 3) := by decide +kernel
theorem dX9_plan_24 : decode cX9_plan 24 = .ok (.iload_n 2, 1) := by decide +kernel
theorem dX9_plan_25 : decode cX9_plan 25 = .ok (.ifCond .lt 24, 3) := by decide +kernel
theorem dX9_plan_28 : decode cX9_plan 28 = .ok (.aload_n 0, 1) := by decide +kernel
theorem dX9_plan_29 : decode cX9_plan 29 = .ok (.iload_n 2, 1) := by decide +kernel
theorem dX9_plan_30 : decode cX9_plan 30 = .ok (.bipush 10, 2) := by decide +kernel
theorem dX9_plan_32 : decode cX9_plan 32 = .ok (.idiv, 1) := by decide +kernel
theorem dX9_plan_33 : decode cX9_plan 33 = .ok (.invokevirtual 101, 3) := by decide +kernel
theorem dX9_plan_36 : decode cX9_plan 36 = .ok (.ifCond .eq 13, 3) := by decide +kernel
theorem dX9_plan_39 : decode cX9_plan 39 = .ok (.iload_n 2, 1) := by decide +kernel
theorem dX9_plan_40 : decode cX9_plan 40 = .ok (.bipush 10, 2) := by decide +kernel
theorem dX9_plan_42 : decode cX9_plan 42 = .ok (.irem, 1) := by decide +kernel
theorem dX9_plan_43 : decode cX9_plan 43 = .ok (.invokestatic 108, 3) := by decide +kernel
theorem dX9_plan_46 : decode cX9_plan 46 = .ok (.ifCond .ne 28, 3) := by decide +kernel
theorem dX9_plan_49 : decode cX9_plan 49 = .ok (.iload_n 1, 1) := by decide +kernel
theorem dX9_plan_50 : decode cX9_plan 50 = .ok (.iconst 2, 1) := by decide +kernel
theorem dX9_plan_51 : decode cX9_plan 51 = .ok (.if_icmp .ne 11, 3) := by decide +kernel
theorem dX9_plan_54 : decode cX9_plan 54 = .ok (.aload_n 0, 1) := by decide +kernel
theorem dX9_plan_55 : decode cX9_plan 55 = .ok (.iload_n 2, 1) := by decide +kernel
theorem dX9_plan_56 : decode cX9_plan 56 = .ok (.invokevirtual 101, 3) := by decide +kernel
theorem dX9_plan_59 : decode cX9_plan 59 = .ok (.ifCond .ne 15, 3) := by decide +kernel
theorem dX9_plan_62 : decode cX9_plan 62 = .ok (.iload_n 1, 1) := by decide +kernel
theorem dX9_plan_63 : decode cX9_plan 63 = .ok (.iconst 3, 1) := by decide +kernel
theorem dX9_plan_64 : decode cX9_plan 64 = .ok (.if_icmp .ne 14, 3) := by decide +kernel
theorem dX9_plan_67 : decode cX9_plan 67 = .ok (.iload_n 2, 1) := by decide +kernel
theorem dX9_plan_68 : decode cX9_plan 68 = .ok (.invokestatic 108, 3) := by decide +kernel
theorem dX9_plan_71 : decode cX9_plan 71 = .ok (.ifCond .eq 7, 3) := by decide +kernel
theorem dX9_plan_74 : decode cX9_plan 74 = .ok (.iconst 1, 1) := by decide +kernel
theorem dX9_plan_75 : decode cX9_plan 75 = .ok (.goto 4, 3) := by decide +kernel
theorem dX9_plan_78 : decode cX9_plan 78 = .ok (.iconst 0, 1) := by decide +kernel
theorem dX9_plan_79 : decode cX9_plan 79 = .ok (.istore_n 3, 1) := by decide +kernel
theorem dX9_plan_80 : decode cX9_plan 80 = .ok (.iload_n 3, 1) := by decide +kernel
theorem dX9_plan_81 : decode cX9_plan 81 = .ok (.ifCond .ne 5, 3) := by decide +kernel
theorem dX9_plan_84 : decode cX9_plan 84 = .ok (.iconst (-1), 1) := by decide +kernel
theorem dX9_plan_85 : decode cX9_plan 85 = .ok (.ireturn, 1) := by decide +kernel
theorem dX9_plan_86 : decode cX9_plan 86 = .ok (.aload_n 0, 1) := by decide +kernel
theorem dX9_plan_87 : decode cX9_plan 87 = .ok (.getfield 9, 3) := by decide +kernel
theorem dX9_plan_90 : decode cX9_plan 90 = .ok (.bipush 77, 2) := by decide +kernel
theorem dX9_plan_92 : decode cX9_plan 92 = .ok (.iaload, 1) := by decide +kernel
theorem dX9_plan_93 : decode cX9_plan 93 = .ok (.bipush 10, 2) := by decide +kernel
theorem dX9_plan_95 : decode cX9_plan 95 = .ok (.if_icmp .ne 6, 3) := by decide +kernel
theorem dX9_plan_98 : decode cX9_plan 98 = .ok (.bipush (-4), 2) := by decide +kernel
theorem dX9_plan_100 : decode cX9_plan 100 = .ok (.ireturn, 1) := by decide +kernel
theorem dX9_plan_101 : decode cX9_plan 101 = .ok (.aload_n 0, 1) := by decide +kernel
theorem dX9_plan_102 : decode cX9_plan 102 = .ok (.getfield 9, 3) := by decide +kernel
theorem dX9_plan_105 : decode cX9_plan 105 = .ok (.bipush 78, 2) := by decide +kernel
theorem dX9_plan_107 : decode cX9_plan 107 = .ok (.iconst 2, 1) := by decide +kernel
theorem dX9_plan_108 : decode cX9_plan 108 = .ok (.aload_n 0, 1) := by decide +kernel
theorem dX9_plan_109 : decode cX9_plan 109 = .ok (.getfield 9, 3) := by decide +kernel
theorem dX9_plan_112 : decode cX9_plan 112 = .ok (.bipush 77, 2) := by decide +kernel
theorem dX9_plan_114 : decode cX9_plan 114 = .ok (.iaload, 1) := by decide +kernel
theorem dX9_plan_115 : decode cX9_plan 115 = .ok (.imul, 1) := by decide +kernel
theorem dX9_plan_116 : decode cX9_plan 116 = .ok (.iadd, 1) := by decide +kernel
theorem dX9_plan_117 : decode cX9_plan 117 = .ok (.iload_n 1, 1) := by decide +kernel
theorem dX9_plan_118 : decode cX9_plan 118 = .ok (.iastore, 1) := by decide +kernel
theorem dX9_plan_119 : decode cX9_plan 119 = .ok (.aload_n 0, 1) := by decide +kernel
theorem dX9_plan_120 : decode cX9_plan 120 = .ok (.getfield 9, 3) := by decide +kernel
theorem dX9_plan_123 : decode cX9_plan 123 = .ok (.bipush 79, 2) := by decide +kernel
theorem dX9_plan_125 : decode cX9_plan 125 = .ok (.iconst 2, 1) := by decide +kernel
theorem dX9_plan_126 : decode cX9_plan 126 = .ok (.aload_n 0, 1) := by decide +kernel
theorem dX9_plan_127 : decode cX9_plan 127 = .ok (.getfield 9, 3) := by decide +kernel
theorem dX9_plan_130 : decode cX9_plan 130 = .ok (.bipush 77, 2) := by decide +kernel
theorem dX9_plan_132 : decode cX9_plan 132 = .ok (.iaload, 1) := by decide +kernel
theorem dX9_plan_133 : decode cX9_plan 133 = .ok (.imul, 1) := by decide +kernel
theorem dX9_plan_134 : decode cX9_plan 134 = .ok (.iadd, 1) := by decide +kernel
theorem dX9_plan_135 : decode cX9_plan 135 = .ok (.iload_n 2, 1) := by decide +kernel
theorem dX9_plan_136 : decode cX9_plan 136 = .ok (.iastore, 1) := by decide +kernel
theorem dX9_plan_137 : decode cX9_plan 137 = .ok (.aload_n 0, 1) := by decide +kernel
theorem dX9_plan_138 : decode cX9_plan 138 = .ok (.getfield 9, 3) := by decide +kernel
theorem dX9_plan_141 : decode cX9_plan 141 = .ok (.bipush 77, 2) := by decide +kernel
theorem dX9_plan_143 : decode cX9_plan 143 = .ok (.dup2, 1) := by decide +kernel
theorem dX9_plan_144 : decode cX9_plan 144 = .ok (.iaload, 1) := by decide +kernel
theorem dX9_plan_145 : decode cX9_plan 145 = .ok (.iconst 1, 1) := by decide +kernel
theorem dX9_plan_146 : decode cX9_plan 146 = .ok (.iadd, 1) := by decide +kernel
theorem dX9_plan_147 : decode cX9_plan 147 = .ok (.iastore, 1) := by decide +kernel
theorem dX9_plan_148 : decode cX9_plan 148 = .ok (.aload_n 0, 1) := by decide +kernel
theorem dX9_plan_149 : decode cX9_plan 149 = .ok (.getfield 9, 3) := by decide +kernel
theorem dX9_plan_152 : decode cX9_plan 152 = .ok (.bipush 77, 2) := by decide +kernel
theorem dX9_plan_154 : decode cX9_plan 154 = .ok (.iaload, 1) := by decide +kernel
theorem dX9_plan_155 : decode cX9_plan 155 = .ok (.ireturn, 1) := by decide +kernel
theorem dX9_ends_0 : decode cX9_ends 0 = .ok (.iload_n 1, 1) := by decide +kernel
theorem dX9_ends_1 : decode cX9_ends 1 = .ok (.iconst 0, 1) := by decide +kernel
theorem dX9_ends_2 : decode cX9_ends 2 = .ok (.iconst 1, 1) := by decide +kernel
theorem dX9_ends_3 : decode cX9_ends 3 = .ok (.invokestatic 89, 3) := by decide +kernel
theorem dX9_ends_6 : decode cX9_ends 6 = .ok (.ifCond .ne 5, 3) := by decide +kernel
theorem dX9_ends_9 : decode cX9_ends 9 = .ok (.iconst (-1), 1) := by decide +kernel
theorem dX9_ends_10 : decode cX9_ends 10 = .ok (.ireturn, 1) := by decide +kernel
theorem dX9_ends_11 : decode cX9_ends 11 = .ok (.aload_n 0, 1) := by decide +kernel
theorem dX9_ends_12 : decode cX9_ends 12 = .ok (.getfield 9, 3) := by decide +kernel
theorem dX9_ends_15 : decode cX9_ends 15 = .ok (.aload_n 0, 1) := by decide +kernel
theorem dX9_ends_16 : decode cX9_ends 16 = .ok (.getfield 15, 3) := by decide +kernel
theorem dX9_ends_19 : decode cX9_ends 19 = .ok (.invokestatic 85, 3) := by decide +kernel
theorem dX9_ends_22 : decode cX9_ends 22 = .ok (.iconst 0, 1) := by decide +kernel
theorem dX9_ends_23 : decode cX9_ends 23 = .ok (.istore_n 2, 1) := by decide +kernel
theorem dX9_ends_24 : decode cX9_ends 24 = .ok (.iload_n 2, 1) := by decide +kernel
theorem dX9_ends_25 : decode cX9_ends 25 = .ok (.aload_n 0, 1) := by decide +kernel
theorem dX9_ends_26 : decode cX9_ends 26 = .ok (.getfield 9, 3) := by decide +kernel
theorem dX9_ends_29 : decode cX9_ends 29 = .ok (.bipush 77, 2) := by decide +kernel
theorem dX9_ends_31 : decode cX9_ends 31 = .ok (.iaload, 1) := by decide +kernel
theorem dX9_ends_32 : decode cX9_ends 32 = .ok (.if_icmp .ge 93, 3) := by decide +kernel
theorem dX9_ends_35 : decode cX9_ends 35 = .ok (.aload_n 0, 1) := by decide +kernel
theorem dX9_ends_36 : decode cX9_ends 36 = .ok (.getfield 9, 3) := by decide +kernel
theorem dX9_ends_39 : decode cX9_ends 39 = .ok (.bipush 78, 2) := by decide +kernel
theorem dX9_ends_41 : decode cX9_ends 41 = .ok (.iconst 2, 1) := by decide +kernel
theorem dX9_ends_42 : decode cX9_ends 42 = .ok (.iload_n 2, 1) := by decide +kernel
theorem dX9_ends_43 : decode cX9_ends 43 = .ok (.imul, 1) := by decide +kernel
theorem dX9_ends_44 : decode cX9_ends 44 = .ok (.iadd, 1) := by decide +kernel
theorem dX9_ends_45 : decode cX9_ends 45 = .ok (.iaload, 1) := by decide +kernel
theorem dX9_ends_46 : decode cX9_ends 46 = .ok (.istore_n 3, 1) := by decide +kernel
theorem dX9_ends_47 : decode cX9_ends 47 = .ok (.aload_n 0, 1) := by decide +kernel
theorem dX9_ends_48 : decode cX9_ends 48 = .ok (.getfield 9, 3) := by decide +kernel
theorem dX9_ends_51 : decode cX9_ends 51 = .ok (.bipush 79, 2) := by decide +kernel
theorem dX9_ends_53 : decode cX9_ends 53 = .ok (.iconst 2, 1) := by decide +kernel
theorem dX9_ends_54 : decode cX9_ends 54 = .ok (.iload_n 2, 1) := by decide +kernel
theorem dX9_ends_55 : decode cX9_ends 55 = .ok (.imul, 1) := by decide +kernel
theorem dX9_ends_56 : decode cX9_ends 56 = .ok (.iadd, 1) := by decide +kernel
theorem dX9_ends_57 : decode cX9_ends 57 = .ok (.iaload, 1) := by decide +kernel
theorem dX9_ends_58 : decode cX9_ends 58 = .ok (.istore 4, 2) := by decide +kernel
theorem dX9_ends_60 : decode cX9_ends 60 = .ok (.iload_n 3, 1) := by decide +kernel
theorem dX9_ends_61 : decode cX9_ends 61 = .ok (.ifCond .ne 10, 3) := by decide +kernel
theorem dX9_ends_64 : decode cX9_ends 64 = .ok (.aload_n 0, 1) := by decide +kernel
theorem dX9_ends_65 : decode cX9_ends 65 = .ok (.invokevirtual 199, 3) := by decide +kernel
theorem dX9_ends_68 : decode cX9_ends 68 = .ok (.goto 51, 3) := by decide +kernel
theorem dX9_ends_71 : decode cX9_ends 71 = .ok (.iload_n 3, 1) := by decide +kernel
theorem dX9_ends_72 : decode cX9_ends 72 = .ok (.iconst 1, 1) := by decide +kernel
theorem dX9_ends_73 : decode cX9_ends 73 = .ok (.if_icmp .ne 15, 3) := by decide +kernel
theorem dX9_ends_76 : decode cX9_ends 76 = .ok (.aload_n 0, 1) := by decide +kernel
theorem dX9_ends_77 : decode cX9_ends 77 = .ok (.iload 4, 2) := by decide +kernel
theorem dX9_ends_79 : decode cX9_ends 79 = .ok (.bipush 10, 2) := by decide +kernel
theorem dX9_ends_81 : decode cX9_ends 81 = .ok (.idiv, 1) := by decide +kernel
theorem dX9_ends_82 : decode cX9_ends 82 = .ok (.invokevirtual 128, 3) := by decide +kernel
theorem dX9_ends_85 : decode cX9_ends 85 = .ok (.goto 34, 3) := by decide +kernel
theorem dX9_ends_88 : decode cX9_ends 88 = .ok (.iload_n 3, 1) := by decide +kernel
theorem dX9_ends_89 : decode cX9_ends 89 = .ok (.iconst 2, 1) := by decide +kernel
theorem dX9_ends_90 : decode cX9_ends 90 = .ok (.if_icmp .ne 15, 3) := by decide +kernel
theorem dX9_ends_93 : decode cX9_ends 93 = .ok (.aload_n 0, 1) := by decide +kernel
theorem dX9_ends_94 : decode cX9_ends 94 = .ok (.iload 4, 2) := by decide +kernel
theorem dX9_ends_96 : decode cX9_ends 96 = .ok (.iconst 2, 1) := by decide +kernel
theorem dX9_ends_97 : decode cX9_ends 97 = .ok (.iconst 0, 1) := by decide +kernel
theorem dX9_ends_98 : decode cX9_ends 98 = .ok (.invokevirtual 97, 3) := by decide +kernel
theorem dX9_ends_101 : decode cX9_ends 101 = .ok (.pop, 1) := by decide +kernel
theorem dX9_ends_102 : decode cX9_ends 102 = .ok (.goto 17, 3) := by decide +kernel
theorem dX9_ends_105 : decode cX9_ends 105 = .ok (.aload_n 0, 1) := by decide +kernel
theorem dX9_ends_106 : decode cX9_ends 106 = .ok (.getfield 9, 3) := by decide +kernel
theorem dX9_ends_109 : decode cX9_ends 109 = .ok (.bipush 55, 2) := by decide +kernel
theorem dX9_ends_111 : decode cX9_ends 111 = .ok (.dup2, 1) := by decide +kernel
theorem dX9_ends_112 : decode cX9_ends 112 = .ok (.iaload, 1) := by decide +kernel
theorem dX9_ends_113 : decode cX9_ends 113 = .ok (.iconst 1, 1) := by decide +kernel
theorem dX9_ends_114 : decode cX9_ends 114 = .ok (.iload 4, 2) := by decide +kernel
theorem dX9_ends_116 : decode cX9_ends 116 = .ok (.ishl, 1) := by decide +kernel
theorem dX9_ends_117 : decode cX9_ends 117 = .ok (.ixor, 1) := by decide +kernel
theorem dX9_ends_118 : decode cX9_ends 118 = .ok (.iastore, 1) := by decide +kernel
theorem dX9_ends_119 : decode cX9_ends 119 = .ok (.iinc 2 1, 3) := by decide +kernel
theorem dX9_ends_122 : decode cX9_ends 122 = .ok (.goto (-98), 3) := by decide +kernel
theorem dX9_ends_125 : decode cX9_ends 125 = .ok (.iload_n 1, 1) := by decide +kernel
theorem dX9_ends_126 : decode cX9_ends 126 = .ok (.ifCond .ne 11, 3) := by decide +kernel
theorem dX9_ends_129 : decode cX9_ends 129 = .ok (.aload_n 0, 1) := by decide +kernel
theorem dX9_ends_130 : decode cX9_ends 130 = .ok (.iconst 2, 1) := by decide +kernel
theorem dX9_ends_131 : decode cX9_ends 131 = .ok (.invokevirtual 225, 3) := by decide +kernel
theorem dX9_ends_134 : decode cX9_ends 134 = .ok (.goto 8, 3) := by decide +kernel
theorem dX9_ends_137 : decode cX9_ends 137 = .ok (.aload_n 0, 1) := by decide +kernel
theorem dX9_ends_138 : decode cX9_ends 138 = .ok (.iconst 4, 1) := by decide +kernel
theorem dX9_ends_139 : decode cX9_ends 139 = .ok (.invokevirtual 225, 3) := by decide +kernel
theorem dX9_ends_142 : decode cX9_ends 142 = .ok (.istore_n 2, 1) := by decide +kernel
theorem dX9_ends_143 : decode cX9_ends 143 = .ok (.aload_n 0, 1) := by decide +kernel
theorem dX9_ends_144 : decode cX9_ends 144 = .ok (.getfield 15, 3) := by decide +kernel
theorem dX9_ends_147 : decode cX9_ends 147 = .ok (.aload_n 0, 1) := by decide +kernel
theorem dX9_ends_148 : decode cX9_ends 148 = .ok (.getfield 9, 3) := by decide +kernel
theorem dX9_ends_151 : decode cX9_ends 151 = .ok (.invokestatic 85, 3) := by decide +kernel
theorem dX9_ends_154 : decode cX9_ends 154 = .ok (.iload_n 2, 1) := by decide +kernel
theorem dX9_ends_155 : decode cX9_ends 155 = .ok (.ireturn, 1) := by decide +kernel
theorem dX9_book_0 : decode cX9_book 0 = .ok (.iload_n 1, 1) := by decide +kernel
theorem dX9_book_1 : decode cX9_book 1 = .ok (.iconst (-1), 1) := by decide +kernel
theorem dX9_book_2 : decode cX9_book 2 = .ok (.if_icmp .ne 13, 3) := by decide +kernel
theorem dX9_book_5 : decode cX9_book 5 = .ok (.aload_n 0, 1) := by decide +kernel
theorem dX9_book_6 : decode cX9_book 6 = .ok (.getfield 9, 3) := by decide +kernel
theorem dX9_book_9 : decode cX9_book 9 = .ok (.bipush 98, 2) := by decide +kernel
theorem dX9_book_11 : decode cX9_book 11 = .ok (.iconst 0, 1) := by decide +kernel
theorem dX9_book_12 : decode cX9_book 12 = .ok (.iastore, 1) := by decide +kernel
theorem dX9_book_13 : decode cX9_book 13 = .ok (.iconst 0, 1) := by decide +kernel
theorem dX9_book_14 : decode cX9_book 14 = .ok (.ireturn, 1) := by decide +kernel
theorem dX9_book_15 : decode cX9_book 15 = .ok (.aload_n 0, 1) := by decide +kernel
theorem dX9_book_16 : decode cX9_book 16 = .ok (.iload_n 1, 1) := by decide +kernel
theorem dX9_book_17 : decode cX9_book 17 = .ok (.invokevirtual 101, 3) := by decide +kernel
theorem dX9_book_20 : decode cX9_book 20 = .ok (.ifCond .ne 5, 3) := by decide +kernel
theorem dX9_book_23 : decode cX9_book 23 = .ok (.iconst (-1), 1) := by decide +kernel
theorem dX9_book_24 : decode cX9_book 24 = .ok (.ireturn, 1) := by decide +kernel
theorem dX9_book_25 : decode cX9_book 25 = .ok (.iload_n 2, 1) := by decide +kernel
theorem dX9_book_26 : decode cX9_book 26 = .ok (.iconst 0, 1) := by decide +kernel
theorem dX9_book_27 : decode cX9_book 27 = .ok (.bipush 9, 2) := by decide +kernel
theorem dX9_book_29 : decode cX9_book 29 = .ok (.invokestatic 89, 3) := by decide +kernel
theorem dX9_book_32 : decode cX9_book 32 = .ok (.ifCond .ne 6, 3) := by decide +kernel
theorem dX9_book_35 : decode cX9_book 35 = .ok (.bipush (-2), 2) := by decide +kernel
theorem dX9_book_37 : decode cX9_book 37 = .ok (.ireturn, 1) := by decide +kernel
theorem dX9_book_38 : decode cX9_book 38 = .ok (.aload_n 0, 1) := by decide +kernel
theorem dX9_book_39 : decode cX9_book 39 = .ok (.getfield 9, 3) := by decide +kernel
theorem dX9_book_42 : decode cX9_book 42 = .ok (.bipush 98, 2) := by decide +kernel
theorem dX9_book_44 : decode cX9_book 44 = .ok (.iaload, 1) := by decide +kernel
theorem dX9_book_45 : decode cX9_book 45 = .ok (.bipush 8, 2) := by decide +kernel
theorem dX9_book_47 : decode cX9_book 47 = .ok (.if_icmp .ne 6, 3) := by decide +kernel
theorem dX9_book_50 : decode cX9_book 50 = .ok (.bipush (-4), 2) := by decide +kernel
theorem dX9_book_52 : decode cX9_book 52 = .ok (.ireturn, 1) := by decide +kernel
theorem dX9_book_53 : decode cX9_book 53 = .ok (.aload_n 0, 1) := by decide +kernel
theorem dX9_book_54 : decode cX9_book 54 = .ok (.getfield 9, 3) := by decide +kernel
theorem dX9_book_57 : decode cX9_book 57 = .ok (.bipush 99, 2) := by decide +kernel
theorem dX9_book_59 : decode cX9_book 59 = .ok (.iconst 2, 1) := by decide +kernel
theorem dX9_book_60 : decode cX9_book 60 = .ok (.aload_n 0, 1) := by decide +kernel
theorem dX9_book_61 : decode cX9_book 61 = .ok (.getfield 9, 3) := by decide +kernel
theorem dX9_book_64 : decode cX9_book 64 = .ok (.bipush 98, 2) := by decide +kernel
theorem dX9_book_66 : decode cX9_book 66 = .ok (.iaload, 1) := by decide +kernel
theorem dX9_book_67 : decode cX9_book 67 = .ok (.imul, 1) := by decide +kernel
theorem dX9_book_68 : decode cX9_book 68 = .ok (.iadd, 1) := by decide +kernel
theorem dX9_book_69 : decode cX9_book 69 = .ok (.iload_n 1, 1) := by decide +kernel
theorem dX9_book_70 : decode cX9_book 70 = .ok (.iastore, 1) := by decide +kernel
theorem dX9_book_71 : decode cX9_book 71 = .ok (.aload_n 0, 1) := by decide +kernel
theorem dX9_book_72 : decode cX9_book 72 = .ok (.getfield 9, 3) := by decide +kernel
theorem dX9_book_75 : decode cX9_book 75 = .ok (.bipush 100, 2) := by decide +kernel
theorem dX9_book_77 : decode cX9_book 77 = .ok (.iconst 2, 1) := by decide +kernel
theorem dX9_book_78 : decode cX9_book 78 = .ok (.aload_n 0, 1) := by decide +kernel
theorem dX9_book_79 : decode cX9_book 79 = .ok (.getfield 9, 3) := by decide +kernel
theorem dX9_book_82 : decode cX9_book 82 = .ok (.bipush 98, 2) := by decide +kernel
theorem dX9_book_84 : decode cX9_book 84 = .ok (.iaload, 1) := by decide +kernel
theorem dX9_book_85 : decode cX9_book 85 = .ok (.imul, 1) := by decide +kernel
theorem dX9_book_86 : decode cX9_book 86 = .ok (.iadd, 1) := by decide +kernel
theorem dX9_book_87 : decode cX9_book 87 = .ok (.iload_n 2, 1) := by decide +kernel
theorem dX9_book_88 : decode cX9_book 88 = .ok (.iastore, 1) := by decide +kernel
theorem dX9_book_89 : decode cX9_book 89 = .ok (.aload_n 0, 1) := by decide +kernel
theorem dX9_book_90 : decode cX9_book 90 = .ok (.getfield 9, 3) := by decide +kernel
theorem dX9_book_93 : decode cX9_book 93 = .ok (.bipush 98, 2) := by decide +kernel
theorem dX9_book_95 : decode cX9_book 95 = .ok (.dup2, 1) := by decide +kernel
theorem dX9_book_96 : decode cX9_book 96 = .ok (.iaload, 1) := by decide +kernel
theorem dX9_book_97 : decode cX9_book 97 = .ok (.iconst 1, 1) := by decide +kernel
theorem dX9_book_98 : decode cX9_book 98 = .ok (.iadd, 1) := by decide +kernel
theorem dX9_book_99 : decode cX9_book 99 = .ok (.iastore, 1) := by decide +kernel
theorem dX9_book_100 : decode cX9_book 100 = .ok (.aload_n 0, 1) := by decide +kernel
theorem dX9_book_101 : decode cX9_book 101 = .ok (.getfield 9, 3) := by decide +kernel
theorem dX9_book_104 : decode cX9_book 104 = .ok (.bipush 98, 2) := by decide +kernel
theorem dX9_book_106 : decode cX9_book 106 = .ok (.iaload, 1) := by decide +kernel
theorem dX9_book_107 : decode cX9_book 107 = .ok (.ireturn, 1) := by decide +kernel
theorem dX9_looked_0 : decode cX9_looked 0 = .ok (.iconst 0, 1) := by decide +kernel
theorem dX9_looked_1 : decode cX9_looked 1 = .ok (.istore_n 1, 1) := by decide +kernel
theorem dX9_looked_2 : decode cX9_looked 2 = .ok (.iload_n 1, 1) := by decide +kernel
theorem dX9_looked_3 : decode cX9_looked 3 = .ok (.aload_n 0, 1) := by decide +kernel
theorem dX9_looked_4 : decode cX9_looked 4 = .ok (.getfield 9, 3) := by decide +kernel
theorem dX9_looked_7 : decode cX9_looked 7 = .ok (.bipush 98, 2) := by decide +kernel
theorem dX9_looked_9 : decode cX9_looked 9 = .ok (.iaload, 1) := by decide +kernel
theorem dX9_looked_10 : decode cX9_looked 10 = .ok (.if_icmp .ge 41, 3) := by decide +kernel
theorem dX9_looked_13 : decode cX9_looked 13 = .ok (.aload_n 0, 1) := by decide +kernel
theorem dX9_looked_14 : decode cX9_looked 14 = .ok (.aload_n 0, 1) := by decide +kernel
theorem dX9_looked_15 : decode cX9_looked 15 = .ok (.getfield 9, 3) := by decide +kernel
theorem dX9_looked_18 : decode cX9_looked 18 = .ok (.bipush 99, 2) := by decide +kernel
theorem dX9_looked_20 : decode cX9_looked 20 = .ok (.iconst 2, 1) := by decide +kernel
theorem dX9_looked_21 : decode cX9_looked 21 = .ok (.iload_n 1, 1) := by decide +kernel
theorem dX9_looked_22 : decode cX9_looked 22 = .ok (.imul, 1) := by decide +kernel
theorem dX9_looked_23 : decode cX9_looked 23 = .ok (.iadd, 1) := by decide +kernel
theorem dX9_looked_24 : decode cX9_looked 24 = .ok (.iaload, 1) := by decide +kernel
theorem dX9_looked_25 : decode cX9_looked 25 = .ok (.iconst 2, 1) := by decide +kernel
theorem dX9_looked_26 : decode cX9_looked 26 = .ok (.invokevirtual 93, 3) := by decide +kernel
theorem dX9_looked_29 : decode cX9_looked 29 = .ok (.aload_n 0, 1) := by decide +kernel
theorem dX9_looked_30 : decode cX9_looked 30 = .ok (.getfield 9, 3) := by decide +kernel
theorem dX9_looked_33 : decode cX9_looked 33 = .ok (.bipush 100, 2) := by decide +kernel
theorem dX9_looked_35 : decode cX9_looked 35 = .ok (.iconst 2, 1) := by decide +kernel
theorem dX9_looked_36 : decode cX9_looked 36 = .ok (.iload_n 1, 1) := by decide +kernel
theorem dX9_looked_37 : decode cX9_looked 37 = .ok (.imul, 1) := by decide +kernel
theorem dX9_looked_38 : decode cX9_looked 38 = .ok (.iadd, 1) := by decide +kernel
theorem dX9_looked_39 : decode cX9_looked 39 = .ok (.iaload, 1) := by decide +kernel
theorem dX9_looked_40 : decode cX9_looked 40 = .ok (.if_icmp .eq 5, 3) := by decide +kernel
theorem dX9_looked_43 : decode cX9_looked 43 = .ok (.iload_n 1, 1) := by decide +kernel
theorem dX9_looked_44 : decode cX9_looked 44 = .ok (.ireturn, 1) := by decide +kernel
theorem dX9_looked_45 : decode cX9_looked 45 = .ok (.iinc 1 1, 3) := by decide +kernel
theorem dX9_looked_48 : decode cX9_looked 48 = .ok (.goto (-46), 3) := by decide +kernel
theorem dX9_looked_51 : decode cX9_looked 51 = .ok (.bipush (-5), 2) := by decide +kernel
theorem dX9_looked_53 : decode cX9_looked 53 = .ok (.ireturn, 1) := by decide +kernel
theorem dX9_body_0 : decode cX9_body 0 = .ok (.aload_n 0, 1) := by decide +kernel
theorem dX9_body_1 : decode cX9_body 1 = .ok (.getfield 252, 3) := by decide +kernel
theorem dX9_body_4 : decode cX9_body 4 = .ok (.bipush 20, 2) := by decide +kernel
theorem dX9_body_6 : decode cX9_body 6 = .ok (.if_icmp .ge 13, 3) := by decide +kernel
theorem dX9_body_9 : decode cX9_body 9 = .ok (.aload_n 0, 1) := by decide +kernel
theorem dX9_body_10 : decode cX9_body 10 = .ok (.getfield 65, 3) := by decide +kernel
theorem dX9_body_13 : decode cX9_body 13 = .ok (.aload_n 0, 1) := by decide +kernel
theorem dX9_body_14 : decode cX9_body 14 = .ok (.getfield 252, 3) := by decide +kernel
theorem dX9_body_17 : decode cX9_body 17 = .ok (.iload_n 1, 1) := by decide +kernel
theorem dX9_body_18 : decode cX9_body 18 = .ok (.iastore, 1) := by decide +kernel
theorem dX9_body_19 : decode cX9_body 19 = .ok (.aload_n 0, 1) := by decide +kernel
theorem dX9_body_20 : decode cX9_body 20 = .ok (.dup, 1) := by decide +kernel
theorem dX9_body_21 : decode cX9_body 21 = .ok (.getfield 252, 3) := by decide +kernel
theorem dX9_body_24 : decode cX9_body 24 = .ok (.iconst 1, 1) := by decide +kernel
theorem dX9_body_25 : decode cX9_body 25 = .ok (.iadd, 1) := by decide +kernel
theorem dX9_body_26 : decode cX9_body 26 = .ok (.putfield 252, 3) := by decide +kernel
theorem dX9_body_29 : decode cX9_body 29 = .ok (.iload_n 1, 1) := by decide +kernel
theorem dX9_body_30 : decode cX9_body 30 = .ok (.ireturn, 1) := by decide +kernel
theorem dX9_begin_0 : decode cX9_begin 0 = .ok (.aload_n 0, 1) := by decide +kernel
theorem dX9_begin_1 : decode cX9_begin 1 = .ok (.aload_n 0, 1) := by decide +kernel
theorem dX9_begin_2 : decode cX9_begin 2 = .ok (.iload_n 1, 1) := by decide +kernel
theorem dX9_begin_3 : decode cX9_begin 3 = .ok (.iconst 0, 1) := by decide +kernel
theorem dX9_begin_4 : decode cX9_begin 4 = .ok (.invokevirtual 93, 3) := by decide +kernel
theorem dX9_begin_7 : decode cX9_begin 7 = .ok (.iload_n 1, 1) := by decide +kernel
theorem dX9_begin_8 : decode cX9_begin 8 = .ok (.iload_n 2, 1) := by decide +kernel
theorem dX9_begin_9 : decode cX9_begin 9 = .ok (.iload_n 3, 1) := by decide +kernel
theorem dX9_begin_10 : decode cX9_begin 10 = .ok (.invokevirtual 255, 3) := by decide +kernel
theorem dX9_begin_13 : decode cX9_begin 13 = .ok (.ireturn, 1) := by decide +kernel
theorem dX9_byKind_0 : decode cX9_byKind 0 = .ok (.iload_n 1, 1) := by decide +kernel
theorem dX9_byKind_1 : decode cX9_byKind 1 = .ok (.istore 5, 2) := by decide +kernel
theorem dX9_byKind_3 : decode cX9_byKind 3 = .ok (.aload_n 0, 1) := by decide +kernel
theorem dX9_byKind_4 : decode cX9_byKind 4 = .ok (.getfield 62, 3) := by decide +kernel
theorem dX9_byKind_7 : decode cX9_byKind 7 = .ok (.iconst 3, 1) := by decide +kernel
theorem dX9_byKind_8 : decode cX9_byKind 8 = .ok (.iload 5, 2) := by decide +kernel
theorem dX9_byKind_10 : decode cX9_byKind 10 = .ok (.imul, 1) := by decide +kernel
theorem dX9_byKind_11 : decode cX9_byKind 11 = .ok (.iload_n 3, 1) := by decide +kernel
theorem dX9_byKind_12 : decode cX9_byKind 12 = .ok (.iadd, 1) := by decide +kernel
theorem dX9_byKind_13 : decode cX9_byKind 13 = .ok (.iaload, 1) := by decide +kernel
theorem dX9_byKind_14 : decode cX9_byKind 14 = .ok (.ifCond .ne 15, 3) := by decide +kernel
theorem dX9_byKind_17 : decode cX9_byKind 17 = .ok (.aload_n 0, 1) := by decide +kernel
theorem dX9_byKind_18 : decode cX9_byKind 18 = .ok (.getfield 59, 3) := by decide +kernel
theorem dX9_byKind_21 : decode cX9_byKind 21 = .ok (.iload 5, 2) := by decide +kernel
theorem dX9_byKind_23 : decode cX9_byKind 23 = .ok (.iaload, 1) := by decide +kernel
theorem dX9_byKind_24 : decode cX9_byKind 24 = .ok (.istore 5, 2) := by decide +kernel
theorem dX9_byKind_26 : decode cX9_byKind 26 = .ok (.goto (-23), 3) := by decide +kernel
theorem dX9_byKind_29 : decode cX9_byKind 29 = .ok (.aload_n 0, 1) := by decide +kernel
theorem dX9_byKind_30 : decode cX9_byKind 30 = .ok (.getfield 59, 3) := by decide +kernel
theorem dX9_byKind_33 : decode cX9_byKind 33 = .ok (.iload 5, 2) := by decide +kernel
theorem dX9_byKind_35 : decode cX9_byKind 35 = .ok (.iaload, 1) := by decide +kernel
theorem dX9_byKind_36 : decode cX9_byKind 36 = .ok (.istore 6, 2) := by decide +kernel
theorem dX9_byKind_38 : decode cX9_byKind 38 = .ok (.aload_n 0, 1) := by decide +kernel
theorem dX9_byKind_39 : decode cX9_byKind 39 = .ok (.aload_n 0, 1) := by decide +kernel
theorem dX9_byKind_40 : decode cX9_byKind 40 = .ok (.getfield 62, 3) := by decide +kernel
theorem dX9_byKind_43 : decode cX9_byKind 43 = .ok (.iconst 3, 1) := by decide +kernel
theorem dX9_byKind_44 : decode cX9_byKind 44 = .ok (.iload 5, 2) := by decide +kernel
theorem dX9_byKind_46 : decode cX9_byKind 46 = .ok (.imul, 1) := by decide +kernel
theorem dX9_byKind_47 : decode cX9_byKind 47 = .ok (.iload_n 3, 1) := by decide +kernel
theorem dX9_byKind_48 : decode cX9_byKind 48 = .ok (.iadd, 1) := by decide +kernel
theorem dX9_byKind_49 : decode cX9_byKind 49 = .ok (.iaload, 1) := by decide +kernel
theorem dX9_byKind_50 : decode cX9_byKind 50 = .ok (.invokevirtual 259, 3) := by decide +kernel
theorem dX9_byKind_53 : decode cX9_byKind 53 = .ok (.lookupswitch 228 #[(10, 91), (11, 96), (12, 112), (20, 123), (30, 137), (40, 150), (50, 169), (51, 181), (60, 194), (70, 207)], 91) := by decide +kernel
theorem dX9_byKind_144 : decode cX9_byKind 144 = .ok (.iload 4, 2) := by decide +kernel
theorem dX9_byKind_146 : decode cX9_byKind 146 = .ok (.iload_n 2, 1) := by decide +kernel
theorem dX9_byKind_147 : decode cX9_byKind 147 = .ok (.iadd, 1) := by decide +kernel
theorem dX9_byKind_148 : decode cX9_byKind 148 = .ok (.ireturn, 1) := by decide +kernel
theorem dX9_byKind_149 : decode cX9_byKind 149 = .ok (.aload_n 0, 1) := by decide +kernel
theorem dX9_byKind_150 : decode cX9_byKind 150 = .ok (.iload_n 2, 1) := by decide +kernel
theorem dX9_byKind_151 : decode cX9_byKind 151 = .ok (.iconst 0, 1) := by decide +kernel
theorem dX9_byKind_152 : decode cX9_byKind 152 = .ok (.iload 4, 2) := by decide +kernel
theorem dX9_byKind_154 : decode cX9_byKind 154 = .ok (.invokevirtual 262, 3) := by decide +kernel
theorem dX9_byKind_157 : decode cX9_byKind 157 = .ok (.aload_n 0, 1) := by decide +kernel
theorem dX9_byKind_158 : decode cX9_byKind 158 = .ok (.iload_n 2, 1) := by decide +kernel
theorem dX9_byKind_159 : decode cX9_byKind 159 = .ok (.iconst 1, 1) := by decide +kernel
theorem dX9_byKind_160 : decode cX9_byKind 160 = .ok (.invokevirtual 93, 3) := by decide +kernel
theorem dX9_byKind_163 : decode cX9_byKind 163 = .ok (.isub, 1) := by decide +kernel
theorem dX9_byKind_164 : decode cX9_byKind 164 = .ok (.ireturn, 1) := by decide +kernel
theorem dX9_byKind_165 : decode cX9_byKind 165 = .ok (.aload_n 0, 1) := by decide +kernel
theorem dX9_byKind_166 : decode cX9_byKind 166 = .ok (.iload_n 2, 1) := by decide +kernel
theorem dX9_byKind_167 : decode cX9_byKind 167 = .ok (.iconst 1, 1) := by decide +kernel
theorem dX9_byKind_168 : decode cX9_byKind 168 = .ok (.iload 4, 2) := by decide +kernel
theorem dX9_byKind_170 : decode cX9_byKind 170 = .ok (.invokevirtual 262, 3) := by decide +kernel
theorem dX9_byKind_173 : decode cX9_byKind 173 = .ok (.iconst 2, 1) := by decide +kernel
theorem dX9_byKind_174 : decode cX9_byKind 174 = .ok (.imul, 1) := by decide +kernel
theorem dX9_byKind_175 : decode cX9_byKind 175 = .ok (.ireturn, 1) := by decide +kernel
theorem dX9_byKind_176 : decode cX9_byKind 176 = .ok (.aload_n 0, 1) := by decide +kernel
theorem dX9_byKind_177 : decode cX9_byKind 177 = .ok (.iload 6, 2) := by decide +kernel
theorem dX9_byKind_179 : decode cX9_byKind 179 = .ok (.iload_n 2, 1) := by decide +kernel
theorem dX9_byKind_180 : decode cX9_byKind 180 = .ok (.iconst 1, 1) := by decide +kernel
theorem dX9_byKind_181 : decode cX9_byKind 181 = .ok (.iload 4, 2) := by decide +kernel
theorem dX9_byKind_183 : decode cX9_byKind 183 = .ok (.invokevirtual 255, 3) := by decide +kernel
theorem dX9_byKind_186 : decode cX9_byKind 186 = .ok (.bipush 6, 2) := by decide +kernel
theorem dX9_byKind_188 : decode cX9_byKind 188 = .ok (.ixor, 1) := by decide +kernel
theorem dX9_byKind_189 : decode cX9_byKind 189 = .ok (.ireturn, 1) := by decide +kernel
theorem dX9_byKind_190 : decode cX9_byKind 190 = .ok (.aload_n 0, 1) := by decide +kernel
theorem dX9_byKind_191 : decode cX9_byKind 191 = .ok (.iload 6, 2) := by decide +kernel
theorem dX9_byKind_193 : decode cX9_byKind 193 = .ok (.iload_n 2, 1) := by decide +kernel
theorem dX9_byKind_194 : decode cX9_byKind 194 = .ok (.iconst 0, 1) := by decide +kernel
theorem dX9_byKind_195 : decode cX9_byKind 195 = .ok (.iload 4, 2) := by decide +kernel
theorem dX9_byKind_197 : decode cX9_byKind 197 = .ok (.iconst 3, 1) := by decide +kernel
theorem dX9_byKind_198 : decode cX9_byKind 198 = .ok (.imul, 1) := by decide +kernel
theorem dX9_byKind_199 : decode cX9_byKind 199 = .ok (.invokevirtual 255, 3) := by decide +kernel
theorem dX9_byKind_202 : decode cX9_byKind 202 = .ok (.ireturn, 1) := by decide +kernel
theorem dX9_byKind_203 : decode cX9_byKind 203 = .ok (.aload_n 0, 1) := by decide +kernel
theorem dX9_byKind_204 : decode cX9_byKind 204 = .ok (.iload 6, 2) := by decide +kernel
theorem dX9_byKind_206 : decode cX9_byKind 206 = .ok (.iload_n 2, 1) := by decide +kernel
theorem dX9_byKind_207 : decode cX9_byKind 207 = .ok (.iconst 2, 1) := by decide +kernel
theorem dX9_byKind_208 : decode cX9_byKind 208 = .ok (.iload 4, 2) := by decide +kernel
theorem dX9_byKind_210 : decode cX9_byKind 210 = .ok (.invokevirtual 255, 3) := by decide +kernel
theorem dX9_byKind_213 : decode cX9_byKind 213 = .ok (.aload_n 0, 1) := by decide +kernel
theorem dX9_byKind_214 : decode cX9_byKind 214 = .ok (.iload_n 2, 1) := by decide +kernel
theorem dX9_byKind_215 : decode cX9_byKind 215 = .ok (.iconst 1, 1) := by decide +kernel
theorem dX9_byKind_216 : decode cX9_byKind 216 = .ok (.iconst 1, 1) := by decide +kernel
theorem dX9_byKind_217 : decode cX9_byKind 217 = .ok (.invokevirtual 262, 3) := by decide +kernel
theorem dX9_byKind_220 : decode cX9_byKind 220 = .ok (.iadd, 1) := by decide +kernel
theorem dX9_byKind_221 : decode cX9_byKind 221 = .ok (.ireturn, 1) := by decide +kernel
theorem dX9_byKind_222 : decode cX9_byKind 222 = .ok (.aload_n 0, 1) := by decide +kernel
theorem dX9_byKind_223 : decode cX9_byKind 223 = .ok (.iload 6, 2) := by decide +kernel
theorem dX9_byKind_225 : decode cX9_byKind 225 = .ok (.iload_n 2, 1) := by decide +kernel
theorem dX9_byKind_226 : decode cX9_byKind 226 = .ok (.iconst 0, 1) := by decide +kernel
theorem dX9_byKind_227 : decode cX9_byKind 227 = .ok (.iload 4, 2) := by decide +kernel
theorem dX9_byKind_229 : decode cX9_byKind 229 = .ok (.invokevirtual 255, 3) := by decide +kernel
theorem dX9_byKind_232 : decode cX9_byKind 232 = .ok (.ineg, 1) := by decide +kernel
theorem dX9_byKind_233 : decode cX9_byKind 233 = .ok (.ireturn, 1) := by decide +kernel
theorem dX9_byKind_234 : decode cX9_byKind 234 = .ok (.aload_n 0, 1) := by decide +kernel
theorem dX9_byKind_235 : decode cX9_byKind 235 = .ok (.iload 6, 2) := by decide +kernel
theorem dX9_byKind_237 : decode cX9_byKind 237 = .ok (.iload_n 2, 1) := by decide +kernel
theorem dX9_byKind_238 : decode cX9_byKind 238 = .ok (.iconst 1, 1) := by decide +kernel
theorem dX9_byKind_239 : decode cX9_byKind 239 = .ok (.iload 4, 2) := by decide +kernel
theorem dX9_byKind_241 : decode cX9_byKind 241 = .ok (.iconst 1, 1) := by decide +kernel
theorem dX9_byKind_242 : decode cX9_byKind 242 = .ok (.iadd, 1) := by decide +kernel
theorem dX9_byKind_243 : decode cX9_byKind 243 = .ok (.invokevirtual 255, 3) := by decide +kernel
theorem dX9_byKind_246 : decode cX9_byKind 246 = .ok (.ireturn, 1) := by decide +kernel
theorem dX9_byKind_247 : decode cX9_byKind 247 = .ok (.aload_n 0, 1) := by decide +kernel
theorem dX9_byKind_248 : decode cX9_byKind 248 = .ok (.iload 6, 2) := by decide +kernel
theorem dX9_byKind_250 : decode cX9_byKind 250 = .ok (.iload_n 2, 1) := by decide +kernel
theorem dX9_byKind_251 : decode cX9_byKind 251 = .ok (.iconst 2, 1) := by decide +kernel
theorem dX9_byKind_252 : decode cX9_byKind 252 = .ok (.iload 4, 2) := by decide +kernel
theorem dX9_byKind_254 : decode cX9_byKind 254 = .ok (.iload_n 2, 1) := by decide +kernel
theorem dX9_byKind_255 : decode cX9_byKind 255 = .ok (.isub, 1) := by decide +kernel
theorem dX9_byKind_256 : decode cX9_byKind 256 = .ok (.invokevirtual 255, 3) := by decide +kernel
theorem dX9_byKind_259 : decode cX9_byKind 259 = .ok (.ireturn, 1) := by decide +kernel
theorem dX9_byKind_260 : decode cX9_byKind 260 = .ok (.aload_n 0, 1) := by decide +kernel
theorem dX9_byKind_261 : decode cX9_byKind 261 = .ok (.iload 6, 2) := by decide +kernel
theorem dX9_byKind_263 : decode cX9_byKind 263 = .ok (.iload_n 2, 1) := by decide +kernel
theorem dX9_byKind_264 : decode cX9_byKind 264 = .ok (.iconst 1, 1) := by decide +kernel
theorem dX9_byKind_265 : decode cX9_byKind 265 = .ok (.iload 4, 2) := by decide +kernel
theorem dX9_byKind_267 : decode cX9_byKind 267 = .ok (.invokevirtual 255, 3) := by decide +kernel
theorem dX9_byKind_270 : decode cX9_byKind 270 = .ok (.aload_n 0, 1) := by decide +kernel
theorem dX9_byKind_271 : decode cX9_byKind 271 = .ok (.iload 6, 2) := by decide +kernel
theorem dX9_byKind_273 : decode cX9_byKind 273 = .ok (.iload_n 2, 1) := by decide +kernel
theorem dX9_byKind_274 : decode cX9_byKind 274 = .ok (.iconst 0, 1) := by decide +kernel
theorem dX9_byKind_275 : decode cX9_byKind 275 = .ok (.iconst 2, 1) := by decide +kernel
theorem dX9_byKind_276 : decode cX9_byKind 276 = .ok (.invokevirtual 255, 3) := by decide +kernel
theorem dX9_byKind_279 : decode cX9_byKind 279 = .ok (.iadd, 1) := by decide +kernel
theorem dX9_byKind_280 : decode cX9_byKind 280 = .ok (.ireturn, 1) := by decide +kernel
theorem dX9_byKind_281 : decode cX9_byKind 281 = .ok (.aload_n 0, 1) := by decide +kernel
theorem dX9_byKind_282 : decode cX9_byKind 282 = .ok (.iload 6, 2) := by decide +kernel
theorem dX9_byKind_284 : decode cX9_byKind 284 = .ok (.iload_n 2, 1) := by decide +kernel
theorem dX9_byKind_285 : decode cX9_byKind 285 = .ok (.iconst 0, 1) := by decide +kernel
theorem dX9_byKind_286 : decode cX9_byKind 286 = .ok (.iload 4, 2) := by decide +kernel
theorem dX9_byKind_288 : decode cX9_byKind 288 = .ok (.invokevirtual 255, 3) := by decide +kernel
theorem dX9_byKind_291 : decode cX9_byKind 291 = .ok (.aload_n 0, 1) := by decide +kernel
theorem dX9_byKind_292 : decode cX9_byKind 292 = .ok (.iload_n 2, 1) := by decide +kernel
theorem dX9_byKind_293 : decode cX9_byKind 293 = .ok (.iconst 1, 1) := by decide +kernel
theorem dX9_byKind_294 : decode cX9_byKind 294 = .ok (.invokevirtual 93, 3) := by decide +kernel
theorem dX9_byKind_297 : decode cX9_byKind 297 = .ok (.ixor, 1) := by decide +kernel
theorem dX9_byKind_298 : decode cX9_byKind 298 = .ok (.ireturn, 1) := by decide +kernel
theorem dX9_act_0 : decode cX9_act 0 = .ok (.aload_n 0, 1) := by decide +kernel
theorem dX9_act_1 : decode cX9_act 1 = .ok (.iconst 0, 1) := by decide +kernel
theorem dX9_act_2 : decode cX9_act 2 = .ok (.putfield 252, 3) := by decide +kernel
theorem dX9_act_5 : decode cX9_act 5 = .ok (.aload_n 0, 1) := by decide +kernel
theorem dX9_act_6 : decode cX9_act 6 = .ok (.iload_n 1, 1) := by decide +kernel
theorem dX9_act_7 : decode cX9_act 7 = .ok (.invokevirtual 101, 3) := by decide +kernel
theorem dX9_act_10 : decode cX9_act 10 = .ok (.ifCond .eq 22, 3) := by decide +kernel
theorem dX9_act_13 : decode cX9_act 13 = .ok (.iload_n 2, 1) := by decide +kernel
theorem dX9_act_14 : decode cX9_act 14 = .ok (.iconst 0, 1) := by decide +kernel
theorem dX9_act_15 : decode cX9_act 15 = .ok (.iconst 2, 1) := by decide +kernel
theorem dX9_act_16 : decode cX9_act 16 = .ok (.invokestatic 89, 3) := by decide +kernel
theorem dX9_act_19 : decode cX9_act 19 = .ok (.ifCond .eq 13, 3) := by decide +kernel
theorem dX9_act_22 : decode cX9_act 22 = .ok (.aload_n 0, 1) := by decide +kernel
theorem dX9_act_23 : decode cX9_act 23 = .ok (.iload_n 1, 1) := by decide +kernel
theorem dX9_act_24 : decode cX9_act 24 = .ok (.iload_n 2, 1) := by decide +kernel
theorem dX9_act_25 : decode cX9_act 25 = .ok (.iload_n 3, 1) := by decide +kernel
theorem dX9_act_26 : decode cX9_act 26 = .ok (.invokevirtual 262, 3) := by decide +kernel
theorem dX9_act_29 : decode cX9_act 29 = .ok (.goto 4, 3) := by decide +kernel
theorem dX9_act_32 : decode cX9_act 32 = .ok (.iconst 0, 1) := by decide +kernel
theorem dX9_act_33 : decode cX9_act 33 = .ok (.ireturn, 1) := by decide +kernel
theorem dX9_trace_0 : decode cX9_trace 0 = .ok (.iload_n 1, 1) := by decide +kernel
theorem dX9_trace_1 : decode cX9_trace 1 = .ok (.iconst 0, 1) := by decide +kernel
theorem dX9_trace_2 : decode cX9_trace 2 = .ok (.bipush 20, 2) := by decide +kernel
theorem dX9_trace_4 : decode cX9_trace 4 = .ok (.aload_n 0, 1) := by decide +kernel
theorem dX9_trace_5 : decode cX9_trace 5 = .ok (.getfield 252, 3) := by decide +kernel
theorem dX9_trace_8 : decode cX9_trace 8 = .ok (.invokestatic 120, 3) := by decide +kernel
theorem dX9_trace_11 : decode cX9_trace 11 = .ok (.iconst 1, 1) := by decide +kernel
theorem dX9_trace_12 : decode cX9_trace 12 = .ok (.isub, 1) := by decide +kernel
theorem dX9_trace_13 : decode cX9_trace 13 = .ok (.invokestatic 89, 3) := by decide +kernel
theorem dX9_trace_16 : decode cX9_trace 16 = .ok (.ifCond .eq 12, 3) := by decide +kernel
theorem dX9_trace_19 : decode cX9_trace 19 = .ok (.aload_n 0, 1) := by decide +kernel
theorem dX9_trace_20 : decode cX9_trace 20 = .ok (.getfield 65, 3) := by decide +kernel
theorem dX9_trace_23 : decode cX9_trace 23 = .ok (.iload_n 1, 1) := by decide +kernel
theorem dX9_trace_24 : decode cX9_trace 24 = .ok (.iaload, 1) := by decide +kernel
theorem dX9_trace_25 : decode cX9_trace 25 = .ok (.goto 4, 3) := by decide +kernel
theorem dX9_trace_28 : decode cX9_trace 28 = .ok (.iconst (-1), 1) := by decide +kernel
theorem dX9_trace_29 : decode cX9_trace 29 = .ok (.ireturn, 1) := by decide +kernel
theorem dX9_taken_0 : decode cX9_taken 0 = .ok (.iload_n 2, 1) := by decide +kernel
theorem dX9_taken_1 : decode cX9_taken 1 = .ok (.iconst 0, 1) := by decide +kernel
theorem dX9_taken_2 : decode cX9_taken 2 = .ok (.bipush 6, 2) := by decide +kernel
theorem dX9_taken_4 : decode cX9_taken 4 = .ok (.invokestatic 89, 3) := by decide +kernel
theorem dX9_taken_7 : decode cX9_taken 7 = .ok (.ifCond .ne 6, 3) := by decide +kernel
theorem dX9_taken_10 : decode cX9_taken 10 = .ok (.bipush (-2), 2) := by decide +kernel
theorem dX9_taken_12 : decode cX9_taken 12 = .ok (.ireturn, 1) := by decide +kernel
theorem dX9_taken_13 : decode cX9_taken 13 = .ok (.aload_n 0, 1) := by decide +kernel
theorem dX9_taken_14 : decode cX9_taken 14 = .ok (.iload_n 1, 1) := by decide +kernel
theorem dX9_taken_15 : decode cX9_taken 15 = .ok (.invokevirtual 101, 3) := by decide +kernel
theorem dX9_taken_18 : decode cX9_taken 18 = .ok (.ifCond .ne 6, 3) := by decide +kernel
theorem dX9_taken_21 : decode cX9_taken 21 = .ok (.bipush (-11), 2) := by decide +kernel
theorem dX9_taken_23 : decode cX9_taken 23 = .ok (.ireturn, 1) := by decide +kernel
theorem dX9_taken_24 : decode cX9_taken 24 = .ok (.aload_n 0, 1) := by decide +kernel
theorem dX9_taken_25 : decode cX9_taken 25 = .ok (.iload_n 1, 1) := by decide +kernel
theorem dX9_taken_26 : decode cX9_taken 26 = .ok (.iconst 0, 1) := by decide +kernel
theorem dX9_taken_27 : decode cX9_taken 27 = .ok (.invokevirtual 93, 3) := by decide +kernel
theorem dX9_taken_30 : decode cX9_taken 30 = .ok (.istore_n 3, 1) := by decide +kernel
theorem dX9_taken_31 : decode cX9_taken 31 = .ok (.iload_n 3, 1) := by decide +kernel
theorem dX9_taken_32 : decode cX9_taken 32 = .ok (.iconst (-1), 1) := by decide +kernel
theorem dX9_taken_33 : decode cX9_taken 33 = .ok (.if_icmp .eq 18, 3) := by decide +kernel
theorem dX9_taken_36 : decode cX9_taken 36 = .ok (.iload_n 3, 1) := by decide +kernel
theorem dX9_taken_37 : decode cX9_taken 37 = .ok (.iload_n 2, 1) := by decide +kernel
theorem dX9_taken_38 : decode cX9_taken 38 = .ok (.if_icmp .eq 13, 3) := by decide +kernel
theorem dX9_taken_41 : decode cX9_taken 41 = .ok (.aload_n 0, 1) := by decide +kernel
theorem dX9_taken_42 : decode cX9_taken 42 = .ok (.getfield 59, 3) := by decide +kernel
theorem dX9_taken_45 : decode cX9_taken 45 = .ok (.iload_n 3, 1) := by decide +kernel
theorem dX9_taken_46 : decode cX9_taken 46 = .ok (.iaload, 1) := by decide +kernel
theorem dX9_taken_47 : decode cX9_taken 47 = .ok (.istore_n 3, 1) := by decide +kernel
theorem dX9_taken_48 : decode cX9_taken 48 = .ok (.goto (-17), 3) := by decide +kernel
theorem dX9_taken_51 : decode cX9_taken 51 = .ok (.iload_n 3, 1) := by decide +kernel
theorem dX9_taken_52 : decode cX9_taken 52 = .ok (.iload_n 2, 1) := by decide +kernel
theorem dX9_taken_53 : decode cX9_taken 53 = .ok (.if_icmp .ne 12, 3) := by decide +kernel
theorem dX9_taken_56 : decode cX9_taken 56 = .ok (.aload_n 0, 1) := by decide +kernel
theorem dX9_taken_57 : decode cX9_taken 57 = .ok (.iload_n 1, 1) := by decide +kernel
theorem dX9_taken_58 : decode cX9_taken 58 = .ok (.iconst 0, 1) := by decide +kernel
theorem dX9_taken_59 : decode cX9_taken 59 = .ok (.invokevirtual 93, 3) := by decide +kernel
theorem dX9_taken_62 : decode cX9_taken 62 = .ok (.goto 5, 3) := by decide +kernel
theorem dX9_taken_65 : decode cX9_taken 65 = .ok (.bipush (-12), 2) := by decide +kernel
theorem dX9_taken_67 : decode cX9_taken 67 = .ok (.ireturn, 1) := by decide +kernel
theorem dX9_count_0 : decode cX9_count 0 = .ok (.iload_n 1, 1) := by decide +kernel
theorem dX9_count_1 : decode cX9_count 1 = .ok (.tableswitch 90 0 6 #[43, 51, 56, 64, 72, 80, 85], 43) := by decide +kernel
theorem dX9_count_44 : decode cX9_count 44 = .ok (.aload_n 0, 1) := by decide +kernel
theorem dX9_count_45 : decode cX9_count 45 = .ok (.getfield 9, 3) := by decide +kernel
theorem dX9_count_48 : decode cX9_count 48 = .ok (.bipush 54, 2) := by decide +kernel
theorem dX9_count_50 : decode cX9_count 50 = .ok (.iaload, 1) := by decide +kernel
theorem dX9_count_51 : decode cX9_count 51 = .ok (.ireturn, 1) := by decide +kernel
theorem dX9_count_52 : decode cX9_count 52 = .ok (.aload_n 0, 1) := by decide +kernel
theorem dX9_count_53 : decode cX9_count 53 = .ok (.getfield 186, 3) := by decide +kernel
theorem dX9_count_56 : decode cX9_count 56 = .ok (.ireturn, 1) := by decide +kernel
theorem dX9_count_57 : decode cX9_count 57 = .ok (.aload_n 0, 1) := by decide +kernel
theorem dX9_count_58 : decode cX9_count 58 = .ok (.getfield 9, 3) := by decide +kernel
theorem dX9_count_61 : decode cX9_count 61 = .ok (.bipush 58, 2) := by decide +kernel
theorem dX9_count_63 : decode cX9_count 63 = .ok (.iaload, 1) := by decide +kernel
theorem dX9_count_64 : decode cX9_count 64 = .ok (.ireturn, 1) := by decide +kernel
theorem dX9_count_65 : decode cX9_count 65 = .ok (.aload_n 0, 1) := by decide +kernel
theorem dX9_count_66 : decode cX9_count 66 = .ok (.getfield 9, 3) := by decide +kernel
theorem dX9_count_69 : decode cX9_count 69 = .ok (.bipush 77, 2) := by decide +kernel
theorem dX9_count_71 : decode cX9_count 71 = .ok (.iaload, 1) := by decide +kernel
theorem dX9_count_72 : decode cX9_count 72 = .ok (.ireturn, 1) := by decide +kernel
theorem dX9_count_73 : decode cX9_count 73 = .ok (.aload_n 0, 1) := by decide +kernel
theorem dX9_count_74 : decode cX9_count 74 = .ok (.getfield 9, 3) := by decide +kernel
theorem dX9_count_77 : decode cX9_count 77 = .ok (.bipush 98, 2) := by decide +kernel
theorem dX9_count_79 : decode cX9_count 79 = .ok (.iaload, 1) := by decide +kernel
theorem dX9_count_80 : decode cX9_count 80 = .ok (.ireturn, 1) := by decide +kernel
theorem dX9_count_81 : decode cX9_count 81 = .ok (.aload_n 0, 1) := by decide +kernel
theorem dX9_count_82 : decode cX9_count 82 = .ok (.getfield 132, 3) := by decide +kernel
theorem dX9_count_85 : decode cX9_count 85 = .ok (.ireturn, 1) := by decide +kernel
theorem dX9_count_86 : decode cX9_count 86 = .ok (.aload_n 0, 1) := by decide +kernel
theorem dX9_count_87 : decode cX9_count 87 = .ok (.getfield 252, 3) := by decide +kernel
theorem dX9_count_90 : decode cX9_count 90 = .ok (.ireturn, 1) := by decide +kernel
theorem dX9_count_91 : decode cX9_count 91 = .ok (.bipush (-2), 2) := by decide +kernel
theorem dX9_count_93 : decode cX9_count 93 = .ok (.ireturn, 1) := by decide +kernel
theorem dX9_isTape_0 : decode cX9_isTape 0 = .ok (.iload_n 0, 1) := by decide +kernel
theorem dX9_isTape_1 : decode cX9_isTape 1 = .ok (.iconst 0, 1) := by decide +kernel
theorem dX9_isTape_2 : decode cX9_isTape 2 = .ok (.iconst 5, 1) := by decide +kernel
theorem dX9_isTape_3 : decode cX9_isTape 3 = .ok (.invokestatic 89, 3) := by decide +kernel
theorem dX9_isTape_6 : decode cX9_isTape 6 = .ok (.ireturn, 1) := by decide +kernel
theorem dX9_tape_0 : decode cX9_tape 0 = .ok (.iload_n 1, 1) := by decide +kernel
theorem dX9_tape_1 : decode cX9_tape 1 = .ok (.invokestatic 265, 3) := by decide +kernel
theorem dX9_tape_4 : decode cX9_tape 4 = .ok (.ifCond .ne 5, 3) := by decide +kernel
theorem dX9_tape_7 : decode cX9_tape 7 = .ok (.iconst (-1), 1) := by decide +kernel
theorem dX9_tape_8 : decode cX9_tape 8 = .ok (.ireturn, 1) := by decide +kernel
theorem dX9_tape_9 : decode cX9_tape 9 = .ok (.iload_n 2, 1) := by decide +kernel
theorem dX9_tape_10 : decode cX9_tape 10 = .ok (.iconst (-1), 1) := by decide +kernel
theorem dX9_tape_11 : decode cX9_tape 11 = .ok (.iconst 4, 1) := by decide +kernel
theorem dX9_tape_12 : decode cX9_tape 12 = .ok (.invokestatic 89, 3) := by decide +kernel
theorem dX9_tape_15 : decode cX9_tape 15 = .ok (.ifCond .eq 13, 3) := by decide +kernel
theorem dX9_tape_18 : decode cX9_tape 18 = .ok (.iload_n 2, 1) := by decide +kernel
theorem dX9_tape_19 : decode cX9_tape 19 = .ok (.ifCond .lt 12, 3) := by decide +kernel
theorem dX9_tape_22 : decode cX9_tape 22 = .ok (.iload_n 3, 1) := by decide +kernel
theorem dX9_tape_23 : decode cX9_tape 23 = .ok (.bipush 60, 2) := by decide +kernel
theorem dX9_tape_25 : decode cX9_tape 25 = .ok (.if_icmp .le 6, 3) := by decide +kernel
theorem dX9_tape_28 : decode cX9_tape 28 = .ok (.bipush (-2), 2) := by decide +kernel
theorem dX9_tape_30 : decode cX9_tape 30 = .ok (.ireturn, 1) := by decide +kernel
theorem dX9_tape_31 : decode cX9_tape 31 = .ok (.iload_n 2, 1) := by decide +kernel
theorem dX9_tape_32 : decode cX9_tape 32 = .ok (.ifCond .lt 10, 3) := by decide +kernel
theorem dX9_tape_35 : decode cX9_tape 35 = .ok (.iload_n 3, 1) := by decide +kernel
theorem dX9_tape_36 : decode cX9_tape 36 = .ok (.ifCond .ge 6, 3) := by decide +kernel
theorem dX9_tape_39 : decode cX9_tape 39 = .ok (.bipush (-14), 2) := by decide +kernel
theorem dX9_tape_41 : decode cX9_tape 41 = .ok (.ireturn, 1) := by decide +kernel
theorem dX9_tape_42 : decode cX9_tape 42 = .ok (.aload_n 0, 1) := by decide +kernel
theorem dX9_tape_43 : decode cX9_tape 43 = .ok (.getfield 68, 3) := by decide +kernel
theorem dX9_tape_46 : decode cX9_tape 46 = .ok (.iload_n 1, 1) := by decide +kernel
theorem dX9_tape_47 : decode cX9_tape 47 = .ok (.iload_n 2, 1) := by decide +kernel
theorem dX9_tape_48 : decode cX9_tape 48 = .ok (.iastore, 1) := by decide +kernel
theorem dX9_tape_49 : decode cX9_tape 49 = .ok (.aload_n 0, 1) := by decide +kernel
theorem dX9_tape_50 : decode cX9_tape 50 = .ok (.getfield 71, 3) := by decide +kernel
theorem dX9_tape_53 : decode cX9_tape 53 = .ok (.iload_n 1, 1) := by decide +kernel
theorem dX9_tape_54 : decode cX9_tape 54 = .ok (.iload_n 2, 1) := by decide +kernel
theorem dX9_tape_55 : decode cX9_tape 55 = .ok (.ifCond .ge 7, 3) := by decide +kernel
theorem dX9_tape_58 : decode cX9_tape 58 = .ok (.iconst 0, 1) := by decide +kernel
theorem dX9_tape_59 : decode cX9_tape 59 = .ok (.goto 4, 3) := by decide +kernel
theorem dX9_tape_62 : decode cX9_tape 62 = .ok (.iload_n 3, 1) := by decide +kernel
theorem dX9_tape_63 : decode cX9_tape 63 = .ok (.iastore, 1) := by decide +kernel
theorem dX9_tape_64 : decode cX9_tape 64 = .ok (.iconst 0, 1) := by decide +kernel
theorem dX9_tape_65 : decode cX9_tape 65 = .ok (.istore 4, 2) := by decide +kernel
theorem dX9_tape_67 : decode cX9_tape 67 = .ok (.iload 4, 2) := by decide +kernel
theorem dX9_tape_69 : decode cX9_tape 69 = .ok (.bipush 60, 2) := by decide +kernel
theorem dX9_tape_71 : decode cX9_tape 71 = .ok (.if_icmp .ge 22, 3) := by decide +kernel
theorem dX9_tape_74 : decode cX9_tape 74 = .ok (.aload_n 0, 1) := by decide +kernel
theorem dX9_tape_75 : decode cX9_tape 75 = .ok (.getfield 74, 3) := by decide +kernel
theorem dX9_tape_78 : decode cX9_tape 78 = .ok (.bipush 60, 2) := by decide +kernel
theorem dX9_tape_80 : decode cX9_tape 80 = .ok (.iload_n 1, 1) := by decide +kernel
theorem dX9_tape_81 : decode cX9_tape 81 = .ok (.imul, 1) := by decide +kernel
theorem dX9_tape_82 : decode cX9_tape 82 = .ok (.iload 4, 2) := by decide +kernel
theorem dX9_tape_84 : decode cX9_tape 84 = .ok (.iadd, 1) := by decide +kernel
theorem dX9_tape_85 : decode cX9_tape 85 = .ok (.lconst 0, 1) := by decide +kernel
theorem dX9_tape_86 : decode cX9_tape 86 = .ok (.lastore, 1) := by decide +kernel
theorem dX9_tape_87 : decode cX9_tape 87 = .ok (.iinc 4 1, 3) := by decide +kernel
theorem dX9_tape_90 : decode cX9_tape 90 = .ok (.goto (-23), 3) := by decide +kernel
theorem dX9_tape_93 : decode cX9_tape 93 = .ok (.iconst 1, 1) := by decide +kernel
theorem dX9_tape_94 : decode cX9_tape 94 = .ok (.ireturn, 1) := by decide +kernel
theorem dX9_item_0 : decode cX9_item 0 = .ok (.iload_n 1, 1) := by decide +kernel
theorem dX9_item_1 : decode cX9_item 1 = .ok (.invokestatic 265, 3) := by decide +kernel
theorem dX9_item_4 : decode cX9_item 4 = .ok (.ifCond .ne 5, 3) := by decide +kernel
theorem dX9_item_7 : decode cX9_item 7 = .ok (.iconst (-1), 1) := by decide +kernel
theorem dX9_item_8 : decode cX9_item 8 = .ok (.ireturn, 1) := by decide +kernel
theorem dX9_item_9 : decode cX9_item 9 = .ok (.aload_n 0, 1) := by decide +kernel
theorem dX9_item_10 : decode cX9_item 10 = .ok (.getfield 68, 3) := by decide +kernel
theorem dX9_item_13 : decode cX9_item 13 = .ok (.iload_n 1, 1) := by decide +kernel
theorem dX9_item_14 : decode cX9_item 14 = .ok (.iaload, 1) := by decide +kernel
theorem dX9_item_15 : decode cX9_item 15 = .ok (.ifCond .ge 6, 3) := by decide +kernel
theorem dX9_item_18 : decode cX9_item 18 = .ok (.bipush (-11), 2) := by decide +kernel
theorem dX9_item_20 : decode cX9_item 20 = .ok (.ireturn, 1) := by decide +kernel
theorem dX9_item_21 : decode cX9_item 21 = .ok (.iload_n 2, 1) := by decide +kernel
theorem dX9_item_22 : decode cX9_item 22 = .ok (.iconst 0, 1) := by decide +kernel
theorem dX9_item_23 : decode cX9_item 23 = .ok (.aload_n 0, 1) := by decide +kernel
theorem dX9_item_24 : decode cX9_item 24 = .ok (.getfield 71, 3) := by decide +kernel
theorem dX9_item_27 : decode cX9_item 27 = .ok (.iload_n 1, 1) := by decide +kernel
theorem dX9_item_28 : decode cX9_item 28 = .ok (.iaload, 1) := by decide +kernel
theorem dX9_item_29 : decode cX9_item 29 = .ok (.iconst 1, 1) := by decide +kernel
theorem dX9_item_30 : decode cX9_item 30 = .ok (.isub, 1) := by decide +kernel
theorem dX9_item_31 : decode cX9_item 31 = .ok (.invokestatic 89, 3) := by decide +kernel
theorem dX9_item_34 : decode cX9_item 34 = .ok (.ifCond .ne 6, 3) := by decide +kernel
theorem dX9_item_37 : decode cX9_item 37 = .ok (.bipush (-13), 2) := by decide +kernel
theorem dX9_item_39 : decode cX9_item 39 = .ok (.ireturn, 1) := by decide +kernel
theorem dX9_item_40 : decode cX9_item 40 = .ok (.aload_n 0, 1) := by decide +kernel
theorem dX9_item_41 : decode cX9_item 41 = .ok (.getfield 68, 3) := by decide +kernel
theorem dX9_item_44 : decode cX9_item 44 = .ok (.iload_n 1, 1) := by decide +kernel
theorem dX9_item_45 : decode cX9_item 45 = .ok (.iaload, 1) := by decide +kernel
theorem dX9_item_46 : decode cX9_item 46 = .ok (.istore 5, 2) := by decide +kernel
theorem dX9_item_48 : decode cX9_item 48 = .ok (.aload_n 0, 1) := by decide +kernel
theorem dX9_item_49 : decode cX9_item 49 = .ok (.getfield 74, 3) := by decide +kernel
theorem dX9_item_52 : decode cX9_item 52 = .ok (.bipush 60, 2) := by decide +kernel
theorem dX9_item_54 : decode cX9_item 54 = .ok (.iload_n 1, 1) := by decide +kernel
theorem dX9_item_55 : decode cX9_item 55 = .ok (.imul, 1) := by decide +kernel
theorem dX9_item_56 : decode cX9_item 56 = .ok (.iload_n 2, 1) := by decide +kernel
theorem dX9_item_57 : decode cX9_item 57 = .ok (.iadd, 1) := by decide +kernel
theorem dX9_item_58 : decode cX9_item 58 = .ok (.iload 5, 2) := by decide +kernel
theorem dX9_item_60 : decode cX9_item 60 = .ok (.ifCond .ne 10, 3) := by decide +kernel
theorem dX9_item_63 : decode cX9_item 63 = .ok (.lload_n 3, 1) := by decide +kernel
theorem dX9_item_64 : decode cX9_item 64 = .ok (.l2i, 1) := by decide +kernel
theorem dX9_item_65 : decode cX9_item 65 = .ok (.i2b, 1) := by decide +kernel
theorem dX9_item_66 : decode cX9_item 66 = .ok (.i2l, 1) := by decide +kernel
theorem dX9_item_67 : decode cX9_item 67 = .ok (.goto 49, 3) := by decide +kernel
theorem dX9_item_70 : decode cX9_item 70 = .ok (.iload 5, 2) := by decide +kernel
theorem dX9_item_72 : decode cX9_item 72 = .ok (.iconst 1, 1) := by decide +kernel
theorem dX9_item_73 : decode cX9_item 73 = .ok (.if_icmp .ne 10, 3) := by decide +kernel
theorem dX9_item_76 : decode cX9_item 76 = .ok (.lload_n 3, 1) := by decide +kernel
theorem dX9_item_77 : decode cX9_item 77 = .ok (.l2i, 1) := by decide +kernel
theorem dX9_item_78 : decode cX9_item 78 = .ok (.i2s, 1) := by decide +kernel
theorem dX9_item_79 : decode cX9_item 79 = .ok (.i2l, 1) := by decide +kernel
theorem dX9_item_80 : decode cX9_item 80 = .ok (.goto 36, 3) := by decide +kernel
theorem dX9_item_83 : decode cX9_item 83 = .ok (.iload 5, 2) := by decide +kernel
theorem dX9_item_85 : decode cX9_item 85 = .ok (.iconst 2, 1) := by decide +kernel
theorem dX9_item_86 : decode cX9_item 86 = .ok (.if_icmp .ne 9, 3) := by decide +kernel
theorem dX9_item_89 : decode cX9_item 89 = .ok (.lload_n 3, 1) := by decide +kernel
theorem dX9_item_90 : decode cX9_item 90 = .ok (.l2i, 1) := by decide +kernel
theorem dX9_item_91 : decode cX9_item 91 = .ok (.i2l, 1) := by decide +kernel
theorem dX9_item_92 : decode cX9_item 92 = .ok (.goto 24, 3) := by decide +kernel
theorem dX9_item_95 : decode cX9_item 95 = .ok (.iload 5, 2) := by decide +kernel
theorem dX9_item_97 : decode cX9_item 97 = .ok (.iconst 3, 1) := by decide +kernel
theorem dX9_item_98 : decode cX9_item 98 = .ok (.if_icmp .ne 7, 3) := by decide +kernel
theorem dX9_item_101 : decode cX9_item 101 = .ok (.lload_n 3, 1) := by decide +kernel
theorem dX9_item_102 : decode cX9_item 102 = .ok (.goto 14, 3) := by decide +kernel
theorem dX9_item_105 : decode cX9_item 105 = .ok (.lload_n 3, 1) := by decide +kernel
theorem dX9_item_106 : decode cX9_item 106 = .ok (.lconst 0, 1) := by decide +kernel
theorem dX9_item_107 : decode cX9_item 107 = .ok (.lcmp, 1) := by decide +kernel
theorem dX9_item_108 : decode cX9_item 108 = .ok (.ifCond .eq 7, 3) := by decide +kernel
theorem dX9_item_111 : decode cX9_item 111 = .ok (.lconst 1, 1) := by decide +kernel
theorem dX9_item_112 : decode cX9_item 112 = .ok (.goto 4, 3) := by decide +kernel
theorem dX9_item_115 : decode cX9_item 115 = .ok (.lconst 0, 1) := by decide +kernel
theorem dX9_item_116 : decode cX9_item 116 = .ok (.lastore, 1) := by decide +kernel
theorem dX9_item_117 : decode cX9_item 117 = .ok (.iconst 1, 1) := by decide +kernel
theorem dX9_item_118 : decode cX9_item 118 = .ok (.ireturn, 1) := by decide +kernel
theorem dX9_read_0 : decode cX9_read 0 = .ok (.iload_n 1, 1) := by decide +kernel
theorem dX9_read_1 : decode cX9_read 1 = .ok (.invokestatic 265, 3) := by decide +kernel
theorem dX9_read_4 : decode cX9_read 4 = .ok (.ifCond .eq 33, 3) := by decide +kernel
theorem dX9_read_7 : decode cX9_read 7 = .ok (.iload_n 2, 1) := by decide +kernel
theorem dX9_read_8 : decode cX9_read 8 = .ok (.iconst 0, 1) := by decide +kernel
theorem dX9_read_9 : decode cX9_read 9 = .ok (.aload_n 0, 1) := by decide +kernel
theorem dX9_read_10 : decode cX9_read 10 = .ok (.getfield 71, 3) := by decide +kernel
theorem dX9_read_13 : decode cX9_read 13 = .ok (.iload_n 1, 1) := by decide +kernel
theorem dX9_read_14 : decode cX9_read 14 = .ok (.iaload, 1) := by decide +kernel
theorem dX9_read_15 : decode cX9_read 15 = .ok (.iconst 1, 1) := by decide +kernel
theorem dX9_read_16 : decode cX9_read 16 = .ok (.isub, 1) := by decide +kernel
theorem dX9_read_17 : decode cX9_read 17 = .ok (.invokestatic 89, 3) := by decide +kernel
theorem dX9_read_20 : decode cX9_read 20 = .ok (.ifCond .eq 17, 3) := by decide +kernel
theorem dX9_read_23 : decode cX9_read 23 = .ok (.aload_n 0, 1) := by decide +kernel
theorem dX9_read_24 : decode cX9_read 24 = .ok (.getfield 74, 3) := by decide +kernel
theorem dX9_read_27 : decode cX9_read 27 = .ok (.bipush 60, 2) := by decide +kernel
theorem dX9_read_29 : decode cX9_read 29 = .ok (.iload_n 1, 1) := by decide +kernel
theorem dX9_read_30 : decode cX9_read 30 = .ok (.imul, 1) := by decide +kernel
theorem dX9_read_31 : decode cX9_read 31 = .ok (.iload_n 2, 1) := by decide +kernel
theorem dX9_read_32 : decode cX9_read 32 = .ok (.iadd, 1) := by decide +kernel
theorem dX9_read_33 : decode cX9_read 33 = .ok (.laload, 1) := by decide +kernel
theorem dX9_read_34 : decode cX9_read 34 = .ok (.goto 6, 3) := by decide +kernel
theorem dX9_read_37 : decode cX9_read 37 = .ok (.ldc2_w 243, 3) := by decide +kernel
theorem dX9_read_40 : decode cX9_read 40 = .ok (.lreturn, 1) := by decide +kernel
theorem dX9_shift_0 : decode cX9_shift 0 = .ok (.iload_n 1, 1) := by decide +kernel
theorem dX9_shift_1 : decode cX9_shift 1 = .ok (.invokestatic 265, 3) := by decide +kernel
theorem dX9_shift_4 : decode cX9_shift 4 = .ok (.ifCond .eq 10, 3) := by decide +kernel
theorem dX9_shift_7 : decode cX9_shift 7 = .ok (.iload_n 3, 1) := by decide +kernel
theorem dX9_shift_8 : decode cX9_shift 8 = .ok (.invokestatic 265, 3) := by decide +kernel
theorem dX9_shift_11 : decode cX9_shift 11 = .ok (.ifCond .ne 5, 3) := by decide +kernel
theorem dX9_shift_14 : decode cX9_shift 14 = .ok (.iconst (-1), 1) := by decide +kernel
theorem dX9_shift_15 : decode cX9_shift 15 = .ok (.ireturn, 1) := by decide +kernel
theorem dX9_shift_16 : decode cX9_shift 16 = .ok (.aload_n 0, 1) := by decide +kernel
theorem dX9_shift_17 : decode cX9_shift 17 = .ok (.getfield 68, 3) := by decide +kernel
theorem dX9_shift_20 : decode cX9_shift 20 = .ok (.iload_n 1, 1) := by decide +kernel
theorem dX9_shift_21 : decode cX9_shift 21 = .ok (.iaload, 1) := by decide +kernel
theorem dX9_shift_22 : decode cX9_shift 22 = .ok (.ifCond .lt 12, 3) := by decide +kernel
theorem dX9_shift_25 : decode cX9_shift 25 = .ok (.aload_n 0, 1) := by decide +kernel
theorem dX9_shift_26 : decode cX9_shift 26 = .ok (.getfield 68, 3) := by decide +kernel
theorem dX9_shift_29 : decode cX9_shift 29 = .ok (.iload_n 3, 1) := by decide +kernel
theorem dX9_shift_30 : decode cX9_shift 30 = .ok (.iaload, 1) := by decide +kernel
theorem dX9_shift_31 : decode cX9_shift 31 = .ok (.ifCond .ge 6, 3) := by decide +kernel
theorem dX9_shift_34 : decode cX9_shift 34 = .ok (.bipush (-11), 2) := by decide +kernel
theorem dX9_shift_36 : decode cX9_shift 36 = .ok (.ireturn, 1) := by decide +kernel
theorem dX9_shift_37 : decode cX9_shift 37 = .ok (.aload_n 0, 1) := by decide +kernel
theorem dX9_shift_38 : decode cX9_shift 38 = .ok (.getfield 68, 3) := by decide +kernel
theorem dX9_shift_41 : decode cX9_shift 41 = .ok (.iload_n 1, 1) := by decide +kernel
theorem dX9_shift_42 : decode cX9_shift 42 = .ok (.iaload, 1) := by decide +kernel
theorem dX9_shift_43 : decode cX9_shift 43 = .ok (.aload_n 0, 1) := by decide +kernel
theorem dX9_shift_44 : decode cX9_shift 44 = .ok (.getfield 68, 3) := by decide +kernel
theorem dX9_shift_47 : decode cX9_shift 47 = .ok (.iload_n 3, 1) := by decide +kernel
theorem dX9_shift_48 : decode cX9_shift 48 = .ok (.iaload, 1) := by decide +kernel
theorem dX9_shift_49 : decode cX9_shift 49 = .ok (.if_icmp .eq 6, 3) := by decide +kernel
theorem dX9_shift_52 : decode cX9_shift 52 = .ok (.bipush (-12), 2) := by decide +kernel
theorem dX9_shift_54 : decode cX9_shift 54 = .ok (.ireturn, 1) := by decide +kernel
theorem dX9_shift_55 : decode cX9_shift 55 = .ok (.iload 5, 2) := by decide +kernel
theorem dX9_shift_57 : decode cX9_shift 57 = .ok (.ifCond .lt 39, 3) := by decide +kernel
theorem dX9_shift_60 : decode cX9_shift 60 = .ok (.iload_n 2, 1) := by decide +kernel
theorem dX9_shift_61 : decode cX9_shift 61 = .ok (.ifCond .lt 35, 3) := by decide +kernel
theorem dX9_shift_64 : decode cX9_shift 64 = .ok (.iload 4, 2) := by decide +kernel
theorem dX9_shift_66 : decode cX9_shift 66 = .ok (.ifCond .lt 30, 3) := by decide +kernel
theorem dX9_shift_69 : decode cX9_shift 69 = .ok (.iload 5, 2) := by decide +kernel
theorem dX9_shift_71 : decode cX9_shift 71 = .ok (.aload_n 0, 1) := by decide +kernel
theorem dX9_shift_72 : decode cX9_shift 72 = .ok (.getfield 71, 3) := by decide +kernel
theorem dX9_shift_75 : decode cX9_shift 75 = .ok (.iload_n 1, 1) := by decide +kernel
theorem dX9_shift_76 : decode cX9_shift 76 = .ok (.iaload, 1) := by decide +kernel
theorem dX9_shift_77 : decode cX9_shift 77 = .ok (.iload_n 2, 1) := by decide +kernel
theorem dX9_shift_78 : decode cX9_shift 78 = .ok (.isub, 1) := by decide +kernel
theorem dX9_shift_79 : decode cX9_shift 79 = .ok (.if_icmp .gt 17, 3) := by decide +kernel
theorem dX9_shift_82 : decode cX9_shift 82 = .ok (.iload 5, 2) := by decide +kernel
theorem dX9_shift_84 : decode cX9_shift 84 = .ok (.aload_n 0, 1) := by decide +kernel
theorem dX9_shift_85 : decode cX9_shift 85 = .ok (.getfield 71, 3) := by decide +kernel
theorem dX9_shift_88 : decode cX9_shift 88 = .ok (.iload_n 3, 1) := by decide +kernel
theorem dX9_shift_89 : decode cX9_shift 89 = .ok (.iaload, 1) := by decide +kernel
theorem dX9_shift_90 : decode cX9_shift 90 = .ok (.iload 4, 2) := by decide +kernel
theorem dX9_shift_92 : decode cX9_shift 92 = .ok (.isub, 1) := by decide +kernel
theorem dX9_shift_93 : decode cX9_shift 93 = .ok (.if_icmp .le 6, 3) := by decide +kernel
theorem dX9_shift_96 : decode cX9_shift 96 = .ok (.bipush (-13), 2) := by decide +kernel
theorem dX9_shift_98 : decode cX9_shift 98 = .ok (.ireturn, 1) := by decide +kernel
theorem dX9_shift_99 : decode cX9_shift 99 = .ok (.iconst 0, 1) := by decide +kernel
theorem dX9_shift_100 : decode cX9_shift 100 = .ok (.istore 6, 2) := by decide +kernel
theorem dX9_shift_102 : decode cX9_shift 102 = .ok (.iload 6, 2) := by decide +kernel
theorem dX9_shift_104 : decode cX9_shift 104 = .ok (.iload 5, 2) := by decide +kernel
theorem dX9_shift_106 : decode cX9_shift 106 = .ok (.if_icmp .ge 30, 3) := by decide +kernel
theorem dX9_shift_109 : decode cX9_shift 109 = .ok (.aload_n 0, 1) := by decide +kernel
theorem dX9_shift_110 : decode cX9_shift 110 = .ok (.getfield 78, 3) := by decide +kernel
theorem dX9_shift_113 : decode cX9_shift 113 = .ok (.iload 6, 2) := by decide +kernel
theorem dX9_shift_115 : decode cX9_shift 115 = .ok (.aload_n 0, 1) := by decide +kernel
theorem dX9_shift_116 : decode cX9_shift 116 = .ok (.getfield 74, 3) := by decide +kernel
theorem dX9_shift_119 : decode cX9_shift 119 = .ok (.bipush 60, 2) := by decide +kernel
theorem dX9_shift_121 : decode cX9_shift 121 = .ok (.iload_n 1, 1) := by decide +kernel
theorem dX9_shift_122 : decode cX9_shift 122 = .ok (.imul, 1) := by decide +kernel
theorem dX9_shift_123 : decode cX9_shift 123 = .ok (.iload_n 2, 1) := by decide +kernel
theorem dX9_shift_124 : decode cX9_shift 124 = .ok (.iadd, 1) := by decide +kernel
theorem dX9_shift_125 : decode cX9_shift 125 = .ok (.iload 6, 2) := by decide +kernel
theorem dX9_shift_127 : decode cX9_shift 127 = .ok (.iadd, 1) := by decide +kernel
theorem dX9_shift_128 : decode cX9_shift 128 = .ok (.laload, 1) := by decide +kernel
theorem dX9_shift_129 : decode cX9_shift 129 = .ok (.lastore, 1) := by decide +kernel
theorem dX9_shift_130 : decode cX9_shift 130 = .ok (.iinc 6 1, 3) := by decide +kernel
theorem dX9_shift_133 : decode cX9_shift 133 = .ok (.goto (-31), 3) := by decide +kernel
theorem dX9_shift_136 : decode cX9_shift 136 = .ok (.iconst 0, 1) := by decide +kernel
theorem dX9_shift_137 : decode cX9_shift 137 = .ok (.istore 6, 2) := by decide +kernel
theorem dX9_shift_139 : decode cX9_shift 139 = .ok (.iload 6, 2) := by decide +kernel
theorem dX9_shift_141 : decode cX9_shift 141 = .ok (.iload 5, 2) := by decide +kernel
theorem dX9_shift_143 : decode cX9_shift 143 = .ok (.if_icmp .ge 31, 3) := by decide +kernel
theorem dX9_shift_146 : decode cX9_shift 146 = .ok (.aload_n 0, 1) := by decide +kernel
theorem dX9_shift_147 : decode cX9_shift 147 = .ok (.getfield 74, 3) := by decide +kernel
theorem dX9_shift_150 : decode cX9_shift 150 = .ok (.bipush 60, 2) := by decide +kernel
theorem dX9_shift_152 : decode cX9_shift 152 = .ok (.iload_n 3, 1) := by decide +kernel
theorem dX9_shift_153 : decode cX9_shift 153 = .ok (.imul, 1) := by decide +kernel
theorem dX9_shift_154 : decode cX9_shift 154 = .ok (.iload 4, 2) := by decide +kernel
theorem dX9_shift_156 : decode cX9_shift 156 = .ok (.iadd, 1) := by decide +kernel
theorem dX9_shift_157 : decode cX9_shift 157 = .ok (.iload 6, 2) := by decide +kernel
theorem dX9_shift_159 : decode cX9_shift 159 = .ok (.iadd, 1) := by decide +kernel
theorem dX9_shift_160 : decode cX9_shift 160 = .ok (.aload_n 0, 1) := by decide +kernel
theorem dX9_shift_161 : decode cX9_shift 161 = .ok (.getfield 78, 3) := by decide +kernel
theorem dX9_shift_164 : decode cX9_shift 164 = .ok (.iload 6, 2) := by decide +kernel
theorem dX9_shift_166 : decode cX9_shift 166 = .ok (.laload, 1) := by decide +kernel
theorem dX9_shift_167 : decode cX9_shift 167 = .ok (.lastore, 1) := by decide +kernel
theorem dX9_shift_168 : decode cX9_shift 168 = .ok (.iinc 6 1, 3) := by decide +kernel
theorem dX9_shift_171 : decode cX9_shift 171 = .ok (.goto (-32), 3) := by decide +kernel
theorem dX9_shift_174 : decode cX9_shift 174 = .ok (.iload 5, 2) := by decide +kernel
theorem dX9_shift_176 : decode cX9_shift 176 = .ok (.ireturn, 1) := by decide +kernel
theorem dX9_judge_0 : decode cX9_judge 0 = .ok (.iload_n 1, 1) := by decide +kernel
theorem dX9_judge_1 : decode cX9_judge 1 = .ok (.invokestatic 265, 3) := by decide +kernel
theorem dX9_judge_4 : decode cX9_judge 4 = .ok (.ifCond .ne 5, 3) := by decide +kernel
theorem dX9_judge_7 : decode cX9_judge 7 = .ok (.iconst (-1), 1) := by decide +kernel
theorem dX9_judge_8 : decode cX9_judge 8 = .ok (.ireturn, 1) := by decide +kernel
theorem dX9_judge_9 : decode cX9_judge 9 = .ok (.aload_n 0, 1) := by decide +kernel
theorem dX9_judge_10 : decode cX9_judge 10 = .ok (.getfield 68, 3) := by decide +kernel
theorem dX9_judge_13 : decode cX9_judge 13 = .ok (.iload_n 1, 1) := by decide +kernel
theorem dX9_judge_14 : decode cX9_judge 14 = .ok (.iaload, 1) := by decide +kernel
theorem dX9_judge_15 : decode cX9_judge 15 = .ok (.iconst (-1), 1) := by decide +kernel
theorem dX9_judge_16 : decode cX9_judge 16 = .ok (.if_icmp .eq 16, 3) := by decide +kernel
theorem dX9_judge_19 : decode cX9_judge 19 = .ok (.aload_n 0, 1) := by decide +kernel
theorem dX9_judge_20 : decode cX9_judge 20 = .ok (.getfield 68, 3) := by decide +kernel
theorem dX9_judge_23 : decode cX9_judge 23 = .ok (.iload_n 1, 1) := by decide +kernel
theorem dX9_judge_24 : decode cX9_judge 24 = .ok (.iaload, 1) := by decide +kernel
theorem dX9_judge_25 : decode cX9_judge 25 = .ok (.iconst 4, 1) := by decide +kernel
theorem dX9_judge_26 : decode cX9_judge 26 = .ok (.if_icmp .eq 6, 3) := by decide +kernel
theorem dX9_judge_29 : decode cX9_judge 29 = .ok (.bipush (-12), 2) := by decide +kernel
theorem dX9_judge_31 : decode cX9_judge 31 = .ok (.ireturn, 1) := by decide +kernel
theorem dX9_judge_32 : decode cX9_judge 32 = .ok (.iconst 0, 1) := by decide +kernel
theorem dX9_judge_33 : decode cX9_judge 33 = .ok (.istore_n 3, 1) := by decide +kernel
theorem dX9_judge_34 : decode cX9_judge 34 = .ok (.iload_n 3, 1) := by decide +kernel
theorem dX9_judge_35 : decode cX9_judge 35 = .ok (.bipush 8, 2) := by decide +kernel
theorem dX9_judge_37 : decode cX9_judge 37 = .ok (.if_icmp .ge 69, 3) := by decide +kernel
theorem dX9_judge_40 : decode cX9_judge 40 = .ok (.iload_n 2, 1) := by decide +kernel
theorem dX9_judge_41 : decode cX9_judge 41 = .ok (.i2l, 1) := by decide +kernel
theorem dX9_judge_42 : decode cX9_judge 42 = .ok (.iload_n 3, 1) := by decide +kernel
theorem dX9_judge_43 : decode cX9_judge 43 = .ok (.i2l, 1) := by decide +kernel
theorem dX9_judge_44 : decode cX9_judge 44 = .ok (.ladd, 1) := by decide +kernel
theorem dX9_judge_45 : decode cX9_judge 45 = .ok (.lstore 4, 2) := by decide +kernel
theorem dX9_judge_47 : decode cX9_judge 47 = .ok (.iload_n 2, 1) := by decide +kernel
theorem dX9_judge_48 : decode cX9_judge 48 = .ok (.ifCond .lt 16, 3) := by decide +kernel
theorem dX9_judge_51 : decode cX9_judge 51 = .ok (.lload 4, 2) := by decide +kernel
theorem dX9_judge_53 : decode cX9_judge 53 = .ok (.aload_n 0, 1) := by decide +kernel
theorem dX9_judge_54 : decode cX9_judge 54 = .ok (.getfield 71, 3) := by decide +kernel
theorem dX9_judge_57 : decode cX9_judge 57 = .ok (.iload_n 1, 1) := by decide +kernel
theorem dX9_judge_58 : decode cX9_judge 58 = .ok (.iaload, 1) := by decide +kernel
theorem dX9_judge_59 : decode cX9_judge 59 = .ok (.i2l, 1) := by decide +kernel
theorem dX9_judge_60 : decode cX9_judge 60 = .ok (.lcmp, 1) := by decide +kernel
theorem dX9_judge_61 : decode cX9_judge 61 = .ok (.ifCond .lt 8, 3) := by decide +kernel
theorem dX9_judge_64 : decode cX9_judge 64 = .ok (.bipush 100, 2) := by decide +kernel
theorem dX9_judge_66 : decode cX9_judge 66 = .ok (.iload_n 3, 1) := by decide +kernel
theorem dX9_judge_67 : decode cX9_judge 67 = .ok (.iadd, 1) := by decide +kernel
theorem dX9_judge_68 : decode cX9_judge 68 = .ok (.ireturn, 1) := by decide +kernel
theorem dX9_judge_69 : decode cX9_judge 69 = .ok (.aload_n 0, 1) := by decide +kernel
theorem dX9_judge_70 : decode cX9_judge 70 = .ok (.getfield 74, 3) := by decide +kernel
theorem dX9_judge_73 : decode cX9_judge 73 = .ok (.bipush 60, 2) := by decide +kernel
theorem dX9_judge_75 : decode cX9_judge 75 = .ok (.iload_n 1, 1) := by decide +kernel
theorem dX9_judge_76 : decode cX9_judge 76 = .ok (.imul, 1) := by decide +kernel
theorem dX9_judge_77 : decode cX9_judge 77 = .ok (.lload 4, 2) := by decide +kernel
theorem dX9_judge_79 : decode cX9_judge 79 = .ok (.l2i, 1) := by decide +kernel
theorem dX9_judge_80 : decode cX9_judge 80 = .ok (.iadd, 1) := by decide +kernel
theorem dX9_judge_81 : decode cX9_judge 81 = .ok (.laload, 1) := by decide +kernel
theorem dX9_judge_82 : decode cX9_judge 82 = .ok (.aload_n 0, 1) := by decide +kernel
theorem dX9_judge_83 : decode cX9_judge 83 = .ok (.getfield 9, 3) := by decide +kernel
theorem dX9_judge_86 : decode cX9_judge 86 = .ok (.bipush 55, 2) := by decide +kernel
theorem dX9_judge_88 : decode cX9_judge 88 = .ok (.iaload, 1) := by decide +kernel
theorem dX9_judge_89 : decode cX9_judge 89 = .ok (.iload_n 3, 1) := by decide +kernel
theorem dX9_judge_90 : decode cX9_judge 90 = .ok (.ishr, 1) := by decide +kernel
theorem dX9_judge_91 : decode cX9_judge 91 = .ok (.iconst 1, 1) := by decide +kernel
theorem dX9_judge_92 : decode cX9_judge 92 = .ok (.iand, 1) := by decide +kernel
theorem dX9_judge_93 : decode cX9_judge 93 = .ok (.i2l, 1) := by decide +kernel
theorem dX9_judge_94 : decode cX9_judge 94 = .ok (.lcmp, 1) := by decide +kernel
theorem dX9_judge_95 : decode cX9_judge 95 = .ok (.ifCond .eq 5, 3) := by decide +kernel
theorem dX9_judge_98 : decode cX9_judge 98 = .ok (.iload_n 3, 1) := by decide +kernel
theorem dX9_judge_99 : decode cX9_judge 99 = .ok (.ireturn, 1) := by decide +kernel
theorem dX9_judge_100 : decode cX9_judge 100 = .ok (.iinc 3 1, 3) := by decide +kernel
theorem dX9_judge_103 : decode cX9_judge 103 = .ok (.goto (-69), 3) := by decide +kernel
theorem dX9_judge_106 : decode cX9_judge 106 = .ok (.bipush (-5), 2) := by decide +kernel
theorem dX9_judge_108 : decode cX9_judge 108 = .ok (.ireturn, 1) := by decide +kernel
theorem dJ6_bitCount_0f7a4_0 : decode cJ6_bitCount_0f7a4 0 = .ok (.iload_n 0, 1) := by decide +kernel
theorem dJ6_bitCount_0f7a4_1 : decode cJ6_bitCount_0f7a4 1 = .ok (.iload_n 0, 1) := by decide +kernel
theorem dJ6_bitCount_0f7a4_2 : decode cJ6_bitCount_0f7a4 2 = .ok (.iconst 1, 1) := by decide +kernel
theorem dJ6_bitCount_0f7a4_3 : decode cJ6_bitCount_0f7a4 3 = .ok (.iushr, 1) := by decide +kernel
theorem dJ6_bitCount_0f7a4_4 : decode cJ6_bitCount_0f7a4 4 = .ok (.ldc_w 265, 3) := by decide +kernel
theorem dJ6_bitCount_0f7a4_7 : decode cJ6_bitCount_0f7a4 7 = .ok (.iand, 1) := by decide +kernel
theorem dJ6_bitCount_0f7a4_8 : decode cJ6_bitCount_0f7a4 8 = .ok (.isub, 1) := by decide +kernel
theorem dJ6_bitCount_0f7a4_9 : decode cJ6_bitCount_0f7a4 9 = .ok (.istore_n 0, 1) := by decide +kernel
theorem dJ6_bitCount_0f7a4_10 : decode cJ6_bitCount_0f7a4 10 = .ok (.iload_n 0, 1) := by decide +kernel
theorem dJ6_bitCount_0f7a4_11 : decode cJ6_bitCount_0f7a4 11 = .ok (.ldc_w 266, 3) := by decide +kernel
theorem dJ6_bitCount_0f7a4_14 : decode cJ6_bitCount_0f7a4 14 = .ok (.iand, 1) := by decide +kernel
theorem dJ6_bitCount_0f7a4_15 : decode cJ6_bitCount_0f7a4 15 = .ok (.iload_n 0, 1) := by decide +kernel
theorem dJ6_bitCount_0f7a4_16 : decode cJ6_bitCount_0f7a4 16 = .ok (.iconst 2, 1) := by decide +kernel
theorem dJ6_bitCount_0f7a4_17 : decode cJ6_bitCount_0f7a4 17 = .ok (.iushr, 1) := by decide +kernel
theorem dJ6_bitCount_0f7a4_18 : decode cJ6_bitCount_0f7a4 18 = .ok (.ldc_w 266, 3) := by decide +kernel
theorem dJ6_bitCount_0f7a4_21 : decode cJ6_bitCount_0f7a4 21 = .ok (.iand, 1) := by decide +kernel
theorem dJ6_bitCount_0f7a4_22 : decode cJ6_bitCount_0f7a4 22 = .ok (.iadd, 1) := by decide +kernel
theorem dJ6_bitCount_0f7a4_23 : decode cJ6_bitCount_0f7a4 23 = .ok (.istore_n 0, 1) := by decide +kernel
theorem dJ6_bitCount_0f7a4_24 : decode cJ6_bitCount_0f7a4 24 = .ok (.iload_n 0, 1) := by decide +kernel
theorem dJ6_bitCount_0f7a4_25 : decode cJ6_bitCount_0f7a4 25 = .ok (.iload_n 0, 1) := by decide +kernel
theorem dJ6_bitCount_0f7a4_26 : decode cJ6_bitCount_0f7a4 26 = .ok (.iconst 4, 1) := by decide +kernel
theorem dJ6_bitCount_0f7a4_27 : decode cJ6_bitCount_0f7a4 27 = .ok (.iushr, 1) := by decide +kernel
theorem dJ6_bitCount_0f7a4_28 : decode cJ6_bitCount_0f7a4 28 = .ok (.iadd, 1) := by decide +kernel
theorem dJ6_bitCount_0f7a4_29 : decode cJ6_bitCount_0f7a4 29 = .ok (.ldc_w 267, 3) := by decide +kernel
theorem dJ6_bitCount_0f7a4_32 : decode cJ6_bitCount_0f7a4 32 = .ok (.iand, 1) := by decide +kernel
theorem dJ6_bitCount_0f7a4_33 : decode cJ6_bitCount_0f7a4 33 = .ok (.istore_n 0, 1) := by decide +kernel
theorem dJ6_bitCount_0f7a4_34 : decode cJ6_bitCount_0f7a4 34 = .ok (.iload_n 0, 1) := by decide +kernel
theorem dJ6_bitCount_0f7a4_35 : decode cJ6_bitCount_0f7a4 35 = .ok (.iload_n 0, 1) := by decide +kernel
theorem dJ6_bitCount_0f7a4_36 : decode cJ6_bitCount_0f7a4 36 = .ok (.bipush 8, 2) := by decide +kernel
theorem dJ6_bitCount_0f7a4_38 : decode cJ6_bitCount_0f7a4 38 = .ok (.iushr, 1) := by decide +kernel
theorem dJ6_bitCount_0f7a4_39 : decode cJ6_bitCount_0f7a4 39 = .ok (.iadd, 1) := by decide +kernel
theorem dJ6_bitCount_0f7a4_40 : decode cJ6_bitCount_0f7a4 40 = .ok (.istore_n 0, 1) := by decide +kernel
theorem dJ6_bitCount_0f7a4_41 : decode cJ6_bitCount_0f7a4 41 = .ok (.iload_n 0, 1) := by decide +kernel
theorem dJ6_bitCount_0f7a4_42 : decode cJ6_bitCount_0f7a4 42 = .ok (.iload_n 0, 1) := by decide +kernel
theorem dJ6_bitCount_0f7a4_43 : decode cJ6_bitCount_0f7a4 43 = .ok (.bipush 16, 2) := by decide +kernel
theorem dJ6_bitCount_0f7a4_45 : decode cJ6_bitCount_0f7a4 45 = .ok (.iushr, 1) := by decide +kernel
theorem dJ6_bitCount_0f7a4_46 : decode cJ6_bitCount_0f7a4 46 = .ok (.iadd, 1) := by decide +kernel
theorem dJ6_bitCount_0f7a4_47 : decode cJ6_bitCount_0f7a4 47 = .ok (.istore_n 0, 1) := by decide +kernel
theorem dJ6_bitCount_0f7a4_48 : decode cJ6_bitCount_0f7a4 48 = .ok (.iload_n 0, 1) := by decide +kernel
theorem dJ6_bitCount_0f7a4_49 : decode cJ6_bitCount_0f7a4 49 = .ok (.bipush 63, 2) := by decide +kernel
theorem dJ6_bitCount_0f7a4_51 : decode cJ6_bitCount_0f7a4 51 = .ok (.iand, 1) := by decide +kernel
theorem dJ6_bitCount_0f7a4_52 : decode cJ6_bitCount_0f7a4 52 = .ok (.ireturn, 1) := by decide +kernel
theorem dJ9_abs_0f7a4_0 : decode cJ9_abs_0f7a4 0 = .ok (.iload_n 0, 1) := by decide +kernel
theorem dJ9_abs_0f7a4_1 : decode cJ9_abs_0f7a4 1 = .ok (.ifCond .ge 8, 3) := by decide +kernel
theorem dJ9_abs_0f7a4_4 : decode cJ9_abs_0f7a4 4 = .ok (.iload_n 0, 1) := by decide +kernel
theorem dJ9_abs_0f7a4_5 : decode cJ9_abs_0f7a4 5 = .ok (.ineg, 1) := by decide +kernel
theorem dJ9_abs_0f7a4_6 : decode cJ9_abs_0f7a4 6 = .ok (.goto 4, 3) := by decide +kernel
theorem dJ9_abs_0f7a4_9 : decode cJ9_abs_0f7a4 9 = .ok (.iload_n 0, 1) := by decide +kernel
theorem dJ9_abs_0f7a4_10 : decode cJ9_abs_0f7a4 10 = .ok (.ireturn, 1) := by decide +kernel
theorem dJ9_max_7cf53_0 : decode cJ9_max_7cf53 0 = .ok (.iload_n 0, 1) := by decide +kernel
theorem dJ9_max_7cf53_1 : decode cJ9_max_7cf53 1 = .ok (.iload_n 1, 1) := by decide +kernel
theorem dJ9_max_7cf53_2 : decode cJ9_max_7cf53 2 = .ok (.if_icmp .lt 7, 3) := by decide +kernel
theorem dJ9_max_7cf53_5 : decode cJ9_max_7cf53 5 = .ok (.iload_n 0, 1) := by decide +kernel
theorem dJ9_max_7cf53_6 : decode cJ9_max_7cf53 6 = .ok (.goto 4, 3) := by decide +kernel
theorem dJ9_max_7cf53_9 : decode cJ9_max_7cf53 9 = .ok (.iload_n 1, 1) := by decide +kernel
theorem dJ9_max_7cf53_10 : decode cJ9_max_7cf53 10 = .ok (.ireturn, 1) := by decide +kernel
theorem dJ9_min_7cf53_0 : decode cJ9_min_7cf53 0 = .ok (.iload_n 0, 1) := by decide +kernel
theorem dJ9_min_7cf53_1 : decode cJ9_min_7cf53 1 = .ok (.iload_n 1, 1) := by decide +kernel
theorem dJ9_min_7cf53_2 : decode cJ9_min_7cf53 2 = .ok (.if_icmp .gt 7, 3) := by decide +kernel
theorem dJ9_min_7cf53_5 : decode cJ9_min_7cf53 5 = .ok (.iload_n 0, 1) := by decide +kernel
theorem dJ9_min_7cf53_6 : decode cJ9_min_7cf53 6 = .ok (.goto 4, 3) := by decide +kernel
theorem dJ9_min_7cf53_9 : decode cJ9_min_7cf53 9 = .ok (.iload_n 1, 1) := by decide +kernel
theorem dJ9_min_7cf53_10 : decode cJ9_min_7cf53 10 = .ok (.ireturn, 1) := by decide +kernel
theorem dJ0_length_8abf5_0 : decode cJ0_length_8abf5 0 = .ok (.aload_n 0, 1) := by decide +kernel
theorem dJ0_length_8abf5_1 : decode cJ0_length_8abf5 1 = .ok (.getfield 9, 3) := by decide +kernel
theorem dJ0_length_8abf5_4 : decode cJ0_length_8abf5 4 = .ok (.arraylength, 1) := by decide +kernel
theorem dJ0_length_8abf5_5 : decode cJ0_length_8abf5 5 = .ok (.aload_n 0, 1) := by decide +kernel
theorem dJ0_length_8abf5_6 : decode cJ0_length_8abf5 6 = .ok (.invokevirtual 335, 3) := by decide +kernel
theorem dJ0_length_8abf5_9 : decode cJ0_length_8abf5 9 = .ok (.ishr, 1) := by decide +kernel
theorem dJ0_length_8abf5_10 : decode cJ0_length_8abf5 10 = .ok (.ireturn, 1) := by decide +kernel
theorem dJ0_charAt_5068e_0 : decode cJ0_charAt_5068e 0 = .ok (.aload_n 0, 1) := by decide +kernel
theorem dJ0_charAt_5068e_1 : decode cJ0_charAt_5068e 1 = .ok (.invokevirtual 492, 3) := by decide +kernel
theorem dJ0_charAt_5068e_4 : decode cJ0_charAt_5068e 4 = .ok (.ifCond .eq 12, 3) := by decide +kernel
theorem dJ0_charAt_5068e_7 : decode cJ0_charAt_5068e 7 = .ok (.aload_n 0, 1) := by decide +kernel
theorem dJ0_charAt_5068e_8 : decode cJ0_charAt_5068e 8 = .ok (.getfield 9, 3) := by decide +kernel
theorem dJ0_charAt_5068e_11 : decode cJ0_charAt_5068e 11 = .ok (.iload_n 1, 1) := by decide +kernel
theorem dJ0_charAt_5068e_12 : decode cJ0_charAt_5068e 12 = .ok (.invokestatic 495, 3) := by decide +kernel
theorem dJ0_charAt_5068e_15 : decode cJ0_charAt_5068e 15 = .ok (.ireturn, 1) := by decide +kernel
theorem dJ0_charAt_5068e_16 : decode cJ0_charAt_5068e 16 = .ok (.aload_n 0, 1) := by decide +kernel
theorem dJ0_charAt_5068e_17 : decode cJ0_charAt_5068e 17 = .ok (.getfield 9, 3) := by decide +kernel
theorem dJ0_charAt_5068e_20 : decode cJ0_charAt_5068e 20 = .ok (.iload_n 1, 1) := by decide +kernel
theorem dJ0_charAt_5068e_21 : decode cJ0_charAt_5068e 21 = .ok (.invokestatic 498, 3) := by decide +kernel
theorem dJ0_charAt_5068e_24 : decode cJ0_charAt_5068e 24 = .ok (.ireturn, 1) := by decide +kernel
theorem dJ0_indexOf_0f7a4_0 : decode cJ0_indexOf_0f7a4 0 = .ok (.aload_n 0, 1) := by decide +kernel
theorem dJ0_indexOf_0f7a4_1 : decode cJ0_indexOf_0f7a4 1 = .ok (.iload_n 1, 1) := by decide +kernel
theorem dJ0_indexOf_0f7a4_2 : decode cJ0_indexOf_0f7a4 2 = .ok (.iconst 0, 1) := by decide +kernel
theorem dJ0_indexOf_0f7a4_3 : decode cJ0_indexOf_0f7a4 3 = .ok (.invokevirtual 633, 3) := by decide +kernel
theorem dJ0_indexOf_0f7a4_6 : decode cJ0_indexOf_0f7a4 6 = .ok (.ireturn, 1) := by decide +kernel
theorem dJ0_indexOf_7cf53_0 : decode cJ0_indexOf_7cf53 0 = .ok (.aload_n 0, 1) := by decide +kernel
theorem dJ0_indexOf_7cf53_1 : decode cJ0_indexOf_7cf53 1 = .ok (.invokevirtual 492, 3) := by decide +kernel
theorem dJ0_indexOf_7cf53_4 : decode cJ0_indexOf_7cf53 4 = .ok (.ifCond .eq 19, 3) := by decide +kernel
theorem dJ0_indexOf_7cf53_7 : decode cJ0_indexOf_7cf53 7 = .ok (.aload_n 0, 1) := by decide +kernel
theorem dJ0_indexOf_7cf53_8 : decode cJ0_indexOf_7cf53 8 = .ok (.getfield 9, 3) := by decide +kernel
theorem dJ0_indexOf_7cf53_11 : decode cJ0_indexOf_7cf53 11 = .ok (.iload_n 1, 1) := by decide +kernel
theorem dJ0_indexOf_7cf53_12 : decode cJ0_indexOf_7cf53 12 = .ok (.iload_n 2, 1) := by decide +kernel
theorem dJ0_indexOf_7cf53_13 : decode cJ0_indexOf_7cf53 13 = .ok (.aload_n 0, 1) := by decide +kernel
theorem dJ0_indexOf_7cf53_14 : decode cJ0_indexOf_7cf53 14 = .ok (.invokevirtual 505, 3) := by decide +kernel
theorem dJ0_indexOf_7cf53_17 : decode cJ0_indexOf_7cf53 17 = .ok (.invokestatic 637, 3) := by decide +kernel
theorem dJ0_indexOf_7cf53_20 : decode cJ0_indexOf_7cf53 20 = .ok (.goto 16, 3) := by decide +kernel
theorem dJ0_indexOf_7cf53_23 : decode cJ0_indexOf_7cf53 23 = .ok (.aload_n 0, 1) := by decide +kernel
theorem dJ0_indexOf_7cf53_24 : decode cJ0_indexOf_7cf53 24 = .ok (.getfield 9, 3) := by decide +kernel
theorem dJ0_indexOf_7cf53_27 : decode cJ0_indexOf_7cf53 27 = .ok (.iload_n 1, 1) := by decide +kernel
theorem dJ0_indexOf_7cf53_28 : decode cJ0_indexOf_7cf53 28 = .ok (.iload_n 2, 1) := by decide +kernel
theorem dJ0_indexOf_7cf53_29 : decode cJ0_indexOf_7cf53 29 = .ok (.aload_n 0, 1) := by decide +kernel
theorem dJ0_indexOf_7cf53_30 : decode cJ0_indexOf_7cf53 30 = .ok (.invokevirtual 505, 3) := by decide +kernel
theorem dJ0_indexOf_7cf53_33 : decode cJ0_indexOf_7cf53 33 = .ok (.invokestatic 640, 3) := by decide +kernel
theorem dJ0_indexOf_7cf53_36 : decode cJ0_indexOf_7cf53 36 = .ok (.ireturn, 1) := by decide +kernel
theorem dJ0_coder_7d493_0 : decode cJ0_coder_7d493 0 = .ok (.getstatic 38, 3) := by decide +kernel
theorem dJ0_coder_7d493_3 : decode cJ0_coder_7d493 3 = .ok (.ifCond .eq 10, 3) := by decide +kernel
theorem dJ0_coder_7d493_6 : decode cJ0_coder_7d493 6 = .ok (.aload_n 0, 1) := by decide +kernel
theorem dJ0_coder_7d493_7 : decode cJ0_coder_7d493 7 = .ok (.getfield 15, 3) := by decide +kernel
theorem dJ0_coder_7d493_10 : decode cJ0_coder_7d493 10 = .ok (.goto 4, 3) := by decide +kernel
theorem dJ0_coder_7d493_13 : decode cJ0_coder_7d493 13 = .ok (.iconst 1, 1) := by decide +kernel
theorem dJ0_coder_7d493_14 : decode cJ0_coder_7d493 14 = .ok (.ireturn, 1) := by decide +kernel
theorem dJ0_isLatin1_aae02_0 : decode cJ0_isLatin1_aae02 0 = .ok (.getstatic 38, 3) := by decide +kernel
theorem dJ0_isLatin1_aae02_3 : decode cJ0_isLatin1_aae02 3 = .ok (.ifCond .eq 14, 3) := by decide +kernel
theorem dJ0_isLatin1_aae02_6 : decode cJ0_isLatin1_aae02 6 = .ok (.aload_n 0, 1) := by decide +kernel
theorem dJ0_isLatin1_aae02_7 : decode cJ0_isLatin1_aae02 7 = .ok (.getfield 15, 3) := by decide +kernel
theorem dJ0_isLatin1_aae02_10 : decode cJ0_isLatin1_aae02 10 = .ok (.ifCond .ne 7, 3) := by decide +kernel
theorem dJ0_isLatin1_aae02_13 : decode cJ0_isLatin1_aae02 13 = .ok (.iconst 1, 1) := by decide +kernel
theorem dJ0_isLatin1_aae02_14 : decode cJ0_isLatin1_aae02 14 = .ok (.goto 4, 3) := by decide +kernel
theorem dJ0_isLatin1_aae02_17 : decode cJ0_isLatin1_aae02 17 = .ok (.iconst 0, 1) := by decide +kernel
theorem dJ0_isLatin1_aae02_18 : decode cJ0_isLatin1_aae02 18 = .ok (.ireturn, 1) := by decide +kernel
theorem dJ0_checkIndex_df160_0 : decode cJ0_checkIndex_df160 0 = .ok (.iload_n 0, 1) := by decide +kernel
theorem dJ0_checkIndex_df160_1 : decode cJ0_checkIndex_df160 1 = .ok (.iload_n 1, 1) := by decide +kernel
theorem dJ0_checkIndex_df160_2 : decode cJ0_checkIndex_df160 2 = .ok (.getstatic 1053, 3) := by decide +kernel
theorem dJ0_checkIndex_df160_5 : decode cJ0_checkIndex_df160 5 = .ok (.invokestatic 1059, 3) := by decide +kernel
theorem dJ0_checkIndex_df160_8 : decode cJ0_checkIndex_df160 8 = .ok (.pop, 1) := by decide +kernel
theorem dJ0_checkIndex_df160_9 : decode cJ0_checkIndex_df160 9 = .ok (.return_, 1) := by decide +kernel
theorem dJ0_checkBoundsBeginEnd_23922_0 : decode cJ0_checkBoundsBeginEnd_23922 0 = .ok (.iload_n 0, 1) := by decide +kernel
theorem dJ0_checkBoundsBeginEnd_23922_1 : decode cJ0_checkBoundsBeginEnd_23922 1 = .ok (.iload_n 1, 1) := by decide +kernel
theorem dJ0_checkBoundsBeginEnd_23922_2 : decode cJ0_checkBoundsBeginEnd_23922 2 = .ok (.iload_n 2, 1) := by decide +kernel
theorem dJ0_checkBoundsBeginEnd_23922_3 : decode cJ0_checkBoundsBeginEnd_23922 3 = .ok (.getstatic 1053, 3) := by decide +kernel
theorem dJ0_checkBoundsBeginEnd_23922_6 : decode cJ0_checkBoundsBeginEnd_23922 6 = .ok (.invokestatic 1062, 3) := by decide +kernel
theorem dJ0_checkBoundsBeginEnd_23922_9 : decode cJ0_checkBoundsBeginEnd_23922 9 = .ok (.pop, 1) := by decide +kernel
theorem dJ0_checkBoundsBeginEnd_23922_10 : decode cJ0_checkBoundsBeginEnd_23922 10 = .ok (.return_, 1) := by decide +kernel
theorem dJ1_charAt_3b067_0 : decode cJ1_charAt_3b067 0 = .ok (.iload_n 1, 1) := by decide +kernel
theorem dJ1_charAt_3b067_1 : decode cJ1_charAt_3b067 1 = .ok (.aload_n 0, 1) := by decide +kernel
theorem dJ1_charAt_3b067_2 : decode cJ1_charAt_3b067 2 = .ok (.arraylength, 1) := by decide +kernel
theorem dJ1_charAt_3b067_3 : decode cJ1_charAt_3b067 3 = .ok (.invokestatic 9, 3) := by decide +kernel
theorem dJ1_charAt_3b067_6 : decode cJ1_charAt_3b067 6 = .ok (.aload_n 0, 1) := by decide +kernel
theorem dJ1_charAt_3b067_7 : decode cJ1_charAt_3b067 7 = .ok (.iload_n 1, 1) := by decide +kernel
theorem dJ1_charAt_3b067_8 : decode cJ1_charAt_3b067 8 = .ok (.baload, 1) := by decide +kernel
theorem dJ1_charAt_3b067_9 : decode cJ1_charAt_3b067 9 = .ok (.sipush 255, 3) := by decide +kernel
theorem dJ1_charAt_3b067_12 : decode cJ1_charAt_3b067 12 = .ok (.iand, 1) := by decide +kernel
theorem dJ1_charAt_3b067_13 : decode cJ1_charAt_3b067 13 = .ok (.i2c, 1) := by decide +kernel
theorem dJ1_charAt_3b067_14 : decode cJ1_charAt_3b067 14 = .ok (.ireturn, 1) := by decide +kernel
theorem dJ1_canEncode_9a6ad_0 : decode cJ1_canEncode_9a6ad 0 = .ok (.iload_n 0, 1) := by decide +kernel
theorem dJ1_canEncode_9a6ad_1 : decode cJ1_canEncode_9a6ad 1 = .ok (.ifCond .lt 14, 3) := by decide +kernel
theorem dJ1_canEncode_9a6ad_4 : decode cJ1_canEncode_9a6ad 4 = .ok (.iload_n 0, 1) := by decide +kernel
theorem dJ1_canEncode_9a6ad_5 : decode cJ1_canEncode_9a6ad 5 = .ok (.sipush 255, 3) := by decide +kernel
theorem dJ1_canEncode_9a6ad_8 : decode cJ1_canEncode_9a6ad 8 = .ok (.if_icmp .gt 7, 3) := by decide +kernel
theorem dJ1_canEncode_9a6ad_11 : decode cJ1_canEncode_9a6ad 11 = .ok (.iconst 1, 1) := by decide +kernel
theorem dJ1_canEncode_9a6ad_12 : decode cJ1_canEncode_9a6ad 12 = .ok (.goto 4, 3) := by decide +kernel
theorem dJ1_canEncode_9a6ad_15 : decode cJ1_canEncode_9a6ad 15 = .ok (.iconst 0, 1) := by decide +kernel
theorem dJ1_canEncode_9a6ad_16 : decode cJ1_canEncode_9a6ad 16 = .ok (.ireturn, 1) := by decide +kernel
theorem dJ1_indexOf_4cfef_0 : decode cJ1_indexOf_4cfef 0 = .ok (.iload_n 1, 1) := by decide +kernel
theorem dJ1_indexOf_4cfef_1 : decode cJ1_indexOf_4cfef 1 = .ok (.invokestatic 88, 3) := by decide +kernel
theorem dJ1_indexOf_4cfef_4 : decode cJ1_indexOf_4cfef 4 = .ok (.ifCond .ne 5, 3) := by decide +kernel
theorem dJ1_indexOf_4cfef_7 : decode cJ1_indexOf_4cfef 7 = .ok (.iconst (-1), 1) := by decide +kernel
theorem dJ1_indexOf_4cfef_8 : decode cJ1_indexOf_4cfef 8 = .ok (.ireturn, 1) := by decide +kernel
theorem dJ1_indexOf_4cfef_9 : decode cJ1_indexOf_4cfef 9 = .ok (.iload_n 2, 1) := by decide +kernel
theorem dJ1_indexOf_4cfef_10 : decode cJ1_indexOf_4cfef 10 = .ok (.iconst 0, 1) := by decide +kernel
theorem dJ1_indexOf_4cfef_11 : decode cJ1_indexOf_4cfef 11 = .ok (.invokestatic 92, 3) := by decide +kernel
theorem dJ1_indexOf_4cfef_14 : decode cJ1_indexOf_4cfef 14 = .ok (.istore_n 2, 1) := by decide +kernel
theorem dJ1_indexOf_4cfef_15 : decode cJ1_indexOf_4cfef 15 = .ok (.iload_n 3, 1) := by decide +kernel
theorem dJ1_indexOf_4cfef_16 : decode cJ1_indexOf_4cfef 16 = .ok (.aload_n 0, 1) := by decide +kernel
theorem dJ1_indexOf_4cfef_17 : decode cJ1_indexOf_4cfef 17 = .ok (.arraylength, 1) := by decide +kernel
theorem dJ1_indexOf_4cfef_18 : decode cJ1_indexOf_4cfef 18 = .ok (.invokestatic 38, 3) := by decide +kernel
theorem dJ1_indexOf_4cfef_21 : decode cJ1_indexOf_4cfef 21 = .ok (.istore_n 3, 1) := by decide +kernel
theorem dJ1_indexOf_4cfef_22 : decode cJ1_indexOf_4cfef 22 = .ok (.iload_n 2, 1) := by decide +kernel
theorem dJ1_indexOf_4cfef_23 : decode cJ1_indexOf_4cfef 23 = .ok (.iload_n 3, 1) := by decide +kernel
theorem dJ1_indexOf_4cfef_24 : decode cJ1_indexOf_4cfef 24 = .ok (.if_icmp .lt 5, 3) := by decide +kernel
theorem dJ1_indexOf_4cfef_27 : decode cJ1_indexOf_4cfef 27 = .ok (.iconst (-1), 1) := by decide +kernel
theorem dJ1_indexOf_4cfef_28 : decode cJ1_indexOf_4cfef 28 = .ok (.ireturn, 1) := by decide +kernel
theorem dJ1_indexOf_4cfef_29 : decode cJ1_indexOf_4cfef 29 = .ok (.aload_n 0, 1) := by decide +kernel
theorem dJ1_indexOf_4cfef_30 : decode cJ1_indexOf_4cfef 30 = .ok (.iload_n 1, 1) := by decide +kernel
theorem dJ1_indexOf_4cfef_31 : decode cJ1_indexOf_4cfef 31 = .ok (.iload_n 2, 1) := by decide +kernel
theorem dJ1_indexOf_4cfef_32 : decode cJ1_indexOf_4cfef 32 = .ok (.iload_n 3, 1) := by decide +kernel
theorem dJ1_indexOf_4cfef_33 : decode cJ1_indexOf_4cfef 33 = .ok (.invokestatic 95, 3) := by decide +kernel
theorem dJ1_indexOf_4cfef_36 : decode cJ1_indexOf_4cfef 36 = .ok (.ireturn, 1) := by decide +kernel
theorem dJ1_indexOfChar_4cfef_0 : decode cJ1_indexOfChar_4cfef 0 = .ok (.iload_n 1, 1) := by decide +kernel
theorem dJ1_indexOfChar_4cfef_1 : decode cJ1_indexOfChar_4cfef 1 = .ok (.i2b, 1) := by decide +kernel
theorem dJ1_indexOfChar_4cfef_2 : decode cJ1_indexOfChar_4cfef 2 = .ok (.istore 4, 2) := by decide +kernel
theorem dJ1_indexOfChar_4cfef_4 : decode cJ1_indexOfChar_4cfef 4 = .ok (.iload_n 2, 1) := by decide +kernel
theorem dJ1_indexOfChar_4cfef_5 : decode cJ1_indexOfChar_4cfef 5 = .ok (.istore 5, 2) := by decide +kernel
end
section
theorem dJ1_indexOfChar_4cfef_7 : decode cJ1_indexOfChar_4cfef 7 = .ok (.iload 5, 2) := by decide +kernel
theorem dJ1_indexOfChar_4cfef_9 : decode cJ1_indexOfChar_4cfef 9 = .ok (.iload_n 3, 1) := by decide +kernel
theorem dJ1_indexOfChar_4cfef_10 : decode cJ1_indexOfChar_4cfef 10 = .ok (.if_icmp .ge 21, 3) := by decide +kernel
theorem dJ1_indexOfChar_4cfef_13 : decode cJ1_indexOfChar_4cfef 13 = .ok (.aload_n 0, 1) := by decide +kernel
theorem dJ1_indexOfChar_4cfef_14 : decode cJ1_indexOfChar_4cfef 14 = .ok (.iload 5, 2) := by decide +kernel
theorem dJ1_indexOfChar_4cfef_16 : decode cJ1_indexOfChar_4cfef 16 = .ok (.baload, 1) := by decide +kernel
theorem dJ1_indexOfChar_4cfef_17 : decode cJ1_indexOfChar_4cfef 17 = .ok (.iload 4, 2) := by decide +kernel
theorem dJ1_indexOfChar_4cfef_19 : decode cJ1_indexOfChar_4cfef 19 = .ok (.if_icmp .ne 6, 3) := by decide +kernel
theorem dJ1_indexOfChar_4cfef_22 : decode cJ1_indexOfChar_4cfef 22 = .ok (.iload 5, 2) := by decide +kernel
theorem dJ1_indexOfChar_4cfef_24 : decode cJ1_indexOfChar_4cfef 24 = .ok (.ireturn, 1) := by decide +kernel
theorem dJ1_indexOfChar_4cfef_25 : decode cJ1_indexOfChar_4cfef 25 = .ok (.iinc 5 1, 3) := by decide +kernel
theorem dJ1_indexOfChar_4cfef_28 : decode cJ1_indexOfChar_4cfef 28 = .ok (.goto (-21), 3) := by decide +kernel
theorem dJ1_indexOfChar_4cfef_31 : decode cJ1_indexOfChar_4cfef 31 = .ok (.iconst (-1), 1) := by decide +kernel
theorem dJ1_indexOfChar_4cfef_32 : decode cJ1_indexOfChar_4cfef 32 = .ok (.ireturn, 1) := by decide +kernel
theorem dJ7_fill_d0a16_0 : decode cJ7_fill_d0a16 0 = .ok (.iconst 0, 1) := by decide +kernel
theorem dJ7_fill_d0a16_1 : decode cJ7_fill_d0a16 1 = .ok (.istore_n 3, 1) := by decide +kernel
theorem dJ7_fill_d0a16_2 : decode cJ7_fill_d0a16 2 = .ok (.aload_n 0, 1) := by decide +kernel
theorem dJ7_fill_d0a16_3 : decode cJ7_fill_d0a16 3 = .ok (.arraylength, 1) := by decide +kernel
theorem dJ7_fill_d0a16_4 : decode cJ7_fill_d0a16 4 = .ok (.istore 4, 2) := by decide +kernel
theorem dJ7_fill_d0a16_6 : decode cJ7_fill_d0a16 6 = .ok (.iload_n 3, 1) := by decide +kernel
theorem dJ7_fill_d0a16_7 : decode cJ7_fill_d0a16 7 = .ok (.iload 4, 2) := by decide +kernel
theorem dJ7_fill_d0a16_9 : decode cJ7_fill_d0a16 9 = .ok (.if_icmp .ge 13, 3) := by decide +kernel
theorem dJ7_fill_d0a16_12 : decode cJ7_fill_d0a16 12 = .ok (.aload_n 0, 1) := by decide +kernel
theorem dJ7_fill_d0a16_13 : decode cJ7_fill_d0a16 13 = .ok (.iload_n 3, 1) := by decide +kernel
theorem dJ7_fill_d0a16_14 : decode cJ7_fill_d0a16 14 = .ok (.lload_n 1, 1) := by decide +kernel
theorem dJ7_fill_d0a16_15 : decode cJ7_fill_d0a16 15 = .ok (.lastore, 1) := by decide +kernel
theorem dJ7_fill_d0a16_16 : decode cJ7_fill_d0a16 16 = .ok (.iinc 3 1, 3) := by decide +kernel
theorem dJ7_fill_d0a16_19 : decode cJ7_fill_d0a16 19 = .ok (.goto (-13), 3) := by decide +kernel
theorem dJ7_fill_d0a16_22 : decode cJ7_fill_d0a16 22 = .ok (.return_, 1) := by decide +kernel
theorem dJ7_fill_53178_0 : decode cJ7_fill_53178 0 = .ok (.iconst 0, 1) := by decide +kernel
theorem dJ7_fill_53178_1 : decode cJ7_fill_53178 1 = .ok (.istore_n 2, 1) := by decide +kernel
theorem dJ7_fill_53178_2 : decode cJ7_fill_53178 2 = .ok (.aload_n 0, 1) := by decide +kernel
theorem dJ7_fill_53178_3 : decode cJ7_fill_53178 3 = .ok (.arraylength, 1) := by decide +kernel
theorem dJ7_fill_53178_4 : decode cJ7_fill_53178 4 = .ok (.istore_n 3, 1) := by decide +kernel
theorem dJ7_fill_53178_5 : decode cJ7_fill_53178 5 = .ok (.iload_n 2, 1) := by decide +kernel
theorem dJ7_fill_53178_6 : decode cJ7_fill_53178 6 = .ok (.iload_n 3, 1) := by decide +kernel
theorem dJ7_fill_53178_7 : decode cJ7_fill_53178 7 = .ok (.if_icmp .ge 13, 3) := by decide +kernel
theorem dJ7_fill_53178_10 : decode cJ7_fill_53178 10 = .ok (.aload_n 0, 1) := by decide +kernel
theorem dJ7_fill_53178_11 : decode cJ7_fill_53178 11 = .ok (.iload_n 2, 1) := by decide +kernel
theorem dJ7_fill_53178_12 : decode cJ7_fill_53178 12 = .ok (.iload_n 1, 1) := by decide +kernel
theorem dJ7_fill_53178_13 : decode cJ7_fill_53178 13 = .ok (.iastore, 1) := by decide +kernel
theorem dJ7_fill_53178_14 : decode cJ7_fill_53178 14 = .ok (.iinc 2 1, 3) := by decide +kernel
theorem dJ7_fill_53178_17 : decode cJ7_fill_53178 17 = .ok (.goto (-12), 3) := by decide +kernel
theorem dJ7_fill_53178_20 : decode cJ7_fill_53178 20 = .ok (.return_, 1) := by decide +kernel
theorem dJ3_checkIndex_8e157_0 : decode cJ3_checkIndex_8e157 0 = .ok (.iload_n 0, 1) := by decide +kernel
theorem dJ3_checkIndex_8e157_1 : decode cJ3_checkIndex_8e157 1 = .ok (.ifCond .lt 8, 3) := by decide +kernel
theorem dJ3_checkIndex_8e157_4 : decode cJ3_checkIndex_8e157 4 = .ok (.iload_n 0, 1) := by decide +kernel
theorem dJ3_checkIndex_8e157_5 : decode cJ3_checkIndex_8e157 5 = .ok (.iload_n 1, 1) := by decide +kernel
theorem dJ3_checkIndex_8e157_6 : decode cJ3_checkIndex_8e157 6 = .ok (.if_icmp .lt 10, 3) := by decide +kernel
theorem dJ3_checkIndex_8e157_9 : decode cJ3_checkIndex_8e157 9 = .ok (.aload_n 2, 1) := by decide +kernel
theorem dJ3_checkIndex_8e157_10 : decode cJ3_checkIndex_8e157 10 = .ok (.iload_n 0, 1) := by decide +kernel
theorem dJ3_checkIndex_8e157_11 : decode cJ3_checkIndex_8e157 11 = .ok (.iload_n 1, 1) := by decide +kernel
theorem dJ3_checkIndex_8e157_12 : decode cJ3_checkIndex_8e157 12 = .ok (.invokestatic 95, 3) := by decide +kernel
theorem dJ3_checkIndex_8e157_15 : decode cJ3_checkIndex_8e157 15 = .ok (.athrow, 1) := by decide +kernel
theorem dJ3_checkIndex_8e157_16 : decode cJ3_checkIndex_8e157 16 = .ok (.iload_n 0, 1) := by decide +kernel
theorem dJ3_checkIndex_8e157_17 : decode cJ3_checkIndex_8e157 17 = .ok (.ireturn, 1) := by decide +kernel
theorem dL_law_0 : decode cL_law 0 = .ok (.new 7, 3) := by decide +kernel
theorem dL_law_3 : decode cL_law 3 = .ok (.dup, 1) := by decide +kernel
theorem dL_law_4 : decode cL_law 4 = .ok (.invokespecial 9, 3) := by decide +kernel
theorem dL_law_7 : decode cL_law 7 = .ok (.astore_n 1, 1) := by decide +kernel
theorem dL_law_8 : decode cL_law 8 = .ok (.new 10, 3) := by decide +kernel
theorem dL_law_11 : decode cL_law 11 = .ok (.dup, 1) := by decide +kernel
theorem dL_law_12 : decode cL_law 12 = .ok (.invokespecial 12, 3) := by decide +kernel
theorem dL_law_15 : decode cL_law 15 = .ok (.astore_n 2, 1) := by decide +kernel
theorem dL_law_16 : decode cL_law 16 = .ok (.iconst 0, 1) := by decide +kernel
theorem dL_law_17 : decode cL_law 17 = .ok (.istore_n 3, 1) := by decide +kernel
theorem dL_law_18 : decode cL_law 18 = .ok (.iload_n 3, 1) := by decide +kernel
theorem dL_law_19 : decode cL_law 19 = .ok (.aload_n 0, 1) := by decide +kernel
theorem dL_law_20 : decode cL_law 20 = .ok (.arraylength, 1) := by decide +kernel
theorem dL_law_21 : decode cL_law 21 = .ok (.bipush 6, 2) := by decide +kernel
theorem dL_law_23 : decode cL_law 23 = .ok (.isub, 1) := by decide +kernel
theorem dL_law_24 : decode cL_law 24 = .ok (.if_icmp .gt 1150, 3) := by decide +kernel
theorem dL_law_27 : decode cL_law 27 = .ok (.aload_n 0, 1) := by decide +kernel
theorem dL_law_28 : decode cL_law 28 = .ok (.iload_n 3, 1) := by decide +kernel
theorem dL_law_29 : decode cL_law 29 = .ok (.iaload, 1) := by decide +kernel
theorem dL_law_30 : decode cL_law 30 = .ok (.bipush 31, 2) := by decide +kernel
theorem dL_law_32 : decode cL_law 32 = .ok (.iand, 1) := by decide +kernel
theorem dL_law_33 : decode cL_law 33 = .ok (.tableswitch 1135 0 30 #[139, 182, 215, 238, 271, 304, 347, 370, 383, 406, 429, 462, 495, 538, 571, 605, 639, 672, 695, 728, 741, 774, 787, 800, 843, 866, 899, 922, 965, 1038, 1072], 139) := by decide +kernel
theorem dL_law_172 : decode cL_law 172 = .ok (.aload_n 1, 1) := by decide +kernel
theorem dL_law_173 : decode cL_law 173 = .ok (.aload_n 0, 1) := by decide +kernel
theorem dL_law_174 : decode cL_law 174 = .ok (.iload_n 3, 1) := by decide +kernel
theorem dL_law_175 : decode cL_law 175 = .ok (.iconst 1, 1) := by decide +kernel
theorem dL_law_176 : decode cL_law 176 = .ok (.iadd, 1) := by decide +kernel
theorem dL_law_177 : decode cL_law 177 = .ok (.iaload, 1) := by decide +kernel
theorem dL_law_178 : decode cL_law 178 = .ok (.aload_n 0, 1) := by decide +kernel
theorem dL_law_179 : decode cL_law 179 = .ok (.iload_n 3, 1) := by decide +kernel
theorem dL_law_180 : decode cL_law 180 = .ok (.iconst 2, 1) := by decide +kernel
theorem dL_law_181 : decode cL_law 181 = .ok (.iadd, 1) := by decide +kernel
theorem dL_law_182 : decode cL_law 182 = .ok (.iaload, 1) := by decide +kernel
theorem dL_law_183 : decode cL_law 183 = .ok (.aload_n 0, 1) := by decide +kernel
theorem dL_law_184 : decode cL_law 184 = .ok (.iload_n 3, 1) := by decide +kernel
theorem dL_law_185 : decode cL_law 185 = .ok (.iconst 3, 1) := by decide +kernel
theorem dL_law_186 : decode cL_law 186 = .ok (.iadd, 1) := by decide +kernel
theorem dL_law_187 : decode cL_law 187 = .ok (.iaload, 1) := by decide +kernel
theorem dL_law_188 : decode cL_law 188 = .ok (.invokevirtual 13, 3) := by decide +kernel
theorem dL_law_191 : decode cL_law 191 = .ok (.aload_n 2, 1) := by decide +kernel
theorem dL_law_192 : decode cL_law 192 = .ok (.aload_n 0, 1) := by decide +kernel
theorem dL_law_193 : decode cL_law 193 = .ok (.iload_n 3, 1) := by decide +kernel
theorem dL_law_194 : decode cL_law 194 = .ok (.iconst 1, 1) := by decide +kernel
theorem dL_law_195 : decode cL_law 195 = .ok (.iadd, 1) := by decide +kernel
theorem dL_law_196 : decode cL_law 196 = .ok (.iaload, 1) := by decide +kernel
theorem dL_law_197 : decode cL_law 197 = .ok (.aload_n 0, 1) := by decide +kernel
theorem dL_law_198 : decode cL_law 198 = .ok (.iload_n 3, 1) := by decide +kernel
theorem dL_law_199 : decode cL_law 199 = .ok (.iconst 2, 1) := by decide +kernel
theorem dL_law_200 : decode cL_law 200 = .ok (.iadd, 1) := by decide +kernel
theorem dL_law_201 : decode cL_law 201 = .ok (.iaload, 1) := by decide +kernel
theorem dL_law_202 : decode cL_law 202 = .ok (.aload_n 0, 1) := by decide +kernel
theorem dL_law_203 : decode cL_law 203 = .ok (.iload_n 3, 1) := by decide +kernel
theorem dL_law_204 : decode cL_law 204 = .ok (.iconst 3, 1) := by decide +kernel
theorem dL_law_205 : decode cL_law 205 = .ok (.iadd, 1) := by decide +kernel
theorem dL_law_206 : decode cL_law 206 = .ok (.iaload, 1) := by decide +kernel
theorem dL_law_207 : decode cL_law 207 = .ok (.invokevirtual 17, 3) := by decide +kernel
theorem dL_law_210 : decode cL_law 210 = .ok (.if_icmp .eq 958, 3) := by decide +kernel
theorem dL_law_213 : decode cL_law 213 = .ok (.iconst 0, 1) := by decide +kernel
theorem dL_law_214 : decode cL_law 214 = .ok (.ireturn, 1) := by decide +kernel
theorem dL_law_215 : decode cL_law 215 = .ok (.aload_n 1, 1) := by decide +kernel
theorem dL_law_216 : decode cL_law 216 = .ok (.aload_n 0, 1) := by decide +kernel
theorem dL_law_217 : decode cL_law 217 = .ok (.iload_n 3, 1) := by decide +kernel
theorem dL_law_218 : decode cL_law 218 = .ok (.iconst 1, 1) := by decide +kernel
theorem dL_law_219 : decode cL_law 219 = .ok (.iadd, 1) := by decide +kernel
theorem dL_law_220 : decode cL_law 220 = .ok (.iaload, 1) := by decide +kernel
theorem dL_law_221 : decode cL_law 221 = .ok (.aload_n 0, 1) := by decide +kernel
theorem dL_law_222 : decode cL_law 222 = .ok (.iload_n 3, 1) := by decide +kernel
theorem dL_law_223 : decode cL_law 223 = .ok (.iconst 2, 1) := by decide +kernel
theorem dL_law_224 : decode cL_law 224 = .ok (.iadd, 1) := by decide +kernel
theorem dL_law_225 : decode cL_law 225 = .ok (.iaload, 1) := by decide +kernel
theorem dL_law_226 : decode cL_law 226 = .ok (.invokevirtual 18, 3) := by decide +kernel
theorem dL_law_229 : decode cL_law 229 = .ok (.aload_n 2, 1) := by decide +kernel
theorem dL_law_230 : decode cL_law 230 = .ok (.aload_n 0, 1) := by decide +kernel
theorem dL_law_231 : decode cL_law 231 = .ok (.iload_n 3, 1) := by decide +kernel
theorem dL_law_232 : decode cL_law 232 = .ok (.iconst 1, 1) := by decide +kernel
theorem dL_law_233 : decode cL_law 233 = .ok (.iadd, 1) := by decide +kernel
theorem dL_law_234 : decode cL_law 234 = .ok (.iaload, 1) := by decide +kernel
theorem dL_law_235 : decode cL_law 235 = .ok (.aload_n 0, 1) := by decide +kernel
theorem dL_law_236 : decode cL_law 236 = .ok (.iload_n 3, 1) := by decide +kernel
theorem dL_law_237 : decode cL_law 237 = .ok (.iconst 2, 1) := by decide +kernel
theorem dL_law_238 : decode cL_law 238 = .ok (.iadd, 1) := by decide +kernel
theorem dL_law_239 : decode cL_law 239 = .ok (.iaload, 1) := by decide +kernel
theorem dL_law_240 : decode cL_law 240 = .ok (.invokevirtual 22, 3) := by decide +kernel
theorem dL_law_243 : decode cL_law 243 = .ok (.if_icmp .eq 925, 3) := by decide +kernel
theorem dL_law_246 : decode cL_law 246 = .ok (.iconst 0, 1) := by decide +kernel
theorem dL_law_247 : decode cL_law 247 = .ok (.ireturn, 1) := by decide +kernel
theorem dL_law_248 : decode cL_law 248 = .ok (.aload_n 1, 1) := by decide +kernel
theorem dL_law_249 : decode cL_law 249 = .ok (.aload_n 0, 1) := by decide +kernel
theorem dL_law_250 : decode cL_law 250 = .ok (.iload_n 3, 1) := by decide +kernel
theorem dL_law_251 : decode cL_law 251 = .ok (.iconst 1, 1) := by decide +kernel
theorem dL_law_252 : decode cL_law 252 = .ok (.iadd, 1) := by decide +kernel
theorem dL_law_253 : decode cL_law 253 = .ok (.iaload, 1) := by decide +kernel
theorem dL_law_254 : decode cL_law 254 = .ok (.invokevirtual 23, 3) := by decide +kernel
theorem dL_law_257 : decode cL_law 257 = .ok (.aload_n 2, 1) := by decide +kernel
theorem dL_law_258 : decode cL_law 258 = .ok (.aload_n 0, 1) := by decide +kernel
theorem dL_law_259 : decode cL_law 259 = .ok (.iload_n 3, 1) := by decide +kernel
theorem dL_law_260 : decode cL_law 260 = .ok (.iconst 1, 1) := by decide +kernel
theorem dL_law_261 : decode cL_law 261 = .ok (.iadd, 1) := by decide +kernel
theorem dL_law_262 : decode cL_law 262 = .ok (.iaload, 1) := by decide +kernel
theorem dL_law_263 : decode cL_law 263 = .ok (.invokevirtual 27, 3) := by decide +kernel
theorem dL_law_266 : decode cL_law 266 = .ok (.if_icmp .eq 902, 3) := by decide +kernel
theorem dL_law_269 : decode cL_law 269 = .ok (.iconst 0, 1) := by decide +kernel
theorem dL_law_270 : decode cL_law 270 = .ok (.ireturn, 1) := by decide +kernel
theorem dL_law_271 : decode cL_law 271 = .ok (.aload_n 1, 1) := by decide +kernel
theorem dL_law_272 : decode cL_law 272 = .ok (.aload_n 0, 1) := by decide +kernel
theorem dL_law_273 : decode cL_law 273 = .ok (.iload_n 3, 1) := by decide +kernel
theorem dL_law_274 : decode cL_law 274 = .ok (.iconst 1, 1) := by decide +kernel
theorem dL_law_275 : decode cL_law 275 = .ok (.iadd, 1) := by decide +kernel
theorem dL_law_276 : decode cL_law 276 = .ok (.iaload, 1) := by decide +kernel
theorem dL_law_277 : decode cL_law 277 = .ok (.aload_n 0, 1) := by decide +kernel
theorem dL_law_278 : decode cL_law 278 = .ok (.iload_n 3, 1) := by decide +kernel
theorem dL_law_279 : decode cL_law 279 = .ok (.iconst 2, 1) := by decide +kernel
theorem dL_law_280 : decode cL_law 280 = .ok (.iadd, 1) := by decide +kernel
theorem dL_law_281 : decode cL_law 281 = .ok (.iaload, 1) := by decide +kernel
theorem dL_law_282 : decode cL_law 282 = .ok (.invokevirtual 28, 3) := by decide +kernel
theorem dL_law_285 : decode cL_law 285 = .ok (.aload_n 2, 1) := by decide +kernel
theorem dL_law_286 : decode cL_law 286 = .ok (.aload_n 0, 1) := by decide +kernel
theorem dL_law_287 : decode cL_law 287 = .ok (.iload_n 3, 1) := by decide +kernel
theorem dL_law_288 : decode cL_law 288 = .ok (.iconst 1, 1) := by decide +kernel
theorem dL_law_289 : decode cL_law 289 = .ok (.iadd, 1) := by decide +kernel
theorem dL_law_290 : decode cL_law 290 = .ok (.iaload, 1) := by decide +kernel
theorem dL_law_291 : decode cL_law 291 = .ok (.aload_n 0, 1) := by decide +kernel
theorem dL_law_292 : decode cL_law 292 = .ok (.iload_n 3, 1) := by decide +kernel
theorem dL_law_293 : decode cL_law 293 = .ok (.iconst 2, 1) := by decide +kernel
theorem dL_law_294 : decode cL_law 294 = .ok (.iadd, 1) := by decide +kernel
theorem dL_law_295 : decode cL_law 295 = .ok (.iaload, 1) := by decide +kernel
theorem dL_law_296 : decode cL_law 296 = .ok (.invokevirtual 31, 3) := by decide +kernel
theorem dL_law_299 : decode cL_law 299 = .ok (.if_icmp .eq 869, 3) := by decide +kernel
theorem dL_law_302 : decode cL_law 302 = .ok (.iconst 0, 1) := by decide +kernel
theorem dL_law_303 : decode cL_law 303 = .ok (.ireturn, 1) := by decide +kernel
theorem dL_law_304 : decode cL_law 304 = .ok (.aload_n 1, 1) := by decide +kernel
theorem dL_law_305 : decode cL_law 305 = .ok (.aload_n 0, 1) := by decide +kernel
theorem dL_law_306 : decode cL_law 306 = .ok (.iload_n 3, 1) := by decide +kernel
theorem dL_law_307 : decode cL_law 307 = .ok (.iconst 1, 1) := by decide +kernel
theorem dL_law_308 : decode cL_law 308 = .ok (.iadd, 1) := by decide +kernel
theorem dL_law_309 : decode cL_law 309 = .ok (.iaload, 1) := by decide +kernel
theorem dL_law_310 : decode cL_law 310 = .ok (.aload_n 0, 1) := by decide +kernel
theorem dL_law_311 : decode cL_law 311 = .ok (.iload_n 3, 1) := by decide +kernel
theorem dL_law_312 : decode cL_law 312 = .ok (.iconst 2, 1) := by decide +kernel
theorem dL_law_313 : decode cL_law 313 = .ok (.iadd, 1) := by decide +kernel
theorem dL_law_314 : decode cL_law 314 = .ok (.iaload, 1) := by decide +kernel
theorem dL_law_315 : decode cL_law 315 = .ok (.invokevirtual 32, 3) := by decide +kernel
theorem dL_law_318 : decode cL_law 318 = .ok (.aload_n 2, 1) := by decide +kernel
theorem dL_law_319 : decode cL_law 319 = .ok (.aload_n 0, 1) := by decide +kernel
theorem dL_law_320 : decode cL_law 320 = .ok (.iload_n 3, 1) := by decide +kernel
theorem dL_law_321 : decode cL_law 321 = .ok (.iconst 1, 1) := by decide +kernel
theorem dL_law_322 : decode cL_law 322 = .ok (.iadd, 1) := by decide +kernel
theorem dL_law_323 : decode cL_law 323 = .ok (.iaload, 1) := by decide +kernel
theorem dL_law_324 : decode cL_law 324 = .ok (.aload_n 0, 1) := by decide +kernel
theorem dL_law_325 : decode cL_law 325 = .ok (.iload_n 3, 1) := by decide +kernel
theorem dL_law_326 : decode cL_law 326 = .ok (.iconst 2, 1) := by decide +kernel
theorem dL_law_327 : decode cL_law 327 = .ok (.iadd, 1) := by decide +kernel
theorem dL_law_328 : decode cL_law 328 = .ok (.iaload, 1) := by decide +kernel
theorem dL_law_329 : decode cL_law 329 = .ok (.invokevirtual 35, 3) := by decide +kernel
theorem dL_law_332 : decode cL_law 332 = .ok (.if_icmp .eq 836, 3) := by decide +kernel
theorem dL_law_335 : decode cL_law 335 = .ok (.iconst 0, 1) := by decide +kernel
theorem dL_law_336 : decode cL_law 336 = .ok (.ireturn, 1) := by decide +kernel
theorem dL_law_337 : decode cL_law 337 = .ok (.aload_n 1, 1) := by decide +kernel
theorem dL_law_338 : decode cL_law 338 = .ok (.aload_n 0, 1) := by decide +kernel
theorem dL_law_339 : decode cL_law 339 = .ok (.iload_n 3, 1) := by decide +kernel
theorem dL_law_340 : decode cL_law 340 = .ok (.iconst 1, 1) := by decide +kernel
theorem dL_law_341 : decode cL_law 341 = .ok (.iadd, 1) := by decide +kernel
theorem dL_law_342 : decode cL_law 342 = .ok (.iaload, 1) := by decide +kernel
theorem dL_law_343 : decode cL_law 343 = .ok (.aload_n 0, 1) := by decide +kernel
theorem dL_law_344 : decode cL_law 344 = .ok (.iload_n 3, 1) := by decide +kernel
theorem dL_law_345 : decode cL_law 345 = .ok (.iconst 2, 1) := by decide +kernel
theorem dL_law_346 : decode cL_law 346 = .ok (.iadd, 1) := by decide +kernel
theorem dL_law_347 : decode cL_law 347 = .ok (.iaload, 1) := by decide +kernel
theorem dL_law_348 : decode cL_law 348 = .ok (.aload_n 0, 1) := by decide +kernel
theorem dL_law_349 : decode cL_law 349 = .ok (.iload_n 3, 1) := by decide +kernel
theorem dL_law_350 : decode cL_law 350 = .ok (.iconst 3, 1) := by decide +kernel
theorem dL_law_351 : decode cL_law 351 = .ok (.iadd, 1) := by decide +kernel
theorem dL_law_352 : decode cL_law 352 = .ok (.iaload, 1) := by decide +kernel
theorem dL_law_353 : decode cL_law 353 = .ok (.invokevirtual 36, 3) := by decide +kernel
theorem dL_law_356 : decode cL_law 356 = .ok (.aload_n 2, 1) := by decide +kernel
theorem dL_law_357 : decode cL_law 357 = .ok (.aload_n 0, 1) := by decide +kernel
theorem dL_law_358 : decode cL_law 358 = .ok (.iload_n 3, 1) := by decide +kernel
theorem dL_law_359 : decode cL_law 359 = .ok (.iconst 1, 1) := by decide +kernel
theorem dL_law_360 : decode cL_law 360 = .ok (.iadd, 1) := by decide +kernel
theorem dL_law_361 : decode cL_law 361 = .ok (.iaload, 1) := by decide +kernel
theorem dL_law_362 : decode cL_law 362 = .ok (.aload_n 0, 1) := by decide +kernel
theorem dL_law_363 : decode cL_law 363 = .ok (.iload_n 3, 1) := by decide +kernel
theorem dL_law_364 : decode cL_law 364 = .ok (.iconst 2, 1) := by decide +kernel
theorem dL_law_365 : decode cL_law 365 = .ok (.iadd, 1) := by decide +kernel
theorem dL_law_366 : decode cL_law 366 = .ok (.iaload, 1) := by decide +kernel
theorem dL_law_367 : decode cL_law 367 = .ok (.aload_n 0, 1) := by decide +kernel
theorem dL_law_368 : decode cL_law 368 = .ok (.iload_n 3, 1) := by decide +kernel
theorem dL_law_369 : decode cL_law 369 = .ok (.iconst 3, 1) := by decide +kernel
theorem dL_law_370 : decode cL_law 370 = .ok (.iadd, 1) := by decide +kernel
theorem dL_law_371 : decode cL_law 371 = .ok (.iaload, 1) := by decide +kernel
theorem dL_law_372 : decode cL_law 372 = .ok (.invokevirtual 39, 3) := by decide +kernel
theorem dL_law_375 : decode cL_law 375 = .ok (.if_icmp .eq 793, 3) := by decide +kernel
theorem dL_law_378 : decode cL_law 378 = .ok (.iconst 0, 1) := by decide +kernel
theorem dL_law_379 : decode cL_law 379 = .ok (.ireturn, 1) := by decide +kernel
theorem dL_law_380 : decode cL_law 380 = .ok (.aload_n 1, 1) := by decide +kernel
theorem dL_law_381 : decode cL_law 381 = .ok (.aload_n 0, 1) := by decide +kernel
theorem dL_law_382 : decode cL_law 382 = .ok (.iload_n 3, 1) := by decide +kernel
theorem dL_law_383 : decode cL_law 383 = .ok (.iconst 1, 1) := by decide +kernel
theorem dL_law_384 : decode cL_law 384 = .ok (.iadd, 1) := by decide +kernel
theorem dL_law_385 : decode cL_law 385 = .ok (.iaload, 1) := by decide +kernel
theorem dL_law_386 : decode cL_law 386 = .ok (.invokevirtual 40, 3) := by decide +kernel
theorem dL_law_389 : decode cL_law 389 = .ok (.aload_n 2, 1) := by decide +kernel
theorem dL_law_390 : decode cL_law 390 = .ok (.aload_n 0, 1) := by decide +kernel
theorem dL_law_391 : decode cL_law 391 = .ok (.iload_n 3, 1) := by decide +kernel
theorem dL_law_392 : decode cL_law 392 = .ok (.iconst 1, 1) := by decide +kernel
theorem dL_law_393 : decode cL_law 393 = .ok (.iadd, 1) := by decide +kernel
theorem dL_law_394 : decode cL_law 394 = .ok (.iaload, 1) := by decide +kernel
theorem dL_law_395 : decode cL_law 395 = .ok (.invokevirtual 43, 3) := by decide +kernel
theorem dL_law_398 : decode cL_law 398 = .ok (.if_icmp .eq 770, 3) := by decide +kernel
theorem dL_law_401 : decode cL_law 401 = .ok (.iconst 0, 1) := by decide +kernel
theorem dL_law_402 : decode cL_law 402 = .ok (.ireturn, 1) := by decide +kernel
theorem dL_law_403 : decode cL_law 403 = .ok (.aload_n 1, 1) := by decide +kernel
theorem dL_law_404 : decode cL_law 404 = .ok (.invokevirtual 44, 3) := by decide +kernel
theorem dL_law_407 : decode cL_law 407 = .ok (.aload_n 2, 1) := by decide +kernel
theorem dL_law_408 : decode cL_law 408 = .ok (.invokevirtual 48, 3) := by decide +kernel
theorem dL_law_411 : decode cL_law 411 = .ok (.if_icmp .eq 757, 3) := by decide +kernel
theorem dL_law_414 : decode cL_law 414 = .ok (.iconst 0, 1) := by decide +kernel
theorem dL_law_415 : decode cL_law 415 = .ok (.ireturn, 1) := by decide +kernel
theorem dL_law_416 : decode cL_law 416 = .ok (.aload_n 1, 1) := by decide +kernel
theorem dL_law_417 : decode cL_law 417 = .ok (.aload_n 0, 1) := by decide +kernel
theorem dL_law_418 : decode cL_law 418 = .ok (.iload_n 3, 1) := by decide +kernel
theorem dL_law_419 : decode cL_law 419 = .ok (.iconst 1, 1) := by decide +kernel
theorem dL_law_420 : decode cL_law 420 = .ok (.iadd, 1) := by decide +kernel
theorem dL_law_421 : decode cL_law 421 = .ok (.iaload, 1) := by decide +kernel
theorem dL_law_422 : decode cL_law 422 = .ok (.invokevirtual 49, 3) := by decide +kernel
theorem dL_law_425 : decode cL_law 425 = .ok (.aload_n 2, 1) := by decide +kernel
theorem dL_law_426 : decode cL_law 426 = .ok (.aload_n 0, 1) := by decide +kernel
theorem dL_law_427 : decode cL_law 427 = .ok (.iload_n 3, 1) := by decide +kernel
theorem dL_law_428 : decode cL_law 428 = .ok (.iconst 1, 1) := by decide +kernel
theorem dL_law_429 : decode cL_law 429 = .ok (.iadd, 1) := by decide +kernel
theorem dL_law_430 : decode cL_law 430 = .ok (.iaload, 1) := by decide +kernel
theorem dL_law_431 : decode cL_law 431 = .ok (.invokevirtual 52, 3) := by decide +kernel
theorem dL_law_434 : decode cL_law 434 = .ok (.if_icmp .eq 734, 3) := by decide +kernel
theorem dL_law_437 : decode cL_law 437 = .ok (.iconst 0, 1) := by decide +kernel
theorem dL_law_438 : decode cL_law 438 = .ok (.ireturn, 1) := by decide +kernel
theorem dL_law_439 : decode cL_law 439 = .ok (.aload_n 1, 1) := by decide +kernel
theorem dL_law_440 : decode cL_law 440 = .ok (.aload_n 0, 1) := by decide +kernel
theorem dL_law_441 : decode cL_law 441 = .ok (.iload_n 3, 1) := by decide +kernel
theorem dL_law_442 : decode cL_law 442 = .ok (.iconst 1, 1) := by decide +kernel
theorem dL_law_443 : decode cL_law 443 = .ok (.iadd, 1) := by decide +kernel
theorem dL_law_444 : decode cL_law 444 = .ok (.iaload, 1) := by decide +kernel
theorem dL_law_445 : decode cL_law 445 = .ok (.invokevirtual 53, 3) := by decide +kernel
theorem dL_law_448 : decode cL_law 448 = .ok (.aload_n 2, 1) := by decide +kernel
theorem dL_law_449 : decode cL_law 449 = .ok (.aload_n 0, 1) := by decide +kernel
theorem dL_law_450 : decode cL_law 450 = .ok (.iload_n 3, 1) := by decide +kernel
theorem dL_law_451 : decode cL_law 451 = .ok (.iconst 1, 1) := by decide +kernel
theorem dL_law_452 : decode cL_law 452 = .ok (.iadd, 1) := by decide +kernel
theorem dL_law_453 : decode cL_law 453 = .ok (.iaload, 1) := by decide +kernel
theorem dL_law_454 : decode cL_law 454 = .ok (.invokevirtual 56, 3) := by decide +kernel
theorem dL_law_457 : decode cL_law 457 = .ok (.if_icmp .eq 711, 3) := by decide +kernel
theorem dL_law_460 : decode cL_law 460 = .ok (.iconst 0, 1) := by decide +kernel
theorem dL_law_461 : decode cL_law 461 = .ok (.ireturn, 1) := by decide +kernel
theorem dL_law_462 : decode cL_law 462 = .ok (.aload_n 1, 1) := by decide +kernel
theorem dL_law_463 : decode cL_law 463 = .ok (.aload_n 0, 1) := by decide +kernel
theorem dL_law_464 : decode cL_law 464 = .ok (.iload_n 3, 1) := by decide +kernel
theorem dL_law_465 : decode cL_law 465 = .ok (.iconst 1, 1) := by decide +kernel
theorem dL_law_466 : decode cL_law 466 = .ok (.iadd, 1) := by decide +kernel
theorem dL_law_467 : decode cL_law 467 = .ok (.iaload, 1) := by decide +kernel
theorem dL_law_468 : decode cL_law 468 = .ok (.aload_n 0, 1) := by decide +kernel
theorem dL_law_469 : decode cL_law 469 = .ok (.iload_n 3, 1) := by decide +kernel
theorem dL_law_470 : decode cL_law 470 = .ok (.iconst 2, 1) := by decide +kernel
theorem dL_law_471 : decode cL_law 471 = .ok (.iadd, 1) := by decide +kernel
theorem dL_law_472 : decode cL_law 472 = .ok (.iaload, 1) := by decide +kernel
theorem dL_law_473 : decode cL_law 473 = .ok (.invokevirtual 57, 3) := by decide +kernel
theorem dL_law_476 : decode cL_law 476 = .ok (.aload_n 2, 1) := by decide +kernel
theorem dL_law_477 : decode cL_law 477 = .ok (.aload_n 0, 1) := by decide +kernel
theorem dL_law_478 : decode cL_law 478 = .ok (.iload_n 3, 1) := by decide +kernel
theorem dL_law_479 : decode cL_law 479 = .ok (.iconst 1, 1) := by decide +kernel
theorem dL_law_480 : decode cL_law 480 = .ok (.iadd, 1) := by decide +kernel
theorem dL_law_481 : decode cL_law 481 = .ok (.iaload, 1) := by decide +kernel
theorem dL_law_482 : decode cL_law 482 = .ok (.aload_n 0, 1) := by decide +kernel
theorem dL_law_483 : decode cL_law 483 = .ok (.iload_n 3, 1) := by decide +kernel
theorem dL_law_484 : decode cL_law 484 = .ok (.iconst 2, 1) := by decide +kernel
theorem dL_law_485 : decode cL_law 485 = .ok (.iadd, 1) := by decide +kernel
theorem dL_law_486 : decode cL_law 486 = .ok (.iaload, 1) := by decide +kernel
theorem dL_law_487 : decode cL_law 487 = .ok (.invokevirtual 60, 3) := by decide +kernel
theorem dL_law_490 : decode cL_law 490 = .ok (.if_icmp .eq 678, 3) := by decide +kernel
theorem dL_law_493 : decode cL_law 493 = .ok (.iconst 0, 1) := by decide +kernel
theorem dL_law_494 : decode cL_law 494 = .ok (.ireturn, 1) := by decide +kernel
theorem dL_law_495 : decode cL_law 495 = .ok (.aload_n 1, 1) := by decide +kernel
theorem dL_law_496 : decode cL_law 496 = .ok (.aload_n 0, 1) := by decide +kernel
theorem dL_law_497 : decode cL_law 497 = .ok (.iload_n 3, 1) := by decide +kernel
theorem dL_law_498 : decode cL_law 498 = .ok (.iconst 1, 1) := by decide +kernel
theorem dL_law_499 : decode cL_law 499 = .ok (.iadd, 1) := by decide +kernel
theorem dL_law_500 : decode cL_law 500 = .ok (.iaload, 1) := by decide +kernel
theorem dL_law_501 : decode cL_law 501 = .ok (.aload_n 0, 1) := by decide +kernel
theorem dL_law_502 : decode cL_law 502 = .ok (.iload_n 3, 1) := by decide +kernel
theorem dL_law_503 : decode cL_law 503 = .ok (.iconst 2, 1) := by decide +kernel
theorem dL_law_504 : decode cL_law 504 = .ok (.iadd, 1) := by decide +kernel
theorem dL_law_505 : decode cL_law 505 = .ok (.iaload, 1) := by decide +kernel
theorem dL_law_506 : decode cL_law 506 = .ok (.invokevirtual 61, 3) := by decide +kernel
theorem dL_law_509 : decode cL_law 509 = .ok (.aload_n 2, 1) := by decide +kernel
theorem dL_law_510 : decode cL_law 510 = .ok (.aload_n 0, 1) := by decide +kernel
theorem dL_law_511 : decode cL_law 511 = .ok (.iload_n 3, 1) := by decide +kernel
theorem dL_law_512 : decode cL_law 512 = .ok (.iconst 1, 1) := by decide +kernel
theorem dL_law_513 : decode cL_law 513 = .ok (.iadd, 1) := by decide +kernel
theorem dL_law_514 : decode cL_law 514 = .ok (.iaload, 1) := by decide +kernel
theorem dL_law_515 : decode cL_law 515 = .ok (.aload_n 0, 1) := by decide +kernel
theorem dL_law_516 : decode cL_law 516 = .ok (.iload_n 3, 1) := by decide +kernel
theorem dL_law_517 : decode cL_law 517 = .ok (.iconst 2, 1) := by decide +kernel
theorem dL_law_518 : decode cL_law 518 = .ok (.iadd, 1) := by decide +kernel
theorem dL_law_519 : decode cL_law 519 = .ok (.iaload, 1) := by decide +kernel
theorem dL_law_520 : decode cL_law 520 = .ok (.invokevirtual 64, 3) := by decide +kernel
theorem dL_law_523 : decode cL_law 523 = .ok (.if_icmp .eq 645, 3) := by decide +kernel
theorem dL_law_526 : decode cL_law 526 = .ok (.iconst 0, 1) := by decide +kernel
theorem dL_law_527 : decode cL_law 527 = .ok (.ireturn, 1) := by decide +kernel
theorem dL_law_528 : decode cL_law 528 = .ok (.aload_n 1, 1) := by decide +kernel
theorem dL_law_529 : decode cL_law 529 = .ok (.aload_n 0, 1) := by decide +kernel
theorem dL_law_530 : decode cL_law 530 = .ok (.iload_n 3, 1) := by decide +kernel
theorem dL_law_531 : decode cL_law 531 = .ok (.iconst 1, 1) := by decide +kernel
theorem dL_law_532 : decode cL_law 532 = .ok (.iadd, 1) := by decide +kernel
theorem dL_law_533 : decode cL_law 533 = .ok (.iaload, 1) := by decide +kernel
theorem dL_law_534 : decode cL_law 534 = .ok (.aload_n 0, 1) := by decide +kernel
theorem dL_law_535 : decode cL_law 535 = .ok (.iload_n 3, 1) := by decide +kernel
theorem dL_law_536 : decode cL_law 536 = .ok (.iconst 2, 1) := by decide +kernel
theorem dL_law_537 : decode cL_law 537 = .ok (.iadd, 1) := by decide +kernel
theorem dL_law_538 : decode cL_law 538 = .ok (.iaload, 1) := by decide +kernel
theorem dL_law_539 : decode cL_law 539 = .ok (.aload_n 0, 1) := by decide +kernel
theorem dL_law_540 : decode cL_law 540 = .ok (.iload_n 3, 1) := by decide +kernel
theorem dL_law_541 : decode cL_law 541 = .ok (.iconst 3, 1) := by decide +kernel
theorem dL_law_542 : decode cL_law 542 = .ok (.iadd, 1) := by decide +kernel
theorem dL_law_543 : decode cL_law 543 = .ok (.iaload, 1) := by decide +kernel
theorem dL_law_544 : decode cL_law 544 = .ok (.invokevirtual 65, 3) := by decide +kernel
theorem dL_law_547 : decode cL_law 547 = .ok (.aload_n 2, 1) := by decide +kernel
theorem dL_law_548 : decode cL_law 548 = .ok (.aload_n 0, 1) := by decide +kernel
theorem dL_law_549 : decode cL_law 549 = .ok (.iload_n 3, 1) := by decide +kernel
theorem dL_law_550 : decode cL_law 550 = .ok (.iconst 1, 1) := by decide +kernel
theorem dL_law_551 : decode cL_law 551 = .ok (.iadd, 1) := by decide +kernel
theorem dL_law_552 : decode cL_law 552 = .ok (.iaload, 1) := by decide +kernel
theorem dL_law_553 : decode cL_law 553 = .ok (.aload_n 0, 1) := by decide +kernel
theorem dL_law_554 : decode cL_law 554 = .ok (.iload_n 3, 1) := by decide +kernel
theorem dL_law_555 : decode cL_law 555 = .ok (.iconst 2, 1) := by decide +kernel
theorem dL_law_556 : decode cL_law 556 = .ok (.iadd, 1) := by decide +kernel
theorem dL_law_557 : decode cL_law 557 = .ok (.iaload, 1) := by decide +kernel
theorem dL_law_558 : decode cL_law 558 = .ok (.aload_n 0, 1) := by decide +kernel
theorem dL_law_559 : decode cL_law 559 = .ok (.iload_n 3, 1) := by decide +kernel
theorem dL_law_560 : decode cL_law 560 = .ok (.iconst 3, 1) := by decide +kernel
theorem dL_law_561 : decode cL_law 561 = .ok (.iadd, 1) := by decide +kernel
theorem dL_law_562 : decode cL_law 562 = .ok (.iaload, 1) := by decide +kernel
theorem dL_law_563 : decode cL_law 563 = .ok (.invokevirtual 68, 3) := by decide +kernel
theorem dL_law_566 : decode cL_law 566 = .ok (.if_icmp .eq 602, 3) := by decide +kernel
theorem dL_law_569 : decode cL_law 569 = .ok (.iconst 0, 1) := by decide +kernel
theorem dL_law_570 : decode cL_law 570 = .ok (.ireturn, 1) := by decide +kernel
theorem dL_law_571 : decode cL_law 571 = .ok (.aload_n 1, 1) := by decide +kernel
theorem dL_law_572 : decode cL_law 572 = .ok (.aload_n 0, 1) := by decide +kernel
theorem dL_law_573 : decode cL_law 573 = .ok (.iload_n 3, 1) := by decide +kernel
theorem dL_law_574 : decode cL_law 574 = .ok (.iconst 1, 1) := by decide +kernel
theorem dL_law_575 : decode cL_law 575 = .ok (.iadd, 1) := by decide +kernel
theorem dL_law_576 : decode cL_law 576 = .ok (.iaload, 1) := by decide +kernel
theorem dL_law_577 : decode cL_law 577 = .ok (.aload_n 0, 1) := by decide +kernel
theorem dL_law_578 : decode cL_law 578 = .ok (.iload_n 3, 1) := by decide +kernel
theorem dL_law_579 : decode cL_law 579 = .ok (.iconst 2, 1) := by decide +kernel
theorem dL_law_580 : decode cL_law 580 = .ok (.iadd, 1) := by decide +kernel
theorem dL_law_581 : decode cL_law 581 = .ok (.iaload, 1) := by decide +kernel
theorem dL_law_582 : decode cL_law 582 = .ok (.invokevirtual 69, 3) := by decide +kernel
theorem dL_law_585 : decode cL_law 585 = .ok (.aload_n 2, 1) := by decide +kernel
theorem dL_law_586 : decode cL_law 586 = .ok (.aload_n 0, 1) := by decide +kernel
theorem dL_law_587 : decode cL_law 587 = .ok (.iload_n 3, 1) := by decide +kernel
theorem dL_law_588 : decode cL_law 588 = .ok (.iconst 1, 1) := by decide +kernel
theorem dL_law_589 : decode cL_law 589 = .ok (.iadd, 1) := by decide +kernel
theorem dL_law_590 : decode cL_law 590 = .ok (.iaload, 1) := by decide +kernel
theorem dL_law_591 : decode cL_law 591 = .ok (.aload_n 0, 1) := by decide +kernel
theorem dL_law_592 : decode cL_law 592 = .ok (.iload_n 3, 1) := by decide +kernel
theorem dL_law_593 : decode cL_law 593 = .ok (.iconst 2, 1) := by decide +kernel
theorem dL_law_594 : decode cL_law 594 = .ok (.iadd, 1) := by decide +kernel
theorem dL_law_595 : decode cL_law 595 = .ok (.iaload, 1) := by decide +kernel
theorem dL_law_596 : decode cL_law 596 = .ok (.invokevirtual 72, 3) := by decide +kernel
theorem dL_law_599 : decode cL_law 599 = .ok (.if_icmp .eq 569, 3) := by decide +kernel
theorem dL_law_602 : decode cL_law 602 = .ok (.iconst 0, 1) := by decide +kernel
theorem dL_law_603 : decode cL_law 603 = .ok (.ireturn, 1) := by decide +kernel
theorem dL_law_604 : decode cL_law 604 = .ok (.aload_n 1, 1) := by decide +kernel
theorem dL_law_605 : decode cL_law 605 = .ok (.aload_n 0, 1) := by decide +kernel
theorem dL_law_606 : decode cL_law 606 = .ok (.iload_n 3, 1) := by decide +kernel
theorem dL_law_607 : decode cL_law 607 = .ok (.iconst 1, 1) := by decide +kernel
theorem dL_law_608 : decode cL_law 608 = .ok (.iadd, 1) := by decide +kernel
theorem dL_law_609 : decode cL_law 609 = .ok (.iaload, 1) := by decide +kernel
theorem dL_law_610 : decode cL_law 610 = .ok (.aload_n 0, 1) := by decide +kernel
theorem dL_law_611 : decode cL_law 611 = .ok (.iload_n 3, 1) := by decide +kernel
theorem dL_law_612 : decode cL_law 612 = .ok (.iconst 2, 1) := by decide +kernel
theorem dL_law_613 : decode cL_law 613 = .ok (.iadd, 1) := by decide +kernel
theorem dL_law_614 : decode cL_law 614 = .ok (.iaload, 1) := by decide +kernel
theorem dL_law_615 : decode cL_law 615 = .ok (.invokevirtual 73, 3) := by decide +kernel
theorem dL_law_618 : decode cL_law 618 = .ok (.aload_n 2, 1) := by decide +kernel
theorem dL_law_619 : decode cL_law 619 = .ok (.aload_n 0, 1) := by decide +kernel
theorem dL_law_620 : decode cL_law 620 = .ok (.iload_n 3, 1) := by decide +kernel
theorem dL_law_621 : decode cL_law 621 = .ok (.iconst 1, 1) := by decide +kernel
theorem dL_law_622 : decode cL_law 622 = .ok (.iadd, 1) := by decide +kernel
theorem dL_law_623 : decode cL_law 623 = .ok (.iaload, 1) := by decide +kernel
theorem dL_law_624 : decode cL_law 624 = .ok (.aload_n 0, 1) := by decide +kernel
theorem dL_law_625 : decode cL_law 625 = .ok (.iload_n 3, 1) := by decide +kernel
theorem dL_law_626 : decode cL_law 626 = .ok (.iconst 2, 1) := by decide +kernel
theorem dL_law_627 : decode cL_law 627 = .ok (.iadd, 1) := by decide +kernel
theorem dL_law_628 : decode cL_law 628 = .ok (.iaload, 1) := by decide +kernel
theorem dL_law_629 : decode cL_law 629 = .ok (.invokevirtual 77, 3) := by decide +kernel
theorem dL_law_632 : decode cL_law 632 = .ok (.lcmp, 1) := by decide +kernel
theorem dL_law_633 : decode cL_law 633 = .ok (.ifCond .eq 535, 3) := by decide +kernel
theorem dL_law_636 : decode cL_law 636 = .ok (.iconst 0, 1) := by decide +kernel
theorem dL_law_637 : decode cL_law 637 = .ok (.ireturn, 1) := by decide +kernel
theorem dL_law_638 : decode cL_law 638 = .ok (.aload_n 1, 1) := by decide +kernel
theorem dL_law_639 : decode cL_law 639 = .ok (.aload_n 0, 1) := by decide +kernel
theorem dL_law_640 : decode cL_law 640 = .ok (.iload_n 3, 1) := by decide +kernel
theorem dL_law_641 : decode cL_law 641 = .ok (.iconst 1, 1) := by decide +kernel
theorem dL_law_642 : decode cL_law 642 = .ok (.iadd, 1) := by decide +kernel
theorem dL_law_643 : decode cL_law 643 = .ok (.iaload, 1) := by decide +kernel
theorem dL_law_644 : decode cL_law 644 = .ok (.aload_n 0, 1) := by decide +kernel
theorem dL_law_645 : decode cL_law 645 = .ok (.iload_n 3, 1) := by decide +kernel
theorem dL_law_646 : decode cL_law 646 = .ok (.iconst 2, 1) := by decide +kernel
theorem dL_law_647 : decode cL_law 647 = .ok (.iadd, 1) := by decide +kernel
theorem dL_law_648 : decode cL_law 648 = .ok (.iaload, 1) := by decide +kernel
theorem dL_law_649 : decode cL_law 649 = .ok (.invokevirtual 78, 3) := by decide +kernel
theorem dL_law_652 : decode cL_law 652 = .ok (.aload_n 2, 1) := by decide +kernel
theorem dL_law_653 : decode cL_law 653 = .ok (.aload_n 0, 1) := by decide +kernel
theorem dL_law_654 : decode cL_law 654 = .ok (.iload_n 3, 1) := by decide +kernel
theorem dL_law_655 : decode cL_law 655 = .ok (.iconst 1, 1) := by decide +kernel
theorem dL_law_656 : decode cL_law 656 = .ok (.iadd, 1) := by decide +kernel
theorem dL_law_657 : decode cL_law 657 = .ok (.iaload, 1) := by decide +kernel
theorem dL_law_658 : decode cL_law 658 = .ok (.aload_n 0, 1) := by decide +kernel
theorem dL_law_659 : decode cL_law 659 = .ok (.iload_n 3, 1) := by decide +kernel
theorem dL_law_660 : decode cL_law 660 = .ok (.iconst 2, 1) := by decide +kernel
theorem dL_law_661 : decode cL_law 661 = .ok (.iadd, 1) := by decide +kernel
theorem dL_law_662 : decode cL_law 662 = .ok (.iaload, 1) := by decide +kernel
theorem dL_law_663 : decode cL_law 663 = .ok (.invokevirtual 81, 3) := by decide +kernel
theorem dL_law_666 : decode cL_law 666 = .ok (.lcmp, 1) := by decide +kernel
theorem dL_law_667 : decode cL_law 667 = .ok (.ifCond .eq 501, 3) := by decide +kernel
theorem dL_law_670 : decode cL_law 670 = .ok (.iconst 0, 1) := by decide +kernel
theorem dL_law_671 : decode cL_law 671 = .ok (.ireturn, 1) := by decide +kernel
theorem dL_law_672 : decode cL_law 672 = .ok (.aload_n 1, 1) := by decide +kernel
theorem dL_law_673 : decode cL_law 673 = .ok (.aload_n 0, 1) := by decide +kernel
theorem dL_law_674 : decode cL_law 674 = .ok (.iload_n 3, 1) := by decide +kernel
theorem dL_law_675 : decode cL_law 675 = .ok (.iconst 1, 1) := by decide +kernel
theorem dL_law_676 : decode cL_law 676 = .ok (.iadd, 1) := by decide +kernel
theorem dL_law_677 : decode cL_law 677 = .ok (.iaload, 1) := by decide +kernel
theorem dL_law_678 : decode cL_law 678 = .ok (.aload_n 0, 1) := by decide +kernel
theorem dL_law_679 : decode cL_law 679 = .ok (.iload_n 3, 1) := by decide +kernel
theorem dL_law_680 : decode cL_law 680 = .ok (.iconst 2, 1) := by decide +kernel
theorem dL_law_681 : decode cL_law 681 = .ok (.iadd, 1) := by decide +kernel
theorem dL_law_682 : decode cL_law 682 = .ok (.iaload, 1) := by decide +kernel
theorem dL_law_683 : decode cL_law 683 = .ok (.invokevirtual 82, 3) := by decide +kernel
theorem dL_law_686 : decode cL_law 686 = .ok (.aload_n 2, 1) := by decide +kernel
theorem dL_law_687 : decode cL_law 687 = .ok (.aload_n 0, 1) := by decide +kernel
theorem dL_law_688 : decode cL_law 688 = .ok (.iload_n 3, 1) := by decide +kernel
theorem dL_law_689 : decode cL_law 689 = .ok (.iconst 1, 1) := by decide +kernel
theorem dL_law_690 : decode cL_law 690 = .ok (.iadd, 1) := by decide +kernel
theorem dL_law_691 : decode cL_law 691 = .ok (.iaload, 1) := by decide +kernel
theorem dL_law_692 : decode cL_law 692 = .ok (.aload_n 0, 1) := by decide +kernel
theorem dL_law_693 : decode cL_law 693 = .ok (.iload_n 3, 1) := by decide +kernel
theorem dL_law_694 : decode cL_law 694 = .ok (.iconst 2, 1) := by decide +kernel
theorem dL_law_695 : decode cL_law 695 = .ok (.iadd, 1) := by decide +kernel
theorem dL_law_696 : decode cL_law 696 = .ok (.iaload, 1) := by decide +kernel
theorem dL_law_697 : decode cL_law 697 = .ok (.invokevirtual 85, 3) := by decide +kernel
theorem dL_law_700 : decode cL_law 700 = .ok (.if_icmp .eq 468, 3) := by decide +kernel
theorem dL_law_703 : decode cL_law 703 = .ok (.iconst 0, 1) := by decide +kernel
theorem dL_law_704 : decode cL_law 704 = .ok (.ireturn, 1) := by decide +kernel
theorem dL_law_705 : decode cL_law 705 = .ok (.aload_n 1, 1) := by decide +kernel
theorem dL_law_706 : decode cL_law 706 = .ok (.aload_n 0, 1) := by decide +kernel
theorem dL_law_707 : decode cL_law 707 = .ok (.iload_n 3, 1) := by decide +kernel
theorem dL_law_708 : decode cL_law 708 = .ok (.iconst 1, 1) := by decide +kernel
theorem dL_law_709 : decode cL_law 709 = .ok (.iadd, 1) := by decide +kernel
theorem dL_law_710 : decode cL_law 710 = .ok (.iaload, 1) := by decide +kernel
theorem dL_law_711 : decode cL_law 711 = .ok (.invokevirtual 86, 3) := by decide +kernel
theorem dL_law_714 : decode cL_law 714 = .ok (.aload_n 2, 1) := by decide +kernel
theorem dL_law_715 : decode cL_law 715 = .ok (.aload_n 0, 1) := by decide +kernel
theorem dL_law_716 : decode cL_law 716 = .ok (.iload_n 3, 1) := by decide +kernel
theorem dL_law_717 : decode cL_law 717 = .ok (.iconst 1, 1) := by decide +kernel
theorem dL_law_718 : decode cL_law 718 = .ok (.iadd, 1) := by decide +kernel
theorem dL_law_719 : decode cL_law 719 = .ok (.iaload, 1) := by decide +kernel
theorem dL_law_720 : decode cL_law 720 = .ok (.invokevirtual 89, 3) := by decide +kernel
theorem dL_law_723 : decode cL_law 723 = .ok (.if_icmp .eq 445, 3) := by decide +kernel
theorem dL_law_726 : decode cL_law 726 = .ok (.iconst 0, 1) := by decide +kernel
theorem dL_law_727 : decode cL_law 727 = .ok (.ireturn, 1) := by decide +kernel
theorem dL_law_728 : decode cL_law 728 = .ok (.aload_n 1, 1) := by decide +kernel
theorem dL_law_729 : decode cL_law 729 = .ok (.aload_n 0, 1) := by decide +kernel
theorem dL_law_730 : decode cL_law 730 = .ok (.iload_n 3, 1) := by decide +kernel
theorem dL_law_731 : decode cL_law 731 = .ok (.iconst 1, 1) := by decide +kernel
theorem dL_law_732 : decode cL_law 732 = .ok (.iadd, 1) := by decide +kernel
theorem dL_law_733 : decode cL_law 733 = .ok (.iaload, 1) := by decide +kernel
theorem dL_law_734 : decode cL_law 734 = .ok (.aload_n 0, 1) := by decide +kernel
theorem dL_law_735 : decode cL_law 735 = .ok (.iload_n 3, 1) := by decide +kernel
theorem dL_law_736 : decode cL_law 736 = .ok (.iconst 2, 1) := by decide +kernel
theorem dL_law_737 : decode cL_law 737 = .ok (.iadd, 1) := by decide +kernel
theorem dL_law_738 : decode cL_law 738 = .ok (.iaload, 1) := by decide +kernel
theorem dL_law_739 : decode cL_law 739 = .ok (.invokevirtual 90, 3) := by decide +kernel
theorem dL_law_742 : decode cL_law 742 = .ok (.aload_n 2, 1) := by decide +kernel
theorem dL_law_743 : decode cL_law 743 = .ok (.aload_n 0, 1) := by decide +kernel
theorem dL_law_744 : decode cL_law 744 = .ok (.iload_n 3, 1) := by decide +kernel
theorem dL_law_745 : decode cL_law 745 = .ok (.iconst 1, 1) := by decide +kernel
theorem dL_law_746 : decode cL_law 746 = .ok (.iadd, 1) := by decide +kernel
theorem dL_law_747 : decode cL_law 747 = .ok (.iaload, 1) := by decide +kernel
theorem dL_law_748 : decode cL_law 748 = .ok (.aload_n 0, 1) := by decide +kernel
theorem dL_law_749 : decode cL_law 749 = .ok (.iload_n 3, 1) := by decide +kernel
theorem dL_law_750 : decode cL_law 750 = .ok (.iconst 2, 1) := by decide +kernel
theorem dL_law_751 : decode cL_law 751 = .ok (.iadd, 1) := by decide +kernel
theorem dL_law_752 : decode cL_law 752 = .ok (.iaload, 1) := by decide +kernel
theorem dL_law_753 : decode cL_law 753 = .ok (.invokevirtual 93, 3) := by decide +kernel
theorem dL_law_756 : decode cL_law 756 = .ok (.if_icmp .eq 412, 3) := by decide +kernel
theorem dL_law_759 : decode cL_law 759 = .ok (.iconst 0, 1) := by decide +kernel
theorem dL_law_760 : decode cL_law 760 = .ok (.ireturn, 1) := by decide +kernel
theorem dL_law_761 : decode cL_law 761 = .ok (.aload_n 1, 1) := by decide +kernel
theorem dL_law_762 : decode cL_law 762 = .ok (.invokevirtual 94, 3) := by decide +kernel
theorem dL_law_765 : decode cL_law 765 = .ok (.aload_n 2, 1) := by decide +kernel
theorem dL_law_766 : decode cL_law 766 = .ok (.invokevirtual 97, 3) := by decide +kernel
theorem dL_law_769 : decode cL_law 769 = .ok (.if_icmp .eq 399, 3) := by decide +kernel
theorem dL_law_772 : decode cL_law 772 = .ok (.iconst 0, 1) := by decide +kernel
theorem dL_law_773 : decode cL_law 773 = .ok (.ireturn, 1) := by decide +kernel
theorem dL_law_774 : decode cL_law 774 = .ok (.aload_n 1, 1) := by decide +kernel
theorem dL_law_775 : decode cL_law 775 = .ok (.aload_n 0, 1) := by decide +kernel
theorem dL_law_776 : decode cL_law 776 = .ok (.iload_n 3, 1) := by decide +kernel
theorem dL_law_777 : decode cL_law 777 = .ok (.iconst 1, 1) := by decide +kernel
theorem dL_law_778 : decode cL_law 778 = .ok (.iadd, 1) := by decide +kernel
theorem dL_law_779 : decode cL_law 779 = .ok (.iaload, 1) := by decide +kernel
theorem dL_law_780 : decode cL_law 780 = .ok (.aload_n 0, 1) := by decide +kernel
theorem dL_law_781 : decode cL_law 781 = .ok (.iload_n 3, 1) := by decide +kernel
theorem dL_law_782 : decode cL_law 782 = .ok (.iconst 2, 1) := by decide +kernel
theorem dL_law_783 : decode cL_law 783 = .ok (.iadd, 1) := by decide +kernel
theorem dL_law_784 : decode cL_law 784 = .ok (.iaload, 1) := by decide +kernel
theorem dL_law_785 : decode cL_law 785 = .ok (.invokevirtual 98, 3) := by decide +kernel
theorem dL_law_788 : decode cL_law 788 = .ok (.aload_n 2, 1) := by decide +kernel
theorem dL_law_789 : decode cL_law 789 = .ok (.aload_n 0, 1) := by decide +kernel
theorem dL_law_790 : decode cL_law 790 = .ok (.iload_n 3, 1) := by decide +kernel
theorem dL_law_791 : decode cL_law 791 = .ok (.iconst 1, 1) := by decide +kernel
theorem dL_law_792 : decode cL_law 792 = .ok (.iadd, 1) := by decide +kernel
theorem dL_law_793 : decode cL_law 793 = .ok (.iaload, 1) := by decide +kernel
theorem dL_law_794 : decode cL_law 794 = .ok (.aload_n 0, 1) := by decide +kernel
theorem dL_law_795 : decode cL_law 795 = .ok (.iload_n 3, 1) := by decide +kernel
theorem dL_law_796 : decode cL_law 796 = .ok (.iconst 2, 1) := by decide +kernel
theorem dL_law_797 : decode cL_law 797 = .ok (.iadd, 1) := by decide +kernel
theorem dL_law_798 : decode cL_law 798 = .ok (.iaload, 1) := by decide +kernel
theorem dL_law_799 : decode cL_law 799 = .ok (.invokevirtual 101, 3) := by decide +kernel
theorem dL_law_802 : decode cL_law 802 = .ok (.if_icmp .eq 366, 3) := by decide +kernel
theorem dL_law_805 : decode cL_law 805 = .ok (.iconst 0, 1) := by decide +kernel
theorem dL_law_806 : decode cL_law 806 = .ok (.ireturn, 1) := by decide +kernel
theorem dL_law_807 : decode cL_law 807 = .ok (.aload_n 1, 1) := by decide +kernel
theorem dL_law_808 : decode cL_law 808 = .ok (.invokevirtual 102, 3) := by decide +kernel
theorem dL_law_811 : decode cL_law 811 = .ok (.aload_n 2, 1) := by decide +kernel
theorem dL_law_812 : decode cL_law 812 = .ok (.invokevirtual 105, 3) := by decide +kernel
theorem dL_law_815 : decode cL_law 815 = .ok (.if_icmp .eq 353, 3) := by decide +kernel
theorem dL_law_818 : decode cL_law 818 = .ok (.iconst 0, 1) := by decide +kernel
theorem dL_law_819 : decode cL_law 819 = .ok (.ireturn, 1) := by decide +kernel
theorem dL_law_820 : decode cL_law 820 = .ok (.aload_n 1, 1) := by decide +kernel
theorem dL_law_821 : decode cL_law 821 = .ok (.invokevirtual 106, 3) := by decide +kernel
theorem dL_law_824 : decode cL_law 824 = .ok (.aload_n 2, 1) := by decide +kernel
theorem dL_law_825 : decode cL_law 825 = .ok (.invokevirtual 109, 3) := by decide +kernel
theorem dL_law_828 : decode cL_law 828 = .ok (.if_icmp .eq 340, 3) := by decide +kernel
theorem dL_law_831 : decode cL_law 831 = .ok (.iconst 0, 1) := by decide +kernel
theorem dL_law_832 : decode cL_law 832 = .ok (.ireturn, 1) := by decide +kernel
theorem dL_law_833 : decode cL_law 833 = .ok (.aload_n 1, 1) := by decide +kernel
theorem dL_law_834 : decode cL_law 834 = .ok (.aload_n 0, 1) := by decide +kernel
theorem dL_law_835 : decode cL_law 835 = .ok (.iload_n 3, 1) := by decide +kernel
theorem dL_law_836 : decode cL_law 836 = .ok (.iconst 1, 1) := by decide +kernel
theorem dL_law_837 : decode cL_law 837 = .ok (.iadd, 1) := by decide +kernel
theorem dL_law_838 : decode cL_law 838 = .ok (.iaload, 1) := by decide +kernel
theorem dL_law_839 : decode cL_law 839 = .ok (.aload_n 0, 1) := by decide +kernel
theorem dL_law_840 : decode cL_law 840 = .ok (.iload_n 3, 1) := by decide +kernel
theorem dL_law_841 : decode cL_law 841 = .ok (.iconst 2, 1) := by decide +kernel
theorem dL_law_842 : decode cL_law 842 = .ok (.iadd, 1) := by decide +kernel
theorem dL_law_843 : decode cL_law 843 = .ok (.iaload, 1) := by decide +kernel
theorem dL_law_844 : decode cL_law 844 = .ok (.aload_n 0, 1) := by decide +kernel
theorem dL_law_845 : decode cL_law 845 = .ok (.iload_n 3, 1) := by decide +kernel
theorem dL_law_846 : decode cL_law 846 = .ok (.iconst 3, 1) := by decide +kernel
theorem dL_law_847 : decode cL_law 847 = .ok (.iadd, 1) := by decide +kernel
theorem dL_law_848 : decode cL_law 848 = .ok (.iaload, 1) := by decide +kernel
theorem dL_law_849 : decode cL_law 849 = .ok (.invokevirtual 110, 3) := by decide +kernel
theorem dL_law_852 : decode cL_law 852 = .ok (.aload_n 2, 1) := by decide +kernel
theorem dL_law_853 : decode cL_law 853 = .ok (.aload_n 0, 1) := by decide +kernel
theorem dL_law_854 : decode cL_law 854 = .ok (.iload_n 3, 1) := by decide +kernel
theorem dL_law_855 : decode cL_law 855 = .ok (.iconst 1, 1) := by decide +kernel
theorem dL_law_856 : decode cL_law 856 = .ok (.iadd, 1) := by decide +kernel
theorem dL_law_857 : decode cL_law 857 = .ok (.iaload, 1) := by decide +kernel
theorem dL_law_858 : decode cL_law 858 = .ok (.aload_n 0, 1) := by decide +kernel
theorem dL_law_859 : decode cL_law 859 = .ok (.iload_n 3, 1) := by decide +kernel
theorem dL_law_860 : decode cL_law 860 = .ok (.iconst 2, 1) := by decide +kernel
theorem dL_law_861 : decode cL_law 861 = .ok (.iadd, 1) := by decide +kernel
theorem dL_law_862 : decode cL_law 862 = .ok (.iaload, 1) := by decide +kernel
theorem dL_law_863 : decode cL_law 863 = .ok (.aload_n 0, 1) := by decide +kernel
theorem dL_law_864 : decode cL_law 864 = .ok (.iload_n 3, 1) := by decide +kernel
theorem dL_law_865 : decode cL_law 865 = .ok (.iconst 3, 1) := by decide +kernel
theorem dL_law_866 : decode cL_law 866 = .ok (.iadd, 1) := by decide +kernel
theorem dL_law_867 : decode cL_law 867 = .ok (.iaload, 1) := by decide +kernel
theorem dL_law_868 : decode cL_law 868 = .ok (.invokevirtual 113, 3) := by decide +kernel
theorem dL_law_871 : decode cL_law 871 = .ok (.if_icmp .eq 297, 3) := by decide +kernel
theorem dL_law_874 : decode cL_law 874 = .ok (.iconst 0, 1) := by decide +kernel
theorem dL_law_875 : decode cL_law 875 = .ok (.ireturn, 1) := by decide +kernel
theorem dL_law_876 : decode cL_law 876 = .ok (.aload_n 1, 1) := by decide +kernel
theorem dL_law_877 : decode cL_law 877 = .ok (.aload_n 0, 1) := by decide +kernel
theorem dL_law_878 : decode cL_law 878 = .ok (.iload_n 3, 1) := by decide +kernel
theorem dL_law_879 : decode cL_law 879 = .ok (.iconst 1, 1) := by decide +kernel
theorem dL_law_880 : decode cL_law 880 = .ok (.iadd, 1) := by decide +kernel
theorem dL_law_881 : decode cL_law 881 = .ok (.iaload, 1) := by decide +kernel
theorem dL_law_882 : decode cL_law 882 = .ok (.invokevirtual 114, 3) := by decide +kernel
theorem dL_law_885 : decode cL_law 885 = .ok (.aload_n 2, 1) := by decide +kernel
theorem dL_law_886 : decode cL_law 886 = .ok (.aload_n 0, 1) := by decide +kernel
theorem dL_law_887 : decode cL_law 887 = .ok (.iload_n 3, 1) := by decide +kernel
theorem dL_law_888 : decode cL_law 888 = .ok (.iconst 1, 1) := by decide +kernel
theorem dL_law_889 : decode cL_law 889 = .ok (.iadd, 1) := by decide +kernel
theorem dL_law_890 : decode cL_law 890 = .ok (.iaload, 1) := by decide +kernel
theorem dL_law_891 : decode cL_law 891 = .ok (.invokevirtual 117, 3) := by decide +kernel
theorem dL_law_894 : decode cL_law 894 = .ok (.if_icmp .eq 274, 3) := by decide +kernel
theorem dL_law_897 : decode cL_law 897 = .ok (.iconst 0, 1) := by decide +kernel
theorem dL_law_898 : decode cL_law 898 = .ok (.ireturn, 1) := by decide +kernel
theorem dL_law_899 : decode cL_law 899 = .ok (.aload_n 1, 1) := by decide +kernel
theorem dL_law_900 : decode cL_law 900 = .ok (.aload_n 0, 1) := by decide +kernel
theorem dL_law_901 : decode cL_law 901 = .ok (.iload_n 3, 1) := by decide +kernel
theorem dL_law_902 : decode cL_law 902 = .ok (.iconst 1, 1) := by decide +kernel
theorem dL_law_903 : decode cL_law 903 = .ok (.iadd, 1) := by decide +kernel
theorem dL_law_904 : decode cL_law 904 = .ok (.iaload, 1) := by decide +kernel
theorem dL_law_905 : decode cL_law 905 = .ok (.aload_n 0, 1) := by decide +kernel
theorem dL_law_906 : decode cL_law 906 = .ok (.iload_n 3, 1) := by decide +kernel
theorem dL_law_907 : decode cL_law 907 = .ok (.iconst 2, 1) := by decide +kernel
theorem dL_law_908 : decode cL_law 908 = .ok (.iadd, 1) := by decide +kernel
theorem dL_law_909 : decode cL_law 909 = .ok (.iaload, 1) := by decide +kernel
theorem dL_law_910 : decode cL_law 910 = .ok (.invokevirtual 118, 3) := by decide +kernel
theorem dL_law_913 : decode cL_law 913 = .ok (.aload_n 2, 1) := by decide +kernel
theorem dL_law_914 : decode cL_law 914 = .ok (.aload_n 0, 1) := by decide +kernel
theorem dL_law_915 : decode cL_law 915 = .ok (.iload_n 3, 1) := by decide +kernel
theorem dL_law_916 : decode cL_law 916 = .ok (.iconst 1, 1) := by decide +kernel
theorem dL_law_917 : decode cL_law 917 = .ok (.iadd, 1) := by decide +kernel
theorem dL_law_918 : decode cL_law 918 = .ok (.iaload, 1) := by decide +kernel
theorem dL_law_919 : decode cL_law 919 = .ok (.aload_n 0, 1) := by decide +kernel
theorem dL_law_920 : decode cL_law 920 = .ok (.iload_n 3, 1) := by decide +kernel
theorem dL_law_921 : decode cL_law 921 = .ok (.iconst 2, 1) := by decide +kernel
theorem dL_law_922 : decode cL_law 922 = .ok (.iadd, 1) := by decide +kernel
theorem dL_law_923 : decode cL_law 923 = .ok (.iaload, 1) := by decide +kernel
theorem dL_law_924 : decode cL_law 924 = .ok (.invokevirtual 121, 3) := by decide +kernel
theorem dL_law_927 : decode cL_law 927 = .ok (.if_icmp .eq 241, 3) := by decide +kernel
theorem dL_law_930 : decode cL_law 930 = .ok (.iconst 0, 1) := by decide +kernel
theorem dL_law_931 : decode cL_law 931 = .ok (.ireturn, 1) := by decide +kernel
theorem dL_law_932 : decode cL_law 932 = .ok (.aload_n 1, 1) := by decide +kernel
theorem dL_law_933 : decode cL_law 933 = .ok (.aload_n 0, 1) := by decide +kernel
theorem dL_law_934 : decode cL_law 934 = .ok (.iload_n 3, 1) := by decide +kernel
theorem dL_law_935 : decode cL_law 935 = .ok (.iconst 1, 1) := by decide +kernel
theorem dL_law_936 : decode cL_law 936 = .ok (.iadd, 1) := by decide +kernel
theorem dL_law_937 : decode cL_law 937 = .ok (.iaload, 1) := by decide +kernel
theorem dL_law_938 : decode cL_law 938 = .ok (.invokevirtual 122, 3) := by decide +kernel
theorem dL_law_941 : decode cL_law 941 = .ok (.aload_n 2, 1) := by decide +kernel
theorem dL_law_942 : decode cL_law 942 = .ok (.aload_n 0, 1) := by decide +kernel
theorem dL_law_943 : decode cL_law 943 = .ok (.iload_n 3, 1) := by decide +kernel
theorem dL_law_944 : decode cL_law 944 = .ok (.iconst 1, 1) := by decide +kernel
theorem dL_law_945 : decode cL_law 945 = .ok (.iadd, 1) := by decide +kernel
theorem dL_law_946 : decode cL_law 946 = .ok (.iaload, 1) := by decide +kernel
theorem dL_law_947 : decode cL_law 947 = .ok (.invokevirtual 125, 3) := by decide +kernel
theorem dL_law_950 : decode cL_law 950 = .ok (.if_icmp .eq 218, 3) := by decide +kernel
theorem dL_law_953 : decode cL_law 953 = .ok (.iconst 0, 1) := by decide +kernel
theorem dL_law_954 : decode cL_law 954 = .ok (.ireturn, 1) := by decide +kernel
theorem dL_law_955 : decode cL_law 955 = .ok (.aload_n 1, 1) := by decide +kernel
theorem dL_law_956 : decode cL_law 956 = .ok (.aload_n 0, 1) := by decide +kernel
theorem dL_law_957 : decode cL_law 957 = .ok (.iload_n 3, 1) := by decide +kernel
theorem dL_law_958 : decode cL_law 958 = .ok (.iconst 1, 1) := by decide +kernel
theorem dL_law_959 : decode cL_law 959 = .ok (.iadd, 1) := by decide +kernel
theorem dL_law_960 : decode cL_law 960 = .ok (.iaload, 1) := by decide +kernel
theorem dL_law_961 : decode cL_law 961 = .ok (.aload_n 0, 1) := by decide +kernel
theorem dL_law_962 : decode cL_law 962 = .ok (.iload_n 3, 1) := by decide +kernel
theorem dL_law_963 : decode cL_law 963 = .ok (.iconst 2, 1) := by decide +kernel
theorem dL_law_964 : decode cL_law 964 = .ok (.iadd, 1) := by decide +kernel
theorem dL_law_965 : decode cL_law 965 = .ok (.iaload, 1) := by decide +kernel
theorem dL_law_966 : decode cL_law 966 = .ok (.aload_n 0, 1) := by decide +kernel
theorem dL_law_967 : decode cL_law 967 = .ok (.iload_n 3, 1) := by decide +kernel
theorem dL_law_968 : decode cL_law 968 = .ok (.iconst 3, 1) := by decide +kernel
theorem dL_law_969 : decode cL_law 969 = .ok (.iadd, 1) := by decide +kernel
theorem dL_law_970 : decode cL_law 970 = .ok (.iaload, 1) := by decide +kernel
theorem dL_law_971 : decode cL_law 971 = .ok (.invokevirtual 126, 3) := by decide +kernel
theorem dL_law_974 : decode cL_law 974 = .ok (.aload_n 2, 1) := by decide +kernel
theorem dL_law_975 : decode cL_law 975 = .ok (.aload_n 0, 1) := by decide +kernel
theorem dL_law_976 : decode cL_law 976 = .ok (.iload_n 3, 1) := by decide +kernel
theorem dL_law_977 : decode cL_law 977 = .ok (.iconst 1, 1) := by decide +kernel
theorem dL_law_978 : decode cL_law 978 = .ok (.iadd, 1) := by decide +kernel
theorem dL_law_979 : decode cL_law 979 = .ok (.iaload, 1) := by decide +kernel
theorem dL_law_980 : decode cL_law 980 = .ok (.aload_n 0, 1) := by decide +kernel
theorem dL_law_981 : decode cL_law 981 = .ok (.iload_n 3, 1) := by decide +kernel
theorem dL_law_982 : decode cL_law 982 = .ok (.iconst 2, 1) := by decide +kernel
theorem dL_law_983 : decode cL_law 983 = .ok (.iadd, 1) := by decide +kernel
theorem dL_law_984 : decode cL_law 984 = .ok (.iaload, 1) := by decide +kernel
theorem dL_law_985 : decode cL_law 985 = .ok (.aload_n 0, 1) := by decide +kernel
theorem dL_law_986 : decode cL_law 986 = .ok (.iload_n 3, 1) := by decide +kernel
theorem dL_law_987 : decode cL_law 987 = .ok (.iconst 3, 1) := by decide +kernel
theorem dL_law_988 : decode cL_law 988 = .ok (.iadd, 1) := by decide +kernel
theorem dL_law_989 : decode cL_law 989 = .ok (.iaload, 1) := by decide +kernel
theorem dL_law_990 : decode cL_law 990 = .ok (.invokevirtual 129, 3) := by decide +kernel
theorem dL_law_993 : decode cL_law 993 = .ok (.if_icmp .eq 175, 3) := by decide +kernel
theorem dL_law_996 : decode cL_law 996 = .ok (.iconst 0, 1) := by decide +kernel
theorem dL_law_997 : decode cL_law 997 = .ok (.ireturn, 1) := by decide +kernel
theorem dL_law_998 : decode cL_law 998 = .ok (.aload_n 1, 1) := by decide +kernel
theorem dL_law_999 : decode cL_law 999 = .ok (.aload_n 0, 1) := by decide +kernel
theorem dL_law_1000 : decode cL_law 1000 = .ok (.iload_n 3, 1) := by decide +kernel
theorem dL_law_1001 : decode cL_law 1001 = .ok (.iconst 1, 1) := by decide +kernel
theorem dL_law_1002 : decode cL_law 1002 = .ok (.iadd, 1) := by decide +kernel
theorem dL_law_1003 : decode cL_law 1003 = .ok (.iaload, 1) := by decide +kernel
theorem dL_law_1004 : decode cL_law 1004 = .ok (.aload_n 0, 1) := by decide +kernel
theorem dL_law_1005 : decode cL_law 1005 = .ok (.iload_n 3, 1) := by decide +kernel
theorem dL_law_1006 : decode cL_law 1006 = .ok (.iconst 2, 1) := by decide +kernel
theorem dL_law_1007 : decode cL_law 1007 = .ok (.iadd, 1) := by decide +kernel
theorem dL_law_1008 : decode cL_law 1008 = .ok (.iaload, 1) := by decide +kernel
theorem dL_law_1009 : decode cL_law 1009 = .ok (.aload_n 0, 1) := by decide +kernel
theorem dL_law_1010 : decode cL_law 1010 = .ok (.iload_n 3, 1) := by decide +kernel
theorem dL_law_1011 : decode cL_law 1011 = .ok (.iconst 3, 1) := by decide +kernel
theorem dL_law_1012 : decode cL_law 1012 = .ok (.iadd, 1) := by decide +kernel
theorem dL_law_1013 : decode cL_law 1013 = .ok (.iaload, 1) := by decide +kernel
theorem dL_law_1014 : decode cL_law 1014 = .ok (.i2l, 1) := by decide +kernel
theorem dL_law_1015 : decode cL_law 1015 = .ok (.bipush 32, 2) := by decide +kernel
theorem dL_law_1017 : decode cL_law 1017 = .ok (.lshl, 1) := by decide +kernel
theorem dL_law_1018 : decode cL_law 1018 = .ok (.aload_n 0, 1) := by decide +kernel
theorem dL_law_1019 : decode cL_law 1019 = .ok (.iload_n 3, 1) := by decide +kernel
theorem dL_law_1020 : decode cL_law 1020 = .ok (.iconst 4, 1) := by decide +kernel
theorem dL_law_1021 : decode cL_law 1021 = .ok (.iadd, 1) := by decide +kernel
theorem dL_law_1022 : decode cL_law 1022 = .ok (.iaload, 1) := by decide +kernel
theorem dL_law_1023 : decode cL_law 1023 = .ok (.i2l, 1) := by decide +kernel
theorem dL_law_1024 : decode cL_law 1024 = .ok (.ldc2_w 130, 3) := by decide +kernel
theorem dL_law_1027 : decode cL_law 1027 = .ok (.land, 1) := by decide +kernel
theorem dL_law_1028 : decode cL_law 1028 = .ok (.lor, 1) := by decide +kernel
theorem dL_law_1029 : decode cL_law 1029 = .ok (.invokevirtual 132, 3) := by decide +kernel
theorem dL_law_1032 : decode cL_law 1032 = .ok (.aload_n 2, 1) := by decide +kernel
theorem dL_law_1033 : decode cL_law 1033 = .ok (.aload_n 0, 1) := by decide +kernel
theorem dL_law_1034 : decode cL_law 1034 = .ok (.iload_n 3, 1) := by decide +kernel
theorem dL_law_1035 : decode cL_law 1035 = .ok (.iconst 1, 1) := by decide +kernel
theorem dL_law_1036 : decode cL_law 1036 = .ok (.iadd, 1) := by decide +kernel
theorem dL_law_1037 : decode cL_law 1037 = .ok (.iaload, 1) := by decide +kernel
theorem dL_law_1038 : decode cL_law 1038 = .ok (.aload_n 0, 1) := by decide +kernel
theorem dL_law_1039 : decode cL_law 1039 = .ok (.iload_n 3, 1) := by decide +kernel
theorem dL_law_1040 : decode cL_law 1040 = .ok (.iconst 2, 1) := by decide +kernel
theorem dL_law_1041 : decode cL_law 1041 = .ok (.iadd, 1) := by decide +kernel
theorem dL_law_1042 : decode cL_law 1042 = .ok (.iaload, 1) := by decide +kernel
theorem dL_law_1043 : decode cL_law 1043 = .ok (.aload_n 0, 1) := by decide +kernel
theorem dL_law_1044 : decode cL_law 1044 = .ok (.iload_n 3, 1) := by decide +kernel
theorem dL_law_1045 : decode cL_law 1045 = .ok (.iconst 3, 1) := by decide +kernel
theorem dL_law_1046 : decode cL_law 1046 = .ok (.iadd, 1) := by decide +kernel
theorem dL_law_1047 : decode cL_law 1047 = .ok (.iaload, 1) := by decide +kernel
theorem dL_law_1048 : decode cL_law 1048 = .ok (.i2l, 1) := by decide +kernel
theorem dL_law_1049 : decode cL_law 1049 = .ok (.bipush 32, 2) := by decide +kernel
theorem dL_law_1051 : decode cL_law 1051 = .ok (.lshl, 1) := by decide +kernel
theorem dL_law_1052 : decode cL_law 1052 = .ok (.aload_n 0, 1) := by decide +kernel
theorem dL_law_1053 : decode cL_law 1053 = .ok (.iload_n 3, 1) := by decide +kernel
theorem dL_law_1054 : decode cL_law 1054 = .ok (.iconst 4, 1) := by decide +kernel
theorem dL_law_1055 : decode cL_law 1055 = .ok (.iadd, 1) := by decide +kernel
theorem dL_law_1056 : decode cL_law 1056 = .ok (.iaload, 1) := by decide +kernel
theorem dL_law_1057 : decode cL_law 1057 = .ok (.i2l, 1) := by decide +kernel
theorem dL_law_1058 : decode cL_law 1058 = .ok (.ldc2_w 130, 3) := by decide +kernel
theorem dL_law_1061 : decode cL_law 1061 = .ok (.land, 1) := by decide +kernel
theorem dL_law_1062 : decode cL_law 1062 = .ok (.lor, 1) := by decide +kernel
theorem dL_law_1063 : decode cL_law 1063 = .ok (.invokevirtual 136, 3) := by decide +kernel
theorem dL_law_1066 : decode cL_law 1066 = .ok (.if_icmp .eq 102, 3) := by decide +kernel
theorem dL_law_1069 : decode cL_law 1069 = .ok (.iconst 0, 1) := by decide +kernel
theorem dL_law_1070 : decode cL_law 1070 = .ok (.ireturn, 1) := by decide +kernel
theorem dL_law_1071 : decode cL_law 1071 = .ok (.aload_n 1, 1) := by decide +kernel
theorem dL_law_1072 : decode cL_law 1072 = .ok (.aload_n 0, 1) := by decide +kernel
theorem dL_law_1073 : decode cL_law 1073 = .ok (.iload_n 3, 1) := by decide +kernel
theorem dL_law_1074 : decode cL_law 1074 = .ok (.iconst 1, 1) := by decide +kernel
theorem dL_law_1075 : decode cL_law 1075 = .ok (.iadd, 1) := by decide +kernel
theorem dL_law_1076 : decode cL_law 1076 = .ok (.iaload, 1) := by decide +kernel
theorem dL_law_1077 : decode cL_law 1077 = .ok (.aload_n 0, 1) := by decide +kernel
theorem dL_law_1078 : decode cL_law 1078 = .ok (.iload_n 3, 1) := by decide +kernel
theorem dL_law_1079 : decode cL_law 1079 = .ok (.iconst 2, 1) := by decide +kernel
theorem dL_law_1080 : decode cL_law 1080 = .ok (.iadd, 1) := by decide +kernel
theorem dL_law_1081 : decode cL_law 1081 = .ok (.iaload, 1) := by decide +kernel
theorem dL_law_1082 : decode cL_law 1082 = .ok (.invokevirtual 137, 3) := by decide +kernel
theorem dL_law_1085 : decode cL_law 1085 = .ok (.aload_n 2, 1) := by decide +kernel
theorem dL_law_1086 : decode cL_law 1086 = .ok (.aload_n 0, 1) := by decide +kernel
theorem dL_law_1087 : decode cL_law 1087 = .ok (.iload_n 3, 1) := by decide +kernel
theorem dL_law_1088 : decode cL_law 1088 = .ok (.iconst 1, 1) := by decide +kernel
theorem dL_law_1089 : decode cL_law 1089 = .ok (.iadd, 1) := by decide +kernel
theorem dL_law_1090 : decode cL_law 1090 = .ok (.iaload, 1) := by decide +kernel
theorem dL_law_1091 : decode cL_law 1091 = .ok (.aload_n 0, 1) := by decide +kernel
theorem dL_law_1092 : decode cL_law 1092 = .ok (.iload_n 3, 1) := by decide +kernel
theorem dL_law_1093 : decode cL_law 1093 = .ok (.iconst 2, 1) := by decide +kernel
theorem dL_law_1094 : decode cL_law 1094 = .ok (.iadd, 1) := by decide +kernel
theorem dL_law_1095 : decode cL_law 1095 = .ok (.iaload, 1) := by decide +kernel
theorem dL_law_1096 : decode cL_law 1096 = .ok (.invokevirtual 140, 3) := by decide +kernel
theorem dL_law_1099 : decode cL_law 1099 = .ok (.lcmp, 1) := by decide +kernel
theorem dL_law_1100 : decode cL_law 1100 = .ok (.ifCond .eq 68, 3) := by decide +kernel
theorem dL_law_1103 : decode cL_law 1103 = .ok (.iconst 0, 1) := by decide +kernel
theorem dL_law_1104 : decode cL_law 1104 = .ok (.ireturn, 1) := by decide +kernel
theorem dL_law_1105 : decode cL_law 1105 = .ok (.aload_n 1, 1) := by decide +kernel
theorem dL_law_1106 : decode cL_law 1106 = .ok (.aload_n 0, 1) := by decide +kernel
theorem dL_law_1107 : decode cL_law 1107 = .ok (.iload_n 3, 1) := by decide +kernel
theorem dL_law_1108 : decode cL_law 1108 = .ok (.iconst 1, 1) := by decide +kernel
theorem dL_law_1109 : decode cL_law 1109 = .ok (.iadd, 1) := by decide +kernel
theorem dL_law_1110 : decode cL_law 1110 = .ok (.iaload, 1) := by decide +kernel
theorem dL_law_1111 : decode cL_law 1111 = .ok (.aload_n 0, 1) := by decide +kernel
theorem dL_law_1112 : decode cL_law 1112 = .ok (.iload_n 3, 1) := by decide +kernel
theorem dL_law_1113 : decode cL_law 1113 = .ok (.iconst 2, 1) := by decide +kernel
theorem dL_law_1114 : decode cL_law 1114 = .ok (.iadd, 1) := by decide +kernel
theorem dL_law_1115 : decode cL_law 1115 = .ok (.iaload, 1) := by decide +kernel
theorem dL_law_1116 : decode cL_law 1116 = .ok (.aload_n 0, 1) := by decide +kernel
theorem dL_law_1117 : decode cL_law 1117 = .ok (.iload_n 3, 1) := by decide +kernel
theorem dL_law_1118 : decode cL_law 1118 = .ok (.iconst 3, 1) := by decide +kernel
theorem dL_law_1119 : decode cL_law 1119 = .ok (.iadd, 1) := by decide +kernel
theorem dL_law_1120 : decode cL_law 1120 = .ok (.iaload, 1) := by decide +kernel
theorem dL_law_1121 : decode cL_law 1121 = .ok (.aload_n 0, 1) := by decide +kernel
theorem dL_law_1122 : decode cL_law 1122 = .ok (.iload_n 3, 1) := by decide +kernel
theorem dL_law_1123 : decode cL_law 1123 = .ok (.iconst 4, 1) := by decide +kernel
theorem dL_law_1124 : decode cL_law 1124 = .ok (.iadd, 1) := by decide +kernel
theorem dL_law_1125 : decode cL_law 1125 = .ok (.iaload, 1) := by decide +kernel
theorem dL_law_1126 : decode cL_law 1126 = .ok (.aload_n 0, 1) := by decide +kernel
theorem dL_law_1127 : decode cL_law 1127 = .ok (.iload_n 3, 1) := by decide +kernel
theorem dL_law_1128 : decode cL_law 1128 = .ok (.iconst 5, 1) := by decide +kernel
theorem dL_law_1129 : decode cL_law 1129 = .ok (.iadd, 1) := by decide +kernel
theorem dL_law_1130 : decode cL_law 1130 = .ok (.iaload, 1) := by decide +kernel
theorem dL_law_1131 : decode cL_law 1131 = .ok (.invokevirtual 141, 3) := by decide +kernel
theorem dL_law_1134 : decode cL_law 1134 = .ok (.aload_n 2, 1) := by decide +kernel
theorem dL_law_1135 : decode cL_law 1135 = .ok (.aload_n 0, 1) := by decide +kernel
theorem dL_law_1136 : decode cL_law 1136 = .ok (.iload_n 3, 1) := by decide +kernel
theorem dL_law_1137 : decode cL_law 1137 = .ok (.iconst 1, 1) := by decide +kernel
theorem dL_law_1138 : decode cL_law 1138 = .ok (.iadd, 1) := by decide +kernel
theorem dL_law_1139 : decode cL_law 1139 = .ok (.iaload, 1) := by decide +kernel
theorem dL_law_1140 : decode cL_law 1140 = .ok (.aload_n 0, 1) := by decide +kernel
theorem dL_law_1141 : decode cL_law 1141 = .ok (.iload_n 3, 1) := by decide +kernel
theorem dL_law_1142 : decode cL_law 1142 = .ok (.iconst 2, 1) := by decide +kernel
theorem dL_law_1143 : decode cL_law 1143 = .ok (.iadd, 1) := by decide +kernel
theorem dL_law_1144 : decode cL_law 1144 = .ok (.iaload, 1) := by decide +kernel
theorem dL_law_1145 : decode cL_law 1145 = .ok (.aload_n 0, 1) := by decide +kernel
theorem dL_law_1146 : decode cL_law 1146 = .ok (.iload_n 3, 1) := by decide +kernel
theorem dL_law_1147 : decode cL_law 1147 = .ok (.iconst 3, 1) := by decide +kernel
theorem dL_law_1148 : decode cL_law 1148 = .ok (.iadd, 1) := by decide +kernel
theorem dL_law_1149 : decode cL_law 1149 = .ok (.iaload, 1) := by decide +kernel
theorem dL_law_1150 : decode cL_law 1150 = .ok (.aload_n 0, 1) := by decide +kernel
theorem dL_law_1151 : decode cL_law 1151 = .ok (.iload_n 3, 1) := by decide +kernel
theorem dL_law_1152 : decode cL_law 1152 = .ok (.iconst 4, 1) := by decide +kernel
theorem dL_law_1153 : decode cL_law 1153 = .ok (.iadd, 1) := by decide +kernel
theorem dL_law_1154 : decode cL_law 1154 = .ok (.iaload, 1) := by decide +kernel
theorem dL_law_1155 : decode cL_law 1155 = .ok (.aload_n 0, 1) := by decide +kernel
theorem dL_law_1156 : decode cL_law 1156 = .ok (.iload_n 3, 1) := by decide +kernel
theorem dL_law_1157 : decode cL_law 1157 = .ok (.iconst 5, 1) := by decide +kernel
theorem dL_law_1158 : decode cL_law 1158 = .ok (.iadd, 1) := by decide +kernel
theorem dL_law_1159 : decode cL_law 1159 = .ok (.iaload, 1) := by decide +kernel
theorem dL_law_1160 : decode cL_law 1160 = .ok (.invokevirtual 145, 3) := by decide +kernel
theorem dL_law_1163 : decode cL_law 1163 = .ok (.if_icmp .eq 5, 3) := by decide +kernel
theorem dL_law_1166 : decode cL_law 1166 = .ok (.iconst 0, 1) := by decide +kernel
theorem dL_law_1167 : decode cL_law 1167 = .ok (.ireturn, 1) := by decide +kernel
theorem dL_law_1168 : decode cL_law 1168 = .ok (.iinc 3 6, 3) := by decide +kernel
theorem dL_law_1171 : decode cL_law 1171 = .ok (.goto (-1153), 3) := by decide +kernel
theorem dL_law_1174 : decode cL_law 1174 = .ok (.iconst 1, 1) := by decide +kernel
theorem dL_law_1175 : decode cL_law 1175 = .ok (.ireturn, 1) := by decide +kernel
end
section
/-! the pure state: int fields by cell and slot, int-like arrays by cell and place, long arrays by cell and place -/
abbrev xSt : Type := (Nat → Nat → Int32) × (Nat → Nat → Int32) × (Nat → Nat → Int64)
/-- a method: its name, its bytes, its locals, what it returns -/
abbrev xMD : Type := MethodName × ByteArray × Nat × Option FieldType
/-- a cell's shape: an array (type, length, targets) or an object (kind, targets of its fields) -/
abbrev xSh : Type := (Nat × Nat × List Nat) ⊕ (Nat × List (Option Nat))
def xShL : List xSh := [
  .inr (8, [some 1, some 27, some 53, some 79, none, some 81, some 83, some 96, none, some 98, some 99, some 100, some 102]),
  .inr (5, [none, none, none, some 2, none, some 15, some 19, some 23]),
  .inl (6, 6, [3, 5, 7, 9, 11, 13]),
  .inr (3, [none, none, none, none, none, none, some 4]),
  .inl (0, 4, []),
  .inr (3, [none, none, none, none, none, none, some 6]),
  .inl (0, 4, []),
  .inr (3, [none, none, none, none, none, none, some 8]),
  .inl (0, 4, []),
  .inr (3, [none, none, none, none, none, none, some 10]),
  .inl (0, 4, []),
  .inr (3, [none, none, none, none, none, none, some 12]),
  .inl (0, 4, []),
  .inr (3, [none, none, none, none, none, none, some 14]),
  .inl (0, 4, []),
  .inr (4, [some 16, some 17, some 18, none]),
  .inl (0, 6, []),
  .inl (0, 6, []),
  .inl (0, 6, []),
  .inr (4, [some 20, some 21, some 22, none]),
  .inl (0, 10, []),
  .inl (0, 10, []),
  .inl (0, 10, []),
  .inr (4, [some 24, some 25, some 26, none]),
  .inl (0, 8, []),
  .inl (0, 8, []),
  .inl (0, 8, []),
  .inr (5, [none, none, none, some 28, none, some 41, some 45, some 49]),
  .inl (6, 6, [29, 31, 33, 35, 37, 39]),
  .inr (3, [none, none, none, none, none, none, some 30]),
  .inl (0, 4, []),
  .inr (3, [none, none, none, none, none, none, some 32]),
  .inl (0, 4, []),
  .inr (3, [none, none, none, none, none, none, some 34]),
  .inl (0, 4, []),
  .inr (3, [none, none, none, none, none, none, some 36]),
  .inl (0, 4, []),
  .inr (3, [none, none, none, none, none, none, some 38]),
  .inl (0, 4, []),
  .inr (3, [none, none, none, none, none, none, some 40]),
  .inl (0, 4, []),
  .inr (4, [some 42, some 43, some 44, none]),
  .inl (0, 6, []),
  .inl (0, 6, []),
  .inl (0, 6, []),
  .inr (4, [some 46, some 47, some 48, none]),
  .inl (0, 10, []),
  .inl (0, 10, []),
  .inl (0, 10, []),
  .inr (4, [some 50, some 51, some 52, none]),
  .inl (0, 8, []),
  .inl (0, 8, []),
  .inl (0, 8, []),
  .inr (5, [none, none, none, some 54, none, some 67, some 71, some 75]),
  .inl (6, 6, [55, 57, 59, 61, 63, 65]),
  .inr (3, [none, none, none, none, none, none, some 56]),
  .inl (0, 4, []),
  .inr (3, [none, none, none, none, none, none, some 58]),
  .inl (0, 4, []),
  .inr (3, [none, none, none, none, none, none, some 60]),
  .inl (0, 4, []),
  .inr (3, [none, none, none, none, none, none, some 62]),
  .inl (0, 4, []),
  .inr (3, [none, none, none, none, none, none, some 64]),
  .inl (0, 4, []),
  .inr (3, [none, none, none, none, none, none, some 66]),
  .inl (0, 4, []),
  .inr (4, [some 68, some 69, some 70, none]),
  .inl (0, 6, []),
  .inl (0, 6, []),
  .inl (0, 6, []),
  .inr (4, [some 72, some 73, some 74, none]),
  .inl (0, 10, []),
  .inl (0, 10, []),
  .inl (0, 10, []),
  .inr (4, [some 76, some 77, some 78, none]),
  .inl (0, 8, []),
  .inl (0, 8, []),
  .inl (0, 8, []),
  .inr (3, [none, none, none, none, none, none, some 80]),
  .inl (0, 4, []),
  .inr (7, [some 82, none, none, none]),
  .inl (1, 100, []),
  .inl (5, 6, [84, 86, 88, 90, 92, 94]),
  .inr (1, [some 85, none, none]),
  .inl (0, 100, []),
  .inr (1, [some 87, none, none]),
  .inl (0, 100, []),
  .inr (1, [some 89, none, none]),
  .inl (0, 100, []),
  .inr (1, [some 91, none, none]),
  .inl (0, 100, []),
  .inr (1, [some 93, none, none]),
  .inl (0, 100, []),
  .inr (1, [some 95, none, none]),
  .inl (0, 100, []),
  .inr (1, [some 97, none, none]),
  .inl (0, 100, []),
  .inr (2, [none, none, none]),
  .inl (0, 6, []),
  .inr (0, [some 101, none]),
  .inl (0, 20, []),
  .inl (7, 6, [103, 105, 107, 109, 111, 113]),
  .inr (6, [some 104, none, none]),
  .inl (3, 60, []),
  .inr (6, [some 106, none, none]),
  .inl (3, 60, []),
  .inr (6, [some 108, none, none]),
  .inl (3, 60, []),
  .inr (6, [some 110, none, none]),
  .inl (3, 60, []),
  .inr (6, [some 112, none, none]),
  .inl (3, 60, []),
  .inr (6, [some 114, none, none]),
  .inl (3, 60, []),
  .inr (9, [some 116, some 117, some 118, none, some 119, none, some 120, some 121, none, some 122, none, none, none, none, none, none, some 123, some 124, some 125, some 126, some 127, some 128, some 129, some 130, some 131, some 132, some 133, none, some 134, some 135, some 136, some 137]),
  .inl (0, 115, []),
  .inl (0, 115, []),
  .inl (0, 115, []),
  .inl (0, 100, []),
  .inl (0, 600, []),
  .inl (0, 6, []),
  .inl (0, 100, []),
  .inl (0, 6, []),
  .inl (2, 6, []),
  .inl (2, 3, []),
  .inl (2, 15, []),
  .inl (0, 6, []),
  .inl (4, 256, []),
  .inl (0, 3, []),
  .inl (0, 6, []),
  .inl (0, 7, []),
  .inl (0, 21, []),
  .inl (0, 20, []),
  .inl (0, 6, []),
  .inl (0, 6, []),
  .inl (3, 360, []),
  .inl (3, 60, [])]
def xsh (c : Nat) : xSh := xShL.getD c (.inl (0, 0, []))
def xF (q : Nat → Nat) (f : Nat → Int32) : Nat → List (Option Nat) → List Value
  | _, [] => []
  | k, r :: rs => (match r with | some j => Value.ref (q j) | none => Value.int (f k)) :: xF q f (k + 1) rs
def xAr (q : Nat → Nat) (σ : xSt) (c t : Nat) (tg : List Nat) : (Nat → Int32) ⊕ (Nat → Int64) ⊕ (Nat → UInt32) ⊕ (Nat → UInt64) ⊕ (Nat → Option Nat) :=
  if t = 3 then .inr (.inl (σ.2.2 c)) else if t < 5 then .inl (σ.2.1 c) else .inr (.inr (.inr (.inr (fun i => (tg[i]?).map q))))
def xEe (y : Nat → ClassId) (q : Nat → Nat) (σ : xSt) (c : Nat) : xSh → va_E
  | .inl a => .inl (y a.1, a.2.1, xAr q σ c a.1 a.2.2)
  | .inr o => .inr (o.1, xF q (σ.1 c) 0 o.2)
def xE (y : Nat → ClassId) (q : Nat → Nat) (σ : xSt) (c : Nat) : va_E := xEe y q σ c (xsh c)
def xW (y : Nat → ClassId) (q : Nat → Nat) (σ : xSt) : va_W := (List.range 138).map (fun c => (q c, xE y q σ c))
def xsF (σ : xSt) (c j : Nat) (v : Int32) : xSt := (va_up σ.1 c (upd (σ.1 c) j v), σ.2.1, σ.2.2)
def xsA (σ : xSt) (c : Nat) (g : Nat → Int32) : xSt := (σ.1, va_up σ.2.1 c g, σ.2.2)
def xsJ (σ : xSt) (c : Nat) (g : Nat → Int64) : xSt := (σ.1, σ.2.1, va_up σ.2.2 c g)
theorem xW_len (y : Nat → ClassId) (q : Nat → Nat) (σ : xSt) : (xW y q σ).length = 138 := by simp [xW]
theorem xW_get {y : Nat → ClassId} {q : Nat → Nat} {σ : xSt} {c : Nat} (hc : c < 138) : (xW y q σ)[c]? = some (q c, xE y q σ c) := by
  simp [xW, List.getElem?_map, List.getElem?_range, hc]
theorem xW_set {y : Nat → ClassId} {q : Nat → Nat} {σ σ' : xSt} {c : Nat} {e : va_E} (hc : c < 138) (h1 : xE y q σ' c = e) (h2 : ∀ b, b ≠ c → xE y q σ' b = xE y q σ b) : (xW y q σ).set c (q c, e) = xW y q σ' := by
  apply List.ext_getElem?
  intro i
  by_cases hi : i = c
  · subst hi
    rw [List.getElem?_set_self (by rw [xW_len]; exact hc), xW_get hc, h1]
  · rw [List.getElem?_set_ne (Ne.symm hi)]
    by_cases h : i < 138
    · rw [xW_get h, xW_get h, h2 i hi]
    · rw [List.getElem?_eq_none (by rw [xW_len]; omega), List.getElem?_eq_none (by rw [xW_len]; omega)]
theorem xE_same {y : Nat → ClassId} {q : Nat → Nat} {σ σ' : xSt} {c : Nat} (h1 : σ'.1 c = σ.1 c) (h2 : σ'.2.1 c = σ.2.1 c) (h3 : σ'.2.2 c = σ.2.2 c) : xE y q σ' c = xE y q σ c := by
  unfold xE
  cases xsh c with
  | inl a => simp only [xEe, xAr, h2, h3]
  | inr o => simp only [xEe, h1]
theorem xF_get (q : Nat → Nat) (f : Nat → Int32) : ∀ (rs : List (Option Nat)) (k j : Nat), (xF q f k rs)[j]? = (rs[j]?).map (fun r => match r with | some t => Value.ref (q t) | none => Value.int (f (k + j))) := by
  intro rs
  induction rs with
  | nil => intro k j; simp [xF]
  | cons r rs ih =>
    intro k j
    cases j with
    | zero => simp [xF]
    | succ j =>
      simp only [xF, List.getElem?_cons_succ]
      rw [ih (k + 1) j, show k + 1 + j = k + (j + 1) by omega]
theorem xF_len (q : Nat → Nat) (f : Nat → Int32) : ∀ (rs : List (Option Nat)) (k : Nat), (xF q f k rs).length = rs.length := by
  intro rs
  induction rs with
  | nil => intro k; rfl
  | cons r rs ih => intro k; simp only [xF, List.length_cons, ih]
theorem xF_set (q : Nat → Nat) (f : Nat → Int32) (rs : List (Option Nat)) (j : Nat) (v : Int32) (h : rs[j]? = some none) : (xF q f 0 rs).set j (.int v) = xF q (upd f j v) 0 rs := by
  have hl : j < rs.length := (List.getElem?_eq_some_iff.mp h).1
  apply List.ext_getElem?
  intro i
  by_cases hi : i = j
  · subst hi
    rw [List.getElem?_set_self (by rw [xF_len]; exact hl), xF_get, h]
    simp [upd]
  · rw [List.getElem?_set_ne (Ne.symm hi), xF_get, xF_get]
    congr 1
    funext r
    cases r with
    | some t => rfl
    | none => simp [upd, hi]
/-- values: a reference names a cell by its number -/
def cv (q : Nat → Nat) : Value → Value
  | .ref a => .ref (q a)
  | v => v
theorem cv_cat (q : Nat → Nat) (v : Value) : (cv q v).category = v.category := by cases v <;> rfl
theorem cv_cats (q : Nat → Nat) (st : List Value) : ((st.map (cv q)).map fun v => v.category) = st.map fun v => v.category := by
  rw [List.map_map]
  exact List.map_congr_left (fun v _ => cv_cat q v)
/-! locals by their places -/
def xL (q : Nat → Nat) (ls : Array Slot) (n : Nat) (lv : List (Option Value)) : Prop := ls.size = n ∧ lv_wf ls ∧ ∀ (i : Nat) (v : Value), lv[i]? = some (some v) → ls[i]? = some (.val (cv q v))
def xblank : Option (Option Value) → Bool
  | some (some (.long _)) => true
  | some (some (.double _)) => true
  | _ => false
def xpre (lv : List (Option Value)) : Nat → List (Option Value)
  | 0 => lv
  | j + 1 => bif xblank lv[j]? then lv.set j none else lv
def xs1 (lv : List (Option Value)) (i : Nat) (v : Value) : List (Option Value) := (xpre lv i).set i (some v)
def xs2 (lv : List (Option Value)) (i : Nat) (v : Value) : List (Option Value) := ((xpre lv i).set i (some v)).set (i + 1) none
def xpairs (q : Nat → Nat) (lv : List (Option Value)) : List (Nat × Value) := (List.range lv.length).filterMap (fun i => match lv[i]? with | some (some v) => some (i, cv q v) | _ => none)
theorem xpairs_mem {q : Nat → Nat} {lv : List (Option Value)} {i : Nat} {v : Value} (h : lv[i]? = some (some v)) : (i, cv q v) ∈ xpairs q lv := by
  unfold xpairs
  rw [List.mem_filterMap]
  exact ⟨i, List.mem_range.mpr (List.getElem?_eq_some_iff.mp h).1, by rw [h]⟩
theorem xL_pairs {q : Nat → Nat} {ls : Array Slot} {n : Nat} {lv : List (Option Value)} (h : xL q ls n lv) : lv_has ls n (xpairs q lv) := by
  refine ⟨h.1, h.2.1, fun w hw => ?_⟩
  unfold xpairs at hw
  rw [List.mem_filterMap] at hw
  obtain ⟨i, -, hi⟩ := hw
  cases hg : lv[i]? with
  | none => rw [hg] at hi; cases hi
  | some o =>
    cases o with
    | none => rw [hg] at hi; cases hi
    | some v =>
      rw [hg] at hi
      cases hi
      exact h.2.2 i v hg
theorem xpre_get {lv : List (Option Value)} {i j : Nat} {u : Value} (h : (xpre lv i)[j]? = some (some u)) : lv[j]? = some (some u) ∧ ¬ (j + 1 = i ∧ u.category = 2) := by
  cases i with
  | zero => exact ⟨h, fun z => by omega⟩
  | succ i =>
    simp only [xpre] at h
    cases hb : xblank lv[i]? with
    | true =>
      rw [hb, cond_true] at h
      by_cases hj : j = i
      · subst hj
        by_cases hl : j < lv.length
        · rw [List.getElem?_set_self hl] at h; cases h
        · rw [List.getElem?_eq_none (by simp; omega)] at h; cases h
      · rw [List.getElem?_set_ne (Ne.symm hj)] at h
        exact ⟨h, fun z => hj (by omega)⟩
    | false =>
      rw [hb, cond_false] at h
      refine ⟨h, fun z => ?_⟩
      have hj : j = i := by omega
      subst hj
      rw [h] at hb
      have hc := z.2
      cases u <;> first | (simp [xblank] at hb; done) | (simp [Value.category] at hc; done)
theorem xL_s1 {q : Nat → Nat} {ls' : Array Slot} {n i : Nat} {lv : List (Option Value)} {v : Value} (h : lv_has ls' n ((i, cv q v) :: (xpairs q lv).filter (fun w => !(w.1 == i) && !(w.1 + 1 == i && w.2.category == 2)))) : xL q ls' n (xs1 lv i v) := by
  refine ⟨h.1, h.2.1, fun j u hj => ?_⟩
  unfold xs1 at hj
  by_cases hi : j = i
  · subst hi
    by_cases hl : j < (xpre lv j).length
    · rw [List.getElem?_set_self hl] at hj
      cases hj
      exact h.2.2 (j, cv q v) List.mem_cons_self
    · rw [List.getElem?_eq_none (by simp; omega)] at hj; cases hj
  · rw [List.getElem?_set_ne (Ne.symm hi)] at hj
    obtain ⟨h1, h2⟩ := xpre_get hj
    refine h.2.2 (j, cv q u) (List.mem_cons_of_mem _ (List.mem_filter.mpr ⟨xpairs_mem h1, ?_⟩))
    simp only [cv_cat]
    by_cases hz : j + 1 = i
    · have : ¬ u.category = 2 := fun z => h2 ⟨hz, z⟩
      simp [hi, this]
    · simp [hi, hz]
theorem xL_s2 {q : Nat → Nat} {ls' : Array Slot} {n i : Nat} {lv : List (Option Value)} {v : Value} (h : lv_has ls' n ((i, cv q v) :: (xpairs q lv).filter (fun w => !(w.1 == i) && (!(w.1 == i + 1) && !(w.1 + 1 == i && w.2.category == 2))))) : xL q ls' n (xs2 lv i v) := by
  refine ⟨h.1, h.2.1, fun j u hj => ?_⟩
  unfold xs2 at hj
  by_cases h0 : j = i + 1
  · subst h0
    by_cases hl : i + 1 < ((xpre lv i).set i (some v)).length
    · rw [List.getElem?_set_self hl] at hj; cases hj
    · rw [List.getElem?_eq_none (by simp at hl ⊢; omega)] at hj; cases hj
  · rw [List.getElem?_set_ne (Ne.symm h0)] at hj
    by_cases hi : j = i
    · subst hi
      by_cases hl : j < (xpre lv j).length
      · rw [List.getElem?_set_self hl] at hj
        cases hj
        exact h.2.2 (j, cv q v) List.mem_cons_self
      · rw [List.getElem?_eq_none (by simp; omega)] at hj; cases hj
    · rw [List.getElem?_set_ne (Ne.symm hi)] at hj
      obtain ⟨h1, h2⟩ := xpre_get hj
      refine h.2.2 (j, cv q u) (List.mem_cons_of_mem _ (List.mem_filter.mpr ⟨xpairs_mem h1, ?_⟩))
      simp only [cv_cat]
      by_cases hz : j + 1 = i
      · have : ¬ u.category = 2 := fun z => h2 ⟨hz, z⟩
        simp [hi, h0, this]
      · simp [hi, h0, hz]
end
section
def xtb : List Cond := lw_tbl.filter goodWord
theorem xtb_in {w : Cond} (h : w ∈ lw_tbl) (hg : goodWord w = true) : w ∈ xtb := List.mem_filter.mpr ⟨h, hg⟩
theorem xtb_good {w : Cond} (h : w ∈ xtb) : goodWord w = true := (List.mem_filter.mp h).2
def xws (k : xMD) : List Cond := .code k.1 k.2.1 k.2.2.1 k.2.2.2 :: xtb
abbrev xrm (d : Nat) : Room := { frames := d, cells := 0, slots := 0, locals := 64 * d }
abbrev xty (y : Nat → ClassId) : List (ClassId × FieldType) := [(y 0, .int), (y 1, .byte), (y 2, .char), (y 3, .long), (y 4, .boolean), (y 5, .object RX1), (y 6, .object RX3), (y 7, .object RX6)]
/-- what holds of the machine and the method's code -/
def xCx (k : xMD) (p : Program) (s : State) (m : MethodId) (args : Array Value) (meth : Method) (c : Code) : Prop :=
  p.tables.exec = Jvm.exec ∧ c.code = k.2.1 ∧ meth.sig.returnType = k.2.2.2 ∧ c.maxLocals = k.2.2.1 ∧ s.vm.findClass k.1.cls = some m.cls ∧ (∀ w ∈ xtb, w.before args s = true) ∧ meth.locks = false
/-- the two static tables, by cells 200 and 201; the texts by 210 .. and their bytes by 220 .. -/
def xABOVE (j : Nat) : Int32 := [(-1 : Int32), 0, 0, 0, 1, 2, 3].getD j 0
def xBODIES (j : Nat) : Int32 := [(10 : Int32), 11, 12, 0, 20, 0, 30, 0, 0, 0, 0, 40, 50, 51, 0, 0, 0, 60, 71, 70, 0].getD j 0
def xlen : List Nat := [5, 4, 4, 6, 3]
def xbyt : List (List Int32) := [[115, 119, 101, 101, 116], [104, 97, 122, 101], [107, 101, 101, 112], [112, 107, 118, 102, 115, 97], [60, 61, 62]]
def xExt (q : Nat → Nat) (A : Nat → Prop) (U : State) (H : Heap) : Prop :=
  va_Z RX8 "ABOVE" "[I" (.ref (q 200)) A U H ∧ va_T .int (q 200) 7 (fun j => .int (xABOVE j)) A U H ∧ va_Z RX0 "BODIES" "[I" (.ref (q 201)) A U H ∧ va_T .int (q 201) 21 (fun j => .int (xBODIES j)) A U H ∧
  va_Z RJ0 "COMPACT_STRINGS" "Z" (.int 1) A U H ∧ vk_S 5 xlen xbyt (fun i => q (210 + i)) (fun i => q (220 + i)) A U H
def xTx (q : Nat → Nat) (U : State) : Prop := vk_R RX7 45 "sweet" (q 210) U ∧ vk_R RX7 47 "haze" (q 211) U ∧ vk_R RX7 49 "keep" (q 212) U ∧ vk_R RX7 80 "pkvfsa" (q 213) U ∧ vk_R RX7 86 "<=>" (q 214) U
def xNs (U : State) : Prop := va_Nw (.methodLinkNest RX2 28 yX8_isIn RX8) U ∧ va_Nw (.methodLinkNest RX8 342 yX0_perform RX8) U ∧ va_Nw (.fieldLinkNest RX0 28 "JamOath" "ABOVE" "[I" "JamOath") U
def xWx (D : va_G) (y : Nat → ClassId) (q : Nat → Nat) (A : Nat → Prop) (U : State) (H : Heap) : Prop := va_K D vwCl (xty y) U ∧ xExt q A U H ∧ xTx q U ∧ xNs U
/-- a method's end: what it returns, the state behind it -/
def xQ (D : va_G) (y : Nat → ClassId) (q : Nat → Nat) (Post : Option Value → xSt → Prop) (A : Nat → Prop) : Array Value → State → Outcome → State → Prop := fun _ st oc t =>
  (∃ (r : Option Value) (σ' : xSt), oc = .returned (r.map (cv q)) ∧ Post r σ' ∧ va_P D vwCl (xW y q σ') t.heap ∧ va_D A (xW y q σ')) ∧ va_F A st t
/-- THE JUDGEMENT: from here the method comes to its end with Post -/
def xEv (k : xMD) (d pc : Nat) (lv : List (Option Value)) (st : List Value) (σ : xSt) (Post : Option Value → xSt → Prop) : Prop :=
  ∀ (p : Program) (l : Launch) (e : Env) (s : State) (m : MethodId) (args : Array Value) (below : List Frame) (meth : Method) (c : Code) (D : va_G) (y : Nat → ClassId) (q : Nat → Nat) (A : Nat → Prop) (H : Heap) (locs : List Loc) (ls : Array Slot),
    xCx k p s m args meth c → xWx D y q A s s.heap → (∀ a, s.heap.size ≤ a → A a) → va_P D vwCl (xW y q σ) H → va_D A (xW y q σ) → va_S A s.heap H locs → xL q ls k.2.2.1 lv →
    W p l e (xrm d) s m args below meth c H locs 0 0 (MQ below (xQ D y q Post A) args s 0 0 A) (F0 m pc ls (st.map (cv q)))
section XEV
variable {k : xMD} {d pc : Nat} {lv : List (Option Value)} {st : List Value} {σ : xSt} {Post : Option Value → xSt → Prop}
theorem xe_iconst {n : Int} {v : Int32} (hd : decode k.2.1 pc = .ok (.iconst n, 1)) (hv : Int32.ofInt n = v) (h : xEv k d (pc + 1) lv (.int v :: st) σ Post) : xEv k d pc lv st σ Post := by
  intro p l e s m args below meth c D y q A H locs ls hC hX hA hP hD hS hL
  exact lv_iconst hC.1 hC.2.1 hd hv (h p l e s m args below meth c D y q A H locs ls hC hX hA hP hD hS hL)
theorem xe_bipush {n : Int} {v : Int32} (hd : decode k.2.1 pc = .ok (.bipush n, 2)) (hv : (Int8.ofInt n).toInt32 = v) (h : xEv k d (pc + 2) lv (.int v :: st) σ Post) : xEv k d pc lv st σ Post := by
  intro p l e s m args below meth c D y q A H locs ls hC hX hA hP hD hS hL
  exact lv_bipush hC.1 hC.2.1 hd hv (h p l e s m args below meth c D y q A H locs ls hC hX hA hP hD hS hL)
theorem xe_sipush {n : Int} {v : Int32} (hd : decode k.2.1 pc = .ok (.sipush n, 3)) (hv : (Int16.ofInt n).toInt32 = v) (h : xEv k d (pc + 3) lv (.int v :: st) σ Post) : xEv k d pc lv st σ Post := by
  intro p l e s m args below meth c D y q A H locs ls hC hX hA hP hD hS hL
  exact lv_sipush hC.1 hC.2.1 hd hv (h p l e s m args below meth c D y q A H locs ls hC hX hA hP hD hS hL)
theorem xe_lconst {n : Fin 2} {v : Int64} (hd : decode k.2.1 pc = .ok (.lconst n, 1)) (hv : Int64.ofNat (n : Nat) = v) (h : xEv k d (pc + 1) lv (.long v :: st) σ Post) : xEv k d pc lv st σ Post := by
  intro p l e s m args below meth c D y q A H locs ls hC hX hA hP hD hS hL
  exact lv_lconst hC.1 hC.2.1 hd hv (h p l e s m args below meth c D y q A H locs ls hC hX hA hP hD hS hL)
theorem xe_ldc {i : Nat} {v : Int32} (hd : decode k.2.1 pc = .ok (.ldc i, 2)) (hc : Cond.constant k.1.cls i v ∈ xtb) (h : xEv k d (pc + 2) lv (.int v :: st) σ Post) : xEv k d pc lv st σ Post := by
  intro p l e s m args below meth c D y q A H locs ls hC hX hA hP hD hS hL
  exact lv_ldc hC.1 hC.2.1 hC.2.2.2.2.1 (hC.2.2.2.2.2.1 _ hc) hd (h p l e s m args below meth c D y q A H locs ls hC hX hA hP hD hS hL)
theorem xe_ldcw {i : Nat} {v : Int32} (hd : decode k.2.1 pc = .ok (.ldc_w i, 3)) (hc : Cond.constant k.1.cls i v ∈ xtb) (h : xEv k d (pc + 3) lv (.int v :: st) σ Post) : xEv k d pc lv st σ Post := by
  intro p l e s m args below meth c D y q A H locs ls hC hX hA hP hD hS hL
  exact lv_ldcw hC.1 hC.2.1 hC.2.2.2.2.1 (hC.2.2.2.2.2.1 _ hc) hd (h p l e s m args below meth c D y q A H locs ls hC hX hA hP hD hS hL)
theorem xe_ldc2 {i : Nat} {v : Int64} (hd : decode k.2.1 pc = .ok (.ldc2_w i, 3)) (hc : Cond.constantLong k.1.cls i v ∈ xtb) (h : xEv k d (pc + 3) lv (.long v :: st) σ Post) : xEv k d pc lv st σ Post := by
  intro p l e s m args below meth c D y q A H locs ls hC hX hA hP hD hS hL
  exact lv_ldc2 hC.1 hC.2.1 hC.2.2.2.2.1 (hC.2.2.2.2.2.1 _ hc) hd (h p l e s m args below meth c D y q A H locs ls hC hX hA hP hD hS hL)
theorem xe_null (hd : decode k.2.1 pc = .ok (.aconst_null, 1)) (h : xEv k d (pc + 1) lv (.null :: st) σ Post) : xEv k d pc lv st σ Post := by
  intro p l e s m args below meth c D y q A H locs ls hC hX hA hP hD hS hL
  exact lv_null hC.1 hC.2.1 hd (h p l e s m args below meth c D y q A H locs ls hC hX hA hP hD hS hL)
theorem xe_iload_n {j : Fin 4} {x : Int32} (hd : decode k.2.1 pc = .ok (.iload_n j, 1)) (hl : lv[(j : Nat)]? = some (some (.int x))) (h : xEv k d (pc + 1) lv (.int x :: st) σ Post) : xEv k d pc lv st σ Post := by
  intro p l e s m args below meth c D y q A H locs ls hC hX hA hP hD hS hL
  exact lv_iload_n hC.1 hC.2.1 hd rfl (hL.2.2 _ _ hl) (h p l e s m args below meth c D y q A H locs ls hC hX hA hP hD hS hL)
theorem xe_iload {j : Nat} {x : Int32} (hd : decode k.2.1 pc = .ok (.iload j, 2)) (hl : lv[j]? = some (some (.int x))) (h : xEv k d (pc + 2) lv (.int x :: st) σ Post) : xEv k d pc lv st σ Post := by
  intro p l e s m args below meth c D y q A H locs ls hC hX hA hP hD hS hL
  exact lv_iload hC.1 hC.2.1 hd (hL.2.2 _ _ hl) (h p l e s m args below meth c D y q A H locs ls hC hX hA hP hD hS hL)
theorem xe_lload_n {j : Fin 4} {x : Int64} (hd : decode k.2.1 pc = .ok (.lload_n j, 1)) (hl : lv[(j : Nat)]? = some (some (.long x))) (h : xEv k d (pc + 1) lv (.long x :: st) σ Post) : xEv k d pc lv st σ Post := by
  intro p l e s m args below meth c D y q A H locs ls hC hX hA hP hD hS hL
  exact lv_lload_n hC.1 hC.2.1 hd rfl (hL.2.2 _ _ hl) (h p l e s m args below meth c D y q A H locs ls hC hX hA hP hD hS hL)
theorem xe_lload {j : Nat} {x : Int64} (hd : decode k.2.1 pc = .ok (.lload j, 2)) (hl : lv[j]? = some (some (.long x))) (h : xEv k d (pc + 2) lv (.long x :: st) σ Post) : xEv k d pc lv st σ Post := by
  intro p l e s m args below meth c D y q A H locs ls hC hX hA hP hD hS hL
  exact lv_lload hC.1 hC.2.1 hd (hL.2.2 _ _ hl) (h p l e s m args below meth c D y q A H locs ls hC hX hA hP hD hS hL)
theorem xe_aload_n {j : Fin 4} {x : Nat} (hd : decode k.2.1 pc = .ok (.aload_n j, 1)) (hl : lv[(j : Nat)]? = some (some (.ref x))) (h : xEv k d (pc + 1) lv (.ref x :: st) σ Post) : xEv k d pc lv st σ Post := by
  intro p l e s m args below meth c D y q A H locs ls hC hX hA hP hD hS hL
  exact lv_aload_n hC.1 hC.2.1 hd rfl (hL.2.2 _ _ hl) (h p l e s m args below meth c D y q A H locs ls hC hX hA hP hD hS hL)
theorem xe_aload {j : Nat} {x : Nat} (hd : decode k.2.1 pc = .ok (.aload j, 2)) (hl : lv[j]? = some (some (.ref x))) (h : xEv k d (pc + 2) lv (.ref x :: st) σ Post) : xEv k d pc lv st σ Post := by
  intro p l e s m args below meth c D y q A H locs ls hC hX hA hP hD hS hL
  exact lv_aload hC.1 hC.2.1 hd (hL.2.2 _ _ hl) (h p l e s m args below meth c D y q A H locs ls hC hX hA hP hD hS hL)
theorem xe_aload_nN {j : Fin 4} (hd : decode k.2.1 pc = .ok (.aload_n j, 1)) (hl : lv[(j : Nat)]? = some (some .null)) (h : xEv k d (pc + 1) lv (.null :: st) σ Post) : xEv k d pc lv st σ Post := by
  intro p l e s m args below meth c D y q A H locs ls hC hX hA hP hD hS hL
  exact lv_aload_nN hC.1 hC.2.1 hd rfl (hL.2.2 _ _ hl) (h p l e s m args below meth c D y q A H locs ls hC hX hA hP hD hS hL)
theorem xe_aloadN {j : Nat} (hd : decode k.2.1 pc = .ok (.aload j, 2)) (hl : lv[j]? = some (some .null)) (h : xEv k d (pc + 2) lv (.null :: st) σ Post) : xEv k d pc lv st σ Post := by
  intro p l e s m args below meth c D y q A H locs ls hC hX hA hP hD hS hL
  exact lv_aloadN hC.1 hC.2.1 hd (hL.2.2 _ _ hl) (h p l e s m args below meth c D y q A H locs ls hC hX hA hP hD hS hL)
theorem xe_istore_n {j : Fin 4} {x : Int32} {lv2 : List (Option Value)} (hd : decode k.2.1 pc = .ok (.istore_n j, 1)) (hn : (j : Nat) < k.2.2.1) (hl : xs1 lv (j : Nat) (.int x) = lv2) (h : xEv k d (pc + 1) lv2 st σ Post) : xEv k d pc lv (.int x :: st) σ Post := by
  intro p l e s m args below meth c D y q A H locs ls hC hX hA hP hD hS hL
  subst hl
  exact lv_istore_n hC.1 hC.2.1 hd rfl (xL_pairs hL) hn rfl (fun ls2 hl2 => h p l e s m args below meth c D y q A H locs ls2 hC hX hA hP hD hS (xL_s1 (v := .int x) hl2))
theorem xe_istore {j : Nat} {x : Int32} {lv2 : List (Option Value)} (hd : decode k.2.1 pc = .ok (.istore j, 2)) (hn : j < k.2.2.1) (hl : xs1 lv j (.int x) = lv2) (h : xEv k d (pc + 2) lv2 st σ Post) : xEv k d pc lv (.int x :: st) σ Post := by
  intro p l e s m args below meth c D y q A H locs ls hC hX hA hP hD hS hL
  subst hl
  exact lv_istore hC.1 hC.2.1 hd (xL_pairs hL) hn rfl (fun ls2 hl2 => h p l e s m args below meth c D y q A H locs ls2 hC hX hA hP hD hS (xL_s1 (v := .int x) hl2))
theorem xe_astore_n {j : Fin 4} {x : Nat} {lv2 : List (Option Value)} (hd : decode k.2.1 pc = .ok (.astore_n j, 1)) (hn : (j : Nat) < k.2.2.1) (hl : xs1 lv (j : Nat) (.ref x) = lv2) (h : xEv k d (pc + 1) lv2 st σ Post) : xEv k d pc lv (.ref x :: st) σ Post := by
  intro p l e s m args below meth c D y q A H locs ls hC hX hA hP hD hS hL
  subst hl
  exact lv_astore_n hC.1 hC.2.1 hd rfl (xL_pairs hL) hn rfl (fun ls2 hl2 => h p l e s m args below meth c D y q A H locs ls2 hC hX hA hP hD hS (xL_s1 (v := .ref x) hl2))
theorem xe_astore {j : Nat} {x : Nat} {lv2 : List (Option Value)} (hd : decode k.2.1 pc = .ok (.astore j, 2)) (hn : j < k.2.2.1) (hl : xs1 lv j (.ref x) = lv2) (h : xEv k d (pc + 2) lv2 st σ Post) : xEv k d pc lv (.ref x :: st) σ Post := by
  intro p l e s m args below meth c D y q A H locs ls hC hX hA hP hD hS hL
  subst hl
  exact lv_astore hC.1 hC.2.1 hd (xL_pairs hL) hn rfl (fun ls2 hl2 => h p l e s m args below meth c D y q A H locs ls2 hC hX hA hP hD hS (xL_s1 (v := .ref x) hl2))
theorem xe_lstore_n {j : Fin 4} {x : Int64} {lv2 : List (Option Value)} (hd : decode k.2.1 pc = .ok (.lstore_n j, 1)) (hn : (j : Nat) + 1 < k.2.2.1) (hl : xs2 lv (j : Nat) (.long x) = lv2) (h : xEv k d (pc + 1) lv2 st σ Post) : xEv k d pc lv (.long x :: st) σ Post := by
  intro p l e s m args below meth c D y q A H locs ls hC hX hA hP hD hS hL
  subst hl
  exact lv_lstore_n hC.1 hC.2.1 hd rfl (xL_pairs hL) hn rfl (fun ls2 hl2 => h p l e s m args below meth c D y q A H locs ls2 hC hX hA hP hD hS (xL_s2 (v := .long x) hl2))
theorem xe_lstore {j : Nat} {x : Int64} {lv2 : List (Option Value)} (hd : decode k.2.1 pc = .ok (.lstore j, 2)) (hn : j + 1 < k.2.2.1) (hl : xs2 lv j (.long x) = lv2) (h : xEv k d (pc + 2) lv2 st σ Post) : xEv k d pc lv (.long x :: st) σ Post := by
  intro p l e s m args below meth c D y q A H locs ls hC hX hA hP hD hS hL
  subst hl
  exact lv_lstore hC.1 hC.2.1 hd (xL_pairs hL) hn rfl (fun ls2 hl2 => h p l e s m args below meth c D y q A H locs ls2 hC hX hA hP hD hS (xL_s2 (v := .long x) hl2))
theorem xe_astore_nN {j : Fin 4} {lv2 : List (Option Value)} (hd : decode k.2.1 pc = .ok (.astore_n j, 1)) (hn : (j : Nat) < k.2.2.1) (hl : xs1 lv (j : Nat) .null = lv2) (h : xEv k d (pc + 1) lv2 st σ Post) : xEv k d pc lv (.null :: st) σ Post := by
  intro p l e s m args below meth c D y q A H locs ls hC hX hA hP hD hS hL
  subst hl
  exact lv_astore_nN hC.1 hC.2.1 hd rfl (xL_pairs hL) hn rfl (fun ls2 hl2 => h p l e s m args below meth c D y q A H locs ls2 hC hX hA hP hD hS (xL_s1 (v := .null) hl2))
theorem xe_astoreN {j : Nat} {lv2 : List (Option Value)} (hd : decode k.2.1 pc = .ok (.astore j, 2)) (hn : j < k.2.2.1) (hl : xs1 lv j .null = lv2) (h : xEv k d (pc + 2) lv2 st σ Post) : xEv k d pc lv (.null :: st) σ Post := by
  intro p l e s m args below meth c D y q A H locs ls hC hX hA hP hD hS hL
  subst hl
  exact lv_astoreN hC.1 hC.2.1 hd (xL_pairs hL) hn rfl (fun ls2 hl2 => h p l e s m args below meth c D y q A H locs ls2 hC hX hA hP hD hS (xL_s1 (v := .null) hl2))
theorem xe_iinc {j : Nat} {n : Int} {x v : Int32} {lv2 : List (Option Value)} (hd : decode k.2.1 pc = .ok (.iinc j n, 3)) (hn : j < k.2.2.1) (hg : lv[j]? = some (some (.int x))) (hv : x + Int32.ofInt n = v) (hl : xs1 lv j (.int v) = lv2) (h : xEv k d (pc + 3) lv2 st σ Post) : xEv k d pc lv st σ Post := by
  intro p l e s m args below meth c D y q A H locs ls hC hX hA hP hD hS hL
  subst hl
  obtain ⟨kk, hkk⟩ := List.getElem?_of_mem (xpairs_mem (q := q) hg)
  exact lv_iinc (k := kk) hC.1 hC.2.1 hd (xL_pairs hL) hkk hv hn rfl (fun ls2 hl2 => h p l e s m args below meth c D y q A H locs ls2 hC hX hA hP hD hS (xL_s1 (v := .int v) hl2))
theorem xe_iadd {x z : Int32} (hd : decode k.2.1 pc = .ok (.iadd, 1)) (h : xEv k d (pc + 1) lv (.int (x + z) :: st) σ Post) : xEv k d pc lv (.int z :: .int x :: st) σ Post := by
  intro p l e s m args below meth c D y q A H locs ls hC hX hA hP hD hS hL
  exact lv_iadd hC.1 hC.2.1 hd (h p l e s m args below meth c D y q A H locs ls hC hX hA hP hD hS hL)
theorem xe_isub {x z : Int32} (hd : decode k.2.1 pc = .ok (.isub, 1)) (h : xEv k d (pc + 1) lv (.int (x - z) :: st) σ Post) : xEv k d pc lv (.int z :: .int x :: st) σ Post := by
  intro p l e s m args below meth c D y q A H locs ls hC hX hA hP hD hS hL
  exact lv_isub hC.1 hC.2.1 hd (h p l e s m args below meth c D y q A H locs ls hC hX hA hP hD hS hL)
theorem xe_imul {x z : Int32} (hd : decode k.2.1 pc = .ok (.imul, 1)) (h : xEv k d (pc + 1) lv (.int (x * z) :: st) σ Post) : xEv k d pc lv (.int z :: .int x :: st) σ Post := by
  intro p l e s m args below meth c D y q A H locs ls hC hX hA hP hD hS hL
  exact lv_imul hC.1 hC.2.1 hd (h p l e s m args below meth c D y q A H locs ls hC hX hA hP hD hS hL)
theorem xe_iand {x z : Int32} (hd : decode k.2.1 pc = .ok (.iand, 1)) (h : xEv k d (pc + 1) lv (.int (x &&& z) :: st) σ Post) : xEv k d pc lv (.int z :: .int x :: st) σ Post := by
  intro p l e s m args below meth c D y q A H locs ls hC hX hA hP hD hS hL
  exact lv_iand hC.1 hC.2.1 hd (h p l e s m args below meth c D y q A H locs ls hC hX hA hP hD hS hL)
theorem xe_ior {x z : Int32} (hd : decode k.2.1 pc = .ok (.ior, 1)) (h : xEv k d (pc + 1) lv (.int (x ||| z) :: st) σ Post) : xEv k d pc lv (.int z :: .int x :: st) σ Post := by
  intro p l e s m args below meth c D y q A H locs ls hC hX hA hP hD hS hL
  exact lv_ior hC.1 hC.2.1 hd (h p l e s m args below meth c D y q A H locs ls hC hX hA hP hD hS hL)
theorem xe_ixor {x z : Int32} (hd : decode k.2.1 pc = .ok (.ixor, 1)) (h : xEv k d (pc + 1) lv (.int (x ^^^ z) :: st) σ Post) : xEv k d pc lv (.int z :: .int x :: st) σ Post := by
  intro p l e s m args below meth c D y q A H locs ls hC hX hA hP hD hS hL
  exact lv_ixor hC.1 hC.2.1 hd (h p l e s m args below meth c D y q A H locs ls hC hX hA hP hD hS hL)
theorem xe_ishl {x z : Int32} (hd : decode k.2.1 pc = .ok (.ishl, 1)) (h : xEv k d (pc + 1) lv (.int (x <<< (z &&& 31)) :: st) σ Post) : xEv k d pc lv (.int z :: .int x :: st) σ Post := by
  intro p l e s m args below meth c D y q A H locs ls hC hX hA hP hD hS hL
  exact lv_ishl hC.1 hC.2.1 hd (h p l e s m args below meth c D y q A H locs ls hC hX hA hP hD hS hL)
theorem xe_ishr {x z : Int32} (hd : decode k.2.1 pc = .ok (.ishr, 1)) (h : xEv k d (pc + 1) lv (.int (x >>> (z &&& 31)) :: st) σ Post) : xEv k d pc lv (.int z :: .int x :: st) σ Post := by
  intro p l e s m args below meth c D y q A H locs ls hC hX hA hP hD hS hL
  exact lv_ishr hC.1 hC.2.1 hd (h p l e s m args below meth c D y q A H locs ls hC hX hA hP hD hS hL)
theorem xe_idiv {x z : Int32} (hd : decode k.2.1 pc = .ok (.idiv, 1)) (hz : ¬ z = 0) (h : xEv k d (pc + 1) lv (.int (x / z) :: st) σ Post) : xEv k d pc lv (.int z :: .int x :: st) σ Post := by
  intro p l e s m args below meth c D y q A H locs ls hC hX hA hP hD hS hL
  exact lv_idiv hC.1 hC.2.1 hd hz (h p l e s m args below meth c D y q A H locs ls hC hX hA hP hD hS hL)
theorem xe_irem {x z : Int32} (hd : decode k.2.1 pc = .ok (.irem, 1)) (hz : ¬ z = 0) (h : xEv k d (pc + 1) lv (.int (x - x / z * z) :: st) σ Post) : xEv k d pc lv (.int z :: .int x :: st) σ Post := by
  intro p l e s m args below meth c D y q A H locs ls hC hX hA hP hD hS hL
  exact lv_irem hC.1 hC.2.1 hd hz (h p l e s m args below meth c D y q A H locs ls hC hX hA hP hD hS hL)
theorem xe_ladd {x z : Int64} (hd : decode k.2.1 pc = .ok (.ladd, 1)) (h : xEv k d (pc + 1) lv (.long (x + z) :: st) σ Post) : xEv k d pc lv (.long z :: .long x :: st) σ Post := by
  intro p l e s m args below meth c D y q A H locs ls hC hX hA hP hD hS hL
  exact lv_ladd hC.1 hC.2.1 hd (h p l e s m args below meth c D y q A H locs ls hC hX hA hP hD hS hL)
theorem xe_land {x z : Int64} (hd : decode k.2.1 pc = .ok (.land, 1)) (h : xEv k d (pc + 1) lv (.long (x &&& z) :: st) σ Post) : xEv k d pc lv (.long z :: .long x :: st) σ Post := by
  intro p l e s m args below meth c D y q A H locs ls hC hX hA hP hD hS hL
  exact lv_land hC.1 hC.2.1 hd (h p l e s m args below meth c D y q A H locs ls hC hX hA hP hD hS hL)
theorem xe_lor {x z : Int64} (hd : decode k.2.1 pc = .ok (.lor, 1)) (h : xEv k d (pc + 1) lv (.long (x ||| z) :: st) σ Post) : xEv k d pc lv (.long z :: .long x :: st) σ Post := by
  intro p l e s m args below meth c D y q A H locs ls hC hX hA hP hD hS hL
  exact lv_lor hC.1 hC.2.1 hd (h p l e s m args below meth c D y q A H locs ls hC hX hA hP hD hS hL)
theorem xe_ldiv {x z : Int64} (hd : decode k.2.1 pc = .ok (.ldiv, 1)) (hz : ¬ z = 0) (h : xEv k d (pc + 1) lv (.long (x / z) :: st) σ Post) : xEv k d pc lv (.long z :: .long x :: st) σ Post := by
  intro p l e s m args below meth c D y q A H locs ls hC hX hA hP hD hS hL
  exact lv_ldiv hC.1 hC.2.1 hd hz (h p l e s m args below meth c D y q A H locs ls hC hX hA hP hD hS hL)
theorem xe_lrem {x z : Int64} (hd : decode k.2.1 pc = .ok (.lrem, 1)) (hz : ¬ z = 0) (h : xEv k d (pc + 1) lv (.long (x - x / z * z) :: st) σ Post) : xEv k d pc lv (.long z :: .long x :: st) σ Post := by
  intro p l e s m args below meth c D y q A H locs ls hC hX hA hP hD hS hL
  exact lv_lrem hC.1 hC.2.1 hd hz (h p l e s m args below meth c D y q A H locs ls hC hX hA hP hD hS hL)
theorem xe_lshl {x : Int64} {z : Int32} (hd : decode k.2.1 pc = .ok (.lshl, 1)) (h : xEv k d (pc + 1) lv (.long (x <<< (z.toInt64 &&& 63)) :: st) σ Post) : xEv k d pc lv (.int z :: .long x :: st) σ Post := by
  intro p l e s m args below meth c D y q A H locs ls hC hX hA hP hD hS hL
  exact lv_lshl hC.1 hC.2.1 hd rfl (h p l e s m args below meth c D y q A H locs ls hC hX hA hP hD hS hL)
theorem xe_lshr {x : Int64} {z : Int32} (hd : decode k.2.1 pc = .ok (.lshr, 1)) (h : xEv k d (pc + 1) lv (.long (x >>> (z.toInt64 &&& 63)) :: st) σ Post) : xEv k d pc lv (.int z :: .long x :: st) σ Post := by
  intro p l e s m args below meth c D y q A H locs ls hC hX hA hP hD hS hL
  exact lv_lshr hC.1 hC.2.1 hd rfl (h p l e s m args below meth c D y q A H locs ls hC hX hA hP hD hS hL)
theorem xe_ineg {x : Int32} (hd : decode k.2.1 pc = .ok (.ineg, 1)) (h : xEv k d (pc + 1) lv (.int (-x) :: st) σ Post) : xEv k d pc lv (.int x :: st) σ Post := by
  intro p l e s m args below meth c D y q A H locs ls hC hX hA hP hD hS hL
  exact lv_ineg hC.1 hC.2.1 hd (h p l e s m args below meth c D y q A H locs ls hC hX hA hP hD hS hL)
theorem xe_iushr {x z : Int32} (hd : decode k.2.1 pc = .ok (.iushr, 1)) (h : xEv k d (pc + 1) lv (.int ((x.toUInt32 >>> (z.toUInt32 &&& Int32.toUInt32 31)).toInt32) :: st) σ Post) : xEv k d pc lv (.int z :: .int x :: st) σ Post := by
  intro p l e s m args below meth c D y q A H locs ls hC hX hA hP hD hS hL
  exact lv_iushr hC.1 hC.2.1 hd rfl (h p l e s m args below meth c D y q A H locs ls hC hX hA hP hD hS hL)
theorem xe_i2l {x : Int32} (hd : decode k.2.1 pc = .ok (.i2l, 1)) (h : xEv k d (pc + 1) lv (.long (x.toInt64) :: st) σ Post) : xEv k d pc lv (.int x :: st) σ Post := by
  intro p l e s m args below meth c D y q A H locs ls hC hX hA hP hD hS hL
  exact lv_i2l hC.1 hC.2.1 hd rfl (h p l e s m args below meth c D y q A H locs ls hC hX hA hP hD hS hL)
theorem xe_i2b {x : Int32} (hd : decode k.2.1 pc = .ok (.i2b, 1)) (h : xEv k d (pc + 1) lv (.int (x.toInt8.toInt32) :: st) σ Post) : xEv k d pc lv (.int x :: st) σ Post := by
  intro p l e s m args below meth c D y q A H locs ls hC hX hA hP hD hS hL
  exact lv_i2b hC.1 hC.2.1 hd rfl (h p l e s m args below meth c D y q A H locs ls hC hX hA hP hD hS hL)
theorem xe_i2s {x : Int32} (hd : decode k.2.1 pc = .ok (.i2s, 1)) (h : xEv k d (pc + 1) lv (.int (x.toInt16.toInt32) :: st) σ Post) : xEv k d pc lv (.int x :: st) σ Post := by
  intro p l e s m args below meth c D y q A H locs ls hC hX hA hP hD hS hL
  exact lv_i2s hC.1 hC.2.1 hd rfl (h p l e s m args below meth c D y q A H locs ls hC hX hA hP hD hS hL)
theorem xe_i2c {x : Int32} (hd : decode k.2.1 pc = .ok (.i2c, 1)) (h : xEv k d (pc + 1) lv (.int ((x.toUInt32 % 65536).toInt32) :: st) σ Post) : xEv k d pc lv (.int x :: st) σ Post := by
  intro p l e s m args below meth c D y q A H locs ls hC hX hA hP hD hS hL
  exact lv_i2c hC.1 hC.2.1 hd rfl (h p l e s m args below meth c D y q A H locs ls hC hX hA hP hD hS hL)
theorem xe_l2i {x : Int64} (hd : decode k.2.1 pc = .ok (.l2i, 1)) (h : xEv k d (pc + 1) lv (.int x.toInt32 :: st) σ Post) : xEv k d pc lv (.long x :: st) σ Post := by
  intro p l e s m args below meth c D y q A H locs ls hC hX hA hP hD hS hL
  exact lv_l2i hC.1 hC.2.1 hd rfl (h p l e s m args below meth c D y q A H locs ls hC hX hA hP hD hS hL)
theorem xe_lcmp {x z : Int64} (hd : decode k.2.1 pc = .ok (.lcmp, 1)) (h : xEv k d (pc + 1) lv (.int (lg_cmp x z) :: st) σ Post) : xEv k d pc lv (.long z :: .long x :: st) σ Post := by
  intro p l e s m args below meth c D y q A H locs ls hC hX hA hP hD hS hL
  exact W.lcmp hC.1 hC.2.1 hd (h p l e s m args below meth c D y q A H locs ls hC hX hA hP hD hS hL)
theorem xe_dup {v : Value} (hd : decode k.2.1 pc = .ok (.dup, 1)) (hv : v.category = 1) (h : xEv k d (pc + 1) lv (v :: v :: st) σ Post) : xEv k d pc lv (v :: st) σ Post := by
  intro p l e s m args below meth c D y q A H locs ls hC hX hA hP hD hS hL
  exact lv_dup hC.1 hC.2.1 hd ((cv_cat q v).trans hv) (h p l e s m args below meth c D y q A H locs ls hC hX hA hP hD hS hL)
theorem xe_pop {v : Value} (hd : decode k.2.1 pc = .ok (.pop, 1)) (hv : v.category = 1) (h : xEv k d (pc + 1) lv st σ Post) : xEv k d pc lv (v :: st) σ Post := by
  intro p l e s m args below meth c D y q A H locs ls hC hX hA hP hD hS hL
  exact lv_pop hC.1 hC.2.1 hd ((cv_cat q v).trans hv) (h p l e s m args below meth c D y q A H locs ls hC hX hA hP hD hS hL)
theorem xe_dup2 {v w : Value} (hd : decode k.2.1 pc = .ok (.dup2, 1)) (hv : v.category = 1) (hw : w.category = 1) (h : xEv k d (pc + 1) lv (v :: w :: v :: w :: st) σ Post) : xEv k d pc lv (v :: w :: st) σ Post := by
  intro p l e s m args below meth c D y q A H locs ls hC hX hA hP hD hS hL
  exact lv_dup2_11 hC.1 hC.2.1 hd ((cv_cat q v).trans hv) ((cv_cat q w).trans hw) (h p l e s m args below meth c D y q A H locs ls hC hX hA hP hD hS hL)
theorem xe_if_eq {x : Int32} {off : Int} {tgt : Nat} (hd : decode k.2.1 pc = .ok (.ifCond .eq off, 3)) (hg : (pc : Int) + off = (tgt : Int)) (ht : x = 0 → xEv k d tgt lv st σ Post) (hf : ¬ x = 0 → xEv k d (pc + 3) lv st σ Post) : xEv k d pc lv (.int x :: st) σ Post := by
  intro p l e s m args below meth c D y q A H locs ls hC hX hA hP hD hS hL
  exact lv_if_eq hC.1 hC.2.1 hd hg (fun hc => (ht hc) p l e s m args below meth c D y q A H locs ls hC hX hA hP hD hS hL) (fun hc => (hf hc) p l e s m args below meth c D y q A H locs ls hC hX hA hP hD hS hL)
theorem xe_icmp_eq {x z : Int32} {off : Int} {tgt : Nat} (hd : decode k.2.1 pc = .ok (.if_icmp .eq off, 3)) (hg : (pc : Int) + off = (tgt : Int)) (ht : x = z → xEv k d tgt lv st σ Post) (hf : ¬ x = z → xEv k d (pc + 3) lv st σ Post) : xEv k d pc lv (.int z :: .int x :: st) σ Post := by
  intro p l e s m args below meth c D y q A H locs ls hC hX hA hP hD hS hL
  exact lv_icmp_eq hC.1 hC.2.1 hd hg (fun hc => (ht hc) p l e s m args below meth c D y q A H locs ls hC hX hA hP hD hS hL) (fun hc => (hf hc) p l e s m args below meth c D y q A H locs ls hC hX hA hP hD hS hL)
theorem xe_if_ne {x : Int32} {off : Int} {tgt : Nat} (hd : decode k.2.1 pc = .ok (.ifCond .ne off, 3)) (hg : (pc : Int) + off = (tgt : Int)) (ht : ¬ x = 0 → xEv k d tgt lv st σ Post) (hf : x = 0 → xEv k d (pc + 3) lv st σ Post) : xEv k d pc lv (.int x :: st) σ Post := by
  intro p l e s m args below meth c D y q A H locs ls hC hX hA hP hD hS hL
  exact lv_if_ne hC.1 hC.2.1 hd hg (fun hc => (ht hc) p l e s m args below meth c D y q A H locs ls hC hX hA hP hD hS hL) (fun hc => (hf hc) p l e s m args below meth c D y q A H locs ls hC hX hA hP hD hS hL)
theorem xe_icmp_ne {x z : Int32} {off : Int} {tgt : Nat} (hd : decode k.2.1 pc = .ok (.if_icmp .ne off, 3)) (hg : (pc : Int) + off = (tgt : Int)) (ht : ¬ x = z → xEv k d tgt lv st σ Post) (hf : x = z → xEv k d (pc + 3) lv st σ Post) : xEv k d pc lv (.int z :: .int x :: st) σ Post := by
  intro p l e s m args below meth c D y q A H locs ls hC hX hA hP hD hS hL
  exact lv_icmp_ne hC.1 hC.2.1 hd hg (fun hc => (ht hc) p l e s m args below meth c D y q A H locs ls hC hX hA hP hD hS hL) (fun hc => (hf hc) p l e s m args below meth c D y q A H locs ls hC hX hA hP hD hS hL)
theorem xe_if_lt {x : Int32} {off : Int} {tgt : Nat} (hd : decode k.2.1 pc = .ok (.ifCond .lt off, 3)) (hg : (pc : Int) + off = (tgt : Int)) (ht : x < 0 → xEv k d tgt lv st σ Post) (hf : ¬ x < 0 → xEv k d (pc + 3) lv st σ Post) : xEv k d pc lv (.int x :: st) σ Post := by
  intro p l e s m args below meth c D y q A H locs ls hC hX hA hP hD hS hL
  exact lv_if_lt hC.1 hC.2.1 hd hg (fun hc => (ht hc) p l e s m args below meth c D y q A H locs ls hC hX hA hP hD hS hL) (fun hc => (hf hc) p l e s m args below meth c D y q A H locs ls hC hX hA hP hD hS hL)
theorem xe_icmp_lt {x z : Int32} {off : Int} {tgt : Nat} (hd : decode k.2.1 pc = .ok (.if_icmp .lt off, 3)) (hg : (pc : Int) + off = (tgt : Int)) (ht : x < z → xEv k d tgt lv st σ Post) (hf : ¬ x < z → xEv k d (pc + 3) lv st σ Post) : xEv k d pc lv (.int z :: .int x :: st) σ Post := by
  intro p l e s m args below meth c D y q A H locs ls hC hX hA hP hD hS hL
  exact lv_icmp_lt hC.1 hC.2.1 hd hg (fun hc => (ht hc) p l e s m args below meth c D y q A H locs ls hC hX hA hP hD hS hL) (fun hc => (hf hc) p l e s m args below meth c D y q A H locs ls hC hX hA hP hD hS hL)
theorem xe_if_ge {x : Int32} {off : Int} {tgt : Nat} (hd : decode k.2.1 pc = .ok (.ifCond .ge off, 3)) (hg : (pc : Int) + off = (tgt : Int)) (ht : 0 ≤ x → xEv k d tgt lv st σ Post) (hf : ¬ 0 ≤ x → xEv k d (pc + 3) lv st σ Post) : xEv k d pc lv (.int x :: st) σ Post := by
  intro p l e s m args below meth c D y q A H locs ls hC hX hA hP hD hS hL
  exact lv_if_ge hC.1 hC.2.1 hd hg (fun hc => (ht hc) p l e s m args below meth c D y q A H locs ls hC hX hA hP hD hS hL) (fun hc => (hf hc) p l e s m args below meth c D y q A H locs ls hC hX hA hP hD hS hL)
theorem xe_icmp_ge {x z : Int32} {off : Int} {tgt : Nat} (hd : decode k.2.1 pc = .ok (.if_icmp .ge off, 3)) (hg : (pc : Int) + off = (tgt : Int)) (ht : z ≤ x → xEv k d tgt lv st σ Post) (hf : ¬ z ≤ x → xEv k d (pc + 3) lv st σ Post) : xEv k d pc lv (.int z :: .int x :: st) σ Post := by
  intro p l e s m args below meth c D y q A H locs ls hC hX hA hP hD hS hL
  exact lv_icmp_ge hC.1 hC.2.1 hd hg (fun hc => (ht hc) p l e s m args below meth c D y q A H locs ls hC hX hA hP hD hS hL) (fun hc => (hf hc) p l e s m args below meth c D y q A H locs ls hC hX hA hP hD hS hL)
theorem xe_if_gt {x : Int32} {off : Int} {tgt : Nat} (hd : decode k.2.1 pc = .ok (.ifCond .gt off, 3)) (hg : (pc : Int) + off = (tgt : Int)) (ht : 0 < x → xEv k d tgt lv st σ Post) (hf : ¬ 0 < x → xEv k d (pc + 3) lv st σ Post) : xEv k d pc lv (.int x :: st) σ Post := by
  intro p l e s m args below meth c D y q A H locs ls hC hX hA hP hD hS hL
  exact lv_if_gt hC.1 hC.2.1 hd hg (fun hc => (ht hc) p l e s m args below meth c D y q A H locs ls hC hX hA hP hD hS hL) (fun hc => (hf hc) p l e s m args below meth c D y q A H locs ls hC hX hA hP hD hS hL)
theorem xe_icmp_gt {x z : Int32} {off : Int} {tgt : Nat} (hd : decode k.2.1 pc = .ok (.if_icmp .gt off, 3)) (hg : (pc : Int) + off = (tgt : Int)) (ht : z < x → xEv k d tgt lv st σ Post) (hf : ¬ z < x → xEv k d (pc + 3) lv st σ Post) : xEv k d pc lv (.int z :: .int x :: st) σ Post := by
  intro p l e s m args below meth c D y q A H locs ls hC hX hA hP hD hS hL
  exact lv_icmp_gt hC.1 hC.2.1 hd hg (fun hc => (ht hc) p l e s m args below meth c D y q A H locs ls hC hX hA hP hD hS hL) (fun hc => (hf hc) p l e s m args below meth c D y q A H locs ls hC hX hA hP hD hS hL)
theorem xe_if_le {x : Int32} {off : Int} {tgt : Nat} (hd : decode k.2.1 pc = .ok (.ifCond .le off, 3)) (hg : (pc : Int) + off = (tgt : Int)) (ht : x ≤ 0 → xEv k d tgt lv st σ Post) (hf : ¬ x ≤ 0 → xEv k d (pc + 3) lv st σ Post) : xEv k d pc lv (.int x :: st) σ Post := by
  intro p l e s m args below meth c D y q A H locs ls hC hX hA hP hD hS hL
  exact lv_if_le hC.1 hC.2.1 hd hg (fun hc => (ht hc) p l e s m args below meth c D y q A H locs ls hC hX hA hP hD hS hL) (fun hc => (hf hc) p l e s m args below meth c D y q A H locs ls hC hX hA hP hD hS hL)
theorem xe_icmp_le {x z : Int32} {off : Int} {tgt : Nat} (hd : decode k.2.1 pc = .ok (.if_icmp .le off, 3)) (hg : (pc : Int) + off = (tgt : Int)) (ht : x ≤ z → xEv k d tgt lv st σ Post) (hf : ¬ x ≤ z → xEv k d (pc + 3) lv st σ Post) : xEv k d pc lv (.int z :: .int x :: st) σ Post := by
  intro p l e s m args below meth c D y q A H locs ls hC hX hA hP hD hS hL
  exact lv_icmp_le hC.1 hC.2.1 hd hg (fun hc => (ht hc) p l e s m args below meth c D y q A H locs ls hC hX hA hP hD hS hL) (fun hc => (hf hc) p l e s m args below meth c D y q A H locs ls hC hX hA hP hD hS hL)
theorem xe_goto {off : Int} {tgt : Nat} (hd : decode k.2.1 pc = .ok (.goto off, 3)) (hg : (pc : Int) + off = (tgt : Int)) (h : xEv k d tgt lv st σ Post) : xEv k d pc lv st σ Post := by
  intro p l e s m args below meth c D y q A H locs ls hC hX hA hP hD hS hL
  exact lv_goto hC.1 hC.2.1 hd hg (h p l e s m args below meth c D y q A H locs ls hC hX hA hP hD hS hL)
theorem xe_ifnull {x : Nat} {off : Int} (hd : decode k.2.1 pc = .ok (.ifnull off, 3)) (h : xEv k d (pc + 3) lv st σ Post) : xEv k d pc lv (.ref x :: st) σ Post := by
  intro p l e s m args below meth c D y q A H locs ls hC hX hA hP hD hS hL
  exact lv_ifnull hC.1 hC.2.1 hd (h p l e s m args below meth c D y q A H locs ls hC hX hA hP hD hS hL)
theorem xe_ifnullN {off : Int} {tgt : Nat} (hd : decode k.2.1 pc = .ok (.ifnull off, 3)) (hg : (pc : Int) + off = (tgt : Int)) (h : xEv k d tgt lv st σ Post) : xEv k d pc lv (.null :: st) σ Post := by
  intro p l e s m args below meth c D y q A H locs ls hC hX hA hP hD hS hL
  exact lv_ifnullN hC.1 hC.2.1 hd hg (h p l e s m args below meth c D y q A H locs ls hC hX hA hP hD hS hL)
theorem xe_ifnonnull {x : Nat} {off : Int} {tgt : Nat} (hd : decode k.2.1 pc = .ok (.ifnonnull off, 3)) (hg : (pc : Int) + off = (tgt : Int)) (h : xEv k d tgt lv st σ Post) : xEv k d pc lv (.ref x :: st) σ Post := by
  intro p l e s m args below meth c D y q A H locs ls hC hX hA hP hD hS hL
  exact lv_ifnonnull hC.1 hC.2.1 hd hg (h p l e s m args below meth c D y q A H locs ls hC hX hA hP hD hS hL)
theorem xe_ifnonnullN {off : Int} (hd : decode k.2.1 pc = .ok (.ifnonnull off, 3)) (h : xEv k d (pc + 3) lv st σ Post) : xEv k d pc lv (.null :: st) σ Post := by
  intro p l e s m args below meth c D y q A H locs ls hC hX hA hP hD hS hL
  exact lv_ifnonnullN hC.1 hC.2.1 hd (h p l e s m args below meth c D y q A H locs ls hC hX hA hP hD hS hL)
theorem xe_tableOut {dflt lo hi : Int} {offs : Array Int} {len tgt : Nat} {x : Int32} (hd : decode k.2.1 pc = .ok (.tableswitch dflt lo hi offs, len)) (hx : x.toInt < lo ∨ hi < x.toInt) (hg : (pc : Int) + dflt = (tgt : Int)) (h : xEv k d tgt lv st σ Post) : xEv k d pc lv (.int x :: st) σ Post := by
  intro p l e s m args below meth c D y q A H locs ls hC hX hA hP hD hS hL
  exact lv_tableOut hC.1 hC.2.1 hd hx hg (h p l e s m args below meth c D y q A H locs ls hC hX hA hP hD hS hL)
theorem xe_tableIn {dflt lo hi off : Int} {offs : Array Int} {len tgt : Nat} {x : Int32} (hd : decode k.2.1 pc = .ok (.tableswitch dflt lo hi offs, len)) (h1 : ¬ x.toInt < lo) (h2 : ¬ hi < x.toInt) (ho : offs[(x.toInt - lo).toNat]? = some off) (hg : (pc : Int) + off = (tgt : Int)) (h : xEv k d tgt lv st σ Post) : xEv k d pc lv (.int x :: st) σ Post := by
  intro p l e s m args below meth c D y q A H locs ls hC hX hA hP hD hS hL
  exact lv_tableIn hC.1 hC.2.1 hd h1 h2 ho hg (h p l e s m args below meth c D y q A H locs ls hC hX hA hP hD hS hL)
theorem xe_lookup {dflt off : Int} {ps : Array (Int × Int)} {len tgt : Nat} {x : Int32} (hd : decode k.2.1 pc = .ok (.lookupswitch dflt ps, len)) (hp : (ps.toList.zip (ps.toList.drop 1)).all (fun (a, next) => a.1 < next.1) = true) (ho : Op.lookupswitch.offset ps.toList dflt x.toInt = off) (hg : (pc : Int) + off = (tgt : Int)) (h : xEv k d tgt lv st σ Post) : xEv k d pc lv (.int x :: st) σ Post := by
  intro p l e s m args below meth c D y q A H locs ls hC hX hA hP hD hS hL
  exact lv_lookup hC.1 hC.2.1 hd hp ho hg (h p l e s m args below meth c D y q A H locs ls hC hX hA hP hD hS hL)
end XEV
end
section
theorem x_acN : Cond.native arraycopyName ∈ xtb := xtb_in (by decide +kernel) rfl
theorem x_acS : Cond.static arraycopyName ∈ xtb := xtb_in (by decide +kernel) rfl
theorem x_acI : Cond.initialized "java/lang/System" ∈ xtb := xtb_in (by decide +kernel) rfl
theorem x_acL : (([] : List Value).map fun v => v.category).sum + (nativeFrameWords "java/lang/System" "arraycopy" 5 + 11) ≤ 64 := by decide +kernel
/-- a field by its link: own class's entry idx names slot sl of kind ci, of a type, final or not -/
def xFl (own : String) (idx ci sl : Nat) (ty : FieldType) (fin : Bool) : Prop := ∃ (r : vw_C) (ty0 : Nat → FieldType), vwCl[ci]? = some r ∧ sl < r.2.2 ∧ Cond.fieldLink own idx (r.2.1 sl).1 (r.2.1 sl).2.1 (r.2.1 sl).2.2.1 ∈ xtb ∧ (∀ w ∈ u_ws r.1 r.2.1 r.2.2, w ∈ xtb) ∧ (∀ k, k < r.2.2 → parseFieldDescriptor (r.2.1 k).2.2.1 = some (ty0 k)) ∧ (∀ a, a < r.2.2 → ∀ b, b < r.2.2 → a ≠ b → (r.2.1 a).2.1 ≠ (r.2.1 b).2.1) ∧ ty0 sl = ty ∧ (r.2.1 sl).2.2.2 = fin
theorem xE_o {y : Nat → ClassId} {q : Nat → Nat} {σ : xSt} {c ci : Nat} {rs : List (Option Nat)} (hs : xsh c = .inr (ci, rs)) : xE y q σ c = .inr (ci, xF q (σ.1 c) 0 rs) := by unfold xE; rw [hs]; rfl
theorem xE_a {y : Nat → ClassId} {q : Nat → Nat} {σ : xSt} {c t n : Nat} {tg : List Nat} (hs : xsh c = .inl (t, n, tg)) : xE y q σ c = .inl (y t, n, xAr q σ c t tg) := by unfold xE; rw [hs]; rfl
theorem xAr_i {q : Nat → Nat} {σ : xSt} {c t : Nat} {tg : List Nat} (h3 : ¬ t = 3) (h5 : t < 5) : xAr q σ c t tg = .inl (σ.2.1 c) := by unfold xAr; rw [if_neg h3, if_pos h5]
theorem xAr_q {q : Nat → Nat} {σ : xSt} {c t : Nat} {tg : List Nat} (h5 : ¬ t < 5) : xAr q σ c t tg = .inr (.inr (.inr (.inr (fun i => (tg[i]?).map q)))) := by unfold xAr; rw [if_neg (by omega), if_neg h5]
theorem xWo {y : Nat → ClassId} {q : Nat → Nat} {σ : xSt} {c ci : Nat} {rs : List (Option Nat)} (hc : c < 138) (hs : xsh c = .inr (ci, rs)) : (xW y q σ)[c]? = some (q c, .inr (ci, xF q (σ.1 c) 0 rs)) := by rw [xW_get hc, xE_o hs]
theorem xWi {y : Nat → ClassId} {q : Nat → Nat} {σ : xSt} {c t n : Nat} {tg : List Nat} (hc : c < 138) (hs : xsh c = .inl (t, n, tg)) (h3 : ¬ t = 3) (h5 : t < 5) : (xW y q σ)[c]? = some (q c, .inl (y t, n, .inl (σ.2.1 c))) := by rw [xW_get hc, xE_a hs, xAr_i h3 h5]
theorem xWl {y : Nat → ClassId} {q : Nat → Nat} {σ : xSt} {c n : Nat} {tg : List Nat} (hc : c < 138) (hs : xsh c = .inl (3, n, tg)) : (xW y q σ)[c]? = some (q c, .inl (y 3, n, .inr (.inl (σ.2.2 c)))) := by rw [xW_get hc, xE_a hs]; rfl
theorem xWq {y : Nat → ClassId} {q : Nat → Nat} {σ : xSt} {c t n : Nat} {tg : List Nat} (hc : c < 138) (hs : xsh c = .inl (t, n, tg)) (h5 : ¬ t < 5) : (xW y q σ)[c]? = some (q c, .inl (y t, n, .inr (.inr (.inr (.inr (fun i => (tg[i]?).map q)))))) := by rw [xW_get hc, xE_a hs, xAr_q h5]
theorem xset_F {y : Nat → ClassId} {q : Nat → Nat} {σ : xSt} {c ci sl : Nat} {rs : List (Option Nat)} {v : Int32} (hc : c < 138) (hs : xsh c = .inr (ci, rs)) (hr : rs[sl]? = some none) : (xW y q σ).set c (q c, .inr (ci, (xF q (σ.1 c) 0 rs).set sl (.int v))) = xW y q (xsF σ c sl v) := by
  refine xW_set hc ?_ (fun b hb => xE_same (va_up_ne _ _ hb) rfl rfl)
  rw [xE_o hs, xF_set _ _ _ _ _ hr]
  simp only [xsF, va_up_self]
theorem xset_A {y : Nat → ClassId} {q : Nat → Nat} {σ : xSt} {c t n : Nat} {tg : List Nat} {g : Nat → Int32} (hc : c < 138) (hs : xsh c = .inl (t, n, tg)) (h3 : ¬ t = 3) (h5 : t < 5) : (xW y q σ).set c (q c, .inl (y t, n, .inl g)) = xW y q (xsA σ c g) := by
  refine xW_set hc ?_ (fun b hb => xE_same rfl (va_up_ne _ _ hb) rfl)
  rw [xE_a hs, xAr_i h3 h5]
  simp only [xsA, va_up_self]
theorem xset_J {y : Nat → ClassId} {q : Nat → Nat} {σ : xSt} {c n : Nat} {tg : List Nat} {g : Nat → Int64} (hc : c < 138) (hs : xsh c = .inl (3, n, tg)) : (xW y q σ).set c (q c, .inl (y 3, n, .inr (.inl g))) = xW y q (xsJ σ c g) := by
  refine xW_set hc ?_ (fun b hb => xE_same rfl rfl (va_up_ne _ _ hb))
  rw [xE_a hs]
  show Sum.inl (y 3, n, Sum.inr (Sum.inl (va_up σ.2.2 c g c))) = _
  rw [va_up_self]
section XMEM
variable {k : xMD} {d pc : Nat} {lv : List (Option Value)} {st : List Value} {σ : xSt} {Post : Option Value → xSt → Prop}
theorem xe_getf {c0 ci sl idx : Nat} {rs : List (Option Nat)} {ty : FieldType} {fin : Bool} (hd : decode k.2.1 pc = .ok (.getfield idx, 3)) (hf : xFl k.1.cls idx ci sl ty fin) (hc : c0 < 138) (hs : xsh c0 = .inr (ci, rs)) (hr : rs[sl]? = some none) (h : xEv k d (pc + 3) lv (.int (σ.1 c0 sl) :: st) σ Post) : xEv k d pc lv (.ref c0 :: st) σ Post := by
  intro p l e s m args below meth c D y q A H locs ls hC hX hA hP hD hS hL
  obtain ⟨⟨C, T, N⟩, ty0, h1, h2, h3, h4, -⟩ := hf
  refine va_get (C := C) (T := T) (N := N) hC.1 hC.2.1 hC.2.2.2.2.2.1 h4 hC.2.2.2.2.1 hX.1 hP c0 (xWo hc hs) h1 sl h2 (hC.2.2.2.2.2.1 _ h3) (fun _ z => z) (v := .int (σ.1 c0 sl)) ?_ hd (h p l e s m args below meth c D y q A H locs ls hC hX hA hP hD hS hL)
  rw [xF_get, hr, Nat.zero_add]; rfl
theorem xe_getr {c0 ci sl idx t : Nat} {rs : List (Option Nat)} {ty : FieldType} {fin : Bool} (hd : decode k.2.1 pc = .ok (.getfield idx, 3)) (hf : xFl k.1.cls idx ci sl ty fin) (hc : c0 < 138) (hs : xsh c0 = .inr (ci, rs)) (hr : rs[sl]? = some (some t)) (h : xEv k d (pc + 3) lv (.ref t :: st) σ Post) : xEv k d pc lv (.ref c0 :: st) σ Post := by
  intro p l e s m args below meth c D y q A H locs ls hC hX hA hP hD hS hL
  obtain ⟨⟨C, T, N⟩, ty0, h1, h2, h3, h4, -⟩ := hf
  refine va_get (C := C) (T := T) (N := N) hC.1 hC.2.1 hC.2.2.2.2.2.1 h4 hC.2.2.2.2.1 hX.1 hP c0 (xWo hc hs) h1 sl h2 (hC.2.2.2.2.2.1 _ h3) (fun _ z => z) (v := .ref (q t)) ?_ hd (h p l e s m args below meth c D y q A H locs ls hC hX hA hP hD hS hL)
  rw [xF_get, hr]; rfl
theorem xe_putf {c0 ci sl idx : Nat} {rs : List (Option Nat)} {ty : FieldType} {v : Int32} (hd : decode k.2.1 pc = .ok (.putfield idx, 3)) (hf : xFl k.1.cls idx ci sl ty false) (hc : c0 < 138) (hs : xsh c0 = .inr (ci, rs)) (hr : rs[sl]? = some none) (hn : narrow ty (.int v) = .int v) (hft : fits ty (.int v) = true) (h : xEv k d (pc + 3) lv st (xsF σ c0 sl v) Post) : xEv k d pc lv (.int v :: .ref c0 :: st) σ Post := by
  intro p l e s m args below meth c D y q A H locs ls hC hX hA hP hD hS hL
  obtain ⟨⟨C, T, N⟩, ty0, h1, h2, h3, h4, h5, h6, h7, h8⟩ := hf
  subst h7
  refine va_put (C := C) (T := T) (N := N) (v := .int v) hC.1 hC.2.1 hC.2.2.2.2.2.1 h4 ty0 h5 h6 hC.2.2.2.2.1 hX.1 hP hD hS c0 (xWo hc hs) h1 sl h2 (hC.2.2.2.2.2.1 _ h3) (fun _ z => z) h8 (h5 sl h2) hn hft (by rw [xF_len]; exact (List.getElem?_eq_some_iff.mp hr).1) hd (fun H2 locs2 hP2 hD2 hS2 => ?_)
  rw [xset_F hc hs hr] at hP2 hD2
  exact h p l e s m args below meth c D y q A H2 locs2 ls hC hX hA hP2 hD2 hS2 hL
theorem xe_iaload {c0 n : Nat} {tg : List Nat} {i : Int32} (hd : decode k.2.1 pc = .ok (.iaload, 1)) (hc : c0 < 138) (hs : xsh c0 = .inl (0, n, tg)) (hi : vp_in i n) (h : xEv k d (pc + 1) lv (.int (σ.2.1 c0 i.toNatClampNeg) :: st) σ Post) : xEv k d pc lv (.int i :: .ref c0 :: st) σ Post := by
  intro p l e s m args below meth c D y q A H locs ls hC hX hA hP hD hS hL
  exact va_iald hC.1 hC.2.1 hX.1 hP c0 0 (xWi hc hs (by decide) (by decide)) rfl hi hd (h p l e s m args below meth c D y q A H locs ls hC hX hA hP hD hS hL)
theorem xe_baload {c0 n : Nat} {tg : List Nat} {i : Int32} (hd : decode k.2.1 pc = .ok (.baload, 1)) (hc : c0 < 138) (hs : xsh c0 = .inl (1, n, tg)) (hi : vp_in i n) (h : xEv k d (pc + 1) lv (.int (σ.2.1 c0 i.toNatClampNeg) :: st) σ Post) : xEv k d pc lv (.int i :: .ref c0 :: st) σ Post := by
  intro p l e s m args below meth c D y q A H locs ls hC hX hA hP hD hS hL
  exact va_bald hC.1 hC.2.1 hX.1 hP c0 1 (xWi hc hs (by decide) (by decide)) rfl hi hd (h p l e s m args below meth c D y q A H locs ls hC hX hA hP hD hS hL)
theorem xe_caload {c0 n : Nat} {tg : List Nat} {i : Int32} (hd : decode k.2.1 pc = .ok (.caload, 1)) (hc : c0 < 138) (hs : xsh c0 = .inl (2, n, tg)) (hi : vp_in i n) (h : xEv k d (pc + 1) lv (.int (σ.2.1 c0 i.toNatClampNeg) :: st) σ Post) : xEv k d pc lv (.int i :: .ref c0 :: st) σ Post := by
  intro p l e s m args below meth c D y q A H locs ls hC hX hA hP hD hS hL
  exact va_cald hC.1 hC.2.1 hX.1 hP c0 2 (xWi hc hs (by decide) (by decide)) rfl hi hd (h p l e s m args below meth c D y q A H locs ls hC hX hA hP hD hS hL)
theorem xe_zaload {c0 n : Nat} {tg : List Nat} {i : Int32} (hd : decode k.2.1 pc = .ok (.baload, 1)) (hc : c0 < 138) (hs : xsh c0 = .inl (4, n, tg)) (hi : vp_in i n) (h : xEv k d (pc + 1) lv (.int (σ.2.1 c0 i.toNatClampNeg) :: st) σ Post) : xEv k d pc lv (.int i :: .ref c0 :: st) σ Post := by
  intro p l e s m args below meth c D y q A H locs ls hC hX hA hP hD hS hL
  exact va_zald hC.1 hC.2.1 hX.1 hP c0 4 (xWi hc hs (by decide) (by decide)) rfl hi hd (h p l e s m args below meth c D y q A H locs ls hC hX hA hP hD hS hL)
theorem xe_laload {c0 n : Nat} {tg : List Nat} {i : Int32} (hd : decode k.2.1 pc = .ok (.laload, 1)) (hc : c0 < 138) (hs : xsh c0 = .inl (3, n, tg)) (hi : vp_in i n) (h : xEv k d (pc + 1) lv (.long (σ.2.2 c0 i.toNatClampNeg) :: st) σ Post) : xEv k d pc lv (.int i :: .ref c0 :: st) σ Post := by
  intro p l e s m args below meth c D y q A H locs ls hC hX hA hP hD hS hL
  exact va_lald hC.1 hC.2.1 hX.1 hP c0 3 (xWl hc hs) rfl hi hd (h p l e s m args below meth c D y q A H locs ls hC hX hA hP hD hS hL)
theorem xe_aaload {c0 t n tc : Nat} {tg : List Nat} {i : Int32} (hd : decode k.2.1 pc = .ok (.aaload, 1)) (hc : c0 < 138) (hs : xsh c0 = .inl (t, n, tg)) (ht : t = 5 ∨ t = 6 ∨ t = 7) (hi : vp_in i n) (hg : tg[i.toNatClampNeg]? = some tc) (h : xEv k d (pc + 1) lv (.ref tc :: st) σ Post) : xEv k d pc lv (.int i :: .ref c0 :: st) σ Post := by
  intro p l e s m args below meth c D y q A H locs ls hC hX hA hP hD hS hL
  have hh := (h p l e s m args below meth c D y q A H locs ls hC hX hA hP hD hS hL)
  have e : cv q (.ref tc) = va_rf ((fun i : Nat => (tg[i]?).map q) i.toNatClampNeg) := by simp only [hg]; rfl
  simp only [List.map_cons] at hh ⊢
  rw [e] at hh
  rcases ht with rfl | rfl | rfl
  · exact va_aldq hC.1 hC.2.1 hX.1 hP c0 5 (xWq hc hs (by decide)) rfl hi hd hh
  · exact va_aldq hC.1 hC.2.1 hX.1 hP c0 6 (xWq hc hs (by decide)) rfl hi hd hh
  · exact va_aldq hC.1 hC.2.1 hX.1 hP c0 7 (xWq hc hs (by decide)) rfl hi hd hh
theorem xe_iastore {c0 n : Nat} {tg : List Nat} {i x : Int32} (hd : decode k.2.1 pc = .ok (.iastore, 1)) (hc : c0 < 138) (hs : xsh c0 = .inl (0, n, tg)) (hi : vp_in i n) (h : xEv k d (pc + 1) lv st (xsA σ c0 (upd (σ.2.1 c0) i.toNatClampNeg x)) Post) : xEv k d pc lv (.int x :: .int i :: .ref c0 :: st) σ Post := by
  intro p l e s m args below meth c D y q A H locs ls hC hX hA hP hD hS hL
  refine va_iast hC.1 hC.2.1 hX.1 hP hD hS c0 0 (xWi hc hs (by decide) (by decide)) rfl hi hd (fun H2 locs2 hP2 hD2 hS2 => ?_)
  rw [xset_A hc hs (by decide) (by decide)] at hP2 hD2
  exact h p l e s m args below meth c D y q A H2 locs2 ls hC hX hA hP2 hD2 hS2 hL
theorem xe_bastore {c0 n : Nat} {tg : List Nat} {i x : Int32} (hd : decode k.2.1 pc = .ok (.bastore, 1)) (hc : c0 < 138) (hs : xsh c0 = .inl (1, n, tg)) (hi : vp_in i n) (h : xEv k d (pc + 1) lv st (xsA σ c0 (upd (σ.2.1 c0) i.toNatClampNeg (vp_nar .byte x))) Post) : xEv k d pc lv (.int x :: .int i :: .ref c0 :: st) σ Post := by
  intro p l e s m args below meth c D y q A H locs ls hC hX hA hP hD hS hL
  refine va_bast hC.1 hC.2.1 hX.1 hP hD hS c0 1 (xWi hc hs (by decide) (by decide)) rfl hi hd (fun H2 locs2 hP2 hD2 hS2 => ?_)
  rw [xset_A hc hs (by decide) (by decide)] at hP2 hD2
  exact h p l e s m args below meth c D y q A H2 locs2 ls hC hX hA hP2 hD2 hS2 hL
theorem xe_zastore {c0 n : Nat} {tg : List Nat} {i x : Int32} (hd : decode k.2.1 pc = .ok (.bastore, 1)) (hc : c0 < 138) (hs : xsh c0 = .inl (4, n, tg)) (hi : vp_in i n) (h : xEv k d (pc + 1) lv st (xsA σ c0 (upd (σ.2.1 c0) i.toNatClampNeg (vp_nar .boolean x))) Post) : xEv k d pc lv (.int x :: .int i :: .ref c0 :: st) σ Post := by
  intro p l e s m args below meth c D y q A H locs ls hC hX hA hP hD hS hL
  refine va_zast hC.1 hC.2.1 hX.1 hP hD hS c0 4 (xWi hc hs (by decide) (by decide)) rfl hi hd (fun H2 locs2 hP2 hD2 hS2 => ?_)
  rw [xset_A hc hs (by decide) (by decide)] at hP2 hD2
  exact h p l e s m args below meth c D y q A H2 locs2 ls hC hX hA hP2 hD2 hS2 hL
theorem xe_lastore {c0 n : Nat} {tg : List Nat} {i : Int32} {x : Int64} (hd : decode k.2.1 pc = .ok (.lastore, 1)) (hc : c0 < 138) (hs : xsh c0 = .inl (3, n, tg)) (hi : vp_in i n) (h : xEv k d (pc + 1) lv st (xsJ σ c0 (vp_updL (σ.2.2 c0) i.toNatClampNeg x)) Post) : xEv k d pc lv (.long x :: .int i :: .ref c0 :: st) σ Post := by
  intro p l e s m args below meth c D y q A H locs ls hC hX hA hP hD hS hL
  refine va_last hC.1 hC.2.1 hX.1 hP hD hS c0 3 (xWl hc hs) rfl hi hd (fun H2 locs2 hP2 hD2 hS2 => ?_)
  rw [xset_J hc hs] at hP2 hD2
  exact h p l e s m args below meth c D y q A H2 locs2 ls hC hX hA hP2 hD2 hS2 hL
theorem xe_alen {c0 t n : Nat} {tg : List Nat} (hd : decode k.2.1 pc = .ok (.arraylength, 1)) (hc : c0 < 138) (hs : xsh c0 = .inl (t, n, tg)) (ht : t < 8) (h : xEv k d (pc + 1) lv (.int (nI n) :: st) σ Post) : xEv k d pc lv (.ref c0 :: st) σ Post := by
  intro p l e s m args below meth c D y q A H locs ls hC hX hA hP hD hS hL
  obtain ⟨ty, hty⟩ : ∃ ty, (xty y)[t]? = some (y t, ty) := by
    rcases (show t = 0 ∨ t = 1 ∨ t = 2 ∨ t = 3 ∨ t = 4 ∨ t = 5 ∨ t = 6 ∨ t = 7 by omega) with rfl | rfl | rfl | rfl | rfl | rfl | rfl | rfl <;> exact ⟨_, rfl⟩
  exact va_alen (x := (n, xAr q σ c0 t tg)) hC.1 hC.2.1 hX.1 hP c0 t (by rw [xW_get hc, xE_a hs]) hty rfl hd (h p l e s m args below meth c D y q A H locs ls hC hX hA hP hD hS hL)
theorem xe_above {idx : Nat} (hd : decode k.2.1 pc = .ok (.getstatic idx, 3)) (hf : Cond.fieldLink k.1.cls idx RX8 "ABOVE" "[I" ∈ xtb) (h : xEv k d (pc + 3) lv (.ref 200 :: st) σ Post) : xEv k d pc lv st σ Post := by
  intro p l e s m args below meth c D y q A H locs ls hC hX hA hP hD hS hL
  exact va_gets (v := .ref (q 200)) hC.1 hC.2.1 hX.2.1.1 hS hC.2.2.2.2.1 (hC.2.2.2.2.2.1 _ hf) (fun _ z => z) hd (h p l e s m args below meth c D y q A H locs ls hC hX hA hP hD hS hL)
theorem xe_aboveN (hk : k.1.cls = RX0) (hd : decode k.2.1 pc = .ok (.getstatic 28, 3)) (h : xEv k d (pc + 3) lv (.ref 200 :: st) σ Post) : xEv k d pc lv st σ Post := by
  intro p l e s m args below meth c D y q A H locs ls hC hX hA hP hD hS hL
  exact va_getsN (v := .ref (q 200)) (own := RX0) (ref := RX8) (host := RX8) hC.1 hC.2.1 hX.2.1.1 hS (hk ▸ hC.2.2.2.2.1) (va_Nw.use rfl hX.2.2.2.2.2) (fun _ z => z) hd (h p l e s m args below meth c D y q A H locs ls hC hX hA hP hD hS hL)
theorem xe_bodies {idx : Nat} (hd : decode k.2.1 pc = .ok (.getstatic idx, 3)) (hf : Cond.fieldLink k.1.cls idx RX0 "BODIES" "[I" ∈ xtb) (h : xEv k d (pc + 3) lv (.ref 201 :: st) σ Post) : xEv k d pc lv st σ Post := by
  intro p l e s m args below meth c D y q A H locs ls hC hX hA hP hD hS hL
  exact va_gets (v := .ref (q 201)) hC.1 hC.2.1 hX.2.1.2.2.1 hS hC.2.2.2.2.1 (hC.2.2.2.2.2.1 _ hf) (fun _ z => z) hd (h p l e s m args below meth c D y q A H locs ls hC hX hA hP hD hS hL)
theorem xe_compact {idx : Nat} (hd : decode k.2.1 pc = .ok (.getstatic idx, 3)) (hf : Cond.fieldLink k.1.cls idx RJ0 "COMPACT_STRINGS" "Z" ∈ xtb) (h : xEv k d (pc + 3) lv (.int 1 :: st) σ Post) : xEv k d pc lv st σ Post := by
  intro p l e s m args below meth c D y q A H locs ls hC hX hA hP hD hS hL
  exact va_gets (v := .int 1) hC.1 hC.2.1 hX.2.1.2.2.2.2.1 hS hC.2.2.2.2.1 (hC.2.2.2.2.2.1 _ hf) (fun _ z => z) hd (h p l e s m args below meth c D y q A H locs ls hC hX hA hP hD hS hL)
theorem xe_ldAbove {i : Int32} (hd : decode k.2.1 pc = .ok (.iaload, 1)) (hi : vp_in i 7) (h : xEv k d (pc + 1) lv (.int (xABOVE i.toNatClampNeg) :: st) σ Post) : xEv k d pc lv (.int i :: .ref 200 :: st) σ Post := by
  intro p l e s m args below meth c D y q A H locs ls hC hX hA hP hD hS hL
  exact va_ti hC.1 hC.2.1 hX.2.1.2.1 hS hi rfl hd (h p l e s m args below meth c D y q A H locs ls hC hX hA hP hD hS hL)
theorem xe_ldBodies {i : Int32} (hd : decode k.2.1 pc = .ok (.iaload, 1)) (hi : vp_in i 21) (h : xEv k d (pc + 1) lv (.int (xBODIES i.toNatClampNeg) :: st) σ Post) : xEv k d pc lv (.int i :: .ref 201 :: st) σ Post := by
  intro p l e s m args below meth c D y q A H locs ls hC hX hA hP hD hS hL
  exact va_ti hC.1 hC.2.1 hX.2.1.2.2.2.1 hS hi rfl hd (h p l e s m args below meth c D y q A H locs ls hC hX hA hP hD hS hL)
theorem xe_text0 (hk : k.1.cls = RX7) (hd : decode k.2.1 pc = .ok (.ldc 45, 2)) (h : xEv k d (pc + 2) lv (.ref 210 :: st) σ Post) : xEv k d pc lv st σ Post := by
  intro p l e s m args below meth c D y q A H locs ls hC hX hA hP hD hS hL
  exact va_ldcS (own := RX7) hC.1 hC.2.1 (hk ▸ hC.2.2.2.2.1) hX.2.2.1.1 hd (h p l e s m args below meth c D y q A H locs ls hC hX hA hP hD hS hL)
theorem xe_text1 (hk : k.1.cls = RX7) (hd : decode k.2.1 pc = .ok (.ldc 47, 2)) (h : xEv k d (pc + 2) lv (.ref 211 :: st) σ Post) : xEv k d pc lv st σ Post := by
  intro p l e s m args below meth c D y q A H locs ls hC hX hA hP hD hS hL
  exact va_ldcS (own := RX7) hC.1 hC.2.1 (hk ▸ hC.2.2.2.2.1) hX.2.2.1.2.1 hd (h p l e s m args below meth c D y q A H locs ls hC hX hA hP hD hS hL)
theorem xe_text2 (hk : k.1.cls = RX7) (hd : decode k.2.1 pc = .ok (.ldc 49, 2)) (h : xEv k d (pc + 2) lv (.ref 212 :: st) σ Post) : xEv k d pc lv st σ Post := by
  intro p l e s m args below meth c D y q A H locs ls hC hX hA hP hD hS hL
  exact va_ldcS (own := RX7) hC.1 hC.2.1 (hk ▸ hC.2.2.2.2.1) hX.2.2.1.2.2.1 hd (h p l e s m args below meth c D y q A H locs ls hC hX hA hP hD hS hL)
theorem xe_text3 (hk : k.1.cls = RX7) (hd : decode k.2.1 pc = .ok (.ldc 80, 2)) (h : xEv k d (pc + 2) lv (.ref 213 :: st) σ Post) : xEv k d pc lv st σ Post := by
  intro p l e s m args below meth c D y q A H locs ls hC hX hA hP hD hS hL
  exact va_ldcS (own := RX7) hC.1 hC.2.1 (hk ▸ hC.2.2.2.2.1) hX.2.2.1.2.2.2.1 hd (h p l e s m args below meth c D y q A H locs ls hC hX hA hP hD hS hL)
theorem xe_text4 (hk : k.1.cls = RX7) (hd : decode k.2.1 pc = .ok (.ldc 86, 2)) (h : xEv k d (pc + 2) lv (.ref 214 :: st) σ Post) : xEv k d pc lv st σ Post := by
  intro p l e s m args below meth c D y q A H locs ls hC hX hA hP hD hS hL
  exact va_ldcS (own := RX7) hC.1 hC.2.1 (hk ▸ hC.2.2.2.2.1) hX.2.2.1.2.2.2.2 hd (h p l e s m args below meth c D y q A H locs ls hC hX hA hP hD hS hL)
theorem xe_strValue {i idx : Nat} (hd : decode k.2.1 pc = .ok (.getfield idx, 3)) (hf : Cond.fieldLink k.1.cls idx RJ0 "value" "[B" ∈ xtb) (hi : i < 5) (h : xEv k d (pc + 3) lv (.ref (220 + i) :: st) σ Post) : xEv k d pc lv (.ref (210 + i) :: st) σ Post := by
  intro p l e s m args below meth c D y q A H locs ls hC hX hA hP hD hS hL
  exact vk_getf (v := .ref (q (220 + i))) hC.1 hC.2.1 (hX.2.1.2.2.2.2.2.1 i hi).2.2.1 hS hC.2.2.2.2.1 (hC.2.2.2.2.2.1 _ hf) (fun _ z => z) hd (h p l e s m args below meth c D y q A H locs ls hC hX hA hP hD hS hL)
theorem xe_strCoder {i idx : Nat} (hd : decode k.2.1 pc = .ok (.getfield idx, 3)) (hf : Cond.fieldLink k.1.cls idx RJ0 "coder" "B" ∈ xtb) (hi : i < 5) (h : xEv k d (pc + 3) lv (.int 0 :: st) σ Post) : xEv k d pc lv (.ref (210 + i) :: st) σ Post := by
  intro p l e s m args below meth c D y q A H locs ls hC hX hA hP hD hS hL
  exact vk_getf (v := .int 0) hC.1 hC.2.1 (hX.2.1.2.2.2.2.2.1 i hi).2.1 hS hC.2.2.2.2.1 (hC.2.2.2.2.2.1 _ hf) (fun _ z => z) hd (h p l e s m args below meth c D y q A H locs ls hC hX hA hP hD hS hL)
theorem xe_strLen {i : Nat} (hd : decode k.2.1 pc = .ok (.arraylength, 1)) (hi : i < 5) (h : xEv k d (pc + 1) lv (.int (nI (xlen.getD i 0)) :: st) σ Post) : xEv k d pc lv (.ref (220 + i) :: st) σ Post := by
  intro p l e s m args below meth c D y q A H locs ls hC hX hA hP hD hS hL
  exact va_tlen hC.1 hC.2.1 (hX.2.1.2.2.2.2.2.1 i hi).2.2.2 hS rfl hd (h p l e s m args below meth c D y q A H locs ls hC hX hA hP hD hS hL)
theorem xe_strByte {i : Nat} {j : Int32} (hd : decode k.2.1 pc = .ok (.baload, 1)) (hi : i < 5) (hj : vp_in j (xlen.getD i 0)) (h : xEv k d (pc + 1) lv (.int ((xbyt.getD i []).getD j.toNatClampNeg 0) :: st) σ Post) : xEv k d pc lv (.int j :: .ref (220 + i) :: st) σ Post := by
  intro p l e s m args below meth c D y q A H locs ls hC hX hA hP hD hS hL
  exact va_tb hC.1 hC.2.1 (hX.2.1.2.2.2.2.2.1 i hi).2.2.2 hS hj rfl hd (h p l e s m args below meth c D y q A H locs ls hC hX hA hP hD hS hL)
theorem xe_copyi {c0 c1 n0 n1 idx : Nat} {t0 t1 : List Nat} {sp dp n : Int32} (hd : decode k.2.1 pc = .ok (.invokestatic idx, 3)) (hf : Cond.methodLink k.1.cls idx arraycopyName ∈ xtb) (hdd : 1 ≤ d) (hc0 : c0 < 138) (hs0 : xsh c0 = .inl (0, n0, t0)) (hc1 : c1 < 138) (hs1 : xsh c1 = .inl (0, n1, t1)) (h1 : ¬ sp < 0) (h2 : ¬ dp < 0) (h3 : ¬ n < 0) (h4 : sp.toNatClampNeg + n.toNatClampNeg ≤ n0) (h5 : dp.toNatClampNeg + n.toNatClampNeg ≤ n1) (hst : st = []) (h : xEv k d (pc + 3) lv st (xsA σ c1 (va_cpy (σ.2.1 c0) (σ.2.1 c1) sp.toNatClampNeg dp.toNatClampNeg n.toNatClampNeg)) Post) : xEv k d pc lv (.int n :: .int dp :: .ref c1 :: .int sp :: .ref c0 :: st) σ Post := by
  intro p l e s m args below meth c D y q A H locs ls hC hX hA hP hD hS hL
  subst hst
  refine va_copyi hC.1 hC.2.1 (hC.2.2.2.1.trans hL.1.symm) hC.2.2.2.2.1 (hC.2.2.2.2.2.1 _ hf) (hC.2.2.2.2.2.1 _ x_acN) (hC.2.2.2.2.2.1 _ x_acS) (hC.2.2.2.2.2.1 _ x_acI) hX.1 hP hD hS c0 c1 0 0 (xWi hc0 hs0 (by decide) (by decide)) (xWi hc1 hs1 (by decide) (by decide)) rfl rfl rfl h1 h2 h3 h4 h5 (fun _ _ => rfl) hdd (Nat.le_trans x_acL (by show 64 ≤ 64 * d; omega)) hd (fun H2 locs2 hP2 hD2 hS2 => ?_)
  rw [xset_A hc1 hs1 (by decide) (by decide)] at hP2 hD2
  exact h p l e s m args below meth c D y q A H2 locs2 ls hC hX hA hP2 hD2 hS2 hL
theorem xe_copyl {c0 c1 n0 n1 idx : Nat} {t0 t1 : List Nat} {sp dp n : Int32} (hd : decode k.2.1 pc = .ok (.invokestatic idx, 3)) (hf : Cond.methodLink k.1.cls idx arraycopyName ∈ xtb) (hdd : 1 ≤ d) (hc0 : c0 < 138) (hs0 : xsh c0 = .inl (3, n0, t0)) (hc1 : c1 < 138) (hs1 : xsh c1 = .inl (3, n1, t1)) (h1 : ¬ sp < 0) (h2 : ¬ dp < 0) (h3 : ¬ n < 0) (h4 : sp.toNatClampNeg + n.toNatClampNeg ≤ n0) (h5 : dp.toNatClampNeg + n.toNatClampNeg ≤ n1) (hst : st = []) (h : xEv k d (pc + 3) lv st (xsJ σ c1 (va_cpy (σ.2.2 c0) (σ.2.2 c1) sp.toNatClampNeg dp.toNatClampNeg n.toNatClampNeg)) Post) : xEv k d pc lv (.int n :: .int dp :: .ref c1 :: .int sp :: .ref c0 :: st) σ Post := by
  intro p l e s m args below meth c D y q A H locs ls hC hX hA hP hD hS hL
  subst hst
  refine va_copyl hC.1 hC.2.1 (hC.2.2.2.1.trans hL.1.symm) hC.2.2.2.2.1 (hC.2.2.2.2.2.1 _ hf) (hC.2.2.2.2.2.1 _ x_acN) (hC.2.2.2.2.2.1 _ x_acS) (hC.2.2.2.2.2.1 _ x_acI) hX.1 hP hD hS c0 c1 3 3 (xWl hc0 hs0) (xWl hc1 hs1) rfl rfl rfl h1 h2 h3 h4 h5 (fun _ _ => rfl) hdd (Nat.le_trans x_acL (by show 64 ≤ 64 * d; omega)) hd (fun H2 locs2 hP2 hD2 hS2 => ?_)
  rw [xset_J hc1 hs1] at hP2 hD2
  exact h p l e s m args below meth c D y q A H2 locs2 ls hC hX hA hP2 hD2 hS2 hL
theorem xe_iret {v : Int32} {ty : FieldType} (hd : decode k.2.1 pc = .ok (.ireturn, 1)) (hr : k.2.2.2 = some ty) (hn : narrow ty (.int v) = .int v) (h : Post (some (.int v)) σ) : xEv k d pc lv [.int v] σ Post := by
  intro p l e s m args below meth c D y q A H locs ls hC hX hA hP hD hS hL
  exact W.zret hC.1 hC.2.1 (hC.2.2.1.trans hr) hn (fun t ht hW => ⟨⟨some (.int v), σ, rfl, h, by rw [ht]; exact hP, hD⟩, hS.F ht⟩) hS.2.2 hd hC.2.2.2.2.2.2
theorem xe_lret {v : Int64} (hd : decode k.2.1 pc = .ok (.lreturn, 1)) (hr : k.2.2.2 = some .long) (h : Post (some (.long v)) σ) : xEv k d pc lv [.long v] σ Post := by
  intro p l e s m args below meth c D y q A H locs ls hC hX hA hP hD hS hL
  exact W.lret hC.1 hC.2.1 (hC.2.2.1.trans hr) (fun t ht hW => ⟨⟨some (.long v), σ, rfl, h, by rw [ht]; exact hP, hD⟩, hS.F ht⟩) hS.2.2 hd hC.2.2.2.2.2.2
theorem xe_vret (hd : decode k.2.1 pc = .ok (.return_, 1)) (hr : k.2.2.2 = none) (h : Post none σ) : xEv k d pc lv [] σ Post := by
  intro p l e s m args below meth c D y q A H locs ls hC hX hA hP hD hS hL
  exact W.vret hC.1 hC.2.1 (hC.2.2.1.trans hr) (fun t ht hW => ⟨⟨none, σ, rfl, h, by rw [ht]; exact hP, hD⟩, hS.F ht⟩) hS.2.2 hd hC.2.2.2.2.2.2
theorem xe_aret {v : Nat} {n : String} (hd : decode k.2.1 pc = .ok (.areturn, 1)) (hr : k.2.2.2 = some (.object n)) (h : Post (some (.ref v)) σ) : xEv k d pc lv [.ref v] σ Post := by
  intro p l e s m args below meth c D y q A H locs ls hC hX hA hP hD hS hL
  exact W.aret hC.1 hC.2.1 (hC.2.2.1.trans hr) (Or.inl ⟨n, rfl⟩) (Or.inr ⟨q v, rfl⟩) (fun t ht hW => ⟨⟨some (.ref v), σ, rfl, h, by rw [ht]; exact hP, hD⟩, hS.F ht⟩) hS.2.2 hd hC.2.2.2.2.2.2
theorem xe_aretN {n : String} (hd : decode k.2.1 pc = .ok (.areturn, 1)) (hr : k.2.2.2 = some (.object n)) (h : Post (some .null) σ) : xEv k d pc lv [.null] σ Post := by
  intro p l e s m args below meth c D y q A H locs ls hC hX hA hP hD hS hL
  exact W.aret hC.1 hC.2.1 (hC.2.2.1.trans hr) (Or.inl ⟨n, rfl⟩) (Or.inl rfl) (fun t ht hW => ⟨⟨some .null, σ, rfl, h, by rw [ht]; exact hP, hD⟩, hS.F ht⟩) hS.2.2 hd hC.2.2.2.2.2.2
end XMEM
end
section
/-! what is outside: it stays, and a called method sees it too -/
theorem xExt_call {q : Nat → Nat} {A B : Nat → Prop} {s U : State} {H0 H : Heap} (h : xExt q A s H0) (hvm : s.vm.Alike U.vm) (hq : ∀ a : Nat, a < H0.size → ¬ A a → H[a]? = H0[a]?) (hAB : ∀ a, B a → A a) : xExt q B U H :=
  ⟨((h.1.moved hvm).kept hq).narrow hAB, ((h.2.1.moved hvm).kept hq).narrow hAB, ((h.2.2.1.moved hvm).kept hq).narrow hAB, ((h.2.2.2.1.moved hvm).kept hq).narrow hAB, ((h.2.2.2.2.1.moved hvm).kept hq).narrow hAB, ((h.2.2.2.2.2.moved hvm).kept hq).narrow hAB⟩
theorem xTx_warm {q : Nat → Nat} {s U : State} (hW : s.WarmedH U.vm) (h : xTx q s) : xTx q U := ⟨h.1.warm hW, h.2.1.warm hW, h.2.2.1.warm hW, h.2.2.2.1.warm hW, h.2.2.2.2.warm hW⟩
theorem xTx_same {q : Nat → Nat} {s U : State} (hv : U.vm = s.vm) (h : xTx q s) : xTx q U := ⟨h.1.same hv, h.2.1.same hv, h.2.2.1.same hv, h.2.2.2.1.same hv, h.2.2.2.2.same hv⟩
theorem xNs_warm {s U : State} (hW : s.WarmedH U.vm) (h : xNs s) : xNs U := ⟨h.1.warmM hW, h.2.1.warmM hW, h.2.2.warmF hW⟩
theorem xNs_same {s U : State} (hv : s.vm = U.vm) (h : xNs s) : xNs U := ⟨h.1.same rfl hv, h.2.1.same rfl hv, h.2.2.same rfl hv⟩
theorem x_free {A : Nat → Prop} {y : Nat → ClassId} {q : Nat → Nat} {σ : xSt} {H0 H : Heap} {locs : List Loc} (hD : va_D A (xW y q σ)) (hS : va_S A H0 H locs) (hA : ∀ a, H0.size ≤ a → A a) : ∀ a, va_A (xW y q σ) H.size a → A a := by
  intro a h
  rcases h with ⟨i, e, h⟩ | h
  · exact hD.2 i (a, e) h
  · exact hA a (Nat.le_trans hS.1 h)
theorem xWx_call {D : va_G} {y : Nat → ClassId} {q : Nat → Nat} {A : Nat → Prop} {σ : xSt} {s U : State} {H : Heap} {locs : List Loc} (h : xWx D y q A s s.heap) (hA : ∀ a, s.heap.size ≤ a → A a) (hD : va_D A (xW y q σ)) (hS : va_S A s.heap H locs) (hU : U.heap = H) (hW : s.WarmedH U.vm) : xWx D y q (va_A (xW y q σ) H.size) U U.heap :=
  ⟨va_K.moved hW.alike h.1, xExt_call h.2.1 hW.alike (fun a h1 h2 => by rw [hU]; exact hS.2.1 a h1 h2) (x_free hD hS hA), xTx_warm hW h.2.2.1, xNs_warm hW h.2.2.2⟩
/-- a called method's start -/
def xB (D : va_G) (y : Nat → ClassId) (q : Nat → Nat) (σ : xSt) (sz : Nat) (U : State) : Prop := U.heap.size = sz ∧ va_P D vwCl (xW y q σ) U.heap ∧ va_D (fun _ => True) (xW y q σ) ∧ xWx D y q (va_A (xW y q σ) sz) U U.heap
theorem xB_blind {D : va_G} {y : Nat → ClassId} {q : Nat → Nat} {σ : xSt} {sz : Nat} {av : List Value} : FrameBlind (va_Pc av (xB D y q σ sz)) := by
  intro a U g mk h
  obtain ⟨h0, h1, h2, h3, h4, h5, h6, h7⟩ := h
  exact ⟨h0, h1, h2, h3, va_K.moved (u := U) (U := U.calling g mk a) (Vm.Alike.refl U.vm) h4, xExt_call (s := U) (U := U.calling g mk a) h5 (Vm.Alike.refl U.vm) (fun _ _ _ => rfl) (fun _ z => z), xTx_same (s := U) (U := U.calling g mk a) rfl h6, xNs_same (s := U) (U := U.calling g mk a) rfl h7⟩
/-- the locals at a method's entry -/
def xen (vs : List Value) (n : Nat) : List (Option Value) := (List.range n).map (fun i => ((lv_args 0 vs).find? (fun w => w.1 == i)).map (fun w => w.2))
theorem lv_args_map (q : Nat → Nat) : ∀ (vs : List Value) (i : Nat), lv_args i (vs.map (cv q)) = (lv_args i vs).map (fun w => (w.1, cv q w.2)) := by
  intro vs
  induction vs with
  | nil => intro i; rfl
  | cons v vs ih => intro i; simp only [List.map_cons, lv_args, cv_cat, ih]
theorem lg_sl_map (q : Nat → Nat) (vs : List Value) : (lg_sl (vs.map (cv q))).length = (lg_sl vs).length := by
  induction vs with
  | nil => rfl
  | cons v vs ih =>
    have e : ∀ (w : Value) (ws : List Value), (lg_sl (w :: ws)).length = (if w.category = 2 then 2 else 1) + (lg_sl ws).length := by
      intro w ws
      unfold lg_sl
      rw [List.flatMap_cons, List.length_append]
      congr 1
      split <;> rfl
    rw [List.map_cons, e, e, cv_cat, ih]
theorem xL_entry (q : Nat → Nat) (vs : List Value) (n : Nat) (h : (lg_sl vs).length ≤ n) : xL q ((lg_sl (vs.map (cv q)) ++ List.replicate (n - (lg_sl (vs.map (cv q))).length) Slot.unset).toArray) n (xen vs n) := by
  have h0 := lv_entry (vs.map (cv q)) (n := n) (by rw [lg_sl_map]; exact h)
  refine ⟨h0.1, h0.2.1, fun i v hv => ?_⟩
  unfold xen at hv
  rw [List.getElem?_map] at hv
  cases hr : (List.range n)[i]? with
  | none => rw [hr] at hv; cases hv
  | some j =>
    rw [hr] at hv
    have hj : j = i := by
      have := List.getElem?_eq_some_iff.mp hr
      obtain ⟨h1, h2⟩ := this
      simpa using h2.symm
    subst hj
    simp only [Option.map_some, Option.some.injEq] at hv
    cases hf : (lv_args 0 vs).find? (fun w => w.1 == j) with
    | none => rw [hf] at hv; cases hv
    | some w =>
      rw [hf] at hv
      simp only [Option.map_some, Option.some.injEq] at hv
      have hm := List.mem_of_find?_eq_some hf
      have he : w.1 = j := by simpa using List.find?_some hf
      have := h0.2.2 (w.1, cv q w.2) (by rw [lv_args_map]; exact List.mem_map.mpr ⟨w, hm, rfl⟩)
      rw [hv, he] at this
      exact this
/-- a method's own facts: its code among the tables, how many parameters it has -/
def xOk (k : xMD) (n : Nat) : Prop := plainName k.1.cls = true ∧ Cond.code k.1 k.2.1 k.2.2.1 k.2.2.2 ∈ xtb ∧ Cond.initialized k.1.cls ∈ xtb ∧ (k.1.cls ≠ "java/lang/invoke/MethodHandle" ∧ k.1.cls ≠ "java/lang/invoke/VarHandle" ∧ (parseMethodDescriptor k.1.desc).map (fun d => d.parameters.length) = some n) ∧ k.2.2.1 ≤ 45
theorem xEv.met {k : xMD} {n d : Nat} {vs : List Value} {σ : xSt} {Post : Option Value → xSt → Prop} (hk : xOk k n) (hlen : (lg_sl vs).length ≤ k.2.2.1) (h : xEv k d 0 (xen vs k.2.2.1) [] σ Post) (l : Launch) (D : va_G) (y : Nat → ClassId) (q : Nat → Nat) (sz : Nat) :
    Met l k.1 (xws k) (xrm d) (va_Pc (vs.map (cv q)) (xB D y q σ sz)) (xQ D y q Post (va_A (xW y q σ) sz)) 0 0 (va_A (xW y q σ) sz) := by
  refine Met.ofW (cc := k.2.1) (maxL := k.2.2.1) (ret := k.2.2.2) hk.1 rfl ?_
  intro p e s m args below meth c s₁ B hml hv
  obtain ⟨rfl, hsz, hP, hD0, hX⟩ := hv
  have hts := atoms_spec (ws := xws k) B.pre
  have hown : s.vm.findClass k.1.cls = some m.cls := findClass_of_methodNamed B.named
  subst hsz
  have hD := hD0.self (sz := s.heap.size)
  rw [lg_entry_eq]
  exact h p l e s m _ below meth c D y q _ s.heap [] _ ⟨B.exec, B.bytes, B.returns, hml, hown, fun w hw => hts w (List.mem_cons_of_mem _ hw), B.notSynchronized⟩ hX (fun a ha => Or.inr ha) hP hD va_S.rf (xL_entry q vs _ hlen)
theorem x_goodIn {k : xMD} {n : Nat} (hk : xOk k n) : GoodIn xtb (xws k) := by
  intro w hw
  rcases List.mem_cons.mp hw with rfl | hw
  · exact ⟨hk.2.1, good_of_word (xtb_good hk.2.1)⟩
  · exact ⟨hw, good_of_word (xtb_good hw)⟩
/-- what a call leaves on the stack -/
abbrev xps (r : Option Value) (st : List Value) : List Value := match r with | some v => v :: st | none => st
section XCALL
variable {k k2 : xMD} {d pc n idx : Nat} {lv : List (Option Value)} {st stk vs : List Value} {σ : xSt} {Post : Option Value → xSt → Prop}
/-- behind a call: the run of it goes on with what the called method's end says -/
theorem x_behind {p : Program} {l : Launch} {e : Env} {s : State} {m : MethodId} {args : Array Value} {below : List Frame} {meth : Method} {c : Code} {D : va_G} {y : Nat → ClassId} {q : Nat → Nat} {A : Nat → Prop} {H : Heap} {locs : List Loc} {ls : Array Slot} {a : Array Value}
    (hC : xCx k p s m args meth c) (hX : xWx D y q A s s.heap) (hA : ∀ a, s.heap.size ≤ a → A a) (hD : va_D A (xW y q σ)) (hS : va_S A s.heap H locs) (hL : xL q ls k.2.2.1 lv)
    (hr : va_Run p l e (xrm (d + 1)) s m args below meth c H locs 0 0 0 0 (F0 m pc ls (stk.map (cv q))) (st.map (cv q)) (xQ D y q (fun r σ' => xEv k (d + 1) (pc + 3) lv (xps r st) σ' Post) (va_A (xW y q σ) H.size) a) (va_A (xW y q σ) H.size)) :
    W p l e (xrm (d + 1)) s m args below meth c H locs 0 0 (MQ below (xQ D y q Post A) args s 0 0 A) (F0 m pc ls (stk.map (cv q))) := by
  intro T hT X
  obtain ⟨v, st₀, t, T', L, h0, X', hL', e1, e2, ⟨⟨r, σ', hv, hpost, hP', hD'⟩, hz, hk⟩, stp⟩ := hr T hT X
  cases hv
  rw [h0] at hz hk
  have hf := x_free hD hS hA
  obtain ⟨t2, a1, b1⟩ := hpost p l e s m args below meth c D y q A T'.heap (locs ++ L) ls hC hX hA (by rw [e1]; exact hP') (hD'.weaken (fun _ w _ z => hf w.1 z))
    ⟨Nat.le_trans hS.1 (by rw [e1]; exact hz), fun b h1 h2 => by rw [e1, hk b (Nat.lt_of_lt_of_le h1 hS.1) (fun z => h2 (hf b z))]; exact hS.2.1 b h1 h2, fun b hb => by
      rcases List.mem_append.mp hb with h | h
      · exact hS.2.2 b h
      · exact hf _ (hL' b h)⟩ hL T' rfl X'
  refine ⟨t2, stp t2 ?_, b1⟩
  have e3 : (r.map (cv q)).toList ++ st.map (cv q) = (xps r st).map (cv q) := by cases r <;> simp [xps]
  rw [e3]
  exact a1
theorem x_pre {s : State} {D : va_G} {y : Nat → ClassId} {q : Nat → Nat} {A : Nat → Prop} {H : Heap} {locs : List Loc} (hX : xWx D y q A s s.heap) (hA : ∀ a, s.heap.size ≤ a → A a) (hP : va_P D vwCl (xW y q σ) H) (hD : va_D A (xW y q σ)) (hS : va_S A s.heap H locs) (av : List Value) : FrameBlind (va_Pc av (xB D y q σ H.size)) ∧ ∀ U : State, U.heap = H → s.WarmedH U.vm → va_Pc av (xB D y q σ H.size) av.toArray U :=
  ⟨xB_blind, fun U hU hW => ⟨rfl, by rw [hU], by rw [hU]; exact hP, hD.weaken (fun _ _ _ _ => trivial), xWx_call hX hA hD hS hU hW⟩⟩
theorem x_room (hk : k.2.2.1 ≤ 45) : (xrm d).frames + 1 ≤ (xrm (d + 1)).frames ∧ 8 + (k.2.2.1 + 11) + (xrm d).locals ≤ (xrm (d + 1)).locals := ⟨Nat.le_refl _, by show 8 + (k.2.2.1 + 11) + 64 * d ≤ 64 * (d + 1); omega⟩
theorem x_stack (hstk : stk = vs.reverse ++ st) (q : Nat → Nat) : stk.map (cv q) = (vs.map (cv q)).reverse ++ st.map (cv q) := by rw [hstk, List.map_append, List.map_reverse]
/-- a static method -/
theorem xe_calls (hd : decode k.2.1 pc = .ok (.invokestatic idx, 3)) (hk : xOk k2 n) (hl : Cond.methodLink k.1.cls idx k2.1 ∈ xtb) (hs : Cond.static k2.1 ∈ xtb) (hstk : stk = vs.reverse ++ st) (hn : vs.length = n) (hcat : (st.map fun v => v.category).sum ≤ 8) (hlen : (lg_sl vs).length ≤ k2.2.2.1)
    (h : xEv k2 d 0 (xen vs k2.2.2.1) [] σ (fun r σ' => xEv k (d + 1) (pc + 3) lv (xps r st) σ' Post)) : xEv k (d + 1) pc lv stk σ Post := by
  intro p l e s m args below meth c D y q A H locs ls hC hX hA hP hD hS hL
  refine x_behind (k := k) hC hX hA hD hS hL (va_runS (n := n) (bytes := k2.2.1) (maxL := k2.2.2.1) (ret := k2.2.2.2) (As := vs.map (cv q)) ⟨hC.1, hC.2.1, hC.2.2.2.1, hC.2.2.2.2.1, hC.2.2.2.2.2.1⟩ (h.met hk hlen l D y q H.size) ?_ (x_pre hX hA hP hD hS _) rfl (by rw [List.length_map]; exact hn) hL.1 (x_stack hstk q) (lv_room (by rw [cv_cats]; exact hcat)) hd ⟨Nat.le_refl _, Nat.le_refl _⟩)
  exact ⟨callB_of n hC.2.2.2.2.2.1 (x_goodIn hk) rfl rfl rfl (hC.2.2.2.2.2.1 _ hk.2.2.1) (hC.2.2.2.2.2.1 _ hl) hk.2.2.2.1 (x_room hk.2.2.2.2), hC.2.2.2.2.2.1 _ hs⟩
/-- what the receiver is: an object of the pool, or a text -/
def xRec (C : String) (b : Nat) : Prop := (∃ (ci : Nat) (rs : List (Option Nat)) (r : vw_C), b < 138 ∧ xsh b = .inr (ci, rs) ∧ vwCl[ci]? = some r ∧ r.1 = C) ∨ (C = "java/lang/String" ∧ ∃ i, i < 5 ∧ b = 210 + i)
theorem xRec.use {C : String} {b : Nat} {s : State} {D : va_G} {y : Nat → ClassId} {q : Nat → Nat} {A : Nat → Prop} {H : Heap} {locs : List Loc} (hr : xRec C b) (hX : xWx D y q A s s.heap) (hP : va_P D vwCl (xW y q σ) H) (hS : va_S A s.heap H locs) : ∃ cellB : Cell, H[q b]? = some cellB ∧ cellB.vm.isStatics = false ∧ s.vm.findClass C = some cellB.cls := by
  rcases hr with ⟨ci, rs, r, h1, h2, h3, rfl⟩ | ⟨rfl, i, hi, rfl⟩
  · exact va_recv hX.1 hP h3 (xWo h1 h2)
  · exact vk_recv (i := i) (adK := fun i => q (210 + i)) (adV := fun i => q (220 + i)) hX.2.1.2.2.2.2.2 hi hS
/-- an instance method -/
theorem xe_callv {b : Nat} (hd : decode k.2.1 pc = .ok (.invokevirtual idx, 3)) (hk : xOk k2 n) (hl : Cond.methodLink k.1.cls idx k2.1 ∈ xtb) (hi : Cond.instanceMethod k2.1 ∈ xtb) (hsel : Cond.selects k2.1.cls k2.1 k2.1 ∈ xtb) (hrec : xRec k2.1.cls b) (hstk : stk = (Value.ref b :: vs).reverse ++ st) (hn : vs.length = n) (hcat : (st.map fun v => v.category).sum ≤ 8) (hlen : (lg_sl (Value.ref b :: vs)).length ≤ k2.2.2.1)
    (h : xEv k2 d 0 (xen (Value.ref b :: vs) k2.2.2.1) [] σ (fun r σ' => xEv k (d + 1) (pc + 3) lv (xps r st) σ' Post)) : xEv k (d + 1) pc lv stk σ Post := by
  intro p l e s m args below meth c D y q A H locs ls hC hX hA hP hD hS hL
  have hp := x_pre hX hA hP hD hS ((Value.ref b :: vs).map (cv q))
  refine x_behind (k := k) hC hX hA hD hS hL (va_runV (n := n) (bytes := k2.2.1) (maxL := k2.2.2.1) (ret := k2.2.2.2) (C := k2.1.cls) (b := q b) (As := vs.map (cv q)) ⟨hC.1, hC.2.1, hC.2.2.2.1, hC.2.2.2.2.1, hC.2.2.2.2.2.1⟩ (h.met hk hlen l D y q H.size) ?_ ⟨hp.1, hrec.use hX hP hS, hp.2⟩ rfl (by rw [List.length_map]; exact hn) hL.1 ?_ (lv_room (by rw [cv_cats]; exact hcat)) hd ⟨Nat.le_refl _, Nat.le_refl _⟩)
  · exact ⟨callB_of n hC.2.2.2.2.2.1 (x_goodIn hk) rfl rfl rfl (hC.2.2.2.2.2.1 _ hk.2.2.1) (hC.2.2.2.2.2.1 _ hl) hk.2.2.2.1 (x_room hk.2.2.2.2), hC.2.2.2.2.2.1 _ hi, hC.2.2.2.2.2.1 _ hsel⟩
  · show stk.map (cv q) = _
    rw [x_stack hstk q]
    simp [cv]
/-- the two calls of a nest mate's private methods -/
theorem xe_callIsIn (hk0 : k.1.cls = RX2) (hd : decode k.2.1 pc = .ok (.invokestatic 28, 3)) (hk : xOk k2 n) (hy : k2.1 = yX8_isIn) (hs : Cond.static k2.1 ∈ xtb) (hstk : stk = vs.reverse ++ st) (hn : vs.length = n) (hcat : (st.map fun v => v.category).sum ≤ 8) (hlen : (lg_sl vs).length ≤ k2.2.2.1)
    (h : xEv k2 d 0 (xen vs k2.2.2.1) [] σ (fun r σ' => xEv k (d + 1) (pc + 3) lv (xps r st) σ' Post)) : xEv k (d + 1) pc lv stk σ Post := by
  intro p l e s m args below meth c D y q A H locs ls hC hX hA hP hD hS hL
  refine x_behind (k := k) hC hX hA hD hS hL (va_runSN (n := n) (bytes := k2.2.1) (maxL := k2.2.2.1) (ret := k2.2.2.2) (own := RX2) (host := RX8) (As := vs.map (cv q)) ⟨hC.1, hC.2.1, hC.2.2.2.1, hk0 ▸ hC.2.2.2.2.1, hC.2.2.2.2.2.1⟩ (h.met hk hlen l D y q H.size) ?_ (x_pre hX hA hP hD hS _) rfl (by rw [List.length_map]; exact hn) hL.1 (x_stack hstk q) (lv_room (by rw [cv_cats]; exact hcat)) hd ⟨Nat.le_refl _, Nat.le_refl _⟩)
  exact ⟨va_cnB n hC.2.2.2.2.2.1 (x_goodIn hk) rfl rfl rfl (hy ▸ hX.2.2.2.1) (hC.2.2.2.2.2.1 _ hk.2.2.1) hk.2.2.2.1 (x_room hk.2.2.2.2), hC.2.2.2.2.2.1 _ hs, trivial⟩
theorem xe_callPerform {b : Nat} (hk0 : k.1.cls = RX8) (hd : decode k.2.1 pc = .ok (.invokevirtual 342, 3)) (hk : xOk k2 n) (hy : k2.1 = yX0_perform) (hi : Cond.instanceMethod k2.1 ∈ xtb) (hsel : Cond.selects k2.1.cls k2.1 k2.1 ∈ xtb) (hrec : xRec k2.1.cls b) (hstk : stk = (Value.ref b :: vs).reverse ++ st) (hn : vs.length = n) (hcat : (st.map fun v => v.category).sum ≤ 8) (hlen : (lg_sl (Value.ref b :: vs)).length ≤ k2.2.2.1)
    (h : xEv k2 d 0 (xen (Value.ref b :: vs) k2.2.2.1) [] σ (fun r σ' => xEv k (d + 1) (pc + 3) lv (xps r st) σ' Post)) : xEv k (d + 1) pc lv stk σ Post := by
  intro p l e s m args below meth c D y q A H locs ls hC hX hA hP hD hS hL
  have hp := x_pre hX hA hP hD hS ((Value.ref b :: vs).map (cv q))
  refine x_behind (k := k) hC hX hA hD hS hL (va_runVN (n := n) (bytes := k2.2.1) (maxL := k2.2.2.1) (ret := k2.2.2.2) (own := RX8) (host := RX8) (C := k2.1.cls) (b := q b) (As := vs.map (cv q)) ⟨hC.1, hC.2.1, hC.2.2.2.1, hk0 ▸ hC.2.2.2.2.1, hC.2.2.2.2.2.1⟩ (h.met hk hlen l D y q H.size) ?_ ⟨hp.1, hrec.use hX hP hS, hp.2⟩ rfl (by rw [List.length_map]; exact hn) hL.1 ?_ (lv_room (by rw [cv_cats]; exact hcat)) hd ⟨Nat.le_refl _, Nat.le_refl _⟩)
  · exact ⟨va_cnB n hC.2.2.2.2.2.1 (x_goodIn hk) rfl rfl rfl (hy ▸ hX.2.2.2.2.1) (hC.2.2.2.2.2.1 _ hk.2.2.1) hk.2.2.2.1 (x_room hk.2.2.2.2), hC.2.2.2.2.2.1 _ hi, hC.2.2.2.2.2.1 _ hsel⟩
  · show stk.map (cv q) = _
    rw [x_stack hstk q]
    simp [cv]
/-- another name for what lies on top -/
theorem xe_top {x x2 : Int32} (hx : x = x2) (h : xEv k d pc lv (.int x2 :: st) σ Post) : xEv k d pc lv (.int x :: st) σ Post := hx ▸ h
theorem xe_st {σ2 : xSt} (hs : σ = σ2) (h : xEv k d pc lv st σ2 Post) : xEv k d pc lv st σ Post := hs ▸ h
/-- weaker ends -/
theorem xEv.imp {Post2 : Option Value → xSt → Prop} (h : xEv k d pc lv st σ Post) (hi : ∀ r σ', Post r σ' → Post2 r σ') : xEv k d pc lv st σ Post2 := by
  intro p l e s m args below meth c D y q A H locs ls hC hX hA hP hD hS hL T hT X
  obtain ⟨t, a1, o, b1, b2, ⟨⟨r, σ', c1, c2, c3⟩, c4⟩, b4⟩ := h p l e s m args below meth c D y q A H locs ls hC hX hA hP hD hS hL T hT X
  exact ⟨t, a1, o, b1, b2, ⟨⟨r, σ', c1, hi r σ' c2, c3⟩, c4⟩, b4⟩
end XCALL
end
section
/-! the methods, and the tables' words by their places -/
theorem xT1 (n : Nat) {w : Cond} (h : tables_1_1[n]? = some w) (hg : goodWord w = true) : w ∈ xtb := xtb_in (List.mem_append_right _ (List.mem_append_left _ (List.mem_of_getElem? h))) hg
theorem xT2 (n : Nat) {w : Cond} (h : tables_1_2[n]? = some w) (hg : goodWord w = true) : w ∈ xtb := xtb_in (List.mem_append_right _ (List.mem_append_right _ (List.mem_append_left _ (List.mem_of_getElem? h)))) hg
theorem xT3 (n : Nat) {w : Cond} (h : tables_1_3[n]? = some w) (hg : goodWord w = true) : w ∈ xtb := xtb_in (List.mem_append_right _ (List.mem_append_right _ (List.mem_append_right _ (List.mem_append_left _ (List.mem_of_getElem? h))))) hg
theorem xT4 (n : Nat) {w : Cond} (h : tables_1_4[n]? = some w) (hg : goodWord w = true) : w ∈ xtb := xtb_in (List.mem_append_right _ (List.mem_append_right _ (List.mem_append_right _ (List.mem_append_right _ (List.mem_append_left _ (List.mem_of_getElem? h)))))) hg
theorem xT5 (n : Nat) {w : Cond} (h : tables_1_5[n]? = some w) (hg : goodWord w = true) : w ∈ xtb := xtb_in (List.mem_append_right _ (List.mem_append_right _ (List.mem_append_right _ (List.mem_append_right _ (List.mem_append_right _ (List.mem_append_left _ (List.mem_of_getElem? h))))))) hg
theorem xT6 (n : Nat) {w : Cond} (h : tables_1_6[n]? = some w) (hg : goodWord w = true) : w ∈ xtb := xtb_in (List.mem_append_right _ (List.mem_append_right _ (List.mem_append_right _ (List.mem_append_right _ (List.mem_append_right _ (List.mem_append_right _ (List.mem_of_getElem? h))))))) hg
theorem xT (n : Nat) {w : Cond} (h : tables_1[n]? = some w) (hg : goodWord w = true) : w ∈ xtb := xtb_in (List.mem_append_right _ (List.mem_of_getElem? h)) hg
theorem xTs (n : Nat) {w : Cond} (h : (k2_sels lw_privs)[n]? = some w) (hg : goodWord w = true) : w ∈ xtb := xtb_in (List.mem_append_left _ (List.mem_of_getElem? h)) hg
theorem iniX8 : Cond.initialized RX8 ∈ xtb := xT1 1 rfl rfl
theorem iniX5 : Cond.initialized RX5 ∈ xtb := xT1 2 rfl rfl
theorem iniX4 : Cond.initialized RX4 ∈ xtb := xT1 3 rfl rfl
theorem iniX3 : Cond.initialized RX3 ∈ xtb := xT1 4 rfl rfl
theorem iniX7 : Cond.initialized RX7 ∈ xtb := xT1 5 rfl rfl
theorem iniX1 : Cond.initialized RX1 ∈ xtb := xT1 6 rfl rfl
theorem iniX2 : Cond.initialized RX2 ∈ xtb := xT1 7 rfl rfl
theorem iniX0 : Cond.initialized RX0 ∈ xtb := xT1 8 rfl rfl
theorem iniX6 : Cond.initialized RX6 ∈ xtb := xT1 9 rfl rfl
theorem iniX9 : Cond.initialized RX9 ∈ xtb := xT1 10 rfl rfl
theorem iniJ7 : Cond.initialized RJ7 ∈ xtb := xT1 11 rfl rfl
theorem iniJ10 : Cond.initialized RJ10 ∈ xtb := xT1 12 rfl rfl
theorem iniJ9 : Cond.initialized RJ9 ∈ xtb := xT1 13 rfl rfl
theorem iniJ0 : Cond.initialized RJ0 ∈ xtb := xT1 14 rfl rfl
theorem iniJ1 : Cond.initialized RJ1 ∈ xtb := xT1 15 rfl rfl
theorem iniJ3 : Cond.initialized RJ3 ∈ xtb := xT1 16 rfl rfl
theorem iniJ2 : Cond.initialized RJ2 ∈ xtb := xT1 17 rfl rfl
theorem iniJ11 : Cond.initialized RJ11 ∈ xtb := xT1 18 rfl rfl
theorem iniJ6 : Cond.initialized RJ6 ∈ xtb := xT1 19 rfl rfl
theorem inxX0 : ∀ w ∈ wsX00, w ∈ xtb := fun w h => xtb_in (inX0 w h) (List.all_eq_true.mp (show wsX00.all goodWord = true by decide +kernel) w h)
theorem inxX1 : ∀ w ∈ wsX10, w ∈ xtb := fun w h => xtb_in (inX1 w h) (List.all_eq_true.mp (show wsX10.all goodWord = true by decide +kernel) w h)
theorem inxX2 : ∀ w ∈ wsX20, w ∈ xtb := fun w h => xtb_in (inX2 w h) (List.all_eq_true.mp (show wsX20.all goodWord = true by decide +kernel) w h)
theorem inxX3 : ∀ w ∈ wsX30, w ∈ xtb := fun w h => xtb_in (inX3 w h) (List.all_eq_true.mp (show wsX30.all goodWord = true by decide +kernel) w h)
theorem inxX4 : ∀ w ∈ wsX40, w ∈ xtb := fun w h => xtb_in (inX4 w h) (List.all_eq_true.mp (show wsX40.all goodWord = true by decide +kernel) w h)
theorem inxX5 : ∀ w ∈ wsX50, w ∈ xtb := fun w h => xtb_in (inX5 w h) (List.all_eq_true.mp (show wsX50.all goodWord = true by decide +kernel) w h)
theorem inxX6 : ∀ w ∈ wsX60, w ∈ xtb := fun w h => xtb_in (inX6 w h) (List.all_eq_true.mp (show wsX60.all goodWord = true by decide +kernel) w h)
theorem inxX7 : ∀ w ∈ wsX70, w ∈ xtb := fun w h => xtb_in (inX7 w h) (List.all_eq_true.mp (show wsX70.all goodWord = true by decide +kernel) w h)
theorem inxX8 : ∀ w ∈ wsX80, w ∈ xtb := fun w h => xtb_in (inX8 w h) (List.all_eq_true.mp (show wsX80.all goodWord = true by decide +kernel) w h)
theorem inxX9 : ∀ w ∈ wsX90, w ∈ xtb := fun w h => xtb_in (inX9 w h) (List.all_eq_true.mp (show wsX90.all goodWord = true by decide +kernel) w h)
abbrev kX0_init : xMD := (yX0_init, cX0_init, 1, none)
theorem okX0_init : xOk kX0_init 0 := ⟨by decide +kernel, xT1 202 rfl rfl, iniX0, ⟨by decide +kernel, by decide +kernel, by decide +kernel⟩, by decide⟩
theorem imX0_init : Cond.instanceMethod yX0_init ∈ xtb := xT1 201 rfl rfl
abbrev kX0_forget : xMD := (yX0_forget, cX0_forget, 1, none)
theorem okX0_forget : xOk kX0_forget 0 := ⟨by decide +kernel, xT4 29 rfl rfl, iniX0, ⟨by decide +kernel, by decide +kernel, by decide +kernel⟩, by decide⟩
theorem imX0_forget : Cond.instanceMethod yX0_forget ∈ xtb := xT4 27 rfl rfl
theorem slX0_forget : Cond.selects RX0 yX0_forget yX0_forget ∈ xtb := xT4 28 rfl rfl
abbrev kX0_keptCount : xMD := (yX0_keptCount, cX0_keptCount, 1, (some .int))
theorem okX0_keptCount : xOk kX0_keptCount 0 := ⟨by decide +kernel, xT4 53 rfl rfl, iniX0, ⟨by decide +kernel, by decide +kernel, by decide +kernel⟩, by decide⟩
theorem imX0_keptCount : Cond.instanceMethod yX0_keptCount ∈ xtb := xT4 51 rfl rfl
theorem slX0_keptCount : Cond.selects RX0 yX0_keptCount yX0_keptCount ∈ xtb := xT4 52 rfl rfl
abbrev kX0_note : xMD := (yX0_note, cX0_note, 2, none)
theorem okX0_note : xOk kX0_note 1 := ⟨by decide +kernel, xT4 44 rfl rfl, iniX0, ⟨by decide +kernel, by decide +kernel, by decide +kernel⟩, by decide⟩
theorem imX0_note : Cond.instanceMethod yX0_note ∈ xtb := xT4 43 rfl rfl
theorem slX0_note : Cond.selects RX0 yX0_note yX0_note ∈ xtb := xTs 29 rfl rfl
abbrev kX0_bodyFrom : xMD := (yX0_bodyFrom, cX0_bodyFrom, 4, (some .int))
theorem okX0_bodyFrom : xOk kX0_bodyFrom 2 := ⟨by decide +kernel, xT4 36 rfl rfl, iniX0, ⟨by decide +kernel, by decide +kernel, by decide +kernel⟩, by decide⟩
theorem stX0_bodyFrom : Cond.static yX0_bodyFrom ∈ xtb := xT4 35 rfl rfl
abbrev kX0_perform : xMD := (yX0_perform, cX0_perform, 8, (some .int))
theorem okX0_perform : xOk kX0_perform 5 := ⟨by decide +kernel, xT4 33 rfl rfl, iniX0, ⟨by decide +kernel, by decide +kernel, by decide +kernel⟩, by decide⟩
theorem imX0_perform : Cond.instanceMethod yX0_perform ∈ xtb := xT4 32 rfl rfl
theorem slX0_perform : Cond.selects RX0 yX0_perform yX0_perform ∈ xtb := xTs 28 rfl rfl
abbrev kX1_init : xMD := (yX1_init, cX1_init, 1, none)
theorem okX1_init : xOk kX1_init 0 := ⟨by decide +kernel, xT1 165 rfl rfl, iniX1, ⟨by decide +kernel, by decide +kernel, by decide +kernel⟩, by decide⟩
theorem imX1_init : Cond.instanceMethod yX1_init ∈ xtb := xT1 164 rfl rfl
abbrev kX1_startAnew : xMD := (yX1_startAnew, cX1_startAnew, 1, none)
theorem okX1_startAnew : xOk kX1_startAnew 0 := ⟨by decide +kernel, xT2 166 rfl rfl, iniX1, ⟨by decide +kernel, by decide +kernel, by decide +kernel⟩, by decide⟩
theorem imX1_startAnew : Cond.instanceMethod yX1_startAnew ∈ xtb := xT2 164 rfl rfl
theorem slX1_startAnew : Cond.selects RX1 yX1_startAnew yX1_startAnew ∈ xtb := xT2 165 rfl rfl
abbrev kX1_append : xMD := (yX1_append, cX1_append, 3, none)
theorem okX1_append : xOk kX1_append 2 := ⟨by decide +kernel, xT3 70 rfl rfl, iniX1, ⟨by decide +kernel, by decide +kernel, by decide +kernel⟩, by decide⟩
theorem imX1_append : Cond.instanceMethod yX1_append ∈ xtb := xT3 68 rfl rfl
theorem slX1_append : Cond.selects RX1 yX1_append yX1_append ∈ xtb := xT3 69 rfl rfl
abbrev kX1_sum : xMD := (yX1_sum, cX1_sum, 9, (some .int))
theorem okX1_sum : xOk kX1_sum 2 := ⟨by decide +kernel, xT2 89 rfl rfl, iniX1, ⟨by decide +kernel, by decide +kernel, by decide +kernel⟩, by decide⟩
theorem imX1_sum : Cond.instanceMethod yX1_sum ∈ xtb := xT2 87 rfl rfl
theorem slX1_sum : Cond.selects RX1 yX1_sum yX1_sum ∈ xtb := xT2 88 rfl rfl
abbrev kX1_holds : xMD := (yX1_holds, cX1_holds, 6, (some .boolean))
theorem okX1_holds : xOk kX1_holds 4 := ⟨by decide +kernel, xT2 92 rfl rfl, iniX1, ⟨by decide +kernel, by decide +kernel, by decide +kernel⟩, by decide⟩
theorem stX1_holds : Cond.static yX1_holds ∈ xtb := xT2 91 rfl rfl
abbrev kX2_init : xMD := (yX2_init, cX2_init, 1, none)
theorem okX2_init : xOk kX2_init 0 := ⟨by decide +kernel, xT1 183 rfl rfl, iniX2, ⟨by decide +kernel, by decide +kernel, by decide +kernel⟩, by decide⟩
theorem imX2_init : Cond.instanceMethod yX2_init ∈ xtb := xT1 182 rfl rfl
abbrev kX2_startAnew : xMD := (yX2_startAnew, cX2_startAnew, 1, none)
theorem okX2_startAnew : xOk kX2_startAnew 0 := ⟨by decide +kernel, xT3 93 rfl rfl, iniX2, ⟨by decide +kernel, by decide +kernel, by decide +kernel⟩, by decide⟩
theorem imX2_startAnew : Cond.instanceMethod yX2_startAnew ∈ xtb := xT3 91 rfl rfl
theorem slX2_startAnew : Cond.selects RX2 yX2_startAnew yX2_startAnew ∈ xtb := xT3 92 rfl rfl
abbrev kX2_narrow : xMD := (yX2_narrow, cX2_narrow, 6, none)
theorem okX2_narrow : xOk kX2_narrow 3 := ⟨by decide +kernel, xT3 97 rfl rfl, iniX2, ⟨by decide +kernel, by decide +kernel, by decide +kernel⟩, by decide⟩
theorem imX2_narrow : Cond.instanceMethod yX2_narrow ∈ xtb := xT3 95 rfl rfl
theorem slX2_narrow : Cond.selects RX2 yX2_narrow yX2_narrow ∈ xtb := xT3 96 rfl rfl
abbrev kX2_size : xMD := (yX2_size, cX2_size, 1, (some .int))
theorem okX2_size : xOk kX2_size 0 := ⟨by decide +kernel, xT3 101 rfl rfl, iniX2, ⟨by decide +kernel, by decide +kernel, by decide +kernel⟩, by decide⟩
theorem imX2_size : Cond.instanceMethod yX2_size ∈ xtb := xT3 99 rfl rfl
theorem slX2_size : Cond.selects RX2 yX2_size yX2_size ∈ xtb := xT3 100 rfl rfl
abbrev kX2_leftBy : xMD := (yX2_leftBy, cX2_leftBy, 4, (some .int))
theorem okX2_leftBy : xOk kX2_leftBy 2 := ⟨by decide +kernel, xT3 116 rfl rfl, iniX2, ⟨by decide +kernel, by decide +kernel, by decide +kernel⟩, by decide⟩
theorem imX2_leftBy : Cond.instanceMethod yX2_leftBy ∈ xtb := xT3 114 rfl rfl
theorem slX2_leftBy : Cond.selects RX2 yX2_leftBy yX2_leftBy ∈ xtb := xT3 115 rfl rfl
abbrev kX3_init : xMD := (yX3_init, cX3_init, 1, none)
theorem okX3_init : xOk kX3_init 0 := ⟨by decide +kernel, xT1 63 rfl rfl, iniX3, ⟨by decide +kernel, by decide +kernel, by decide +kernel⟩, by decide⟩
theorem imX3_init : Cond.instanceMethod yX3_init ∈ xtb := xT1 62 rfl rfl
abbrev kX3_begin : xMD := (yX3_begin, cX3_begin, 5, none)
theorem okX3_begin : xOk kX3_begin 4 := ⟨by decide +kernel, xT2 47 rfl rfl, iniX3, ⟨by decide +kernel, by decide +kernel, by decide +kernel⟩, by decide⟩
theorem imX3_begin : Cond.instanceMethod yX3_begin ∈ xtb := xT2 45 rfl rfl
theorem slX3_begin : Cond.selects RX3 yX3_begin yX3_begin ∈ xtb := xT2 46 rfl rfl
abbrev kX3_copyFrom : xMD := (yX3_copyFrom, cX3_copyFrom, 2, none)
theorem okX3_copyFrom : xOk kX3_copyFrom 1 := ⟨by decide +kernel, xT2 66 rfl rfl, iniX3, ⟨by decide +kernel, by decide +kernel, by decide +kernel⟩, by decide⟩
theorem imX3_copyFrom : Cond.instanceMethod yX3_copyFrom ∈ xtb := xT2 64 rfl rfl
theorem slX3_copyFrom : Cond.selects RX3 yX3_copyFrom yX3_copyFrom ∈ xtb := xT2 65 rfl rfl
abbrev kX3_clear : xMD := (yX3_clear, cX3_clear, 3, (some .int))
theorem okX3_clear : xOk kX3_clear 2 := ⟨by decide +kernel, xT2 96 rfl rfl, iniX3, ⟨by decide +kernel, by decide +kernel, by decide +kernel⟩, by decide⟩
theorem imX3_clear : Cond.instanceMethod yX3_clear ∈ xtb := xT2 94 rfl rfl
theorem slX3_clear : Cond.selects RX3 yX3_clear yX3_clear ∈ xtb := xT2 95 rfl rfl
abbrev kX3_open : xMD := (yX3_open, cX3_open, 1, none)
theorem okX3_open : xOk kX3_open 0 := ⟨by decide +kernel, xT2 139 rfl rfl, iniX3, ⟨by decide +kernel, by decide +kernel, by decide +kernel⟩, by decide⟩
theorem imX3_open : Cond.instanceMethod yX3_open ∈ xtb := xT2 137 rfl rfl
theorem slX3_open : Cond.selects RX3 yX3_open yX3_open ∈ xtb := xT2 138 rfl rfl
abbrev kX3_ripen : xMD := (yX3_ripen, cX3_ripen, 2, none)
theorem okX3_ripen : xOk kX3_ripen 1 := ⟨by decide +kernel, xT2 120 rfl rfl, iniX3, ⟨by decide +kernel, by decide +kernel, by decide +kernel⟩, by decide⟩
theorem imX3_ripen : Cond.instanceMethod yX3_ripen ∈ xtb := xT2 118 rfl rfl
theorem slX3_ripen : Cond.selects RX3 yX3_ripen yX3_ripen ∈ xtb := xT2 119 rfl rfl
abbrev kX4_init : xMD := (yX4_init, cX4_init, 2, none)
theorem okX4_init : xOk kX4_init 1 := ⟨by decide +kernel, xT1 40 rfl rfl, iniX4, ⟨by decide +kernel, by decide +kernel, by decide +kernel⟩, by decide⟩
theorem imX4_init : Cond.instanceMethod yX4_init ∈ xtb := xT1 39 rfl rfl
abbrev kX4_append : xMD := (yX4_append, cX4_append, 4, (some .int))
theorem okX4_append : xOk kX4_append 3 := ⟨by decide +kernel, xT3 178 rfl rfl, iniX4, ⟨by decide +kernel, by decide +kernel, by decide +kernel⟩, by decide⟩
theorem imX4_append : Cond.instanceMethod yX4_append ∈ xtb := xT3 176 rfl rfl
theorem slX4_append : Cond.selects RX4 yX4_append yX4_append ∈ xtb := xT3 177 rfl rfl
abbrev kX4_empty : xMD := (yX4_empty, cX4_empty, 1, (some .int))
theorem okX4_empty : xOk kX4_empty 0 := ⟨by decide +kernel, xT3 174 rfl rfl, iniX4, ⟨by decide +kernel, by decide +kernel, by decide +kernel⟩, by decide⟩
theorem imX4_empty : Cond.instanceMethod yX4_empty ∈ xtb := xT3 172 rfl rfl
theorem slX4_empty : Cond.selects RX4 yX4_empty yX4_empty ∈ xtb := xT3 173 rfl rfl
abbrev kX4_copyFrom : xMD := (yX4_copyFrom, cX4_copyFrom, 2, none)
theorem okX4_copyFrom : xOk kX4_copyFrom 1 := ⟨by decide +kernel, xT4 15 rfl rfl, iniX4, ⟨by decide +kernel, by decide +kernel, by decide +kernel⟩, by decide⟩
theorem imX4_copyFrom : Cond.instanceMethod yX4_copyFrom ∈ xtb := xT4 13 rfl rfl
theorem slX4_copyFrom : Cond.selects RX4 yX4_copyFrom yX4_copyFrom ∈ xtb := xT4 14 rfl rfl
abbrev kX5_init : xMD := (yX5_init, cX5_init, 2, none)
theorem okX5_init : xOk kX5_init 0 := ⟨by decide +kernel, xT1 32 rfl rfl, iniX5, ⟨by decide +kernel, by decide +kernel, by decide +kernel⟩, by decide⟩
theorem imX5_init : Cond.instanceMethod yX5_init ∈ xtb := xT1 31 rfl rfl
abbrev kX5_potAt : xMD := (yX5_potAt, cX5_potAt, 2, (some (.object "JamOath$Pot")))
theorem okX5_potAt : xOk kX5_potAt 1 := ⟨by decide +kernel, xT2 58 rfl rfl, iniX5, ⟨by decide +kernel, by decide +kernel, by decide +kernel⟩, by decide⟩
theorem imX5_potAt : Cond.instanceMethod yX5_potAt ∈ xtb := xT2 56 rfl rfl
theorem slX5_potAt : Cond.selects RX5 yX5_potAt yX5_potAt ∈ xtb := xT2 57 rfl rfl
abbrev kX5_addPot : xMD := (yX5_addPot, cX5_addPot, 5, (some .int))
theorem okX5_addPot : xOk kX5_addPot 3 := ⟨by decide +kernel, xT2 43 rfl rfl, iniX5, ⟨by decide +kernel, by decide +kernel, by decide +kernel⟩, by decide⟩
theorem imX5_addPot : Cond.instanceMethod yX5_addPot ∈ xtb := xT2 41 rfl rfl
theorem slX5_addPot : Cond.selects RX5 yX5_addPot yX5_addPot ∈ xtb := xT2 42 rfl rfl
abbrev kX5_copyPotsFrom : xMD := (yX5_copyPotsFrom, cX5_copyPotsFrom, 3, none)
theorem okX5_copyPotsFrom : xOk kX5_copyPotsFrom 1 := ⟨by decide +kernel, xT3 135 rfl rfl, iniX5, ⟨by decide +kernel, by decide +kernel, by decide +kernel⟩, by decide⟩
theorem imX5_copyPotsFrom : Cond.instanceMethod yX5_copyPotsFrom ∈ xtb := xT3 133 rfl rfl
theorem slX5_copyPotsFrom : Cond.selects RX5 yX5_copyPotsFrom yX5_copyPotsFrom ∈ xtb := xT3 134 rfl rfl
abbrev kX5_copyFrom : xMD := (yX5_copyFrom, cX5_copyFrom, 2, none)
theorem okX5_copyFrom : xOk kX5_copyFrom 1 := ⟨by decide +kernel, xT4 10 rfl rfl, iniX5, ⟨by decide +kernel, by decide +kernel, by decide +kernel⟩, by decide⟩
theorem imX5_copyFrom : Cond.instanceMethod yX5_copyFrom ∈ xtb := xT4 8 rfl rfl
theorem slX5_copyFrom : Cond.selects RX5 yX5_copyFrom yX5_copyFrom ∈ xtb := xT4 9 rfl rfl
abbrev kX5_ripenAll : xMD := (yX5_ripenAll, cX5_ripenAll, 5, none)
theorem okX5_ripenAll : xOk kX5_ripenAll 2 := ⟨by decide +kernel, xT3 126 rfl rfl, iniX5, ⟨by decide +kernel, by decide +kernel, by decide +kernel⟩, by decide⟩
theorem imX5_ripenAll : Cond.instanceMethod yX5_ripenAll ∈ xtb := xT3 124 rfl rfl
theorem slX5_ripenAll : Cond.selects RX5 yX5_ripenAll yX5_ripenAll ∈ xtb := xT3 125 rfl rfl
abbrev kX5_sugarOfAll : xMD := (yX5_sugarOfAll, cX5_sugarOfAll, 3, (some .int))
theorem okX5_sugarOfAll : xOk kX5_sugarOfAll 0 := ⟨by decide +kernel, xT3 140 rfl rfl, iniX5, ⟨by decide +kernel, by decide +kernel, by decide +kernel⟩, by decide⟩
theorem imX5_sugarOfAll : Cond.instanceMethod yX5_sugarOfAll ∈ xtb := xT3 138 rfl rfl
theorem slX5_sugarOfAll : Cond.selects RX5 yX5_sugarOfAll yX5_sugarOfAll ∈ xtb := xT3 139 rfl rfl
abbrev kX5_openedOfAll : xMD := (yX5_openedOfAll, cX5_openedOfAll, 3, (some .int))
theorem okX5_openedOfAll : xOk kX5_openedOfAll 0 := ⟨by decide +kernel, xT3 222 rfl rfl, iniX5, ⟨by decide +kernel, by decide +kernel, by decide +kernel⟩, by decide⟩
theorem imX5_openedOfAll : Cond.instanceMethod yX5_openedOfAll ∈ xtb := xT3 220 rfl rfl
theorem slX5_openedOfAll : Cond.selects RX5 yX5_openedOfAll yX5_openedOfAll ∈ xtb := xT3 221 rfl rfl
abbrev kX6_init : xMD := (yX6_init, cX6_init, 1, none)
theorem okX6_init : xOk kX6_init 0 := ⟨by decide +kernel, xT1 218 rfl rfl, iniX6, ⟨by decide +kernel, by decide +kernel, by decide +kernel⟩, by decide⟩
theorem imX6_init : Cond.instanceMethod yX6_init ∈ xtb := xT1 217 rfl rfl
abbrev kX6_become : xMD := (yX6_become, cX6_become, 3, none)
theorem okX6_become : xOk kX6_become 2 := ⟨by decide +kernel, xT4 74 rfl rfl, iniX6, ⟨by decide +kernel, by decide +kernel, by decide +kernel⟩, by decide⟩
theorem imX6_become : Cond.instanceMethod yX6_become ∈ xtb := xT4 72 rfl rfl
theorem slX6_become : Cond.selects RX6 yX6_become yX6_become ∈ xtb := xT4 73 rfl rfl
abbrev kX6_has : xMD := (yX6_has, cX6_has, 2, (some .boolean))
theorem okX6_has : xOk kX6_has 1 := ⟨by decide +kernel, xT4 2 rfl rfl, iniX6, ⟨by decide +kernel, by decide +kernel, by decide +kernel⟩, by decide⟩
theorem imX6_has : Cond.instanceMethod yX6_has ∈ xtb := xT4 0 rfl rfl
theorem slX6_has : Cond.selects RX6 yX6_has yX6_has ∈ xtb := xT4 1 rfl rfl
abbrev kX6_spans : xMD := (yX6_spans, cX6_spans, 3, (some .boolean))
theorem okX6_spans : xOk kX6_spans 2 := ⟨by decide +kernel, xT4 99 rfl rfl, iniX6, ⟨by decide +kernel, by decide +kernel, by decide +kernel⟩, by decide⟩
theorem imX6_spans : Cond.instanceMethod yX6_spans ∈ xtb := xT4 97 rfl rfl
theorem slX6_spans : Cond.selects RX6 yX6_spans yX6_spans ∈ xtb := xT4 98 rfl rfl
abbrev kX6_lowest : xMD := (yX6_lowest, cX6_lowest, 3, (some .long))
theorem okX6_lowest : xOk kX6_lowest 1 := ⟨by decide +kernel, xT4 87 rfl rfl, iniX6, ⟨by decide +kernel, by decide +kernel, by decide +kernel⟩, by decide⟩
theorem imX6_lowest : Cond.instanceMethod yX6_lowest ∈ xtb := xT4 85 rfl rfl
theorem slX6_lowest : Cond.selects RX6 yX6_lowest yX6_lowest ∈ xtb := xT4 86 rfl rfl
abbrev kX7_init : xMD := (yX7_init, cX7_init, 1, none)
theorem okX7_init : xOk kX7_init 0 := ⟨by decide +kernel, xT1 143 rfl rfl, iniX7, ⟨by decide +kernel, by decide +kernel, by decide +kernel⟩, by decide⟩
theorem imX7_init : Cond.instanceMethod yX7_init ∈ xtb := xT1 142 rfl rfl
abbrev kX7_append : xMD := (yX7_append, cX7_append, 2, (some .int))
theorem okX7_append : xOk kX7_append 1 := ⟨by decide +kernel, xT2 154 rfl rfl, iniX7, ⟨by decide +kernel, by decide +kernel, by decide +kernel⟩, by decide⟩
theorem imX7_append : Cond.instanceMethod yX7_append ∈ xtb := xT2 152 rfl rfl
theorem slX7_append : Cond.selects RX7 yX7_append yX7_append ∈ xtb := xT2 153 rfl rfl
abbrev kX7_readInto : xMD := (yX7_readInto, cX7_readInto, 3, (some .int))
theorem okX7_readInto : xOk kX7_readInto 1 := ⟨by decide +kernel, xT2 162 rfl rfl, iniX7, ⟨by decide +kernel, by decide +kernel, by decide +kernel⟩, by decide⟩
theorem imX7_readInto : Cond.instanceMethod yX7_readInto ∈ xtb := xT2 160 rfl rfl
theorem slX7_readInto : Cond.selects RX7 yX7_readInto yX7_readInto ∈ xtb := xT2 161 rfl rfl
abbrev kX7_next : xMD := (yX7_next, cX7_next, 1, (some .int))
theorem okX7_next : xOk kX7_next 0 := ⟨by decide +kernel, xT2 174 rfl rfl, iniX7, ⟨by decide +kernel, by decide +kernel, by decide +kernel⟩, by decide⟩
theorem imX7_next : Cond.instanceMethod yX7_next ∈ xtb := xT2 173 rfl rfl
theorem slX7_next : Cond.selects RX7 yX7_next yX7_next ∈ xtb := xTs 8 rfl rfl
abbrev kX7_expect : xMD := (yX7_expect, cX7_expect, 2, none)
theorem okX7_expect : xOk kX7_expect 1 := ⟨by decide +kernel, xT2 229 rfl rfl, iniX7, ⟨by decide +kernel, by decide +kernel, by decide +kernel⟩, by decide⟩
theorem imX7_expect : Cond.instanceMethod yX7_expect ∈ xtb := xT2 228 rfl rfl
theorem slX7_expect : Cond.selects RX7 yX7_expect yX7_expect ∈ xtb := xTs 9 rfl rfl
abbrev kX7_expectOne : xMD := (yX7_expectOne, cX7_expectOne, 4, (some .int))
theorem okX7_expectOne : xOk kX7_expectOne 1 := ⟨by decide +kernel, xT3 10 rfl rfl, iniX7, ⟨by decide +kernel, by decide +kernel, by decide +kernel⟩, by decide⟩
theorem imX7_expectOne : Cond.instanceMethod yX7_expectOne ∈ xtb := xT3 9 rfl rfl
theorem slX7_expectOne : Cond.selects RX7 yX7_expectOne yX7_expectOne ∈ xtb := xTs 14 rfl rfl
abbrev kX7_expectNumber : xMD := (yX7_expectNumber, cX7_expectNumber, 4, (some .int))
theorem okX7_expectNumber : xOk kX7_expectNumber 0 := ⟨by decide +kernel, xT2 233 rfl rfl, iniX7, ⟨by decide +kernel, by decide +kernel, by decide +kernel⟩, by decide⟩
theorem imX7_expectNumber : Cond.instanceMethod yX7_expectNumber ∈ xtb := xT2 232 rfl rfl
theorem slX7_expectNumber : Cond.selects RX7 yX7_expectNumber yX7_expectNumber ∈ xtb := xTs 10 rfl rfl
abbrev kX7_clause : xMD := (yX7_clause, cX7_clause, 5, none)
theorem okX7_clause : xOk kX7_clause 1 := ⟨by decide +kernel, xT2 170 rfl rfl, iniX7, ⟨by decide +kernel, by decide +kernel, by decide +kernel⟩, by decide⟩
theorem imX7_clause : Cond.instanceMethod yX7_clause ∈ xtb := xT2 169 rfl rfl
theorem slX7_clause : Cond.selects RX7 yX7_clause yX7_clause ∈ xtb := xTs 7 rfl rfl
abbrev kX7_either : xMD := (yX7_either, cX7_either, 4, none)
theorem okX7_either : xOk kX7_either 2 := ⟨by decide +kernel, xT2 237 rfl rfl, iniX7, ⟨by decide +kernel, by decide +kernel, by decide +kernel⟩, by decide⟩
theorem imX7_either : Cond.instanceMethod yX7_either ∈ xtb := xT2 236 rfl rfl
theorem slX7_either : Cond.selects RX7 yX7_either yX7_either ∈ xtb := xTs 11 rfl rfl
abbrev kX7_both : xMD := (yX7_both, cX7_both, 4, none)
theorem okX7_both : xOk kX7_both 2 := ⟨by decide +kernel, xT3 1 rfl rfl, iniX7, ⟨by decide +kernel, by decide +kernel, by decide +kernel⟩, by decide⟩
theorem imX7_both : Cond.instanceMethod yX7_both ∈ xtb := xT3 0 rfl rfl
theorem slX7_both : Cond.selects RX7 yX7_both yX7_both ∈ xtb := xTs 12 rfl rfl
abbrev kX7_single : xMD := (yX7_single, cX7_single, 6, none)
theorem okX7_single : xOk kX7_single 2 := ⟨by decide +kernel, xT3 5 rfl rfl, iniX7, ⟨by decide +kernel, by decide +kernel, by decide +kernel⟩, by decide⟩
theorem imX7_single : Cond.instanceMethod yX7_single ∈ xtb := xT3 4 rfl rfl
theorem slX7_single : Cond.selects RX7 yX7_single yX7_single ∈ xtb := xTs 13 rfl rfl
abbrev kX8_init : xMD := (yX8_init, cX8_init, 2, none)
theorem okX8_init : xOk kX8_init 0 := ⟨by decide +kernel, xT1 24 rfl rfl, iniX8, ⟨by decide +kernel, by decide +kernel, by decide +kernel⟩, by decide⟩
theorem imX8_init : Cond.instanceMethod yX8_init ∈ xtb := xT1 23 rfl rfl
abbrev kX8_pot : xMD := (yX8_pot, cX8_pot, 4, (some .int))
theorem okX8_pot : xOk kX8_pot 3 := ⟨by decide +kernel, xT2 36 rfl rfl, iniX8, ⟨by decide +kernel, by decide +kernel, by decide +kernel⟩, by decide⟩
theorem imX8_pot : Cond.instanceMethod yX8_pot ∈ xtb := xT2 34 rfl rfl
theorem slX8_pot : Cond.selects RX8 yX8_pot yX8_pot ∈ xtb := xT2 35 rfl rfl
abbrev kX8_of : xMD := (yX8_of, cX8_of, 5, (some .int))
theorem okX8_of : xOk kX8_of 2 := ⟨by decide +kernel, xT2 54 rfl rfl, iniX8, ⟨by decide +kernel, by decide +kernel, by decide +kernel⟩, by decide⟩
theorem imX8_of : Cond.instanceMethod yX8_of ∈ xtb := xT2 52 rfl rfl
theorem slX8_of : Cond.selects RX8 yX8_of yX8_of ∈ xtb := xT2 53 rfl rfl
abbrev kX8_world : xMD := (yX8_world, cX8_world, 3, (some .int))
theorem okX8_world : xOk kX8_world 1 := ⟨by decide +kernel, xT2 127 rfl rfl, iniX8, ⟨by decide +kernel, by decide +kernel, by decide +kernel⟩, by decide⟩
theorem imX8_world : Cond.instanceMethod yX8_world ∈ xtb := xT2 125 rfl rfl
theorem slX8_world : Cond.selects RX8 yX8_world yX8_world ∈ xtb := xT2 126 rfl rfl
abbrev kX8_sugar : xMD := (yX8_sugar, cX8_sugar, 5, (some .int))
theorem okX8_sugar : xOk kX8_sugar 2 := ⟨by decide +kernel, xT2 131 rfl rfl, iniX8, ⟨by decide +kernel, by decide +kernel, by decide +kernel⟩, by decide⟩
theorem imX8_sugar : Cond.instanceMethod yX8_sugar ∈ xtb := xT2 129 rfl rfl
theorem slX8_sugar : Cond.selects RX8 yX8_sugar yX8_sugar ∈ xtb := xT2 130 rfl rfl
abbrev kX8_spoon : xMD := (yX8_spoon, cX8_spoon, 5, (some .int))
theorem okX8_spoon : xOk kX8_spoon 2 := ⟨by decide +kernel, xT2 135 rfl rfl, iniX8, ⟨by decide +kernel, by decide +kernel, by decide +kernel⟩, by decide⟩
theorem imX8_spoon : Cond.instanceMethod yX8_spoon ∈ xtb := xT2 133 rfl rfl
theorem slX8_spoon : Cond.selects RX8 yX8_spoon yX8_spoon ∈ xtb := xT2 134 rfl rfl
abbrev kX8_row : xMD := (yX8_row, cX8_row, 6, (some .int))
theorem okX8_row : xOk kX8_row 3 := ⟨by decide +kernel, xT2 146 rfl rfl, iniX8, ⟨by decide +kernel, by decide +kernel, by decide +kernel⟩, by decide⟩
theorem imX8_row : Cond.instanceMethod yX8_row ∈ xtb := xT2 144 rfl rfl
theorem slX8_row : Cond.selects RX8 yX8_row yX8_row ∈ xtb := xT2 145 rfl rfl
abbrev kX8_feed : xMD := (yX8_feed, cX8_feed, 2, (some .int))
theorem okX8_feed : xOk kX8_feed 1 := ⟨by decide +kernel, xT2 150 rfl rfl, iniX8, ⟨by decide +kernel, by decide +kernel, by decide +kernel⟩, by decide⟩
theorem imX8_feed : Cond.instanceMethod yX8_feed ∈ xtb := xT2 148 rfl rfl
theorem slX8_feed : Cond.selects RX8 yX8_feed yX8_feed ∈ xtb := xT2 149 rfl rfl
abbrev kX8_cellar : xMD := (yX8_cellar, cX8_cellar, 2, (some .int))
theorem okX8_cellar : xOk kX8_cellar 0 := ⟨by decide +kernel, xT2 158 rfl rfl, iniX8, ⟨by decide +kernel, by decide +kernel, by decide +kernel⟩, by decide⟩
theorem imX8_cellar : Cond.instanceMethod yX8_cellar ∈ xtb := xT2 156 rfl rfl
theorem slX8_cellar : Cond.selects RX8 yX8_cellar yX8_cellar ∈ xtb := xT2 157 rfl rfl
abbrev kX8_told : xMD := (yX8_told, cX8_told, 2, (some .int))
theorem okX8_told : xOk kX8_told 1 := ⟨by decide +kernel, xT3 74 rfl rfl, iniX8, ⟨by decide +kernel, by decide +kernel, by decide +kernel⟩, by decide⟩
theorem imX8_told : Cond.instanceMethod yX8_told ∈ xtb := xT3 72 rfl rfl
theorem slX8_told : Cond.selects RX8 yX8_told yX8_told ∈ xtb := xT3 73 rfl rfl
abbrev kX8_toldOfFits : xMD := (yX8_toldOfFits, cX8_toldOfFits, 2, (some .int))
theorem okX8_toldOfFits : xOk kX8_toldOfFits 1 := ⟨by decide +kernel, xT3 85 rfl rfl, iniX8, ⟨by decide +kernel, by decide +kernel, by decide +kernel⟩, by decide⟩
theorem imX8_toldOfFits : Cond.instanceMethod yX8_toldOfFits ∈ xtb := xT3 84 rfl rfl
theorem slX8_toldOfFits : Cond.selects RX8 yX8_toldOfFits yX8_toldOfFits ∈ xtb := xTs 16 rfl rfl
abbrev kX8_trait : xMD := (yX8_trait, cX8_trait, 2, (some .int))
theorem okX8_trait : xOk kX8_trait 2 := ⟨by decide +kernel, xT2 109 rfl rfl, iniX8, ⟨by decide +kernel, by decide +kernel, by decide +kernel⟩, by decide⟩
theorem stX8_trait : Cond.static yX8_trait ∈ xtb := xT2 108 rfl rfl
abbrev kX8_isDigit : xMD := (yX8_isDigit, cX8_isDigit, 1, (some .boolean))
theorem okX8_isDigit : xOk kX8_isDigit 1 := ⟨by decide +kernel, xT2 39 rfl rfl, iniX8, ⟨by decide +kernel, by decide +kernel, by decide +kernel⟩, by decide⟩
theorem stX8_isDigit : Cond.static yX8_isDigit ∈ xtb := xT2 38 rfl rfl
abbrev kX8_isFact : xMD := (yX8_isFact, cX8_isFact, 1, (some .boolean))
theorem okX8_isFact : xOk kX8_isFact 1 := ⟨by decide +kernel, xT2 112 rfl rfl, iniX8, ⟨by decide +kernel, by decide +kernel, by decide +kernel⟩, by decide⟩
theorem stX8_isFact : Cond.static yX8_isFact ∈ xtb := xT2 111 rfl rfl
abbrev kX8_isIn : xMD := (yX8_isIn, cX8_isIn, 2, (some .boolean))
theorem okX8_isIn : xOk kX8_isIn 2 := ⟨by decide +kernel, xT2 106 rfl rfl, iniX8, ⟨by decide +kernel, by decide +kernel, by decide +kernel⟩, by decide⟩
theorem stX8_isIn : Cond.static yX8_isIn ∈ xtb := xT2 105 rfl rfl
abbrev kX8_holding : xMD := (yX8_holding, cX8_holding, 2, (some (.object "JamOath$Cellar")))
theorem okX8_holding : xOk kX8_holding 0 := ⟨by decide +kernel, xT2 85 rfl rfl, iniX8, ⟨by decide +kernel, by decide +kernel, by decide +kernel⟩, by decide⟩
theorem imX8_holding : Cond.instanceMethod yX8_holding ∈ xtb := xT2 84 rfl rfl
theorem slX8_holding : Cond.selects RX8 yX8_holding yX8_holding ∈ xtb := xTs 4 rfl rfl
abbrev kX8_clearOf : xMD := (yX8_clearOf, cX8_clearOf, 3, (some .int))
theorem okX8_clearOf : xOk kX8_clearOf 2 := ⟨by decide +kernel, xT2 81 rfl rfl, iniX8, ⟨by decide +kernel, by decide +kernel, by decide +kernel⟩, by decide⟩
theorem imX8_clearOf : Cond.instanceMethod yX8_clearOf ∈ xtb := xT2 80 rfl rfl
theorem slX8_clearOf : Cond.selects RX8 yX8_clearOf yX8_clearOf ∈ xtb := xTs 3 rfl rfl
abbrev kX8_voiceOf : xMD := (yX8_voiceOf, cX8_voiceOf, 1, (some .int))
theorem okX8_voiceOf : xOk kX8_voiceOf 1 := ⟨by decide +kernel, xT2 103 rfl rfl, iniX8, ⟨by decide +kernel, by decide +kernel, by decide +kernel⟩, by decide⟩
theorem stX8_voiceOf : Cond.static yX8_voiceOf ∈ xtb := xT2 102 rfl rfl
abbrev kX8_saidBy : xMD := (yX8_saidBy, cX8_saidBy, 4, (some .int))
theorem okX8_saidBy : xOk kX8_saidBy 2 := ⟨by decide +kernel, xT2 100 rfl rfl, iniX8, ⟨by decide +kernel, by decide +kernel, by decide +kernel⟩, by decide⟩
theorem imX8_saidBy : Cond.instanceMethod yX8_saidBy ∈ xtb := xT2 99 rfl rfl
theorem slX8_saidBy : Cond.selects RX8 yX8_saidBy yX8_saidBy ∈ xtb := xTs 5 rfl rfl
abbrev kX8_says : xMD := (yX8_says, cX8_says, 3, (some .int))
theorem okX8_says : xOk kX8_says 2 := ⟨by decide +kernel, xT2 77 rfl rfl, iniX8, ⟨by decide +kernel, by decide +kernel, by decide +kernel⟩, by decide⟩
theorem imX8_says : Cond.instanceMethod yX8_says ∈ xtb := xT2 76 rfl rfl
theorem slX8_says : Cond.selects RX8 yX8_says yX8_says ∈ xtb := xTs 2 rfl rfl
abbrev kX8_when : xMD := (yX8_when, cX8_when, 5, (some .int))
theorem okX8_when : xOk kX8_when 2 := ⟨by decide +kernel, xT2 116 rfl rfl, iniX8, ⟨by decide +kernel, by decide +kernel, by decide +kernel⟩, by decide⟩
theorem imX8_when : Cond.instanceMethod yX8_when ∈ xtb := xT2 115 rfl rfl
theorem slX8_when : Cond.selects RX8 yX8_when yX8_when ∈ xtb := xTs 6 rfl rfl
abbrev kX8_found : xMD := (yX8_found, cX8_found, 6, (some .int))
theorem okX8_found : xOk kX8_found 1 := ⟨by decide +kernel, xT3 78 rfl rfl, iniX8, ⟨by decide +kernel, by decide +kernel, by decide +kernel⟩, by decide⟩
theorem imX8_found : Cond.instanceMethod yX8_found ∈ xtb := xT3 77 rfl rfl
theorem slX8_found : Cond.selects RX8 yX8_found yX8_found ∈ xtb := xTs 15 rfl rfl
abbrev kX8_pass : xMD := (yX8_pass, cX8_pass, 2, (some .int))
theorem okX8_pass : xOk kX8_pass 1 := ⟨by decide +kernel, xT3 122 rfl rfl, iniX8, ⟨by decide +kernel, by decide +kernel, by decide +kernel⟩, by decide⟩
theorem imX8_pass : Cond.instanceMethod yX8_pass ∈ xtb := xT3 120 rfl rfl
theorem slX8_pass : Cond.selects RX8 yX8_pass yX8_pass ∈ xtb := xT3 121 rfl rfl
abbrev kX8_on : xMD := (yX8_on, cX8_on, 5, (some .int))
theorem okX8_on : xOk kX8_on 2 := ⟨by decide +kernel, xT3 131 rfl rfl, iniX8, ⟨by decide +kernel, by decide +kernel, by decide +kernel⟩, by decide⟩
theorem imX8_on : Cond.instanceMethod yX8_on ∈ xtb := xT3 129 rfl rfl
theorem slX8_on : Cond.selects RX8 yX8_on yX8_on ∈ xtb := xT3 130 rfl rfl
abbrev kX8_cases : xMD := (yX8_cases, cX8_cases, 3, (some .int))
theorem okX8_cases : xOk kX8_cases 2 := ⟨by decide +kernel, xT3 144 rfl rfl, iniX8, ⟨by decide +kernel, by decide +kernel, by decide +kernel⟩, by decide⟩
theorem imX8_cases : Cond.instanceMethod yX8_cases ∈ xtb := xT3 142 rfl rfl
theorem slX8_cases : Cond.selects RX8 yX8_cases yX8_cases ∈ xtb := xT3 143 rfl rfl
abbrev kX8_gatherSpoken : xMD := (yX8_gatherSpoken, cX8_gatherSpoken, 5, none)
theorem okX8_gatherSpoken : xOk kX8_gatherSpoken 1 := ⟨by decide +kernel, xT3 148 rfl rfl, iniX8, ⟨by decide +kernel, by decide +kernel, by decide +kernel⟩, by decide⟩
theorem imX8_gatherSpoken : Cond.instanceMethod yX8_gatherSpoken ∈ xtb := xT3 147 rfl rfl
theorem slX8_gatherSpoken : Cond.selects RX8 yX8_gatherSpoken yX8_gatherSpoken ∈ xtb := xTs 19 rfl rfl
abbrev kX8_enough : xMD := (yX8_enough, cX8_enough, 6, (some .int))
theorem okX8_enough : xOk kX8_enough 1 := ⟨by decide +kernel, xT3 152 rfl rfl, iniX8, ⟨by decide +kernel, by decide +kernel, by decide +kernel⟩, by decide⟩
theorem imX8_enough : Cond.instanceMethod yX8_enough ∈ xtb := xT3 151 rfl rfl
theorem slX8_enough : Cond.selects RX8 yX8_enough yX8_enough ∈ xtb := xTs 20 rfl rfl
abbrev kX8_spokenBy : xMD := (yX8_spokenBy, cX8_spokenBy, 4, (some .int))
theorem okX8_spokenBy : xOk kX8_spokenBy 1 := ⟨by decide +kernel, xT3 157 rfl rfl, iniX8, ⟨by decide +kernel, by decide +kernel, by decide +kernel⟩, by decide⟩
theorem imX8_spokenBy : Cond.instanceMethod yX8_spokenBy ∈ xtb := xT3 156 rfl rfl
theorem slX8_spokenBy : Cond.selects RX8 yX8_spokenBy yX8_spokenBy ∈ xtb := xTs 21 rfl rfl
abbrev kX8_ownPots : xMD := (yX8_ownPots, cX8_ownPots, 6, (some .int))
theorem okX8_ownPots : xOk kX8_ownPots 1 := ⟨by decide +kernel, xT3 161 rfl rfl, iniX8, ⟨by decide +kernel, by decide +kernel, by decide +kernel⟩, by decide⟩
theorem imX8_ownPots : Cond.instanceMethod yX8_ownPots ∈ xtb := xT3 160 rfl rfl
theorem slX8_ownPots : Cond.selects RX8 yX8_ownPots yX8_ownPots ∈ xtb := xTs 22 rfl rfl
abbrev kX8_givenOneMore : xMD := (yX8_givenOneMore, cX8_givenOneMore, 9, (some .long))
theorem okX8_givenOneMore : xOk kX8_givenOneMore 2 := ⟨by decide +kernel, xT3 165 rfl rfl, iniX8, ⟨by decide +kernel, by decide +kernel, by decide +kernel⟩, by decide⟩
theorem imX8_givenOneMore : Cond.instanceMethod yX8_givenOneMore ∈ xtb := xT3 164 rfl rfl
theorem slX8_givenOneMore : Cond.selects RX8 yX8_givenOneMore yX8_givenOneMore ∈ xtb := xTs 23 rfl rfl
abbrev kX8_hear : xMD := (yX8_hear, cX8_hear, 4, (some .int))
theorem okX8_hear : xOk kX8_hear 3 := ⟨by decide +kernel, xT3 170 rfl rfl, iniX8, ⟨by decide +kernel, by decide +kernel, by decide +kernel⟩, by decide⟩
theorem imX8_hear : Cond.instanceMethod yX8_hear ∈ xtb := xT3 168 rfl rfl
theorem slX8_hear : Cond.selects RX8 yX8_hear yX8_hear ∈ xtb := xT3 169 rfl rfl
abbrev kX8_can : xMD := (yX8_can, cX8_can, 5, (some .int))
theorem okX8_can : xOk kX8_can 2 := ⟨by decide +kernel, xT3 182 rfl rfl, iniX8, ⟨by decide +kernel, by decide +kernel, by decide +kernel⟩, by decide⟩
theorem imX8_can : Cond.instanceMethod yX8_can ∈ xtb := xT3 180 rfl rfl
theorem slX8_can : Cond.selects RX8 yX8_can yX8_can ∈ xtb := xT3 181 rfl rfl
abbrev kX8_odds : xMD := (yX8_odds, cX8_odds, 4, (some .long))
theorem okX8_odds : xOk kX8_odds 2 := ⟨by decide +kernel, xT3 193 rfl rfl, iniX8, ⟨by decide +kernel, by decide +kernel, by decide +kernel⟩, by decide⟩
theorem imX8_odds : Cond.instanceMethod yX8_odds ∈ xtb := xT3 191 rfl rfl
theorem slX8_odds : Cond.selects RX8 yX8_odds yX8_odds ∈ xtb := xT3 192 rfl rfl
abbrev kX8_mean : xMD := (yX8_mean, cX8_mean, 6, (some .long))
theorem okX8_mean : xOk kX8_mean 2 := ⟨by decide +kernel, xT3 199 rfl rfl, iniX8, ⟨by decide +kernel, by decide +kernel, by decide +kernel⟩, by decide⟩
theorem imX8_mean : Cond.instanceMethod yX8_mean ∈ xtb := xT3 197 rfl rfl
theorem slX8_mean : Cond.selects RX8 yX8_mean yX8_mean ∈ xtb := xT3 198 rfl rfl
abbrev kX8_commonDivisor : xMD := (yX8_commonDivisor, cX8_commonDivisor, 6, (some .int))
theorem okX8_commonDivisor : xOk kX8_commonDivisor 2 := ⟨by decide +kernel, xT3 202 rfl rfl, iniX8, ⟨by decide +kernel, by decide +kernel, by decide +kernel⟩, by decide⟩
theorem stX8_commonDivisor : Cond.static yX8_commonDivisor ∈ xtb := xT3 201 rfl rfl
abbrev kX8_gatherFits : xMD := (yX8_gatherFits, cX8_gatherFits, 5, none)
theorem okX8_gatherFits : xOk kX8_gatherFits 0 := ⟨by decide +kernel, xT3 89 rfl rfl, iniX8, ⟨by decide +kernel, by decide +kernel, by decide +kernel⟩, by decide⟩
theorem imX8_gatherFits : Cond.instanceMethod yX8_gatherFits ∈ xtb := xT3 88 rfl rfl
theorem slX8_gatherFits : Cond.selects RX8 yX8_gatherFits yX8_gatherFits ∈ xtb := xTs 17 rfl rfl
abbrev kX8_nextToAsk : xMD := (yX8_nextToAsk, cX8_nextToAsk, 6, (some .int))
theorem okX8_nextToAsk : xOk kX8_nextToAsk 0 := ⟨by decide +kernel, xT3 111 rfl rfl, iniX8, ⟨by decide +kernel, by decide +kernel, by decide +kernel⟩, by decide⟩
theorem imX8_nextToAsk : Cond.instanceMethod yX8_nextToAsk ∈ xtb := xT3 110 rfl rfl
theorem slX8_nextToAsk : Cond.selects RX8 yX8_nextToAsk yX8_nextToAsk ∈ xtb := xTs 18 rfl rfl
abbrev kX8_bearsOut : xMD := (yX8_bearsOut, cX8_bearsOut, 5, (some .boolean))
theorem okX8_bearsOut : xOk kX8_bearsOut 1 := ⟨by decide +kernel, xT2 73 rfl rfl, iniX8, ⟨by decide +kernel, by decide +kernel, by decide +kernel⟩, by decide⟩
theorem imX8_bearsOut : Cond.instanceMethod yX8_bearsOut ∈ xtb := xT2 72 rfl rfl
theorem slX8_bearsOut : Cond.selects RX8 yX8_bearsOut yX8_bearsOut ∈ xtb := xTs 1 rfl rfl
abbrev kX8_least : xMD := (yX8_least, cX8_least, 2, (some .int))
theorem okX8_least : xOk kX8_least 1 := ⟨by decide +kernel, xT3 189 rfl rfl, iniX8, ⟨by decide +kernel, by decide +kernel, by decide +kernel⟩, by decide⟩
theorem stX8_least : Cond.static yX8_least ∈ xtb := xT3 188 rfl rfl
abbrev kX8_fittingSugars : xMD := (yX8_fittingSugars, cX8_fittingSugars, 4, (some .int))
theorem okX8_fittingSugars : xOk kX8_fittingSugars 1 := ⟨by decide +kernel, xT2 62 rfl rfl, iniX8, ⟨by decide +kernel, by decide +kernel, by decide +kernel⟩, by decide⟩
theorem imX8_fittingSugars : Cond.instanceMethod yX8_fittingSugars ∈ xtb := xT2 61 rfl rfl
theorem slX8_fittingSugars : Cond.selects RX8 yX8_fittingSugars yX8_fittingSugars ∈ xtb := xTs 0 rfl rfl
abbrev kX8_fittingNumbers : xMD := (yX8_fittingNumbers, cX8_fittingNumbers, 4, (some .int))
theorem okX8_fittingNumbers : xOk kX8_fittingNumbers 1 := ⟨by decide +kernel, xT3 186 rfl rfl, iniX8, ⟨by decide +kernel, by decide +kernel, by decide +kernel⟩, by decide⟩
theorem imX8_fittingNumbers : Cond.instanceMethod yX8_fittingNumbers ∈ xtb := xT3 185 rfl rfl
theorem slX8_fittingNumbers : Cond.selects RX8 yX8_fittingNumbers yX8_fittingNumbers ∈ xtb := xTs 24 rfl rfl
abbrev kX8_plan : xMD := (yX8_plan, cX8_plan, 3, (some .int))
theorem okX8_plan : xOk kX8_plan 2 := ⟨by decide +kernel, xT3 206 rfl rfl, iniX8, ⟨by decide +kernel, by decide +kernel, by decide +kernel⟩, by decide⟩
theorem imX8_plan : Cond.instanceMethod yX8_plan ∈ xtb := xT3 204 rfl rfl
theorem slX8_plan : Cond.selects RX8 yX8_plan yX8_plan ∈ xtb := xT3 205 rfl rfl
abbrev kX8_canGo : xMD := (yX8_canGo, cX8_canGo, 3, (some .boolean))
theorem okX8_canGo : xOk kX8_canGo 2 := ⟨by decide +kernel, xT3 210 rfl rfl, iniX8, ⟨by decide +kernel, by decide +kernel, by decide +kernel⟩, by decide⟩
theorem imX8_canGo : Cond.instanceMethod yX8_canGo ∈ xtb := xT3 209 rfl rfl
theorem slX8_canGo : Cond.selects RX8 yX8_canGo yX8_canGo ∈ xtb := xTs 25 rfl rfl
abbrev kX8_ends : xMD := (yX8_ends, cX8_ends, 4, (some .int))
theorem okX8_ends : xOk kX8_ends 1 := ⟨by decide +kernel, xT3 214 rfl rfl, iniX8, ⟨by decide +kernel, by decide +kernel, by decide +kernel⟩, by decide⟩
theorem imX8_ends : Cond.instanceMethod yX8_ends ∈ xtb := xT3 212 rfl rfl
theorem slX8_ends : Cond.selects RX8 yX8_ends yX8_ends ∈ xtb := xT3 213 rfl rfl
abbrev kX8_goOn : xMD := (yX8_goOn, cX8_goOn, 5, none)
theorem okX8_goOn : xOk kX8_goOn 3 := ⟨by decide +kernel, xT3 218 rfl rfl, iniX8, ⟨by decide +kernel, by decide +kernel, by decide +kernel⟩, by decide⟩
theorem imX8_goOn : Cond.instanceMethod yX8_goOn ∈ xtb := xT3 217 rfl rfl
theorem slX8_goOn : Cond.selects RX8 yX8_goOn yX8_goOn ∈ xtb := xTs 26 rfl rfl
abbrev kX8_book : xMD := (yX8_book, cX8_book, 3, (some .int))
theorem okX8_book : xOk kX8_book 2 := ⟨by decide +kernel, xT3 226 rfl rfl, iniX8, ⟨by decide +kernel, by decide +kernel, by decide +kernel⟩, by decide⟩
theorem imX8_book : Cond.instanceMethod yX8_book ∈ xtb := xT3 224 rfl rfl
theorem slX8_book : Cond.selects RX8 yX8_book yX8_book ∈ xtb := xT3 225 rfl rfl
abbrev kX8_looked : xMD := (yX8_looked, cX8_looked, 4, (some .int))
theorem okX8_looked : xOk kX8_looked 0 := ⟨by decide +kernel, xT3 230 rfl rfl, iniX8, ⟨by decide +kernel, by decide +kernel, by decide +kernel⟩, by decide⟩
theorem imX8_looked : Cond.instanceMethod yX8_looked ∈ xtb := xT3 228 rfl rfl
theorem slX8_looked : Cond.selects RX8 yX8_looked yX8_looked ∈ xtb := xT3 229 rfl rfl
abbrev kX8_judge : xMD := (yX8_judge, cX8_judge, 5, (some .int))
theorem okX8_judge : xOk kX8_judge 2 := ⟨by decide +kernel, xT3 234 rfl rfl, iniX8, ⟨by decide +kernel, by decide +kernel, by decide +kernel⟩, by decide⟩
theorem imX8_judge : Cond.instanceMethod yX8_judge ∈ xtb := xT3 232 rfl rfl
theorem slX8_judge : Cond.selects RX8 yX8_judge yX8_judge ∈ xtb := xT3 233 rfl rfl
abbrev kX8_image : xMD := (yX8_image, cX8_image, 1, (some .int))
theorem okX8_image : xOk kX8_image 0 := ⟨by decide +kernel, xT4 6 rfl rfl, iniX8, ⟨by decide +kernel, by decide +kernel, by decide +kernel⟩, by decide⟩
theorem imX8_image : Cond.instanceMethod yX8_image ∈ xtb := xT4 4 rfl rfl
theorem slX8_image : Cond.selects RX8 yX8_image yX8_image ∈ xtb := xT4 5 rfl rfl
abbrev kX8_undo : xMD := (yX8_undo, cX8_undo, 1, (some .int))
theorem okX8_undo : xOk kX8_undo 0 := ⟨by decide +kernel, xT4 21 rfl rfl, iniX8, ⟨by decide +kernel, by decide +kernel, by decide +kernel⟩, by decide⟩
theorem imX8_undo : Cond.instanceMethod yX8_undo ∈ xtb := xT4 19 rfl rfl
theorem slX8_undo : Cond.selects RX8 yX8_undo yX8_undo ∈ xtb := xT4 20 rfl rfl
abbrev kX8_act : xMD := (yX8_act, cX8_act, 5, (some .int))
theorem okX8_act : xOk kX8_act 3 := ⟨by decide +kernel, xT4 25 rfl rfl, iniX8, ⟨by decide +kernel, by decide +kernel, by decide +kernel⟩, by decide⟩
theorem imX8_act : Cond.instanceMethod yX8_act ∈ xtb := xT4 23 rfl rfl
theorem slX8_act : Cond.selects RX8 yX8_act yX8_act ∈ xtb := xT4 24 rfl rfl
abbrev kX8_trace : xMD := (yX8_trace, cX8_trace, 2, (some .int))
theorem okX8_trace : xOk kX8_trace 1 := ⟨by decide +kernel, xT4 49 rfl rfl, iniX8, ⟨by decide +kernel, by decide +kernel, by decide +kernel⟩, by decide⟩
theorem imX8_trace : Cond.instanceMethod yX8_trace ∈ xtb := xT4 47 rfl rfl
theorem slX8_trace : Cond.selects RX8 yX8_trace yX8_trace ∈ xtb := xT4 48 rfl rfl
abbrev kX8_taken : xMD := (yX8_taken, cX8_taken, 4, (some .int))
theorem okX8_taken : xOk kX8_taken 2 := ⟨by decide +kernel, xT4 58 rfl rfl, iniX8, ⟨by decide +kernel, by decide +kernel, by decide +kernel⟩, by decide⟩
theorem imX8_taken : Cond.instanceMethod yX8_taken ∈ xtb := xT4 56 rfl rfl
theorem slX8_taken : Cond.selects RX8 yX8_taken yX8_taken ∈ xtb := xT4 57 rfl rfl
abbrev kX8_isUnder : xMD := (yX8_isUnder, cX8_isUnder, 4, (some .boolean))
theorem okX8_isUnder : xOk kX8_isUnder 2 := ⟨by decide +kernel, xT4 61 rfl rfl, iniX8, ⟨by decide +kernel, by decide +kernel, by decide +kernel⟩, by decide⟩
theorem stX8_isUnder : Cond.static yX8_isUnder ∈ xtb := xT4 60 rfl rfl
abbrev kX8_count : xMD := (yX8_count, cX8_count, 2, (some .int))
theorem okX8_count : xOk kX8_count 1 := ⟨by decide +kernel, xT4 66 rfl rfl, iniX8, ⟨by decide +kernel, by decide +kernel, by decide +kernel⟩, by decide⟩
theorem imX8_count : Cond.instanceMethod yX8_count ∈ xtb := xT4 64 rfl rfl
theorem slX8_count : Cond.selects RX8 yX8_count yX8_count ∈ xtb := xT4 65 rfl rfl
abbrev kX8_tape : xMD := (yX8_tape, cX8_tape, 5, (some .int))
theorem okX8_tape : xOk kX8_tape 3 := ⟨by decide +kernel, xT4 70 rfl rfl, iniX8, ⟨by decide +kernel, by decide +kernel, by decide +kernel⟩, by decide⟩
theorem imX8_tape : Cond.instanceMethod yX8_tape ∈ xtb := xT4 68 rfl rfl
theorem slX8_tape : Cond.selects RX8 yX8_tape yX8_tape ∈ xtb := xT4 69 rfl rfl
abbrev kX8_item : xMD := (yX8_item, cX8_item, 6, (some .int))
theorem okX8_item : xOk kX8_item 3 := ⟨by decide +kernel, xT4 83 rfl rfl, iniX8, ⟨by decide +kernel, by decide +kernel, by decide +kernel⟩, by decide⟩
theorem imX8_item : Cond.instanceMethod yX8_item ∈ xtb := xT4 81 rfl rfl
theorem slX8_item : Cond.selects RX8 yX8_item yX8_item ∈ xtb := xT4 82 rfl rfl
abbrev kX8_read : xMD := (yX8_read, cX8_read, 4, (some .long))
theorem okX8_read : xOk kX8_read 2 := ⟨by decide +kernel, xT4 91 rfl rfl, iniX8, ⟨by decide +kernel, by decide +kernel, by decide +kernel⟩, by decide⟩
theorem imX8_read : Cond.instanceMethod yX8_read ∈ xtb := xT4 89 rfl rfl
theorem slX8_read : Cond.selects RX8 yX8_read yX8_read ∈ xtb := xT4 90 rfl rfl
abbrev kX8_shift : xMD := (yX8_shift, cX8_shift, 8, (some .int))
theorem okX8_shift : xOk kX8_shift 5 := ⟨by decide +kernel, xT4 95 rfl rfl, iniX8, ⟨by decide +kernel, by decide +kernel, by decide +kernel⟩, by decide⟩
theorem imX8_shift : Cond.instanceMethod yX8_shift ∈ xtb := xT4 93 rfl rfl
theorem slX8_shift : Cond.selects RX8 yX8_shift yX8_shift ∈ xtb := xT4 94 rfl rfl
abbrev kX8_tapeAt : xMD := (yX8_tapeAt, cX8_tapeAt, 2, (some (.object "JamOath$Tape")))
theorem okX8_tapeAt : xOk kX8_tapeAt 1 := ⟨by decide +kernel, xT3 238 rfl rfl, iniX8, ⟨by decide +kernel, by decide +kernel, by decide +kernel⟩, by decide⟩
theorem imX8_tapeAt : Cond.instanceMethod yX8_tapeAt ∈ xtb := xT3 237 rfl rfl
theorem slX8_tapeAt : Cond.selects RX8 yX8_tapeAt yX8_tapeAt ∈ xtb := xTs 27 rfl rfl
abbrev kX9_init : xMD := (yX9_init, cX9_init, 1, none)
theorem okX9_init : xOk kX9_init 0 := ⟨by decide +kernel, xT4 105 rfl rfl, iniX9, ⟨by decide +kernel, by decide +kernel, by decide +kernel⟩, by decide⟩
theorem imX9_init : Cond.instanceMethod yX9_init ∈ xtb := xT4 104 rfl rfl
abbrev kX9_isIn : xMD := (yX9_isIn, cX9_isIn, 3, (some .boolean))
theorem okX9_isIn : xOk kX9_isIn 3 := ⟨by decide +kernel, xT4 223 rfl rfl, iniX9, ⟨by decide +kernel, by decide +kernel, by decide +kernel⟩, by decide⟩
theorem stX9_isIn : Cond.static yX9_isIn ∈ xtb := xT4 222 rfl rfl
abbrev kX9_move : xMD := (yX9_move, cX9_move, 3, none)
theorem okX9_move : xOk kX9_move 2 := ⟨by decide +kernel, xT4 212 rfl rfl, iniX9, ⟨by decide +kernel, by decide +kernel, by decide +kernel⟩, by decide⟩
theorem stX9_move : Cond.static yX9_move ∈ xtb := xT4 211 rfl rfl
abbrev kX9_image : xMD := (yX9_image, cX9_image, 1, (some .int))
theorem okX9_image : xOk kX9_image 0 := ⟨by decide +kernel, xT4 209 rfl rfl, iniX9, ⟨by decide +kernel, by decide +kernel, by decide +kernel⟩, by decide⟩
theorem imX9_image : Cond.instanceMethod yX9_image ∈ xtb := xT4 207 rfl rfl
theorem slX9_image : Cond.selects RX9 yX9_image yX9_image ∈ xtb := xT4 208 rfl rfl
abbrev kX9_undo : xMD := (yX9_undo, cX9_undo, 1, (some .int))
theorem okX9_undo : xOk kX9_undo 0 := ⟨by decide +kernel, xT4 216 rfl rfl, iniX9, ⟨by decide +kernel, by decide +kernel, by decide +kernel⟩, by decide⟩
theorem imX9_undo : Cond.instanceMethod yX9_undo ∈ xtb := xT4 214 rfl rfl
theorem slX9_undo : Cond.selects RX9 yX9_undo yX9_undo ∈ xtb := xT4 215 rfl rfl
abbrev kX9_isPot : xMD := (yX9_isPot, cX9_isPot, 2, (some .boolean))
theorem okX9_isPot : xOk kX9_isPot 1 := ⟨by decide +kernel, xT4 239 rfl rfl, iniX9, ⟨by decide +kernel, by decide +kernel, by decide +kernel⟩, by decide⟩
theorem imX9_isPot : Cond.instanceMethod yX9_isPot ∈ xtb := xT4 238 rfl rfl
theorem slX9_isPot : Cond.selects RX9 yX9_isPot yX9_isPot ∈ xtb := xTs 32 rfl rfl
abbrev kX9_isFact : xMD := (yX9_isFact, cX9_isFact, 1, (some .boolean))
theorem okX9_isFact : xOk kX9_isFact 1 := ⟨by decide +kernel, xT5 65 rfl rfl, iniX9, ⟨by decide +kernel, by decide +kernel, by decide +kernel⟩, by decide⟩
theorem stX9_isFact : Cond.static yX9_isFact ∈ xtb := xT5 64 rfl rfl
abbrev kX9_one : xMD := (yX9_one, cX9_one, 3, (some .int))
theorem okX9_one : xOk kX9_one 2 := ⟨by decide +kernel, xT4 231 rfl rfl, iniX9, ⟨by decide +kernel, by decide +kernel, by decide +kernel⟩, by decide⟩
theorem imX9_one : Cond.instanceMethod yX9_one ∈ xtb := xT4 230 rfl rfl
theorem slX9_one : Cond.selects RX9 yX9_one yX9_one ∈ xtb := xTs 31 rfl rfl
abbrev kX9_change : xMD := (yX9_change, cX9_change, 5, (some .int))
theorem okX9_change : xOk kX9_change 3 := ⟨by decide +kernel, xT4 227 rfl rfl, iniX9, ⟨by decide +kernel, by decide +kernel, by decide +kernel⟩, by decide⟩
theorem imX9_change : Cond.instanceMethod yX9_change ∈ xtb := xT4 226 rfl rfl
theorem slX9_change : Cond.selects RX9 yX9_change yX9_change ∈ xtb := xTs 30 rfl rfl
abbrev kX9_many : xMD := (yX9_many, cX9_many, 3, (some .int))
theorem okX9_many : xOk kX9_many 1 := ⟨by decide +kernel, xT5 163 rfl rfl, iniX9, ⟨by decide +kernel, by decide +kernel, by decide +kernel⟩, by decide⟩
theorem stX9_many : Cond.static yX9_many ∈ xtb := xT5 162 rfl rfl
abbrev kX9_pot : xMD := (yX9_pot, cX9_pot, 6, (some .int))
theorem okX9_pot : xOk kX9_pot 3 := ⟨by decide +kernel, xT4 220 rfl rfl, iniX9, ⟨by decide +kernel, by decide +kernel, by decide +kernel⟩, by decide⟩
theorem imX9_pot : Cond.instanceMethod yX9_pot ∈ xtb := xT4 218 rfl rfl
theorem slX9_pot : Cond.selects RX9 yX9_pot yX9_pot ∈ xtb := xT4 219 rfl rfl
abbrev kX9_of : xMD := (yX9_of, cX9_of, 3, (some .int))
theorem okX9_of : xOk kX9_of 2 := ⟨by decide +kernel, xT4 235 rfl rfl, iniX9, ⟨by decide +kernel, by decide +kernel, by decide +kernel⟩, by decide⟩
theorem imX9_of : Cond.instanceMethod yX9_of ∈ xtb := xT4 233 rfl rfl
theorem slX9_of : Cond.selects RX9 yX9_of yX9_of ∈ xtb := xT4 234 rfl rfl
abbrev kX9_world : xMD := (yX9_world, cX9_world, 3, (some .int))
theorem okX9_world : xOk kX9_world 1 := ⟨by decide +kernel, xT5 82 rfl rfl, iniX9, ⟨by decide +kernel, by decide +kernel, by decide +kernel⟩, by decide⟩
theorem imX9_world : Cond.instanceMethod yX9_world ∈ xtb := xT5 80 rfl rfl
theorem slX9_world : Cond.selects RX9 yX9_world yX9_world ∈ xtb := xT5 81 rfl rfl
abbrev kX9_sugar : xMD := (yX9_sugar, cX9_sugar, 3, (some .int))
theorem okX9_sugar : xOk kX9_sugar 2 := ⟨by decide +kernel, xT5 86 rfl rfl, iniX9, ⟨by decide +kernel, by decide +kernel, by decide +kernel⟩, by decide⟩
theorem imX9_sugar : Cond.instanceMethod yX9_sugar ∈ xtb := xT5 84 rfl rfl
theorem slX9_sugar : Cond.selects RX9 yX9_sugar yX9_sugar ∈ xtb := xT5 85 rfl rfl
abbrev kX9_opens : xMD := (yX9_opens, cX9_opens, 2, none)
theorem okX9_opens : xOk kX9_opens 1 := ⟨by decide +kernel, xT5 94 rfl rfl, iniX9, ⟨by decide +kernel, by decide +kernel, by decide +kernel⟩, by decide⟩
theorem imX9_opens : Cond.instanceMethod yX9_opens ∈ xtb := xT5 93 rfl rfl
theorem slX9_opens : Cond.selects RX9 yX9_opens yX9_opens ∈ xtb := xTs 51 rfl rfl
abbrev kX9_spoon : xMD := (yX9_spoon, cX9_spoon, 4, (some .int))
theorem okX9_spoon : xOk kX9_spoon 2 := ⟨by decide +kernel, xT5 90 rfl rfl, iniX9, ⟨by decide +kernel, by decide +kernel, by decide +kernel⟩, by decide⟩
theorem imX9_spoon : Cond.instanceMethod yX9_spoon ∈ xtb := xT5 88 rfl rfl
theorem slX9_spoon : Cond.selects RX9 yX9_spoon yX9_spoon ∈ xtb := xT5 89 rfl rfl
abbrev kX9_row : xMD := (yX9_row, cX9_row, 4, (some .int))
theorem okX9_row : xOk kX9_row 3 := ⟨by decide +kernel, xT5 99 rfl rfl, iniX9, ⟨by decide +kernel, by decide +kernel, by decide +kernel⟩, by decide⟩
theorem imX9_row : Cond.instanceMethod yX9_row ∈ xtb := xT5 97 rfl rfl
theorem slX9_row : Cond.selects RX9 yX9_row yX9_row ∈ xtb := xT5 98 rfl rfl
abbrev kX9_feed : xMD := (yX9_feed, cX9_feed, 2, (some .int))
theorem okX9_feed : xOk kX9_feed 1 := ⟨by decide +kernel, xT5 103 rfl rfl, iniX9, ⟨by decide +kernel, by decide +kernel, by decide +kernel⟩, by decide⟩
theorem imX9_feed : Cond.instanceMethod yX9_feed ∈ xtb := xT5 101 rfl rfl
theorem slX9_feed : Cond.selects RX9 yX9_feed yX9_feed ∈ xtb := xT5 102 rfl rfl
abbrev kX9_isAt : xMD := (yX9_isAt, cX9_isAt, 2, (some .boolean))
theorem okX9_isAt : xOk kX9_isAt 1 := ⟨by decide +kernel, xT5 31 rfl rfl, iniX9, ⟨by decide +kernel, by decide +kernel, by decide +kernel⟩, by decide⟩
theorem imX9_isAt : Cond.instanceMethod yX9_isAt ∈ xtb := xT5 30 rfl rfl
theorem slX9_isAt : Cond.selects RX9 yX9_isAt yX9_isAt ∈ xtb := xTs 40 rfl rfl
abbrev kX9_takes : xMD := (yX9_takes, cX9_takes, 2, none)
theorem okX9_takes : xOk kX9_takes 1 := ⟨by decide +kernel, xT5 35 rfl rfl, iniX9, ⟨by decide +kernel, by decide +kernel, by decide +kernel⟩, by decide⟩
theorem imX9_takes : Cond.instanceMethod yX9_takes ∈ xtb := xT5 34 rfl rfl
theorem slX9_takes : Cond.selects RX9 yX9_takes yX9_takes ∈ xtb := xTs 41 rfl rfl
abbrev kX9_isDigit : xMD := (yX9_isDigit, cX9_isDigit, 1, (some .boolean))
theorem okX9_isDigit : xOk kX9_isDigit 0 := ⟨by decide +kernel, xT5 43 rfl rfl, iniX9, ⟨by decide +kernel, by decide +kernel, by decide +kernel⟩, by decide⟩
theorem imX9_isDigit : Cond.instanceMethod yX9_isDigit ∈ xtb := xT5 42 rfl rfl
theorem slX9_isDigit : Cond.selects RX9 yX9_isDigit yX9_isDigit ∈ xtb := xTs 43 rfl rfl
abbrev kX9_number : xMD := (yX9_number, cX9_number, 2, (some .int))
theorem okX9_number : xOk kX9_number 0 := ⟨by decide +kernel, xT5 39 rfl rfl, iniX9, ⟨by decide +kernel, by decide +kernel, by decide +kernel⟩, by decide⟩
theorem imX9_number : Cond.instanceMethod yX9_number ∈ xtb := xT5 38 rfl rfl
theorem slX9_number : Cond.selects RX9 yX9_number yX9_number ∈ xtb := xTs 42 rfl rfl
abbrev kX9_test : xMD := (yX9_test, cX9_test, 4, (some .boolean))
theorem okX9_test : xOk kX9_test 0 := ⟨by decide +kernel, xT5 59 rfl rfl, iniX9, ⟨by decide +kernel, by decide +kernel, by decide +kernel⟩, by decide⟩
theorem imX9_test : Cond.instanceMethod yX9_test ∈ xtb := xT5 58 rfl rfl
theorem slX9_test : Cond.selects RX9 yX9_test yX9_test ∈ xtb := xTs 47 rfl rfl
abbrev kX9_factor : xMD := (yX9_factor, cX9_factor, 2, (some .boolean))
theorem okX9_factor : xOk kX9_factor 0 := ⟨by decide +kernel, xT5 55 rfl rfl, iniX9, ⟨by decide +kernel, by decide +kernel, by decide +kernel⟩, by decide⟩
theorem imX9_factor : Cond.instanceMethod yX9_factor ∈ xtb := xT5 54 rfl rfl
theorem slX9_factor : Cond.selects RX9 yX9_factor yX9_factor ∈ xtb := xTs 46 rfl rfl
abbrev kX9_both : xMD := (yX9_both, cX9_both, 3, (some .boolean))
theorem okX9_both : xOk kX9_both 0 := ⟨by decide +kernel, xT5 51 rfl rfl, iniX9, ⟨by decide +kernel, by decide +kernel, by decide +kernel⟩, by decide⟩
theorem imX9_both : Cond.instanceMethod yX9_both ∈ xtb := xT5 50 rfl rfl
theorem slX9_both : Cond.selects RX9 yX9_both yX9_both ∈ xtb := xTs 45 rfl rfl
abbrev kX9_any : xMD := (yX9_any, cX9_any, 3, (some .boolean))
theorem okX9_any : xOk kX9_any 0 := ⟨by decide +kernel, xT5 47 rfl rfl, iniX9, ⟨by decide +kernel, by decide +kernel, by decide +kernel⟩, by decide⟩
theorem imX9_any : Cond.instanceMethod yX9_any ∈ xtb := xT5 46 rfl rfl
theorem slX9_any : Cond.selects RX9 yX9_any yX9_any ∈ xtb := xTs 44 rfl rfl
abbrev kX9_clause : xMD := (yX9_clause, cX9_clause, 4, none)
theorem okX9_clause : xOk kX9_clause 0 := ⟨by decide +kernel, xT5 27 rfl rfl, iniX9, ⟨by decide +kernel, by decide +kernel, by decide +kernel⟩, by decide⟩
theorem imX9_clause : Cond.instanceMethod yX9_clause ∈ xtb := xT5 26 rfl rfl
theorem slX9_clause : Cond.selects RX9 yX9_clause yX9_clause ∈ xtb := xTs 39 rfl rfl
abbrev kX9_readAll : xMD := (yX9_readAll, cX9_readAll, 2, (some .boolean))
theorem okX9_readAll : xOk kX9_readAll 0 := ⟨by decide +kernel, xT5 23 rfl rfl, iniX9, ⟨by decide +kernel, by decide +kernel, by decide +kernel⟩, by decide⟩
theorem imX9_readAll : Cond.instanceMethod yX9_readAll ∈ xtb := xT5 22 rfl rfl
theorem slX9_readAll : Cond.selects RX9 yX9_readAll yX9_readAll ∈ xtb := xTs 38 rfl rfl
abbrev kX9_readFor : xMD := (yX9_readFor, cX9_readFor, 5, none)
theorem okX9_readFor : xOk kX9_readFor 2 := ⟨by decide +kernel, xT5 19 rfl rfl, iniX9, ⟨by decide +kernel, by decide +kernel, by decide +kernel⟩, by decide⟩
theorem imX9_readFor : Cond.instanceMethod yX9_readFor ∈ xtb := xT5 18 rfl rfl
theorem slX9_readFor : Cond.selects RX9 yX9_readFor yX9_readFor ∈ xtb := xTs 37 rfl rfl
abbrev kX9_cellar : xMD := (yX9_cellar, cX9_cellar, 2, (some .int))
theorem okX9_cellar : xOk kX9_cellar 0 := ⟨by decide +kernel, xT5 107 rfl rfl, iniX9, ⟨by decide +kernel, by decide +kernel, by decide +kernel⟩, by decide⟩
theorem imX9_cellar : Cond.instanceMethod yX9_cellar ∈ xtb := xT5 105 rfl rfl
theorem slX9_cellar : Cond.selects RX9 yX9_cellar yX9_cellar ∈ xtb := xT5 106 rfl rfl
abbrev kX9_clear : xMD := (yX9_clear, cX9_clear, 4, (some .int))
theorem okX9_clear : xOk kX9_clear 2 := ⟨by decide +kernel, xT5 15 rfl rfl, iniX9, ⟨by decide +kernel, by decide +kernel, by decide +kernel⟩, by decide⟩
theorem imX9_clear : Cond.instanceMethod yX9_clear ∈ xtb := xT5 14 rfl rfl
theorem slX9_clear : Cond.selects RX9 yX9_clear yX9_clear ∈ xtb := xTs 36 rfl rfl
abbrev kX9_saysBy : xMD := (yX9_saysBy, cX9_saysBy, 4, (some .int))
theorem okX9_saysBy : xOk kX9_saysBy 3 := ⟨by decide +kernel, xT5 62 rfl rfl, iniX9, ⟨by decide +kernel, by decide +kernel, by decide +kernel⟩, by decide⟩
theorem stX9_saysBy : Cond.static yX9_saysBy ∈ xtb := xT5 61 rfl rfl
abbrev kX9_says : xMD := (yX9_says, cX9_says, 4, (some .int))
theorem okX9_says : xOk kX9_says 3 := ⟨by decide +kernel, xT5 11 rfl rfl, iniX9, ⟨by decide +kernel, by decide +kernel, by decide +kernel⟩, by decide⟩
theorem imX9_says : Cond.instanceMethod yX9_says ∈ xtb := xT5 10 rfl rfl
theorem slX9_says : Cond.selects RX9 yX9_says yX9_says ∈ xtb := xTs 35 rfl rfl
abbrev kX9_keepNow : xMD := (yX9_keepNow, cX9_keepNow, 1, (some .int))
theorem okX9_keepNow : xOk kX9_keepNow 0 := ⟨by decide +kernel, xT5 77 rfl rfl, iniX9, ⟨by decide +kernel, by decide +kernel, by decide +kernel⟩, by decide⟩
theorem imX9_keepNow : Cond.instanceMethod yX9_keepNow ∈ xtb := xT5 76 rfl rfl
theorem slX9_keepNow : Cond.selects RX9 yX9_keepNow yX9_keepNow ∈ xtb := xTs 50 rfl rfl
abbrev kX9_term : xMD := (yX9_term, cX9_term, 4, none)
theorem okX9_term : xOk kX9_term 0 := ⟨by decide +kernel, xT5 73 rfl rfl, iniX9, ⟨by decide +kernel, by decide +kernel, by decide +kernel⟩, by decide⟩
theorem imX9_term : Cond.instanceMethod yX9_term ∈ xtb := xT5 72 rfl rfl
theorem slX9_term : Cond.selects RX9 yX9_term yX9_term ∈ xtb := xTs 49 rfl rfl
abbrev kX9_terms : xMD := (yX9_terms, cX9_terms, 3, none)
theorem okX9_terms : xOk kX9_terms 1 := ⟨by decide +kernel, xT5 140 rfl rfl, iniX9, ⟨by decide +kernel, by decide +kernel, by decide +kernel⟩, by decide⟩
theorem imX9_terms : Cond.instanceMethod yX9_terms ∈ xtb := xT5 139 rfl rfl
theorem slX9_terms : Cond.selects RX9 yX9_terms yX9_terms ∈ xtb := xTs 57 rfl rfl
abbrev kX9_all : xMD := (yX9_all, cX9_all, 4, (some .int))
theorem okX9_all : xOk kX9_all 1 := ⟨by decide +kernel, xT5 148 rfl rfl, iniX9, ⟨by decide +kernel, by decide +kernel, by decide +kernel⟩, by decide⟩
theorem imX9_all : Cond.instanceMethod yX9_all ∈ xtb := xT5 147 rfl rfl
theorem slX9_all : Cond.selects RX9 yX9_all yX9_all ∈ xtb := xTs 58 rfl rfl
abbrev kX9_when : xMD := (yX9_when, cX9_when, 5, (some .int))
theorem okX9_when : xOk kX9_when 2 := ⟨by decide +kernel, xT5 69 rfl rfl, iniX9, ⟨by decide +kernel, by decide +kernel, by decide +kernel⟩, by decide⟩
theorem imX9_when : Cond.instanceMethod yX9_when ∈ xtb := xT5 68 rfl rfl
theorem slX9_when : Cond.selects RX9 yX9_when yX9_when ∈ xtb := xTs 48 rfl rfl
abbrev kX9_look : xMD := (yX9_look, cX9_look, 6, (some .int))
theorem okX9_look : xOk kX9_look 0 := ⟨by decide +kernel, xT5 115 rfl rfl, iniX9, ⟨by decide +kernel, by decide +kernel, by decide +kernel⟩, by decide⟩
theorem imX9_look : Cond.instanceMethod yX9_look ∈ xtb := xT5 114 rfl rfl
theorem slX9_look : Cond.selects RX9 yX9_look yX9_look ∈ xtb := xTs 52 rfl rfl
abbrev kX9_leastFit : xMD := (yX9_leastFit, cX9_leastFit, 2, (some .int))
theorem okX9_leastFit : xOk kX9_leastFit 0 := ⟨by decide +kernel, xT5 119 rfl rfl, iniX9, ⟨by decide +kernel, by decide +kernel, by decide +kernel⟩, by decide⟩
theorem imX9_leastFit : Cond.instanceMethod yX9_leastFit ∈ xtb := xT5 118 rfl rfl
theorem slX9_leastFit : Cond.selects RX9 yX9_leastFit yX9_leastFit ∈ xtb := xTs 53 rfl rfl
abbrev kX9_sure : xMD := (yX9_sure, cX9_sure, 6, (some .int))
theorem okX9_sure : xOk kX9_sure 1 := ⟨by decide +kernel, xT5 123 rfl rfl, iniX9, ⟨by decide +kernel, by decide +kernel, by decide +kernel⟩, by decide⟩
theorem imX9_sure : Cond.instanceMethod yX9_sure ∈ xtb := xT5 122 rfl rfl
theorem slX9_sure : Cond.selects RX9 yX9_sure yX9_sure ∈ xtb := xTs 54 rfl rfl
abbrev kX9_next : xMD := (yX9_next, cX9_next, 9, (some .int))
theorem okX9_next : xOk kX9_next 0 := ⟨by decide +kernel, xT5 127 rfl rfl, iniX9, ⟨by decide +kernel, by decide +kernel, by decide +kernel⟩, by decide⟩
theorem imX9_next : Cond.instanceMethod yX9_next ∈ xtb := xT5 126 rfl rfl
theorem slX9_next : Cond.selects RX9 yX9_next yX9_next ∈ xtb := xTs 55 rfl rfl
abbrev kX9_found : xMD := (yX9_found, cX9_found, 6, (some .int))
theorem okX9_found : xOk kX9_found 1 := ⟨by decide +kernel, xT5 131 rfl rfl, iniX9, ⟨by decide +kernel, by decide +kernel, by decide +kernel⟩, by decide⟩
theorem imX9_found : Cond.instanceMethod yX9_found ∈ xtb := xT5 130 rfl rfl
theorem slX9_found : Cond.selects RX9 yX9_found yX9_found ∈ xtb := xTs 56 rfl rfl
abbrev kX9_told : xMD := (yX9_told, cX9_told, 2, (some .int))
theorem okX9_told : xOk kX9_told 1 := ⟨by decide +kernel, xT5 111 rfl rfl, iniX9, ⟨by decide +kernel, by decide +kernel, by decide +kernel⟩, by decide⟩
theorem imX9_told : Cond.instanceMethod yX9_told ∈ xtb := xT5 109 rfl rfl
theorem slX9_told : Cond.selects RX9 yX9_told yX9_told ∈ xtb := xT5 110 rfl rfl
abbrev kX9_pass : xMD := (yX9_pass, cX9_pass, 2, (some .int))
theorem okX9_pass : xOk kX9_pass 1 := ⟨by decide +kernel, xT5 136 rfl rfl, iniX9, ⟨by decide +kernel, by decide +kernel, by decide +kernel⟩, by decide⟩
theorem imX9_pass : Cond.instanceMethod yX9_pass ∈ xtb := xT5 134 rfl rfl
theorem slX9_pass : Cond.selects RX9 yX9_pass yX9_pass ∈ xtb := xT5 135 rfl rfl
abbrev kX9_on : xMD := (yX9_on, cX9_on, 4, (some .int))
theorem okX9_on : xOk kX9_on 2 := ⟨by decide +kernel, xT5 144 rfl rfl, iniX9, ⟨by decide +kernel, by decide +kernel, by decide +kernel⟩, by decide⟩
theorem imX9_on : Cond.instanceMethod yX9_on ∈ xtb := xT5 142 rfl rfl
theorem slX9_on : Cond.selects RX9 yX9_on yX9_on ∈ xtb := xT5 143 rfl rfl
abbrev kX9_ask : xMD := (yX9_ask, cX9_ask, 3, none)
theorem okX9_ask : xOk kX9_ask 0 := ⟨by decide +kernel, xT5 156 rfl rfl, iniX9, ⟨by decide +kernel, by decide +kernel, by decide +kernel⟩, by decide⟩
theorem imX9_ask : Cond.instanceMethod yX9_ask ∈ xtb := xT5 155 rfl rfl
theorem slX9_ask : Cond.selects RX9 yX9_ask yX9_ask ∈ xtb := xTs 59 rfl rfl
abbrev kX9_enough : xMD := (yX9_enough, cX9_enough, 6, (some .int))
theorem okX9_enough : xOk kX9_enough 1 := ⟨by decide +kernel, xT5 160 rfl rfl, iniX9, ⟨by decide +kernel, by decide +kernel, by decide +kernel⟩, by decide⟩
theorem imX9_enough : Cond.instanceMethod yX9_enough ∈ xtb := xT5 159 rfl rfl
theorem slX9_enough : Cond.selects RX9 yX9_enough yX9_enough ∈ xtb := xTs 60 rfl rfl
abbrev kX9_own : xMD := (yX9_own, cX9_own, 5, (some .int))
theorem okX9_own : xOk kX9_own 2 := ⟨by decide +kernel, xT5 167 rfl rfl, iniX9, ⟨by decide +kernel, by decide +kernel, by decide +kernel⟩, by decide⟩
theorem imX9_own : Cond.instanceMethod yX9_own ∈ xtb := xT5 166 rfl rfl
theorem slX9_own : Cond.selects RX9 yX9_own yX9_own ∈ xtb := xTs 61 rfl rfl
abbrev kX9_cases : xMD := (yX9_cases, cX9_cases, 3, (some .int))
theorem okX9_cases : xOk kX9_cases 2 := ⟨by decide +kernel, xT5 152 rfl rfl, iniX9, ⟨by decide +kernel, by decide +kernel, by decide +kernel⟩, by decide⟩
theorem imX9_cases : Cond.instanceMethod yX9_cases ∈ xtb := xT5 150 rfl rfl
theorem slX9_cases : Cond.selects RX9 yX9_cases yX9_cases ∈ xtb := xT5 151 rfl rfl
abbrev kX9_hear : xMD := (yX9_hear, cX9_hear, 5, (some .int))
theorem okX9_hear : xOk kX9_hear 3 := ⟨by decide +kernel, xT5 171 rfl rfl, iniX9, ⟨by decide +kernel, by decide +kernel, by decide +kernel⟩, by decide⟩
theorem imX9_hear : Cond.instanceMethod yX9_hear ∈ xtb := xT5 169 rfl rfl
theorem slX9_hear : Cond.selects RX9 yX9_hear yX9_hear ∈ xtb := xT5 170 rfl rfl
abbrev kX9_isAllSo : xMD := (yX9_isAllSo, cX9_isAllSo, 6, (some .boolean))
theorem okX9_isAllSo : xOk kX9_isAllSo 1 := ⟨by decide +kernel, xT5 7 rfl rfl, iniX9, ⟨by decide +kernel, by decide +kernel, by decide +kernel⟩, by decide⟩
theorem imX9_isAllSo : Cond.instanceMethod yX9_isAllSo ∈ xtb := xT5 6 rfl rfl
theorem slX9_isAllSo : Cond.selects RX9 yX9_isAllSo yX9_isAllSo ∈ xtb := xTs 34 rfl rfl
abbrev kX9_fits : xMD := (yX9_fits, cX9_fits, 6, (some .int))
theorem okX9_fits : xOk kX9_fits 2 := ⟨by decide +kernel, xT5 3 rfl rfl, iniX9, ⟨by decide +kernel, by decide +kernel, by decide +kernel⟩, by decide⟩
theorem imX9_fits : Cond.instanceMethod yX9_fits ∈ xtb := xT5 2 rfl rfl
theorem slX9_fits : Cond.selects RX9 yX9_fits yX9_fits ∈ xtb := xTs 33 rfl rfl
abbrev kX9_can : xMD := (yX9_can, cX9_can, 7, (some .int))
theorem okX9_can : xOk kX9_can 2 := ⟨by decide +kernel, xT5 175 rfl rfl, iniX9, ⟨by decide +kernel, by decide +kernel, by decide +kernel⟩, by decide⟩
theorem imX9_can : Cond.instanceMethod yX9_can ∈ xtb := xT5 173 rfl rfl
theorem slX9_can : Cond.selects RX9 yX9_can yX9_can ∈ xtb := xT5 174 rfl rfl
abbrev kX9_fraction : xMD := (yX9_fraction, cX9_fraction, 11, (some .long))
theorem okX9_fraction : xOk kX9_fraction 3 := ⟨by decide +kernel, xT5 183 rfl rfl, iniX9, ⟨by decide +kernel, by decide +kernel, by decide +kernel⟩, by decide⟩
theorem stX9_fraction : Cond.static yX9_fraction ∈ xtb := xT5 182 rfl rfl
abbrev kX9_odds : xMD := (yX9_odds, cX9_odds, 6, (some .long))
theorem okX9_odds : xOk kX9_odds 2 := ⟨by decide +kernel, xT5 179 rfl rfl, iniX9, ⟨by decide +kernel, by decide +kernel, by decide +kernel⟩, by decide⟩
theorem imX9_odds : Cond.instanceMethod yX9_odds ∈ xtb := xT5 177 rfl rfl
theorem slX9_odds : Cond.selects RX9 yX9_odds yX9_odds ∈ xtb := xT5 178 rfl rfl
abbrev kX9_mean : xMD := (yX9_mean, cX9_mean, 3, (some .long))
theorem okX9_mean : xOk kX9_mean 2 := ⟨by decide +kernel, xT5 187 rfl rfl, iniX9, ⟨by decide +kernel, by decide +kernel, by decide +kernel⟩, by decide⟩
theorem imX9_mean : Cond.instanceMethod yX9_mean ∈ xtb := xT5 185 rfl rfl
theorem slX9_mean : Cond.selects RX9 yX9_mean yX9_mean ∈ xtb := xT5 186 rfl rfl
abbrev kX9_plan : xMD := (yX9_plan, cX9_plan, 4, (some .int))
theorem okX9_plan : xOk kX9_plan 2 := ⟨by decide +kernel, xT5 192 rfl rfl, iniX9, ⟨by decide +kernel, by decide +kernel, by decide +kernel⟩, by decide⟩
theorem imX9_plan : Cond.instanceMethod yX9_plan ∈ xtb := xT5 190 rfl rfl
theorem slX9_plan : Cond.selects RX9 yX9_plan yX9_plan ∈ xtb := xT5 191 rfl rfl
abbrev kX9_ends : xMD := (yX9_ends, cX9_ends, 5, (some .int))
theorem okX9_ends : xOk kX9_ends 1 := ⟨by decide +kernel, xT5 196 rfl rfl, iniX9, ⟨by decide +kernel, by decide +kernel, by decide +kernel⟩, by decide⟩
theorem imX9_ends : Cond.instanceMethod yX9_ends ∈ xtb := xT5 194 rfl rfl
theorem slX9_ends : Cond.selects RX9 yX9_ends yX9_ends ∈ xtb := xT5 195 rfl rfl
abbrev kX9_book : xMD := (yX9_book, cX9_book, 3, (some .int))
theorem okX9_book : xOk kX9_book 2 := ⟨by decide +kernel, xT5 200 rfl rfl, iniX9, ⟨by decide +kernel, by decide +kernel, by decide +kernel⟩, by decide⟩
theorem imX9_book : Cond.instanceMethod yX9_book ∈ xtb := xT5 198 rfl rfl
theorem slX9_book : Cond.selects RX9 yX9_book yX9_book ∈ xtb := xT5 199 rfl rfl
abbrev kX9_looked : xMD := (yX9_looked, cX9_looked, 2, (some .int))
theorem okX9_looked : xOk kX9_looked 0 := ⟨by decide +kernel, xT5 204 rfl rfl, iniX9, ⟨by decide +kernel, by decide +kernel, by decide +kernel⟩, by decide⟩
theorem imX9_looked : Cond.instanceMethod yX9_looked ∈ xtb := xT5 202 rfl rfl
theorem slX9_looked : Cond.selects RX9 yX9_looked yX9_looked ∈ xtb := xT5 203 rfl rfl
abbrev kX9_body : xMD := (yX9_body, cX9_body, 2, (some .int))
theorem okX9_body : xOk kX9_body 1 := ⟨by decide +kernel, xT5 220 rfl rfl, iniX9, ⟨by decide +kernel, by decide +kernel, by decide +kernel⟩, by decide⟩
theorem imX9_body : Cond.instanceMethod yX9_body ∈ xtb := xT5 219 rfl rfl
theorem slX9_body : Cond.selects RX9 yX9_body yX9_body ∈ xtb := xTs 64 rfl rfl
abbrev kX9_begin : xMD := (yX9_begin, cX9_begin, 4, (some .int))
theorem okX9_begin : xOk kX9_begin 3 := ⟨by decide +kernel, xT5 212 rfl rfl, iniX9, ⟨by decide +kernel, by decide +kernel, by decide +kernel⟩, by decide⟩
theorem imX9_begin : Cond.instanceMethod yX9_begin ∈ xtb := xT5 211 rfl rfl
theorem slX9_begin : Cond.selects RX9 yX9_begin yX9_begin ∈ xtb := xTs 62 rfl rfl
abbrev kX9_byKind : xMD := (yX9_byKind, cX9_byKind, 7, (some .int))
theorem okX9_byKind : xOk kX9_byKind 4 := ⟨by decide +kernel, xT5 216 rfl rfl, iniX9, ⟨by decide +kernel, by decide +kernel, by decide +kernel⟩, by decide⟩
theorem imX9_byKind : Cond.instanceMethod yX9_byKind ∈ xtb := xT5 215 rfl rfl
theorem slX9_byKind : Cond.selects RX9 yX9_byKind yX9_byKind ∈ xtb := xTs 63 rfl rfl
abbrev kX9_act : xMD := (yX9_act, cX9_act, 4, (some .int))
theorem okX9_act : xOk kX9_act 3 := ⟨by decide +kernel, xT5 208 rfl rfl, iniX9, ⟨by decide +kernel, by decide +kernel, by decide +kernel⟩, by decide⟩
theorem imX9_act : Cond.instanceMethod yX9_act ∈ xtb := xT5 206 rfl rfl
theorem slX9_act : Cond.selects RX9 yX9_act yX9_act ∈ xtb := xT5 207 rfl rfl
abbrev kX9_trace : xMD := (yX9_trace, cX9_trace, 2, (some .int))
theorem okX9_trace : xOk kX9_trace 1 := ⟨by decide +kernel, xT5 224 rfl rfl, iniX9, ⟨by decide +kernel, by decide +kernel, by decide +kernel⟩, by decide⟩
theorem imX9_trace : Cond.instanceMethod yX9_trace ∈ xtb := xT5 222 rfl rfl
theorem slX9_trace : Cond.selects RX9 yX9_trace yX9_trace ∈ xtb := xT5 223 rfl rfl
abbrev kX9_taken : xMD := (yX9_taken, cX9_taken, 4, (some .int))
theorem okX9_taken : xOk kX9_taken 2 := ⟨by decide +kernel, xT5 228 rfl rfl, iniX9, ⟨by decide +kernel, by decide +kernel, by decide +kernel⟩, by decide⟩
theorem imX9_taken : Cond.instanceMethod yX9_taken ∈ xtb := xT5 226 rfl rfl
theorem slX9_taken : Cond.selects RX9 yX9_taken yX9_taken ∈ xtb := xT5 227 rfl rfl
abbrev kX9_count : xMD := (yX9_count, cX9_count, 2, (some .int))
theorem okX9_count : xOk kX9_count 1 := ⟨by decide +kernel, xT5 232 rfl rfl, iniX9, ⟨by decide +kernel, by decide +kernel, by decide +kernel⟩, by decide⟩
theorem imX9_count : Cond.instanceMethod yX9_count ∈ xtb := xT5 230 rfl rfl
theorem slX9_count : Cond.selects RX9 yX9_count yX9_count ∈ xtb := xT5 231 rfl rfl
abbrev kX9_isTape : xMD := (yX9_isTape, cX9_isTape, 1, (some .boolean))
theorem okX9_isTape : xOk kX9_isTape 1 := ⟨by decide +kernel, xT5 239 rfl rfl, iniX9, ⟨by decide +kernel, by decide +kernel, by decide +kernel⟩, by decide⟩
theorem stX9_isTape : Cond.static yX9_isTape ∈ xtb := xT5 238 rfl rfl
abbrev kX9_tape : xMD := (yX9_tape, cX9_tape, 5, (some .int))
theorem okX9_tape : xOk kX9_tape 3 := ⟨by decide +kernel, xT5 236 rfl rfl, iniX9, ⟨by decide +kernel, by decide +kernel, by decide +kernel⟩, by decide⟩
theorem imX9_tape : Cond.instanceMethod yX9_tape ∈ xtb := xT5 234 rfl rfl
theorem slX9_tape : Cond.selects RX9 yX9_tape yX9_tape ∈ xtb := xT5 235 rfl rfl
abbrev kX9_item : xMD := (yX9_item, cX9_item, 6, (some .int))
theorem okX9_item : xOk kX9_item 3 := ⟨by decide +kernel, xT6 3 rfl rfl, iniX9, ⟨by decide +kernel, by decide +kernel, by decide +kernel⟩, by decide⟩
theorem imX9_item : Cond.instanceMethod yX9_item ∈ xtb := xT6 1 rfl rfl
theorem slX9_item : Cond.selects RX9 yX9_item yX9_item ∈ xtb := xT6 2 rfl rfl
abbrev kX9_read : xMD := (yX9_read, cX9_read, 3, (some .long))
theorem okX9_read : xOk kX9_read 2 := ⟨by decide +kernel, xT6 7 rfl rfl, iniX9, ⟨by decide +kernel, by decide +kernel, by decide +kernel⟩, by decide⟩
theorem imX9_read : Cond.instanceMethod yX9_read ∈ xtb := xT6 5 rfl rfl
theorem slX9_read : Cond.selects RX9 yX9_read yX9_read ∈ xtb := xT6 6 rfl rfl
abbrev kX9_shift : xMD := (yX9_shift, cX9_shift, 7, (some .int))
theorem okX9_shift : xOk kX9_shift 5 := ⟨by decide +kernel, xT6 11 rfl rfl, iniX9, ⟨by decide +kernel, by decide +kernel, by decide +kernel⟩, by decide⟩
theorem imX9_shift : Cond.instanceMethod yX9_shift ∈ xtb := xT6 9 rfl rfl
theorem slX9_shift : Cond.selects RX9 yX9_shift yX9_shift ∈ xtb := xT6 10 rfl rfl
abbrev kX9_judge : xMD := (yX9_judge, cX9_judge, 6, (some .int))
theorem okX9_judge : xOk kX9_judge 2 := ⟨by decide +kernel, xT6 15 rfl rfl, iniX9, ⟨by decide +kernel, by decide +kernel, by decide +kernel⟩, by decide⟩
theorem imX9_judge : Cond.instanceMethod yX9_judge ∈ xtb := xT6 13 rfl rfl
theorem slX9_judge : Cond.selects RX9 yX9_judge yX9_judge ∈ xtb := xT6 14 rfl rfl
abbrev kJ6_bitCount_0f7a4 : xMD := (yJ6_bitCount_0f7a4, cJ6_bitCount_0f7a4, 1, (some .int))
theorem okJ6_bitCount_0f7a4 : xOk kJ6_bitCount_0f7a4 1 := ⟨by decide +kernel, xT3 104 rfl rfl, iniJ6, ⟨by decide +kernel, by decide +kernel, by decide +kernel⟩, by decide⟩
theorem stJ6_bitCount_0f7a4 : Cond.static yJ6_bitCount_0f7a4 ∈ xtb := xT3 103 rfl rfl
abbrev kJ0_length_8abf5 : xMD := (yJ0_length_8abf5, cJ0_length_8abf5, 1, (some .int))
theorem okJ0_length_8abf5 : xOk kJ0_length_8abf5 0 := ⟨by decide +kernel, xT2 181 rfl rfl, iniJ0, ⟨by decide +kernel, by decide +kernel, by decide +kernel⟩, by decide⟩
theorem imJ0_length_8abf5 : Cond.instanceMethod yJ0_length_8abf5 ∈ xtb := xT2 179 rfl rfl
theorem slJ0_length_8abf5 : Cond.selects RJ0 yJ0_length_8abf5 yJ0_length_8abf5 ∈ xtb := xT2 180 rfl rfl
abbrev kJ0_charAt_5068e : xMD := (yJ0_charAt_5068e, cJ0_charAt_5068e, 2, (some .char))
theorem okJ0_charAt_5068e : xOk kJ0_charAt_5068e 1 := ⟨by decide +kernel, xT2 191 rfl rfl, iniJ0, ⟨by decide +kernel, by decide +kernel, by decide +kernel⟩, by decide⟩
theorem imJ0_charAt_5068e : Cond.instanceMethod yJ0_charAt_5068e ∈ xtb := xT2 189 rfl rfl
theorem slJ0_charAt_5068e : Cond.selects RJ0 yJ0_charAt_5068e yJ0_charAt_5068e ∈ xtb := xT2 190 rfl rfl
abbrev kJ0_indexOf_0f7a4 : xMD := (yJ0_indexOf_0f7a4, cJ0_indexOf_0f7a4, 2, (some .int))
theorem okJ0_indexOf_0f7a4 : xOk kJ0_indexOf_0f7a4 1 := ⟨by decide +kernel, xT3 14 rfl rfl, iniJ0, ⟨by decide +kernel, by decide +kernel, by decide +kernel⟩, by decide⟩
theorem imJ0_indexOf_0f7a4 : Cond.instanceMethod yJ0_indexOf_0f7a4 ∈ xtb := xT3 12 rfl rfl
theorem slJ0_indexOf_0f7a4 : Cond.selects RJ0 yJ0_indexOf_0f7a4 yJ0_indexOf_0f7a4 ∈ xtb := xT3 13 rfl rfl
abbrev kJ0_indexOf_7cf53 : xMD := (yJ0_indexOf_7cf53, cJ0_indexOf_7cf53, 3, (some .int))
theorem okJ0_indexOf_7cf53 : xOk kJ0_indexOf_7cf53 2 := ⟨by decide +kernel, xT3 18 rfl rfl, iniJ0, ⟨by decide +kernel, by decide +kernel, by decide +kernel⟩, by decide⟩
theorem imJ0_indexOf_7cf53 : Cond.instanceMethod yJ0_indexOf_7cf53 ∈ xtb := xT3 16 rfl rfl
theorem slJ0_indexOf_7cf53 : Cond.selects RJ0 yJ0_indexOf_7cf53 yJ0_indexOf_7cf53 ∈ xtb := xT3 17 rfl rfl
abbrev kJ0_coder_7d493 : xMD := (yJ0_coder_7d493, cJ0_coder_7d493, 1, (some .byte))
theorem okJ0_coder_7d493 : xOk kJ0_coder_7d493 0 := ⟨by decide +kernel, xT2 185 rfl rfl, iniJ0, ⟨by decide +kernel, by decide +kernel, by decide +kernel⟩, by decide⟩
theorem imJ0_coder_7d493 : Cond.instanceMethod yJ0_coder_7d493 ∈ xtb := xT2 183 rfl rfl
theorem slJ0_coder_7d493 : Cond.selects RJ0 yJ0_coder_7d493 yJ0_coder_7d493 ∈ xtb := xT2 184 rfl rfl
abbrev kJ0_isLatin1_aae02 : xMD := (yJ0_isLatin1_aae02, cJ0_isLatin1_aae02, 1, (some .boolean))
theorem okJ0_isLatin1_aae02 : xOk kJ0_isLatin1_aae02 0 := ⟨by decide +kernel, xT2 195 rfl rfl, iniJ0, ⟨by decide +kernel, by decide +kernel, by decide +kernel⟩, by decide⟩
theorem imJ0_isLatin1_aae02 : Cond.instanceMethod yJ0_isLatin1_aae02 ∈ xtb := xT2 193 rfl rfl
theorem slJ0_isLatin1_aae02 : Cond.selects RJ0 yJ0_isLatin1_aae02 yJ0_isLatin1_aae02 ∈ xtb := xT2 194 rfl rfl
abbrev kJ0_checkIndex_df160 : xMD := (yJ0_checkIndex_df160, cJ0_checkIndex_df160, 2, none)
theorem okJ0_checkIndex_df160 : xOk kJ0_checkIndex_df160 2 := ⟨by decide +kernel, xT2 201 rfl rfl, iniJ0, ⟨by decide +kernel, by decide +kernel, by decide +kernel⟩, by decide⟩
theorem stJ0_checkIndex_df160 : Cond.static yJ0_checkIndex_df160 ∈ xtb := xT2 200 rfl rfl
abbrev kJ0_checkBoundsBeginEnd_23922 : xMD := (yJ0_checkBoundsBeginEnd_23922, cJ0_checkBoundsBeginEnd_23922, 3, none)
theorem okJ0_checkBoundsBeginEnd_23922 : xOk kJ0_checkBoundsBeginEnd_23922 3 := ⟨by decide +kernel, xT3 45 rfl rfl, iniJ0, ⟨by decide +kernel, by decide +kernel, by decide +kernel⟩, by decide⟩
theorem stJ0_checkBoundsBeginEnd_23922 : Cond.static yJ0_checkBoundsBeginEnd_23922 ∈ xtb := xT3 44 rfl rfl
abbrev kJ1_charAt_3b067 : xMD := (yJ1_charAt_3b067, cJ1_charAt_3b067, 2, (some .char))
theorem okJ1_charAt_3b067 : xOk kJ1_charAt_3b067 2 := ⟨by decide +kernel, xT2 198 rfl rfl, iniJ1, ⟨by decide +kernel, by decide +kernel, by decide +kernel⟩, by decide⟩
theorem stJ1_charAt_3b067 : Cond.static yJ1_charAt_3b067 ∈ xtb := xT2 197 rfl rfl
abbrev kJ1_canEncode_9a6ad : xMD := (yJ1_canEncode_9a6ad, cJ1_canEncode_9a6ad, 1, (some .boolean))
theorem okJ1_canEncode_9a6ad : xOk kJ1_canEncode_9a6ad 1 := ⟨by decide +kernel, xT3 25 rfl rfl, iniJ1, ⟨by decide +kernel, by decide +kernel, by decide +kernel⟩, by decide⟩
theorem stJ1_canEncode_9a6ad : Cond.static yJ1_canEncode_9a6ad ∈ xtb := xT3 24 rfl rfl
abbrev kJ1_indexOf_4cfef : xMD := (yJ1_indexOf_4cfef, cJ1_indexOf_4cfef, 4, (some .int))
theorem okJ1_indexOf_4cfef : xOk kJ1_indexOf_4cfef 4 := ⟨by decide +kernel, xT3 22 rfl rfl, iniJ1, ⟨by decide +kernel, by decide +kernel, by decide +kernel⟩, by decide⟩
theorem stJ1_indexOf_4cfef : Cond.static yJ1_indexOf_4cfef ∈ xtb := xT3 21 rfl rfl
abbrev kJ1_indexOfChar_4cfef : xMD := (yJ1_indexOfChar_4cfef, cJ1_indexOfChar_4cfef, 6, (some .int))
theorem okJ1_indexOfChar_4cfef : xOk kJ1_indexOfChar_4cfef 4 := ⟨by decide +kernel, xT3 30 rfl rfl, iniJ1, ⟨by decide +kernel, by decide +kernel, by decide +kernel⟩, by decide⟩
theorem stJ1_indexOfChar_4cfef : Cond.static yJ1_indexOfChar_4cfef ∈ xtb := xT3 29 rfl rfl
abbrev kJ7_fill_d0a16 : xMD := (yJ7_fill_d0a16, cJ7_fill_d0a16, 5, none)
theorem okJ7_fill_d0a16 : xOk kJ7_fill_d0a16 2 := ⟨by decide +kernel, xT4 79 rfl rfl, iniJ7, ⟨by decide +kernel, by decide +kernel, by decide +kernel⟩, by decide⟩
theorem stJ7_fill_d0a16 : Cond.static yJ7_fill_d0a16 ∈ xtb := xT4 78 rfl rfl
abbrev kJ7_fill_53178 : xMD := (yJ7_fill_53178, cJ7_fill_53178, 4, none)
theorem okJ7_fill_53178 : xOk kJ7_fill_53178 2 := ⟨by decide +kernel, xT2 50 rfl rfl, iniJ7, ⟨by decide +kernel, by decide +kernel, by decide +kernel⟩, by decide⟩
theorem stJ7_fill_53178 : Cond.static yJ7_fill_53178 ∈ xtb := xT2 49 rfl rfl
theorem mlL_9 : Cond.methodLink RL 9 yX8_init ∈ xtb := xT1 22 rfl rfl
theorem mlX8_3 : Cond.methodLink RX8 3 objectInit ∈ xtb := xT1 25 rfl rfl
theorem mlX8_11 : Cond.methodLink RX8 11 yX5_init ∈ xtb := xT1 30 rfl rfl
theorem mlX5_3 : Cond.methodLink RX5 3 objectInit ∈ xtb := xT1 33 rfl rfl
theorem mlX5_32 : Cond.methodLink RX5 32 yX4_init ∈ xtb := xT1 38 rfl rfl
theorem mlX4_3 : Cond.methodLink RX4 3 objectInit ∈ xtb := xT1 41 rfl rfl
theorem mlX3_3 : Cond.methodLink RX3 3 objectInit ∈ xtb := xT1 64 rfl rfl
theorem mlX7_3 : Cond.methodLink RX7 3 objectInit ∈ xtb := xT1 144 rfl rfl
theorem mlX1_1 : Cond.methodLink RX1 1 objectInit ∈ xtb := xT1 166 rfl rfl
theorem mlX2_3 : Cond.methodLink RX2 3 objectInit ∈ xtb := xT1 184 rfl rfl
theorem mlX0_3 : Cond.methodLink RX0 3 objectInit ∈ xtb := xT1 203 rfl rfl
theorem mlX6_1 : Cond.methodLink RX6 1 objectInit ∈ xtb := xT1 219 rfl rfl
theorem mlL_13 : Cond.methodLink RL 13 yX8_pot ∈ xtb := xT2 33 rfl rfl
theorem mlX8_82 : Cond.methodLink RX8 82 yX8_isDigit ∈ xtb := xT2 37 rfl rfl
theorem mlX8_86 : Cond.methodLink RX8 86 yX5_addPot ∈ xtb := xT2 40 rfl rfl
theorem mlX5_46 : Cond.methodLink RX5 46 yX3_begin ∈ xtb := xT2 44 rfl rfl
theorem mlX3_34 : Cond.methodLink RX3 34 yJ7_fill_53178 ∈ xtb := xT2 48 rfl rfl
theorem mlL_18 : Cond.methodLink RL 18 yX8_of ∈ xtb := xT2 51 rfl rfl
theorem mlX8_90 : Cond.methodLink RX8 90 yX5_potAt ∈ xtb := xT2 55 rfl rfl
theorem mlX8_94 : Cond.methodLink RX8 94 yX8_fittingSugars ∈ xtb := xT2 59 rfl rfl
theorem mlX8_200 : Cond.methodLink RX8 200 yX3_copyFrom ∈ xtb := xT2 63 rfl rfl
theorem mlX3_40 : Cond.methodLink RX3 40 arraycopyName ∈ xtb := xT2 67 rfl rfl
theorem mlX8_304 : Cond.methodLink RX8 304 yX8_bearsOut ∈ xtb := xT2 70 rfl rfl
theorem mlX8_108 : Cond.methodLink RX8 108 yX8_says ∈ xtb := xT2 74 rfl rfl
theorem mlX8_105 : Cond.methodLink RX8 105 yX8_clearOf ∈ xtb := xT2 78 rfl rfl
theorem mlX8_146 : Cond.methodLink RX8 146 yX8_holding ∈ xtb := xT2 82 rfl rfl
theorem mlX8_183 : Cond.methodLink RX8 183 yX1_sum ∈ xtb := xT2 86 rfl rfl
theorem mlX1_27 : Cond.methodLink RX1 27 yX1_holds ∈ xtb := xT2 90 rfl rfl
theorem mlX8_186 : Cond.methodLink RX8 186 yX3_clear ∈ xtb := xT2 93 rfl rfl
theorem mlX8_197 : Cond.methodLink RX8 197 yX8_saidBy ∈ xtb := xT2 97 rfl rfl
theorem mlX8_190 : Cond.methodLink RX8 190 yX8_voiceOf ∈ xtb := xT2 101 rfl rfl
theorem mlX8_193 : Cond.methodLink RX8 193 yX8_isIn ∈ xtb := xT2 104 rfl rfl
theorem mlX8_98 : Cond.methodLink RX8 98 yX8_trait ∈ xtb := xT2 107 rfl rfl
theorem mlX8_102 : Cond.methodLink RX8 102 yX8_isFact ∈ xtb := xT2 110 rfl rfl
theorem mlX8_111 : Cond.methodLink RX8 111 yX8_when ∈ xtb := xT2 113 rfl rfl
theorem mlX8_204 : Cond.methodLink RX8 204 yX3_ripen ∈ xtb := xT2 117 rfl rfl
theorem mlX3_46 : Cond.methodLink RX3 46 Lib.Math.min.name ∈ xtb := xT2 121 rfl rfl
theorem mlL_23 : Cond.methodLink RL 23 yX8_world ∈ xtb := xT2 124 rfl rfl
theorem mlL_28 : Cond.methodLink RL 28 yX8_sugar ∈ xtb := xT2 128 rfl rfl
theorem mlL_32 : Cond.methodLink RL 32 yX8_spoon ∈ xtb := xT2 132 rfl rfl
theorem mlX8_120 : Cond.methodLink RX8 120 yX3_open ∈ xtb := xT2 136 rfl rfl
theorem mlX3_52 : Cond.methodLink RX3 52 Lib.Math.max.name ∈ xtb := xT2 140 rfl rfl
theorem mlL_36 : Cond.methodLink RL 36 yX8_row ∈ xtb := xT2 143 rfl rfl
theorem mlL_40 : Cond.methodLink RL 40 yX8_feed ∈ xtb := xT2 147 rfl rfl
theorem mlX8_129 : Cond.methodLink RX8 129 yX7_append ∈ xtb := xT2 151 rfl rfl
theorem mlL_44 : Cond.methodLink RL 44 yX8_cellar ∈ xtb := xT2 155 rfl rfl
theorem mlX8_133 : Cond.methodLink RX8 133 yX7_readInto ∈ xtb := xT2 159 rfl rfl
theorem mlX7_26 : Cond.methodLink RX7 26 yX1_startAnew ∈ xtb := xT2 163 rfl rfl
theorem mlX7_31 : Cond.methodLink RX7 31 yX7_clause ∈ xtb := xT2 167 rfl rfl
theorem mlX7_35 : Cond.methodLink RX7 35 yX7_next ∈ xtb := xT2 171 rfl rfl
theorem mlX7_51 : Cond.methodLink RX7 51 yJ0_length_8abf5 ∈ xtb := xT2 178 rfl rfl
theorem mlJ0_335 : Cond.methodLink RJ0 335 yJ0_coder_7d493 ∈ xtb := xT2 182 rfl rfl
theorem mlX7_53 : Cond.methodLink RX7 53 yJ0_charAt_5068e ∈ xtb := xT2 188 rfl rfl
theorem mlJ0_492 : Cond.methodLink RJ0 492 yJ0_isLatin1_aae02 ∈ xtb := xT2 192 rfl rfl
theorem mlJ0_495 : Cond.methodLink RJ0 495 yJ1_charAt_3b067 ∈ xtb := xT2 196 rfl rfl
theorem mlJ1_9 : Cond.methodLink RJ1 9 yJ0_checkIndex_df160 ∈ xtb := xT2 199 rfl rfl
theorem mlX7_57 : Cond.methodLink RX7 57 yX7_expect ∈ xtb := xT2 226 rfl rfl
theorem mlX7_61 : Cond.methodLink RX7 61 yX7_expectNumber ∈ xtb := xT2 230 rfl rfl
theorem mlX7_66 : Cond.methodLink RX7 66 yX7_either ∈ xtb := xT2 234 rfl rfl
theorem mlX7_74 : Cond.methodLink RX7 74 yX7_both ∈ xtb := xT2 238 rfl rfl
theorem mlX7_77 : Cond.methodLink RX7 77 yX7_single ∈ xtb := xT3 2 rfl rfl
theorem mlX7_82 : Cond.methodLink RX7 82 yX7_expectOne ∈ xtb := xT3 7 rfl rfl
theorem mlX7_39 : Cond.methodLink RX7 39 yJ0_indexOf_0f7a4 ∈ xtb := xT3 11 rfl rfl
theorem mlJ0_633 : Cond.methodLink RJ0 633 yJ0_indexOf_7cf53 ∈ xtb := xT3 15 rfl rfl
theorem mlJ0_505 : Cond.methodLink RJ0 505 yJ0_length_8abf5 ∈ xtb := xT3 19 rfl rfl
theorem mlJ0_637 : Cond.methodLink RJ0 637 yJ1_indexOf_4cfef ∈ xtb := xT3 20 rfl rfl
theorem mlJ1_88 : Cond.methodLink RJ1 88 yJ1_canEncode_9a6ad ∈ xtb := xT3 23 rfl rfl
theorem mlJ1_92 : Cond.methodLink RJ1 92 Lib.Math.max.name ∈ xtb := xT3 26 rfl rfl
theorem mlJ1_38 : Cond.methodLink RJ1 38 Lib.Math.min.name ∈ xtb := xT3 27 rfl rfl
theorem mlJ1_95 : Cond.methodLink RJ1 95 yJ1_indexOfChar_4cfef ∈ xtb := xT3 28 rfl rfl
theorem mlX7_70 : Cond.methodLink RX7 70 yX1_append ∈ xtb := xT3 67 rfl rfl
theorem mlL_49 : Cond.methodLink RL 49 yX8_told ∈ xtb := xT3 71 rfl rfl
theorem mlX8_140 : Cond.methodLink RX8 140 yX8_found ∈ xtb := xT3 75 rfl rfl
theorem mlX8_215 : Cond.methodLink RX8 215 Lib.Math.abs.name ∈ xtb := xT3 79 rfl rfl
theorem mlX8_152 : Cond.methodLink RX8 152 yX8_toldOfFits ∈ xtb := xT3 82 rfl rfl
theorem mlX8_155 : Cond.methodLink RX8 155 yX8_gatherFits ∈ xtb := xT3 86 rfl rfl
theorem mlX8_279 : Cond.methodLink RX8 279 yX2_startAnew ∈ xtb := xT3 90 rfl rfl
theorem mlX8_293 : Cond.methodLink RX8 293 yX2_narrow ∈ xtb := xT3 94 rfl rfl
theorem mlX8_158 : Cond.methodLink RX8 158 yX2_size ∈ xtb := xT3 98 rfl rfl
theorem mlX2_22 : Cond.methodLink RX2 22 yJ6_bitCount_0f7a4 ∈ xtb := xT3 102 rfl rfl
theorem mlX8_171 : Cond.methodLink RX8 171 yX8_nextToAsk ∈ xtb := xT3 108 rfl rfl
theorem mlX8_298 : Cond.methodLink RX8 298 yX2_leftBy ∈ xtb := xT3 113 rfl rfl
theorem mlX2_32 : Cond.methodLink RX2 32 yX2_size ∈ xtb := xT3 118 rfl rfl
theorem mlL_53 : Cond.methodLink RL 53 yX8_pass ∈ xtb := xT3 119 rfl rfl
theorem mlX8_220 : Cond.methodLink RX8 220 yX5_ripenAll ∈ xtb := xT3 123 rfl rfl
theorem mlX5_61 : Cond.methodLink RX5 61 yX3_ripen ∈ xtb := xT3 127 rfl rfl
theorem mlL_57 : Cond.methodLink RL 57 yX8_on ∈ xtb := xT3 128 rfl rfl
theorem mlX8_224 : Cond.methodLink RX8 224 yX5_copyPotsFrom ∈ xtb := xT3 132 rfl rfl
theorem mlX5_50 : Cond.methodLink RX5 50 yX3_copyFrom ∈ xtb := xT3 136 rfl rfl
theorem mlX8_228 : Cond.methodLink RX8 228 yX5_sugarOfAll ∈ xtb := xT3 137 rfl rfl
theorem mlL_61 : Cond.methodLink RL 61 yX8_cases ∈ xtb := xT3 141 rfl rfl
theorem mlX8_231 : Cond.methodLink RX8 231 yX8_gatherSpoken ∈ xtb := xT3 145 rfl rfl
theorem mlX8_234 : Cond.methodLink RX8 234 yX8_enough ∈ xtb := xT3 149 rfl rfl
theorem mlX8_240 : Cond.methodLink RX8 240 yJ6_bitCount_0f7a4 ∈ xtb := xT3 153 rfl rfl
theorem mlX8_245 : Cond.methodLink RX8 245 yX8_spokenBy ∈ xtb := xT3 154 rfl rfl
theorem mlX8_237 : Cond.methodLink RX8 237 yX8_ownPots ∈ xtb := xT3 158 rfl rfl
theorem mlX8_248 : Cond.methodLink RX8 248 yX8_givenOneMore ∈ xtb := xT3 162 rfl rfl
theorem mlX8_252 : Cond.methodLink RX8 252 Lib.Math.max.name ∈ xtb := xT3 166 rfl rfl
theorem mlL_65 : Cond.methodLink RL 65 yX8_hear ∈ xtb := xT3 167 rfl rfl
theorem mlX8_259 : Cond.methodLink RX8 259 yX4_empty ∈ xtb := xT3 171 rfl rfl
theorem mlX8_264 : Cond.methodLink RX8 264 yX4_append ∈ xtb := xT3 175 rfl rfl
theorem mlL_69 : Cond.methodLink RL 69 yX8_can ∈ xtb := xT3 179 rfl rfl
theorem mlX8_266 : Cond.methodLink RX8 266 yX8_fittingNumbers ∈ xtb := xT3 183 rfl rfl
theorem mlX8_269 : Cond.methodLink RX8 269 yX8_least ∈ xtb := xT3 187 rfl rfl
theorem mlL_73 : Cond.methodLink RL 73 yX8_odds ∈ xtb := xT3 190 rfl rfl
theorem mlL_78 : Cond.methodLink RL 78 yX8_mean ∈ xtb := xT3 196 rfl rfl
theorem mlX8_276 : Cond.methodLink RX8 276 yX8_commonDivisor ∈ xtb := xT3 200 rfl rfl
theorem mlL_82 : Cond.methodLink RL 82 yX8_plan ∈ xtb := xT3 203 rfl rfl
theorem mlX8_311 : Cond.methodLink RX8 311 yX8_canGo ∈ xtb := xT3 207 rfl rfl
theorem mlL_86 : Cond.methodLink RL 86 yX8_ends ∈ xtb := xT3 211 rfl rfl
theorem mlX8_314 : Cond.methodLink RX8 314 yX8_goOn ∈ xtb := xT3 215 rfl rfl
theorem mlX8_317 : Cond.methodLink RX8 317 yX5_openedOfAll ∈ xtb := xT3 219 rfl rfl
theorem mlL_90 : Cond.methodLink RL 90 yX8_book ∈ xtb := xT3 223 rfl rfl
theorem mlL_94 : Cond.methodLink RL 94 yX8_looked ∈ xtb := xT3 227 rfl rfl
theorem mlL_98 : Cond.methodLink RL 98 yX8_judge ∈ xtb := xT3 231 rfl rfl
theorem mlX8_323 : Cond.methodLink RX8 323 yX8_tapeAt ∈ xtb := xT3 235 rfl rfl
theorem mlX8_330 : Cond.methodLink RX8 330 yX6_has ∈ xtb := xT3 239 rfl rfl
theorem mlL_102 : Cond.methodLink RL 102 yX8_image ∈ xtb := xT4 3 rfl rfl
theorem mlX8_337 : Cond.methodLink RX8 337 yX5_copyFrom ∈ xtb := xT4 7 rfl rfl
theorem mlX5_54 : Cond.methodLink RX5 54 yX5_copyPotsFrom ∈ xtb := xT4 11 rfl rfl
theorem mlX5_58 : Cond.methodLink RX5 58 yX4_copyFrom ∈ xtb := xT4 12 rfl rfl
theorem mlX4_25 : Cond.methodLink RX4 25 Lib.Math.min.name ∈ xtb := xT4 16 rfl rfl
theorem mlX4_31 : Cond.methodLink RX4 31 arraycopyName ∈ xtb := xT4 17 rfl rfl
theorem mlL_106 : Cond.methodLink RL 106 yX8_undo ∈ xtb := xT4 18 rfl rfl
theorem mlL_110 : Cond.methodLink RL 110 yX8_act ∈ xtb := xT4 22 rfl rfl
theorem mlX8_339 : Cond.methodLink RX8 339 yX0_forget ∈ xtb := xT4 26 rfl rfl
theorem mlX0_31 : Cond.methodLink RX0 31 yX0_bodyFrom ∈ xtb := xT4 34 rfl rfl
theorem mlX0_34 : Cond.methodLink RX0 34 yX0_note ∈ xtb := xT4 41 rfl rfl
theorem mlX0_46 : Cond.methodLink RX0 46 yX0_perform ∈ xtb := xT4 45 rfl rfl
theorem mlL_114 : Cond.methodLink RL 114 yX8_trace ∈ xtb := xT4 46 rfl rfl
theorem mlX8_346 : Cond.methodLink RX8 346 yX0_keptCount ∈ xtb := xT4 50 rfl rfl
theorem mlX0_19 : Cond.methodLink RX0 19 Lib.Math.min.name ∈ xtb := xT4 54 rfl rfl
theorem mlL_118 : Cond.methodLink RL 118 yX8_taken ∈ xtb := xT4 55 rfl rfl
theorem mlX8_352 : Cond.methodLink RX8 352 yX8_isUnder ∈ xtb := xT4 59 rfl rfl
theorem mlL_122 : Cond.methodLink RL 122 yX8_count ∈ xtb := xT4 63 rfl rfl
theorem mlL_126 : Cond.methodLink RL 126 yX8_tape ∈ xtb := xT4 67 rfl rfl
theorem mlX8_364 : Cond.methodLink RX8 364 yX6_become ∈ xtb := xT4 71 rfl rfl
theorem mlX6_20 : Cond.methodLink RX6 20 Lib.Math.min.name ∈ xtb := xT4 75 rfl rfl
theorem mlX6_26 : Cond.methodLink RX6 26 Lib.Math.max.name ∈ xtb := xT4 76 rfl rfl
theorem mlX6_29 : Cond.methodLink RX6 29 yJ7_fill_d0a16 ∈ xtb := xT4 77 rfl rfl
theorem mlL_132 : Cond.methodLink RL 132 yX8_item ∈ xtb := xT4 80 rfl rfl
theorem mlX8_367 : Cond.methodLink RX8 367 yX6_lowest ∈ xtb := xT4 84 rfl rfl
theorem mlL_137 : Cond.methodLink RL 137 yX8_read ∈ xtb := xT4 88 rfl rfl
theorem mlL_141 : Cond.methodLink RL 141 yX8_shift ∈ xtb := xT4 92 rfl rfl
theorem mlX8_371 : Cond.methodLink RX8 371 yX6_spans ∈ xtb := xT4 96 rfl rfl
theorem mlX8_374 : Cond.methodLink RX8 374 arraycopyName ∈ xtb := xT4 100 rfl rfl
theorem mlL_12 : Cond.methodLink RL 12 yX9_init ∈ xtb := xT4 103 rfl rfl
theorem mlX9_3 : Cond.methodLink RX9 3 objectInit ∈ xtb := xT4 106 rfl rfl
theorem mlL_105 : Cond.methodLink RL 105 yX9_image ∈ xtb := xT4 206 rfl rfl
theorem mlX9_85 : Cond.methodLink RX9 85 yX9_move ∈ xtb := xT4 210 rfl rfl
theorem mlL_109 : Cond.methodLink RL 109 yX9_undo ∈ xtb := xT4 213 rfl rfl
theorem mlL_17 : Cond.methodLink RL 17 yX9_pot ∈ xtb := xT4 217 rfl rfl
theorem mlX9_89 : Cond.methodLink RX9 89 yX9_isIn ∈ xtb := xT4 221 rfl rfl
theorem mlX9_97 : Cond.methodLink RX9 97 yX9_change ∈ xtb := xT4 224 rfl rfl
theorem mlX9_93 : Cond.methodLink RX9 93 yX9_one ∈ xtb := xT4 228 rfl rfl
theorem mlL_22 : Cond.methodLink RL 22 yX9_of ∈ xtb := xT4 232 rfl rfl
theorem mlX9_101 : Cond.methodLink RX9 101 yX9_isPot ∈ xtb := xT4 236 rfl rfl
theorem mlX9_105 : Cond.methodLink RX9 105 yX9_fits ∈ xtb := xT5 0 rfl rfl
theorem mlX9_240 : Cond.methodLink RX9 240 yX9_isAllSo ∈ xtb := xT5 4 rfl rfl
theorem mlX9_114 : Cond.methodLink RX9 114 yX9_says ∈ xtb := xT5 8 rfl rfl
theorem mlX9_111 : Cond.methodLink RX9 111 yX9_clear ∈ xtb := xT5 12 rfl rfl
theorem mlX9_189 : Cond.methodLink RX9 189 yX9_readFor ∈ xtb := xT5 16 rfl rfl
theorem mlX9_183 : Cond.methodLink RX9 183 yX9_readAll ∈ xtb := xT5 20 rfl rfl
theorem mlX9_180 : Cond.methodLink RX9 180 yX9_clause ∈ xtb := xT5 24 rfl rfl
theorem mlX9_145 : Cond.methodLink RX9 145 yX9_isAt ∈ xtb := xT5 28 rfl rfl
theorem mlX9_152 : Cond.methodLink RX9 152 yX9_takes ∈ xtb := xT5 32 rfl rfl
theorem mlX9_155 : Cond.methodLink RX9 155 yX9_number ∈ xtb := xT5 36 rfl rfl
theorem mlX9_148 : Cond.methodLink RX9 148 yX9_isDigit ∈ xtb := xT5 40 rfl rfl
theorem mlX9_165 : Cond.methodLink RX9 165 yX9_any ∈ xtb := xT5 44 rfl rfl
theorem mlX9_171 : Cond.methodLink RX9 171 yX9_both ∈ xtb := xT5 48 rfl rfl
theorem mlX9_162 : Cond.methodLink RX9 162 yX9_factor ∈ xtb := xT5 52 rfl rfl
theorem mlX9_168 : Cond.methodLink RX9 168 yX9_test ∈ xtb := xT5 56 rfl rfl
theorem mlX9_193 : Cond.methodLink RX9 193 yX9_saysBy ∈ xtb := xT5 60 rfl rfl
theorem mlX9_108 : Cond.methodLink RX9 108 yX9_isFact ∈ xtb := xT5 63 rfl rfl
theorem mlX9_117 : Cond.methodLink RX9 117 yX9_when ∈ xtb := xT5 66 rfl rfl
theorem mlX9_199 : Cond.methodLink RX9 199 yX9_term ∈ xtb := xT5 70 rfl rfl
theorem mlX9_196 : Cond.methodLink RX9 196 yX9_keepNow ∈ xtb := xT5 74 rfl rfl
theorem mlX9_120 : Cond.methodLink RX9 120 Lib.Math.min.name ∈ xtb := xT5 78 rfl rfl
theorem mlL_27 : Cond.methodLink RL 27 yX9_world ∈ xtb := xT5 79 rfl rfl
theorem mlL_31 : Cond.methodLink RL 31 yX9_sugar ∈ xtb := xT5 83 rfl rfl
theorem mlL_35 : Cond.methodLink RL 35 yX9_spoon ∈ xtb := xT5 87 rfl rfl
theorem mlX9_128 : Cond.methodLink RX9 128 yX9_opens ∈ xtb := xT5 91 rfl rfl
theorem mlX9_125 : Cond.methodLink RX9 125 Lib.Math.max.name ∈ xtb := xT5 95 rfl rfl
theorem mlL_39 : Cond.methodLink RL 39 yX9_row ∈ xtb := xT5 96 rfl rfl
theorem mlL_43 : Cond.methodLink RL 43 yX9_feed ∈ xtb := xT5 100 rfl rfl
theorem mlL_48 : Cond.methodLink RL 48 yX9_cellar ∈ xtb := xT5 104 rfl rfl
theorem mlL_52 : Cond.methodLink RL 52 yX9_told ∈ xtb := xT5 108 rfl rfl
theorem mlX9_202 : Cond.methodLink RX9 202 yX9_look ∈ xtb := xT5 112 rfl rfl
theorem mlX9_209 : Cond.methodLink RX9 209 yX9_leastFit ∈ xtb := xT5 116 rfl rfl
theorem mlX9_212 : Cond.methodLink RX9 212 yX9_sure ∈ xtb := xT5 120 rfl rfl
theorem mlX9_216 : Cond.methodLink RX9 216 yX9_next ∈ xtb := xT5 124 rfl rfl
theorem mlX9_219 : Cond.methodLink RX9 219 yX9_found ∈ xtb := xT5 128 rfl rfl
theorem mlX9_205 : Cond.methodLink RX9 205 Lib.Math.abs.name ∈ xtb := xT5 132 rfl rfl
theorem mlL_56 : Cond.methodLink RL 56 yX9_pass ∈ xtb := xT5 133 rfl rfl
theorem mlX9_222 : Cond.methodLink RX9 222 yX9_terms ∈ xtb := xT5 137 rfl rfl
theorem mlL_60 : Cond.methodLink RL 60 yX9_on ∈ xtb := xT5 141 rfl rfl
theorem mlX9_225 : Cond.methodLink RX9 225 yX9_all ∈ xtb := xT5 145 rfl rfl
theorem mlL_64 : Cond.methodLink RL 64 yX9_cases ∈ xtb := xT5 149 rfl rfl
theorem mlX9_234 : Cond.methodLink RX9 234 yX9_ask ∈ xtb := xT5 153 rfl rfl
theorem mlX9_237 : Cond.methodLink RX9 237 yX9_enough ∈ xtb := xT5 157 rfl rfl
theorem mlX9_228 : Cond.methodLink RX9 228 yX9_many ∈ xtb := xT5 161 rfl rfl
theorem mlX9_231 : Cond.methodLink RX9 231 yX9_own ∈ xtb := xT5 164 rfl rfl
theorem mlL_68 : Cond.methodLink RL 68 yX9_hear ∈ xtb := xT5 168 rfl rfl
theorem mlL_72 : Cond.methodLink RL 72 yX9_can ∈ xtb := xT5 172 rfl rfl
theorem mlL_77 : Cond.methodLink RL 77 yX9_odds ∈ xtb := xT5 176 rfl rfl
theorem mlX9_245 : Cond.methodLink RX9 245 yX9_fraction ∈ xtb := xT5 181 rfl rfl
theorem mlL_81 : Cond.methodLink RL 81 yX9_mean ∈ xtb := xT5 184 rfl rfl
theorem mlX9_249 : Cond.methodLink RX9 249 yX9_on ∈ xtb := xT5 188 rfl rfl
theorem mlL_85 : Cond.methodLink RL 85 yX9_plan ∈ xtb := xT5 189 rfl rfl
theorem mlL_89 : Cond.methodLink RL 89 yX9_ends ∈ xtb := xT5 193 rfl rfl
theorem mlL_93 : Cond.methodLink RL 93 yX9_book ∈ xtb := xT5 197 rfl rfl
theorem mlL_97 : Cond.methodLink RL 97 yX9_looked ∈ xtb := xT5 201 rfl rfl
theorem mlL_113 : Cond.methodLink RL 113 yX9_act ∈ xtb := xT5 205 rfl rfl
theorem mlX9_262 : Cond.methodLink RX9 262 yX9_begin ∈ xtb := xT5 209 rfl rfl
theorem mlX9_255 : Cond.methodLink RX9 255 yX9_byKind ∈ xtb := xT5 213 rfl rfl
theorem mlX9_259 : Cond.methodLink RX9 259 yX9_body ∈ xtb := xT5 217 rfl rfl
theorem mlL_117 : Cond.methodLink RL 117 yX9_trace ∈ xtb := xT5 221 rfl rfl
theorem mlL_121 : Cond.methodLink RL 121 yX9_taken ∈ xtb := xT5 225 rfl rfl
theorem mlL_125 : Cond.methodLink RL 125 yX9_count ∈ xtb := xT5 229 rfl rfl
theorem mlL_129 : Cond.methodLink RL 129 yX9_tape ∈ xtb := xT5 233 rfl rfl
theorem mlX9_265 : Cond.methodLink RX9 265 yX9_isTape ∈ xtb := xT5 237 rfl rfl
theorem mlL_136 : Cond.methodLink RL 136 yX9_item ∈ xtb := xT6 0 rfl rfl
theorem mlL_140 : Cond.methodLink RL 140 yX9_read ∈ xtb := xT6 4 rfl rfl
theorem mlL_145 : Cond.methodLink RL 145 yX9_shift ∈ xtb := xT6 8 rfl rfl
theorem mlL_101 : Cond.methodLink RL 101 yX9_judge ∈ xtb := xT6 12 rfl rfl
theorem flX4_15 : xFl RX4 15 4 0 (.array .int) true := ⟨(RX4, TX4, 4), tyX4, rfl, by decide, xT1 42 rfl rfl, inxX4, tyX4_ok, nmX4, rfl, rfl⟩
theorem flX8_284 : xFl RX8 284 4 0 (.array .int) true := ⟨(RX4, TX4, 4), tyX4, rfl, by decide, xT1 43 rfl rfl, inxX4, tyX4_ok, nmX4, rfl, rfl⟩
theorem flX4_19 : xFl RX4 19 4 1 (.array .int) true := ⟨(RX4, TX4, 4), tyX4, rfl, by decide, xT1 44 rfl rfl, inxX4, tyX4_ok, nmX4, rfl, rfl⟩
theorem flX8_287 : xFl RX8 287 4 1 (.array .int) true := ⟨(RX4, TX4, 4), tyX4, rfl, by decide, xT1 45 rfl rfl, inxX4, tyX4_ok, nmX4, rfl, rfl⟩
theorem flX4_22 : xFl RX4 22 4 2 (.array .int) true := ⟨(RX4, TX4, 4), tyX4, rfl, by decide, xT1 46 rfl rfl, inxX4, tyX4_ok, nmX4, rfl, rfl⟩
theorem flX8_290 : xFl RX8 290 4 2 (.array .int) true := ⟨(RX4, TX4, 4), tyX4, rfl, by decide, xT1 47 rfl rfl, inxX4, tyX4_ok, nmX4, rfl, rfl⟩
theorem flX4_9 : xFl RX4 9 4 3 .int false := ⟨(RX4, TX4, 4), tyX4, rfl, by decide, xT1 48 rfl rfl, inxX4, tyX4_ok, nmX4, rfl, rfl⟩
theorem flX8_282 : xFl RX8 282 4 3 .int false := ⟨(RX4, TX4, 4), tyX4, rfl, by decide, xT1 49 rfl rfl, inxX4, tyX4_ok, nmX4, rfl, rfl⟩
theorem flX3_15 : xFl RX3 15 3 0 .int false := ⟨(RX3, TX3, 7), tyX3, rfl, by decide, xT1 65 rfl rfl, inxX3, tyX3_ok, nmX3, rfl, rfl⟩
theorem flX1_31 : xFl RX1 31 3 0 .int false := ⟨(RX3, TX3, 7), tyX3, rfl, by decide, xT1 66 rfl rfl, inxX3, tyX3_ok, nmX3, rfl, rfl⟩
theorem flX0_38 : xFl RX0 38 3 0 .int false := ⟨(RX3, TX3, 7), tyX3, rfl, by decide, xT1 67 rfl rfl, inxX3, tyX3_ok, nmX3, rfl, rfl⟩
theorem flX8_301 : xFl RX8 301 3 0 .int false := ⟨(RX3, TX3, 7), tyX3, rfl, by decide, xT1 68 rfl rfl, inxX3, tyX3_ok, nmX3, rfl, rfl⟩
theorem flX3_19 : xFl RX3 19 3 1 .int false := ⟨(RX3, TX3, 7), tyX3, rfl, by decide, xT1 69 rfl rfl, inxX3, tyX3_ok, nmX3, rfl, rfl⟩
theorem flX1_34 : xFl RX1 34 3 1 .int false := ⟨(RX3, TX3, 7), tyX3, rfl, by decide, xT1 70 rfl rfl, inxX3, tyX3_ok, nmX3, rfl, rfl⟩
theorem flX0_43 : xFl RX0 43 3 1 .int false := ⟨(RX3, TX3, 7), tyX3, rfl, by decide, xT1 71 rfl rfl, inxX3, tyX3_ok, nmX3, rfl, rfl⟩
theorem flX8_123 : xFl RX8 123 3 1 .int false := ⟨(RX3, TX3, 7), tyX3, rfl, by decide, xT1 72 rfl rfl, inxX3, tyX3_ok, nmX3, rfl, rfl⟩
theorem flX3_22 : xFl RX3 22 3 2 .int false := ⟨(RX3, TX3, 7), tyX3, rfl, by decide, xT1 73 rfl rfl, inxX3, tyX3_ok, nmX3, rfl, rfl⟩
theorem flX1_37 : xFl RX1 37 3 2 .int false := ⟨(RX3, TX3, 7), tyX3, rfl, by decide, xT1 74 rfl rfl, inxX3, tyX3_ok, nmX3, rfl, rfl⟩
theorem flX0_50 : xFl RX0 50 3 2 .int false := ⟨(RX3, TX3, 7), tyX3, rfl, by decide, xT1 75 rfl rfl, inxX3, tyX3_ok, nmX3, rfl, rfl⟩
theorem flX8_174 : xFl RX8 174 3 2 .int false := ⟨(RX3, TX3, 7), tyX3, rfl, by decide, xT1 76 rfl rfl, inxX3, tyX3_ok, nmX3, rfl, rfl⟩
theorem flX3_25 : xFl RX3 25 3 3 .int false := ⟨(RX3, TX3, 7), tyX3, rfl, by decide, xT1 77 rfl rfl, inxX3, tyX3_ok, nmX3, rfl, rfl⟩
theorem flX1_22 : xFl RX1 22 3 3 .int false := ⟨(RX3, TX3, 7), tyX3, rfl, by decide, xT1 78 rfl rfl, inxX3, tyX3_ok, nmX3, rfl, rfl⟩
theorem flX8_117 : xFl RX8 117 3 3 .int false := ⟨(RX3, TX3, 7), tyX3, rfl, by decide, xT1 79 rfl rfl, inxX3, tyX3_ok, nmX3, rfl, rfl⟩
theorem flX5_64 : xFl RX5 64 3 3 .int false := ⟨(RX3, TX3, 7), tyX3, rfl, by decide, xT1 80 rfl rfl, inxX3, tyX3_ok, nmX3, rfl, rfl⟩
theorem flX3_28 : xFl RX3 28 3 4 .int false := ⟨(RX3, TX3, 7), tyX3, rfl, by decide, xT1 81 rfl rfl, inxX3, tyX3_ok, nmX3, rfl, rfl⟩
theorem flX1_40 : xFl RX1 40 3 4 .int false := ⟨(RX3, TX3, 7), tyX3, rfl, by decide, xT1 82 rfl rfl, inxX3, tyX3_ok, nmX3, rfl, rfl⟩
theorem flX8_177 : xFl RX8 177 3 4 .int false := ⟨(RX3, TX3, 7), tyX3, rfl, by decide, xT1 83 rfl rfl, inxX3, tyX3_ok, nmX3, rfl, rfl⟩
theorem flX3_31 : xFl RX3 31 3 5 .int false := ⟨(RX3, TX3, 7), tyX3, rfl, by decide, xT1 84 rfl rfl, inxX3, tyX3_ok, nmX3, rfl, rfl⟩
theorem flX5_67 : xFl RX5 67 3 5 .int false := ⟨(RX3, TX3, 7), tyX3, rfl, by decide, xT1 85 rfl rfl, inxX3, tyX3_ok, nmX3, rfl, rfl⟩
theorem flX8_180 : xFl RX8 180 3 5 .int false := ⟨(RX3, TX3, 7), tyX3, rfl, by decide, xT1 86 rfl rfl, inxX3, tyX3_ok, nmX3, rfl, rfl⟩
theorem flX3_9 : xFl RX3 9 3 6 (.array .int) true := ⟨(RX3, TX3, 7), tyX3, rfl, by decide, xT1 87 rfl rfl, inxX3, tyX3_ok, nmX3, rfl, rfl⟩
theorem flX8_126 : xFl RX8 126 3 6 (.array .int) true := ⟨(RX3, TX3, 7), tyX3, rfl, by decide, xT1 88 rfl rfl, inxX3, tyX3_ok, nmX3, rfl, rfl⟩
theorem flX5_9 : xFl RX5 9 5 0 .int false := ⟨(RX5, TX5, 8), tyX5, rfl, by decide, xT1 104 rfl rfl, inxX5, tyX5_ok, nmX5, rfl, rfl⟩
theorem flX8_114 : xFl RX8 114 5 0 .int false := ⟨(RX5, TX5, 8), tyX5, rfl, by decide, xT1 105 rfl rfl, inxX5, tyX5_ok, nmX5, rfl, rfl⟩
theorem flX5_15 : xFl RX5 15 5 1 .int false := ⟨(RX5, TX5, 8), tyX5, rfl, by decide, xT1 106 rfl rfl, inxX5, tyX5_ok, nmX5, rfl, rfl⟩
theorem flX8_143 : xFl RX8 143 5 1 .int false := ⟨(RX5, TX5, 8), tyX5, rfl, by decide, xT1 107 rfl rfl, inxX5, tyX5_ok, nmX5, rfl, rfl⟩
theorem flX5_18 : xFl RX5 18 5 2 .int false := ⟨(RX5, TX5, 8), tyX5, rfl, by decide, xT1 108 rfl rfl, inxX5, tyX5_ok, nmX5, rfl, rfl⟩
theorem flX8_137 : xFl RX8 137 5 2 .int false := ⟨(RX5, TX5, 8), tyX5, rfl, by decide, xT1 109 rfl rfl, inxX5, tyX5_ok, nmX5, rfl, rfl⟩
theorem flX5_23 : xFl RX5 23 5 3 (.array (.object "JamOath$Pot")) true := ⟨(RX5, TX5, 8), tyX5, rfl, by decide, xT1 110 rfl rfl, inxX5, tyX5_ok, nmX5, rfl, rfl⟩
theorem flX8_211 : xFl RX8 211 5 3 (.array (.object "JamOath$Pot")) true := ⟨(RX5, TX5, 8), tyX5, rfl, by decide, xT1 111 rfl rfl, inxX5, tyX5_ok, nmX5, rfl, rfl⟩
theorem flX5_27 : xFl RX5 27 5 4 .int false := ⟨(RX5, TX5, 8), tyX5, rfl, by decide, xT1 112 rfl rfl, inxX5, tyX5_ok, nmX5, rfl, rfl⟩
theorem flX8_208 : xFl RX8 208 5 4 .int false := ⟨(RX5, TX5, 8), tyX5, rfl, by decide, xT1 113 rfl rfl, inxX5, tyX5_ok, nmX5, rfl, rfl⟩
theorem flX5_35 : xFl RX5 35 5 5 (.object "JamOath$Rows") true := ⟨(RX5, TX5, 8), tyX5, rfl, by decide, xT1 114 rfl rfl, inxX5, tyX5_ok, nmX5, rfl, rfl⟩
theorem flX8_255 : xFl RX8 255 5 5 (.object "JamOath$Rows") true := ⟨(RX5, TX5, 8), tyX5, rfl, by decide, xT1 115 rfl rfl, inxX5, tyX5_ok, nmX5, rfl, rfl⟩
theorem flX5_39 : xFl RX5 39 5 6 (.object "JamOath$Rows") true := ⟨(RX5, TX5, 8), tyX5, rfl, by decide, xT1 116 rfl rfl, inxX5, tyX5_ok, nmX5, rfl, rfl⟩
theorem flX8_308 : xFl RX8 308 5 6 (.object "JamOath$Rows") true := ⟨(RX5, TX5, 8), tyX5, rfl, by decide, xT1 117 rfl rfl, inxX5, tyX5_ok, nmX5, rfl, rfl⟩
theorem flX5_42 : xFl RX5 42 5 7 (.object "JamOath$Rows") true := ⟨(RX5, TX5, 8), tyX5, rfl, by decide, xT1 118 rfl rfl, inxX5, tyX5_ok, nmX5, rfl, rfl⟩
theorem flX8_320 : xFl RX8 320 5 7 (.object "JamOath$Rows") true := ⟨(RX5, TX5, 8), tyX5, rfl, by decide, xT1 119 rfl rfl, inxX5, tyX5_ok, nmX5, rfl, rfl⟩
theorem flX7_11 : xFl RX7 11 7 0 (.array .byte) true := ⟨(RX7, TX7, 4), tyX7, rfl, by decide, xT1 145 rfl rfl, inxX7, tyX7_ok, nmX7, rfl, rfl⟩
theorem flX7_15 : xFl RX7 15 7 1 .int false := ⟨(RX7, TX7, 4), tyX7, rfl, by decide, xT1 146 rfl rfl, inxX7, tyX7_ok, nmX7, rfl, rfl⟩
theorem flX8_358 : xFl RX8 358 7 1 .int false := ⟨(RX7, TX7, 4), tyX7, rfl, by decide, xT1 147 rfl rfl, inxX7, tyX7_ok, nmX7, rfl, rfl⟩
theorem flX7_19 : xFl RX7 19 7 2 .int false := ⟨(RX7, TX7, 4), tyX7, rfl, by decide, xT1 148 rfl rfl, inxX7, tyX7_ok, nmX7, rfl, rfl⟩
theorem flX7_22 : xFl RX7 22 7 3 .boolean false := ⟨(RX7, TX7, 4), tyX7, rfl, by decide, xT1 149 rfl rfl, inxX7, tyX7_ok, nmX7, rfl, rfl⟩
theorem flX1_9 : xFl RX1 9 1 0 (.array .int) true := ⟨(RX1, TX1, 3), tyX1, rfl, by decide, xT1 167 rfl rfl, inxX1, tyX1_ok, nmX1, rfl, rfl⟩
theorem flX1_15 : xFl RX1 15 1 1 .int false := ⟨(RX1, TX1, 3), tyX1, rfl, by decide, xT1 168 rfl rfl, inxX1, tyX1_ok, nmX1, rfl, rfl⟩
theorem flX1_19 : xFl RX1 19 1 2 .int false := ⟨(RX1, TX1, 3), tyX1, rfl, by decide, xT1 169 rfl rfl, inxX1, tyX1_ok, nmX1, rfl, rfl⟩
theorem flX7_64 : xFl RX7 64 1 2 .int false := ⟨(RX1, TX1, 3), tyX1, rfl, by decide, xT1 170 rfl rfl, inxX1, tyX1_ok, nmX1, rfl, rfl⟩
theorem flX8_149 : xFl RX8 149 1 2 .int false := ⟨(RX1, TX1, 3), tyX1, rfl, by decide, xT1 171 rfl rfl, inxX1, tyX1_ok, nmX1, rfl, rfl⟩
theorem flX2_9 : xFl RX2 9 2 0 .boolean false := ⟨(RX2, TX2, 3), tyX2, rfl, by decide, xT1 185 rfl rfl, inxX2, tyX2_ok, nmX2, rfl, rfl⟩
theorem flX8_162 : xFl RX8 162 2 0 .boolean false := ⟨(RX2, TX2, 3), tyX2, rfl, by decide, xT1 186 rfl rfl, inxX2, tyX2_ok, nmX2, rfl, rfl⟩
theorem flX2_15 : xFl RX2 15 2 1 .int false := ⟨(RX2, TX2, 3), tyX2, rfl, by decide, xT1 187 rfl rfl, inxX2, tyX2_ok, nmX2, rfl, rfl⟩
theorem flX8_168 : xFl RX8 168 2 1 .int false := ⟨(RX2, TX2, 3), tyX2, rfl, by decide, xT1 188 rfl rfl, inxX2, tyX2_ok, nmX2, rfl, rfl⟩
theorem flX2_19 : xFl RX2 19 2 2 .int false := ⟨(RX2, TX2, 3), tyX2, rfl, by decide, xT1 189 rfl rfl, inxX2, tyX2_ok, nmX2, rfl, rfl⟩
theorem flX8_165 : xFl RX8 165 2 2 .int false := ⟨(RX2, TX2, 3), tyX2, rfl, by decide, xT1 190 rfl rfl, inxX2, tyX2_ok, nmX2, rfl, rfl⟩
theorem flX0_11 : xFl RX0 11 0 0 (.array .int) true := ⟨(RX0, TX0, 2), tyX0, rfl, by decide, xT1 204 rfl rfl, inxX0, tyX0_ok, nmX0, rfl, rfl⟩
theorem flX8_349 : xFl RX8 349 0 0 (.array .int) true := ⟨(RX0, TX0, 2), tyX0, rfl, by decide, xT1 205 rfl rfl, inxX0, tyX0_ok, nmX0, rfl, rfl⟩
theorem flX0_15 : xFl RX0 15 0 1 .int false := ⟨(RX0, TX0, 2), tyX0, rfl, by decide, xT1 206 rfl rfl, inxX0, tyX0_ok, nmX0, rfl, rfl⟩
theorem flX8_361 : xFl RX8 361 0 1 .int false := ⟨(RX0, TX0, 2), tyX0, rfl, by decide, xT1 207 rfl rfl, inxX0, tyX0_ok, nmX0, rfl, rfl⟩
theorem flX6_9 : xFl RX6 9 6 0 (.array .long) true := ⟨(RX6, TX6, 3), tyX6, rfl, by decide, xT1 220 rfl rfl, inxX6, tyX6_ok, nmX6, rfl, rfl⟩
theorem flX8_333 : xFl RX8 333 6 0 (.array .long) true := ⟨(RX6, TX6, 3), tyX6, rfl, by decide, xT1 221 rfl rfl, inxX6, tyX6_ok, nmX6, rfl, rfl⟩
theorem flX6_13 : xFl RX6 13 6 1 .int false := ⟨(RX6, TX6, 3), tyX6, rfl, by decide, xT1 222 rfl rfl, inxX6, tyX6_ok, nmX6, rfl, rfl⟩
theorem flX8_327 : xFl RX8 327 6 1 .int false := ⟨(RX6, TX6, 3), tyX6, rfl, by decide, xT1 223 rfl rfl, inxX6, tyX6_ok, nmX6, rfl, rfl⟩
theorem flX6_17 : xFl RX6 17 6 2 .int false := ⟨(RX6, TX6, 3), tyX6, rfl, by decide, xT1 224 rfl rfl, inxX6, tyX6_ok, nmX6, rfl, rfl⟩
theorem flX8_12 : xFl RX8 12 8 0 (.object "JamOath$State") true := ⟨(RX8, TX8, 13), tyX8, rfl, by decide, xT1 233 rfl rfl, inxX8, tyX8_ok, nmX8, rfl, rfl⟩
theorem flX8_18 : xFl RX8 18 8 1 (.object "JamOath$State") true := ⟨(RX8, TX8, 13), tyX8, rfl, by decide, xT1 234 rfl rfl, inxX8, tyX8_ok, nmX8, rfl, rfl⟩
theorem flX8_21 : xFl RX8 21 8 2 (.object "JamOath$State") true := ⟨(RX8, TX8, 13), tyX8, rfl, by decide, xT1 235 rfl rfl, inxX8, tyX8_ok, nmX8, rfl, rfl⟩
theorem flX8_27 : xFl RX8 27 8 3 (.object "JamOath$Pot") true := ⟨(RX8, TX8, 13), tyX8, rfl, by decide, xT1 236 rfl rfl, inxX8, tyX8_ok, nmX8, rfl, rfl⟩
theorem flX8_31 : xFl RX8 31 8 4 .boolean false := ⟨(RX8, TX8, 13), tyX8, rfl, by decide, xT1 237 rfl rfl, inxX8, tyX8_ok, nmX8, rfl, rfl⟩
theorem flX8_38 : xFl RX8 38 8 5 (.object "JamOath$Text") true := ⟨(RX8, TX8, 13), tyX8, rfl, by decide, xT1 238 rfl rfl, inxX8, tyX8_ok, nmX8, rfl, rfl⟩
theorem flX8_44 : xFl RX8 44 8 6 (.array (.object "JamOath$Cellar")) true := ⟨(RX8, TX8, 13), tyX8, rfl, by decide, xT1 239 rfl rfl, inxX8, tyX8_ok, nmX8, rfl, rfl⟩
theorem flX8_49 : xFl RX8 49 8 7 (.object "JamOath$Cellar") true := ⟨(RX8, TX8, 13), tyX8, rfl, by decide, xT2 0 rfl rfl, inxX8, tyX8_ok, nmX8, rfl, rfl⟩
theorem flX8_53 : xFl RX8 53 8 8 .int false := ⟨(RX8, TX8, 13), tyX8, rfl, by decide, xT2 1 rfl rfl, inxX8, tyX8_ok, nmX8, rfl, rfl⟩
theorem flX8_60 : xFl RX8 60 8 9 (.object "JamOath$Fits") true := ⟨(RX8, TX8, 13), tyX8, rfl, by decide, xT2 2 rfl rfl, inxX8, tyX8_ok, nmX8, rfl, rfl⟩
theorem flX8_64 : xFl RX8 64 8 10 (.array .int) true := ⟨(RX8, TX8, 13), tyX8, rfl, by decide, xT2 3 rfl rfl, inxX8, tyX8_ok, nmX8, rfl, rfl⟩
theorem flX8_71 : xFl RX8 71 8 11 (.object "JamOath$Acting") true := ⟨(RX8, TX8, 13), tyX8, rfl, by decide, xT2 4 rfl rfl, inxX8, tyX8_ok, nmX8, rfl, rfl⟩
theorem flX8_77 : xFl RX8 77 8 12 (.array (.object "JamOath$Tape")) true := ⟨(RX8, TX8, 13), tyX8, rfl, by decide, xT2 5 rfl rfl, inxX8, tyX8_ok, nmX8, rfl, rfl⟩
theorem fwJ0_38 : Cond.fieldLink RJ0 38 "java/lang/String" "COMPACT_STRINGS" "Z" ∈ xtb := xT2 186 rfl rfl
theorem fwJ0_1053 : Cond.fieldLink RJ0 1053 "jdk/internal/util/Preconditions" "SIOOBE_FORMATTER" "Ljava/util/function/BiFunction;" ∈ xtb := xT2 202 rfl rfl
theorem fwX0_25 : Cond.fieldLink RX0 25 "JamOath$Acting" "BODIES" "[I" ∈ xtb := xT4 37 rfl rfl
theorem fwX8_355 : Cond.fieldLink RX8 355 "JamOath" "ABOVE" "[I" ∈ xtb := xT4 62 rfl rfl
theorem flX9_9 : xFl RX9 9 9 0 (.array .int) true := ⟨(RX9, TX9, 32), tyX9, rfl, by decide, xT4 107 rfl rfl, inxX9, tyX9_ok, nmX9, rfl, rfl⟩
theorem flX9_15 : xFl RX9 15 9 1 (.array .int) true := ⟨(RX9, TX9, 32), tyX9, rfl, by decide, xT4 108 rfl rfl, inxX9, tyX9_ok, nmX9, rfl, rfl⟩
theorem flX9_18 : xFl RX9 18 9 2 (.array .int) true := ⟨(RX9, TX9, 32), tyX9, rfl, by decide, xT4 109 rfl rfl, inxX9, tyX9_ok, nmX9, rfl, rfl⟩
theorem flX9_81 : xFl RX9 81 9 3 .boolean false := ⟨(RX9, TX9, 32), tyX9, rfl, by decide, xT4 110 rfl rfl, inxX9, tyX9_ok, nmX9, rfl, rfl⟩
theorem flX9_21 : xFl RX9 21 9 4 (.array .int) true := ⟨(RX9, TX9, 32), tyX9, rfl, by decide, xT4 111 rfl rfl, inxX9, tyX9_ok, nmX9, rfl, rfl⟩
theorem flX9_132 : xFl RX9 132 9 5 .int false := ⟨(RX9, TX9, 32), tyX9, rfl, by decide, xT4 112 rfl rfl, inxX9, tyX9_ok, nmX9, rfl, rfl⟩
theorem flX9_24 : xFl RX9 24 9 6 (.array .int) true := ⟨(RX9, TX9, 32), tyX9, rfl, by decide, xT4 113 rfl rfl, inxX9, tyX9_ok, nmX9, rfl, rfl⟩
theorem flX9_27 : xFl RX9 27 9 7 (.array .int) true := ⟨(RX9, TX9, 32), tyX9, rfl, by decide, xT4 114 rfl rfl, inxX9, tyX9_ok, nmX9, rfl, rfl⟩
theorem flX9_186 : xFl RX9 186 9 8 .int false := ⟨(RX9, TX9, 32), tyX9, rfl, by decide, xT4 115 rfl rfl, inxX9, tyX9_ok, nmX9, rfl, rfl⟩
theorem flX9_30 : xFl RX9 30 9 9 (.array .int) true := ⟨(RX9, TX9, 32), tyX9, rfl, by decide, xT4 116 rfl rfl, inxX9, tyX9_ok, nmX9, rfl, rfl⟩
theorem flX9_142 : xFl RX9 142 9 10 .int false := ⟨(RX9, TX9, 32), tyX9, rfl, by decide, xT4 117 rfl rfl, inxX9, tyX9_ok, nmX9, rfl, rfl⟩
theorem flX9_139 : xFl RX9 139 9 11 .int false := ⟨(RX9, TX9, 32), tyX9, rfl, by decide, xT4 118 rfl rfl, inxX9, tyX9_ok, nmX9, rfl, rfl⟩
theorem flX9_136 : xFl RX9 136 9 12 .boolean false := ⟨(RX9, TX9, 32), tyX9, rfl, by decide, xT4 119 rfl rfl, inxX9, tyX9_ok, nmX9, rfl, rfl⟩
theorem flX9_159 : xFl RX9 159 9 13 .int false := ⟨(RX9, TX9, 32), tyX9, rfl, by decide, xT4 120 rfl rfl, inxX9, tyX9_ok, nmX9, rfl, rfl⟩
theorem flX9_177 : xFl RX9 177 9 14 .int false := ⟨(RX9, TX9, 32), tyX9, rfl, by decide, xT4 121 rfl rfl, inxX9, tyX9_ok, nmX9, rfl, rfl⟩
theorem flX9_174 : xFl RX9 174 9 15 .int false := ⟨(RX9, TX9, 32), tyX9, rfl, by decide, xT4 122 rfl rfl, inxX9, tyX9_ok, nmX9, rfl, rfl⟩
theorem flX9_33 : xFl RX9 33 9 16 (.array .int) true := ⟨(RX9, TX9, 32), tyX9, rfl, by decide, xT4 123 rfl rfl, inxX9, tyX9_ok, nmX9, rfl, rfl⟩
theorem flX9_36 : xFl RX9 36 9 17 (.array .char) true := ⟨(RX9, TX9, 32), tyX9, rfl, by decide, xT4 124 rfl rfl, inxX9, tyX9_ok, nmX9, rfl, rfl⟩
theorem flX9_40 : xFl RX9 40 9 18 (.array .char) true := ⟨(RX9, TX9, 32), tyX9, rfl, by decide, xT4 125 rfl rfl, inxX9, tyX9_ok, nmX9, rfl, rfl⟩
theorem flX9_43 : xFl RX9 43 9 19 (.array .char) true := ⟨(RX9, TX9, 32), tyX9, rfl, by decide, xT4 126 rfl rfl, inxX9, tyX9_ok, nmX9, rfl, rfl⟩
theorem flX9_46 : xFl RX9 46 9 20 (.array .int) true := ⟨(RX9, TX9, 32), tyX9, rfl, by decide, xT4 127 rfl rfl, inxX9, tyX9_ok, nmX9, rfl, rfl⟩
theorem flX9_49 : xFl RX9 49 9 21 (.array .boolean) true := ⟨(RX9, TX9, 32), tyX9, rfl, by decide, xT4 128 rfl rfl, inxX9, tyX9_ok, nmX9, rfl, rfl⟩
theorem flX9_53 : xFl RX9 53 9 22 (.array .int) true := ⟨(RX9, TX9, 32), tyX9, rfl, by decide, xT4 129 rfl rfl, inxX9, tyX9_ok, nmX9, rfl, rfl⟩
theorem flX9_56 : xFl RX9 56 9 23 (.array .int) true := ⟨(RX9, TX9, 32), tyX9, rfl, by decide, xT4 130 rfl rfl, inxX9, tyX9_ok, nmX9, rfl, rfl⟩
theorem flX9_59 : xFl RX9 59 9 24 (.array .int) true := ⟨(RX9, TX9, 32), tyX9, rfl, by decide, xT4 131 rfl rfl, inxX9, tyX9_ok, nmX9, rfl, rfl⟩
theorem flX9_62 : xFl RX9 62 9 25 (.array .int) true := ⟨(RX9, TX9, 32), tyX9, rfl, by decide, xT4 132 rfl rfl, inxX9, tyX9_ok, nmX9, rfl, rfl⟩
theorem flX9_65 : xFl RX9 65 9 26 (.array .int) true := ⟨(RX9, TX9, 32), tyX9, rfl, by decide, xT4 133 rfl rfl, inxX9, tyX9_ok, nmX9, rfl, rfl⟩
theorem flX9_252 : xFl RX9 252 9 27 .int false := ⟨(RX9, TX9, 32), tyX9, rfl, by decide, xT4 134 rfl rfl, inxX9, tyX9_ok, nmX9, rfl, rfl⟩
theorem flX9_68 : xFl RX9 68 9 28 (.array .int) true := ⟨(RX9, TX9, 32), tyX9, rfl, by decide, xT4 135 rfl rfl, inxX9, tyX9_ok, nmX9, rfl, rfl⟩
theorem flX9_71 : xFl RX9 71 9 29 (.array .int) true := ⟨(RX9, TX9, 32), tyX9, rfl, by decide, xT4 136 rfl rfl, inxX9, tyX9_ok, nmX9, rfl, rfl⟩
theorem flX9_74 : xFl RX9 74 9 30 (.array .long) true := ⟨(RX9, TX9, 32), tyX9, rfl, by decide, xT4 137 rfl rfl, inxX9, tyX9_ok, nmX9, rfl, rfl⟩
theorem flX9_78 : xFl RX9 78 9 31 (.array .long) true := ⟨(RX9, TX9, 32), tyX9, rfl, by decide, xT4 138 rfl rfl, inxX9, tyX9_ok, nmX9, rfl, rfl⟩
theorem fwJ0_9 : Cond.fieldLink RJ0 9 "java/lang/String" "value" "[B" ∈ xtb := xT6 17 rfl rfl
theorem fwJ0_15 : Cond.fieldLink RJ0 15 "java/lang/String" "coder" "B" ∈ xtb := xT6 18 rfl rfl
theorem cnJ6_265 : Cond.constant RJ6 265 (1431655765) ∈ xtb := xT3 105 rfl rfl
theorem cnJ6_266 : Cond.constant RJ6 266 (858993459) ∈ xtb := xT3 106 rfl rfl
theorem cnJ6_267 : Cond.constant RJ6 267 (252645135) ∈ xtb := xT3 107 rfl rfl
theorem cnX8_297 : Cond.constant RX8 297 (2147483647) ∈ xtb := xT3 112 rfl rfl
theorem cnX8_272 : Cond.constantLong RX8 272 (-9223372036854775808) ∈ xtb := xT3 194 rfl rfl
theorem cnX8_274 : Cond.constantLong RX8 274 (2) ∈ xtb := xT3 195 rfl rfl
theorem cnX9_243 : Cond.constantLong RX9 243 (-9223372036854775808) ∈ xtb := xT5 180 rfl rfl
theorem cnL_130 : Cond.constantLong RL 130 (4294967295) ∈ xtb := xT6 16 rfl rfl
theorem stM_max : Cond.static Lib.Math.max.name ∈ xtb := xT2 141 rfl rfl
theorem cdM_max : Cond.code Lib.Math.max.name Lib.Math.max.code 2 (some .int) ∈ xtb := xT2 142 rfl rfl
theorem stM_min : Cond.static Lib.Math.min.name ∈ xtb := xT2 122 rfl rfl
theorem cdM_min : Cond.code Lib.Math.min.name Lib.Math.min.code 2 (some .int) ∈ xtb := xT2 123 rfl rfl
theorem stM_abs : Cond.static Lib.Math.abs.name ∈ xtb := xT3 80 rfl rfl
theorem cdM_abs : Cond.code Lib.Math.abs.name Lib.Math.abs.code 1 (some .int) ∈ xtb := xT3 81 rfl rfl

section XMATH
variable {k : xMD} {d pc idx : Nat} {lv : List (Option Value)} {st : List Value} {σ : xSt} {Post : Option Value → xSt → Prop}
theorem xe_mmax {x z : Int32} (hd : decode k.2.1 pc = .ok (.invokestatic idx, 3)) (hl : Cond.methodLink k.1.cls idx Lib.Math.max.name ∈ xtb) (hdd : 1 ≤ d) (hcat : (st.map fun v => v.category).sum ≤ 8) (h : xEv k d (pc + 3) lv (.int (if x < z then z else x) :: st) σ Post) : xEv k d pc lv (.int z :: .int x :: st) σ Post := by
  intro p l e s m args below meth c D y q A H locs ls hC hX hA hP hD hS hL
  exact va_mmax hC.1 hC.2.1 (hC.2.2.2.1.trans hL.1.symm) hC.2.2.2.2.1 (hC.2.2.2.2.2.1 _ hl) (hC.2.2.2.2.2.1 _ stM_max) (hC.2.2.2.2.2.1 _ iniJ9) (hC.2.2.2.2.2.1 _ cdM_max) hdd (by rw [cv_cats]; show _ ≤ 64 * d; omega) (Nat.le_refl _) (Nat.le_refl _) hd (h p l e s m args below meth c D y q A H locs ls hC hX hA hP hD hS hL)
theorem xe_mmin {x z : Int32} (hd : decode k.2.1 pc = .ok (.invokestatic idx, 3)) (hl : Cond.methodLink k.1.cls idx Lib.Math.min.name ∈ xtb) (hdd : 1 ≤ d) (hcat : (st.map fun v => v.category).sum ≤ 8) (h : xEv k d (pc + 3) lv (.int (if z < x then z else x) :: st) σ Post) : xEv k d pc lv (.int z :: .int x :: st) σ Post := by
  intro p l e s m args below meth c D y q A H locs ls hC hX hA hP hD hS hL
  exact va_mmin hC.1 hC.2.1 (hC.2.2.2.1.trans hL.1.symm) hC.2.2.2.2.1 (hC.2.2.2.2.2.1 _ hl) (hC.2.2.2.2.2.1 _ stM_min) (hC.2.2.2.2.2.1 _ iniJ9) (hC.2.2.2.2.2.1 _ cdM_min) hdd (by rw [cv_cats]; show _ ≤ 64 * d; omega) (Nat.le_refl _) (Nat.le_refl _) hd (h p l e s m args below meth c D y q A H locs ls hC hX hA hP hD hS hL)
theorem xe_mabs {x : Int32} (hd : decode k.2.1 pc = .ok (.invokestatic idx, 3)) (hl : Cond.methodLink k.1.cls idx Lib.Math.abs.name ∈ xtb) (hdd : 1 ≤ d) (hcat : (st.map fun v => v.category).sum ≤ 8) (h : xEv k d (pc + 3) lv (.int (if 0 ≤ x then x else 0 - x) :: st) σ Post) : xEv k d pc lv (.int x :: st) σ Post := by
  intro p l e s m args below meth c D y q A H locs ls hC hX hA hP hD hS hL
  exact va_mabs hC.1 hC.2.1 (hC.2.2.2.1.trans hL.1.symm) hC.2.2.2.2.1 (hC.2.2.2.2.2.1 _ hl) (hC.2.2.2.2.2.1 _ stM_abs) (hC.2.2.2.2.2.1 _ iniJ9) (hC.2.2.2.2.2.1 _ cdM_abs) hdd (by rw [cv_cats]; show _ ≤ 64 * d; omega) (Nat.le_refl _) (Nat.le_refl _) hd (h p l e s m args below meth c D y q A H locs ls hC hX hA hP hD hS hL)
end XMATH
end
section
/-! rows with a place that is a plain number -/
theorem xl (n : Nat) : (OfNat.ofNat n : Int32) = nI n := rfl
section XROWS
variable {k : xMD} {d pc : Nat} {lv : List (Option Value)} {st : List Value} {σ : xSt} {Post : Option Value → xSt → Prop} {c0 n j : Nat} {tg : List Nat} {x : Int32}
theorem xn_iaload (hd : decode k.2.1 pc = .ok (.iaload, 1)) (hc : c0 < 138) (hs : xsh c0 = .inl (0, n, tg)) (hx : x = nI j) (hj : j < n) (hn : n < 2 ^ 31) (h : xEv k d (pc + 1) lv (.int (σ.2.1 c0 j) :: st) σ Post) : xEv k d pc lv (.int x :: .ref c0 :: st) σ Post := by
  subst hx
  refine xe_iaload hd hc hs (vp_in_nI hj hn) ?_
  rw [nI_clamp (by omega)]; exact h
theorem xn_baload (hd : decode k.2.1 pc = .ok (.baload, 1)) (hc : c0 < 138) (hs : xsh c0 = .inl (1, n, tg)) (hx : x = nI j) (hj : j < n) (hn : n < 2 ^ 31) (h : xEv k d (pc + 1) lv (.int (σ.2.1 c0 j) :: st) σ Post) : xEv k d pc lv (.int x :: .ref c0 :: st) σ Post := by
  subst hx
  refine xe_baload hd hc hs (vp_in_nI hj hn) ?_
  rw [nI_clamp (by omega)]; exact h
theorem xn_zaload (hd : decode k.2.1 pc = .ok (.baload, 1)) (hc : c0 < 138) (hs : xsh c0 = .inl (4, n, tg)) (hx : x = nI j) (hj : j < n) (hn : n < 2 ^ 31) (h : xEv k d (pc + 1) lv (.int (σ.2.1 c0 j) :: st) σ Post) : xEv k d pc lv (.int x :: .ref c0 :: st) σ Post := by
  subst hx
  refine xe_zaload hd hc hs (vp_in_nI hj hn) ?_
  rw [nI_clamp (by omega)]; exact h
theorem xn_caload (hd : decode k.2.1 pc = .ok (.caload, 1)) (hc : c0 < 138) (hs : xsh c0 = .inl (2, n, tg)) (hx : x = nI j) (hj : j < n) (hn : n < 2 ^ 31) (h : xEv k d (pc + 1) lv (.int (σ.2.1 c0 j) :: st) σ Post) : xEv k d pc lv (.int x :: .ref c0 :: st) σ Post := by
  subst hx
  refine xe_caload hd hc hs (vp_in_nI hj hn) ?_
  rw [nI_clamp (by omega)]; exact h
theorem xn_laload (hd : decode k.2.1 pc = .ok (.laload, 1)) (hc : c0 < 138) (hs : xsh c0 = .inl (3, n, tg)) (hx : x = nI j) (hj : j < n) (hn : n < 2 ^ 31) (h : xEv k d (pc + 1) lv (.long (σ.2.2 c0 j) :: st) σ Post) : xEv k d pc lv (.int x :: .ref c0 :: st) σ Post := by
  subst hx
  refine xe_laload hd hc hs (vp_in_nI hj hn) ?_
  rw [nI_clamp (by omega)]; exact h
theorem xn_aaload {t tc : Nat} (hd : decode k.2.1 pc = .ok (.aaload, 1)) (hc : c0 < 138) (hs : xsh c0 = .inl (t, n, tg)) (ht : t = 5 ∨ t = 6 ∨ t = 7) (hx : x = nI j) (hj : j < n) (hn : n < 2 ^ 31) (hg : tg[j]? = some tc) (h : xEv k d (pc + 1) lv (.ref tc :: st) σ Post) : xEv k d pc lv (.int x :: .ref c0 :: st) σ Post := by
  subst hx
  exact xe_aaload hd hc hs ht (vp_in_nI hj hn) (by rw [nI_clamp (by omega)]; exact hg) h
theorem xn_iastore {v : Int32} (hd : decode k.2.1 pc = .ok (.iastore, 1)) (hc : c0 < 138) (hs : xsh c0 = .inl (0, n, tg)) (hx : x = nI j) (hj : j < n) (hn : n < 2 ^ 31) (h : xEv k d (pc + 1) lv st (xsA σ c0 (upd (σ.2.1 c0) j v)) Post) : xEv k d pc lv (.int v :: .int x :: .ref c0 :: st) σ Post := by
  subst hx
  refine xe_iastore hd hc hs (vp_in_nI hj hn) ?_
  rw [nI_clamp (by omega)]; exact h
theorem xn_bastore {v : Int32} (hd : decode k.2.1 pc = .ok (.bastore, 1)) (hc : c0 < 138) (hs : xsh c0 = .inl (1, n, tg)) (hx : x = nI j) (hj : j < n) (hn : n < 2 ^ 31) (h : xEv k d (pc + 1) lv st (xsA σ c0 (upd (σ.2.1 c0) j (vp_nar .byte v))) Post) : xEv k d pc lv (.int v :: .int x :: .ref c0 :: st) σ Post := by
  subst hx
  refine xe_bastore hd hc hs (vp_in_nI hj hn) ?_
  rw [nI_clamp (by omega)]; exact h
theorem xn_zastore {v : Int32} (hd : decode k.2.1 pc = .ok (.bastore, 1)) (hc : c0 < 138) (hs : xsh c0 = .inl (4, n, tg)) (hx : x = nI j) (hj : j < n) (hn : n < 2 ^ 31) (h : xEv k d (pc + 1) lv st (xsA σ c0 (upd (σ.2.1 c0) j (vp_nar .boolean v))) Post) : xEv k d pc lv (.int v :: .int x :: .ref c0 :: st) σ Post := by
  subst hx
  refine xe_zastore hd hc hs (vp_in_nI hj hn) ?_
  rw [nI_clamp (by omega)]; exact h
theorem xn_lastore {v : Int64} (hd : decode k.2.1 pc = .ok (.lastore, 1)) (hc : c0 < 138) (hs : xsh c0 = .inl (3, n, tg)) (hx : x = nI j) (hj : j < n) (hn : n < 2 ^ 31) (h : xEv k d (pc + 1) lv st (xsJ σ c0 (vp_updL (σ.2.2 c0) j v)) Post) : xEv k d pc lv (.long v :: .int x :: .ref c0 :: st) σ Post := by
  subst hx
  refine xe_lastore hd hc hs (vp_in_nI hj hn) ?_
  rw [nI_clamp (by omega)]; exact h
/-- a local counter goes on by one -/
theorem xn_inc {i : Nat} {lv2 : List (Option Value)} (hd : decode k.2.1 pc = .ok (.iinc i 1, 3)) (hn : i < k.2.2.1) (hg : lv[i]? = some (some (.int (nI j)))) (hl : xs1 lv i (.int (nI (j + 1))) = lv2) (h : xEv k d (pc + 3) lv2 st σ Post) : xEv k d pc lv st σ Post :=
  xe_iinc hd hn hg (nI_1 j) hl h
/-- switches: the cases one by one -/
theorem xn_tsw {dflt lo hi : Int} {offs : Array Int} {len td : Nat} {tgs : List Nat} (hd : decode k.2.1 pc = .ok (.tableswitch dflt lo hi offs, len)) (hl : offs.toList = tgs.map (fun t : Nat => (t : Int) - (pc : Int))) (hh : hi - lo + 1 = (tgs.length : Int)) (hdf : (pc : Int) + dflt = (td : Int))
    (h1 : ∀ (i t : Nat), tgs[i]? = some t → x.toInt = lo + (i : Int) → xEv k d t lv st σ Post) (h2 : (x.toInt < lo ∨ hi < x.toInt) → xEv k d td lv st σ Post) : xEv k d pc lv (.int x :: st) σ Post := by
  by_cases ho : x.toInt < lo ∨ hi < x.toInt
  · exact xe_tableOut hd ho hdf (h2 ho)
  · have ha : ¬ x.toInt < lo := fun z => ho (Or.inl z)
    have hb : ¬ hi < x.toInt := fun z => ho (Or.inr z)
    have hlt : (x.toInt - lo).toNat < tgs.length := by omega
    have hg : tgs[(x.toInt - lo).toNat]? = some (tgs[(x.toInt - lo).toNat]'hlt) := List.getElem?_eq_getElem hlt
    have ho2 : offs[(x.toInt - lo).toNat]? = some (((tgs[(x.toInt - lo).toNat]'hlt : Nat) : Int) - (pc : Int)) := by
      rw [← Array.getElem?_toList, hl, List.getElem?_map, hg]; rfl
    exact xe_tableIn (tgt := tgs[(x.toInt - lo).toNat]'hlt) hd ha hb ho2 (by omega) (h1 (x.toInt - lo).toNat _ hg (by omega))
end XROWS
end
section
/-! numbers, folds, states -/
theorem nLe {a b : Nat} (ha : a < 2 ^ 31) (hb : b < 2 ^ 31) (h : nI a ≤ nI b) : a ≤ b := (nI_leI ha hb).mp h
theorem nLt {a b : Nat} (ha : a < 2 ^ 31) (hb : b < 2 ^ 31) (h : nI a < nI b) : a < b := (nI_ltI ha hb).mp h
theorem nNle {a b : Nat} (ha : a < 2 ^ 31) (hb : b < 2 ^ 31) (h : ¬ nI a ≤ nI b) : b < a := Nat.lt_of_not_le (fun z => h ((nI_leI ha hb).mpr z))
theorem nNlt {a b : Nat} (ha : a < 2 ^ 31) (hb : b < 2 ^ 31) (h : ¬ nI a < nI b) : b ≤ a := Nat.le_of_not_lt (fun z => h ((nI_ltI ha hb).mpr z))
theorem nEq {a b : Nat} (ha : a < 2 ^ 31) (hb : b < 2 ^ 31) (h : nI a = nI b) : a = b := (nI_eq ha hb).mp h
/-- a fold over 0 .. n - 1 -/
def iF {α : Type} (f : Nat → α → α) (a : α) : Nat → α
  | 0 => a
  | n + 1 => f n (iF f a n)
/-- a sum over 0 .. n - 1 -/
def iS (f : Nat → Int32) : Nat → Int32
  | 0 => 0
  | n + 1 => iS f n + f n
theorem xsA_get {σ : xSt} {c : Nat} {g : Nat → Int32} : (xsA σ c g).2.1 c = g := va_up_self _ _ _
theorem xsA_ne {σ : xSt} {c b : Nat} {g : Nat → Int32} (h : b ≠ c) : (xsA σ c g).2.1 b = σ.2.1 b := va_up_ne _ _ h
theorem xsA_1 {σ : xSt} {c : Nat} {g : Nat → Int32} : (xsA σ c g).1 = σ.1 := rfl
theorem xsA_J {σ : xSt} {c : Nat} {g : Nat → Int32} : (xsA σ c g).2.2 = σ.2.2 := rfl
theorem va_up2 {α : Type} (f : Nat → α) (c : Nat) (g g2 : α) : va_up (va_up f c g) c g2 = va_up f c g2 := by
  funext j; unfold va_up; split <;> rfl
theorem xsA_A {σ : xSt} {c : Nat} {g g2 : Nat → Int32} : xsA (xsA σ c g) c g2 = xsA σ c g2 := by unfold xsA; rw [va_up2]
theorem xsA_self {σ : xSt} {c : Nat} : xsA σ c (σ.2.1 c) = σ := by
  unfold xsA
  have : va_up σ.2.1 c (σ.2.1 c) = σ.2.1 := by funext j; unfold va_up; split <;> simp_all
  rw [this]
theorem xsJ_get {σ : xSt} {c : Nat} {g : Nat → Int64} : (xsJ σ c g).2.2 c = g := va_up_self _ _ _
theorem xsJ_ne {σ : xSt} {c b : Nat} {g : Nat → Int64} (h : b ≠ c) : (xsJ σ c g).2.2 b = σ.2.2 b := va_up_ne _ _ h
theorem xsJ_J {σ : xSt} {c : Nat} {g g2 : Nat → Int64} : xsJ (xsJ σ c g) c g2 = xsJ σ c g2 := by unfold xsJ; rw [va_up2]
theorem xsJ_1 {σ : xSt} {c : Nat} {g : Nat → Int64} : (xsJ σ c g).1 = σ.1 := rfl
theorem xsJ_A {σ : xSt} {c : Nat} {g : Nat → Int64} : (xsJ σ c g).2.1 = σ.2.1 := rfl
theorem xsF_A {σ : xSt} {c j : Nat} {v : Int32} : (xsF σ c j v).2.1 = σ.2.1 := rfl
theorem xsF_J {σ : xSt} {c j : Nat} {v : Int32} : (xsF σ c j v).2.2 = σ.2.2 := rfl
theorem xsF_get {σ : xSt} {c j : Nat} {v : Int32} : (xsF σ c j v).1 c j = v := by simp [xsF, va_up, upd]
theorem xsF_ne {σ : xSt} {c j b i : Nat} {v : Int32} (h : b ≠ c ∨ i ≠ j) : (xsF σ c j v).1 b i = σ.1 b i := by
  by_cases hb : b = c
  · subst hb
    have hi : i ≠ j := by simpa using h
    simp [xsF, va_up, upd, hi]
  · simp [xsF, va_up, hb]
theorem cpy_succ {f g : Nat → Int32} {j : Nat} : upd (va_cpy f g 0 0 j) j (f j) = va_cpy f g 0 0 (j + 1) := by
  funext i
  unfold upd va_cpy
  by_cases h : i = j
  · subst h; simp
  · by_cases h2 : i < j
    · simp [h, h2, show i < j + 1 by omega]
    · simp [h, h2, show ¬ i < j + 1 by omega]
theorem cpy_zero {f g : Nat → Int32} : va_cpy f g 0 0 0 = g := by funext i; simp [va_cpy]
/-- an int array of the pool -/
abbrev xI (c n : Nat) : Prop := c < 138 ∧ xsh c = .inl (0, n, [])
end
section
/-- a method from its entry -/
abbrev xM (k : xMD) (d : Nat) (vs : List Value) (σ : xSt) (Post : Option Value → xSt → Prop) : Prop := xEv k d 0 (xen vs k.2.2.1) [] σ Post
theorem xM_start {k : xMD} {d : Nat} {vs : List Value} {σ : xSt} {Post : Option Value → xSt → Prop} {lv : List (Option Value)} (hl : xen vs k.2.2.1 = lv) (h : xEv k d 0 lv [] σ Post) : xM k d vs σ Post := by
  show xEv k d 0 (xen vs k.2.2.1) [] σ Post
  rw [hl]; exact h
/-- a truth as the machine has it -/
abbrev xb (p : Prop) [Decidable p] : Int32 := if p then 1 else 0

theorem xb_eq0 {p : Prop} [Decidable p] {r : Int32} (hr : r = xb p) : r = 0 ↔ ¬ p := by
  subst hr; unfold xb; by_cases h : p <;> simp [h]
theorem xb_ne0 {p : Prop} [Decidable p] {r : Int32} (hr : r = xb p) : ¬ r = 0 ↔ p := by
  subst hr; unfold xb; by_cases h : p <;> simp [h]
theorem xb_narrow {p : Prop} [Decidable p] {r : Int32} (hr : r = xb p) : narrow .boolean (.int r) = .int r := by
  subst hr; unfold xb; by_cases h : p <;> simp [h] <;> rfl

theorem xb1 {p : Prop} [Decidable p] (h : p) : (1 : Int32) = xb p := (if_pos h).symm
theorem xb0 {p : Prop} [Decidable p] (h : ¬ p) : (0 : Int32) = xb p := (if_neg h).symm

theorem sX9_isIn {d : Nat} (hd : 0 ≤ d) {σ : xSt} {Post : Option Value → xSt → Prop} (v lo hi : Int32) (h : ∀ r, r = xb (lo ≤ v ∧ v ≤ hi) → Post (some (.int r)) σ) : xM kX9_isIn d [.int v, .int lo, .int hi] σ Post := by
  refine xM_start (lv := [some (.int v), some (.int lo), some (.int hi)]) rfl ?_
  refine xe_iload_n dX9_isIn_0 rfl ?_
  refine xe_iload_n dX9_isIn_1 rfl ?_
  refine xe_icmp_lt (tgt := 14) dX9_isIn_2 (by decide) (fun h2 => ?_) (fun h2 => ?_)
  · refine xe_iconst (v := 0) dX9_isIn_14 rfl ?_
    refine xe_iret dX9_isIn_15 rfl (by first | rfl | decide | assumption | exact xb_narrow (by assumption)) ?_
    first | exact h _ (xb1 ⟨Int32.not_lt.mp h2, Int32.not_lt.mp h7⟩) | exact h _ (xb0 (fun z => Int32.not_le.mpr h2 z.1)) | exact h _ (xb0 (fun z => Int32.not_le.mpr h7 z.2))
  · refine xe_iload_n dX9_isIn_5 rfl ?_
    refine xe_iload_n dX9_isIn_6 rfl ?_
    refine xe_icmp_gt (tgt := 14) dX9_isIn_7 (by decide) (fun h7 => ?_) (fun h7 => ?_)
    · refine xe_iconst (v := 0) dX9_isIn_14 rfl ?_
      refine xe_iret dX9_isIn_15 rfl (by first | rfl | decide | assumption | exact xb_narrow (by assumption)) ?_
      first | exact h _ (xb1 ⟨Int32.not_lt.mp h2, Int32.not_lt.mp h7⟩) | exact h _ (xb0 (fun z => Int32.not_le.mpr h2 z.1)) | exact h _ (xb0 (fun z => Int32.not_le.mpr h7 z.2))
    · refine xe_iconst (v := 1) dX9_isIn_10 rfl ?_
      refine xe_goto (tgt := 15) dX9_isIn_11 (by decide) ?_
      refine xe_iret dX9_isIn_15 rfl (by first | rfl | decide | assumption | exact xb_narrow (by assumption)) ?_
      first | exact h _ (xb1 ⟨Int32.not_lt.mp h2, Int32.not_lt.mp h7⟩) | exact h _ (xb0 (fun z => Int32.not_le.mpr h2 z.1)) | exact h _ (xb0 (fun z => Int32.not_le.mpr h7 z.2))

theorem sX9_one {d : Nat} (hd : 0 ≤ d) {σ : xSt} {Post : Option Value → xSt → Prop} (i w : Nat) (hi : 9 * i + w < 115) (h : Post (some (.int (σ.2.1 116 (9 * i + w)))) σ) : xM kX9_one d [.ref 115, .int (nI i), .int (nI w)] σ Post := by
  refine xM_start (lv := [some (.ref 115), some (.int (nI i)), some (.int (nI w))]) rfl ?_
  refine xe_aload_n dX9_one_0 rfl ?_
  refine xe_getr dX9_one_1 flX9_9 (by decide) rfl rfl ?_
  refine xe_bipush (v := 9) dX9_one_4 rfl ?_
  refine xe_iload_n dX9_one_6 rfl ?_
  refine xe_imul dX9_one_7 ?_
  refine xe_iload_n dX9_one_8 rfl ?_
  refine xe_iadd dX9_one_9 ?_
  refine xn_iaload dX9_one_10 (by decide) rfl (by first | with_reducible rfl | (simp only [xl, pk_mul, nI_add, nI_1]; done) | (simp only [xl, pk_mul, nI_add, nI_1]; rfl)) (by omega) (by decide) ?_
  refine xe_iret dX9_one_11 rfl rfl ?_
  exact h

theorem sX9_change {d : Nat} (hd : 1 ≤ d) {σ : xSt} {Post : Option Value → xSt → Prop} (i w : Nat) (v : Int32) (hi : 9 * i + w < 115) (h : Post (some (.int (σ.2.1 116 (9 * i + w)))) (xsA σ 116 (upd (σ.2.1 116) (9 * i + w) v))) : xM kX9_change d [.ref 115, .int (nI i), .int (nI w), .int v] σ Post := by
  obtain ⟨d, rfl⟩ : ∃ e, d = e + 1 := ⟨d - 1, by omega⟩
  refine xM_start (lv := [some (.ref 115), some (.int (nI i)), some (.int (nI w)), some (.int v), none]) rfl ?_
  refine xe_aload_n dX9_change_0 rfl ?_
  refine xe_iload_n dX9_change_1 rfl ?_
  refine xe_iload_n dX9_change_2 rfl ?_
  refine xe_callv (k2 := kX9_one) (vs := [_, _]) dX9_change_3 okX9_one mlX9_93 imX9_one slX9_one (Or.inl ⟨9, _, _, by decide, rfl, rfl, rfl⟩) rfl rfl (Nat.le_of_ble_eq_true rfl) (Nat.le_of_ble_eq_true rfl) (sX9_one (by omega) i w hi ?_)
  refine xe_istore (lv2 := [_, _, _, _, _]) dX9_change_6 (by decide) rfl ?_
  refine xe_aload_n dX9_change_8 rfl ?_
  refine xe_getr dX9_change_9 flX9_9 (by decide) rfl rfl ?_
  refine xe_bipush (v := 9) dX9_change_12 rfl ?_
  refine xe_iload_n dX9_change_14 rfl ?_
  refine xe_imul dX9_change_15 ?_
  refine xe_iload_n dX9_change_16 rfl ?_
  refine xe_iadd dX9_change_17 ?_
  refine xe_iload_n dX9_change_18 rfl ?_
  refine xn_iastore dX9_change_19 (by decide) rfl (by first | with_reducible rfl | (simp only [xl, pk_mul, nI_add, nI_1]; done) | (simp only [xl, pk_mul, nI_add, nI_1]; rfl)) (by omega) (by decide) ?_
  refine xe_iload dX9_change_20 rfl ?_
  refine xe_iret dX9_change_22 rfl rfl ?_
  exact h

theorem sX9_isFact {d : Nat} (hd : 1 ≤ d) {σ : xSt} {Post : Option Value → xSt → Prop} (f : Int32) (h : ∀ r, r = xb (0 ≤ f ∧ f ≤ 7) → Post (some (.int r)) σ) : xM kX9_isFact d [.int f] σ Post := by
  obtain ⟨d, rfl⟩ : ∃ e, d = e + 1 := ⟨d - 1, by omega⟩
  refine xM_start (lv := [some (.int f)]) rfl ?_
  refine xe_iload_n dX9_isFact_0 rfl ?_
  refine xe_iconst (v := 0) dX9_isFact_1 rfl ?_
  refine xe_bipush (v := 7) dX9_isFact_2 rfl ?_
  refine xe_calls (k2 := kX9_isIn) (vs := [_, _, _]) dX9_isFact_4 okX9_isIn mlX9_89 stX9_isIn rfl rfl (Nat.le_of_ble_eq_true rfl) (Nat.le_of_ble_eq_true rfl) (sX9_isIn (by omega) _ _ _ (fun r hr => ?_))
  refine xe_iret dX9_isFact_7 rfl (by first | rfl | decide | assumption | exact xb_narrow (by assumption)) ?_
  exact h r hr

theorem sX9_isTape {d : Nat} (hd : 1 ≤ d) {σ : xSt} {Post : Option Value → xSt → Prop} (f : Int32) (h : ∀ r, r = xb (0 ≤ f ∧ f ≤ 5) → Post (some (.int r)) σ) : xM kX9_isTape d [.int f] σ Post := by
  obtain ⟨d, rfl⟩ : ∃ e, d = e + 1 := ⟨d - 1, by omega⟩
  refine xM_start (lv := [some (.int f)]) rfl ?_
  refine xe_iload_n dX9_isTape_0 rfl ?_
  refine xe_iconst (v := 0) dX9_isTape_1 rfl ?_
  refine xe_iconst (v := 5) dX9_isTape_2 rfl ?_
  refine xe_calls (k2 := kX9_isIn) (vs := [_, _, _]) dX9_isTape_3 okX9_isIn mlX9_89 stX9_isIn rfl rfl (Nat.le_of_ble_eq_true rfl) (Nat.le_of_ble_eq_true rfl) (sX9_isIn (by omega) _ _ _ (fun r hr => ?_))
  refine xe_iret dX9_isTape_6 rfl (by first | rfl | decide | assumption | exact xb_narrow (by assumption)) ?_
  exact h r hr

theorem sX9_isPot {d : Nat} (hd : 1 ≤ d) {σ : xSt} {Post : Option Value → xSt → Prop} (f : Int32) (n : Nat) (hn : σ.2.1 116 54 = nI n) (hn6 : n ≤ 6) (h : ∀ r, r = xb (0 ≤ f ∧ f ≤ nI n - 1) → Post (some (.int r)) σ) : xM kX9_isPot d [.ref 115, .int f] σ Post := by
  obtain ⟨d, rfl⟩ : ∃ e, d = e + 1 := ⟨d - 1, by omega⟩
  refine xM_start (lv := [some (.ref 115), some (.int f)]) rfl ?_
  refine xe_iload_n dX9_isPot_0 rfl ?_
  refine xe_iconst (v := 0) dX9_isPot_1 rfl ?_
  refine xe_aload_n dX9_isPot_2 rfl ?_
  refine xe_getr dX9_isPot_3 flX9_9 (by decide) rfl rfl ?_
  refine xe_bipush (v := 54) dX9_isPot_6 rfl ?_
  refine xn_iaload dX9_isPot_8 (by decide) rfl (by first | with_reducible rfl | (simp only [xl, pk_mul, nI_add, nI_1]; done) | (simp only [xl, pk_mul, nI_add, nI_1]; rfl)) (by omega) (by decide) ?_
  refine xe_iconst (v := 1) dX9_isPot_9 rfl ?_
  refine xe_isub dX9_isPot_10 ?_
  refine xe_calls (k2 := kX9_isIn) (vs := [_, _, _]) dX9_isPot_11 okX9_isIn mlX9_89 stX9_isIn rfl rfl (Nat.le_of_ble_eq_true rfl) (Nat.le_of_ble_eq_true rfl) (sX9_isIn (by omega) _ _ _ (fun r hr => ?_))
  refine xe_iret dX9_isPot_14 rfl (by first | rfl | decide | assumption | exact xb_narrow (by assumption)) ?_
  exact h r (by rw [hr, hn])
end
section
theorem lX9_move {d : Nat} {σ : xSt} {Post : Option Value → xSt → Prop} (cf ct : Nat) (hf : xI cf 115) (ht : xI ct 115) (hne : cf ≠ ct) (h : Post none (xsA σ ct (va_cpy (σ.2.1 cf) (σ.2.1 ct) 0 0 115))) : ∀ (n j : Nat), 116 ≤ j + n → j ≤ 115 → xEv kX9_move d 2 [some (.ref cf), some (.ref ct), some (.int (nI j))] [] (xsA σ ct (va_cpy (σ.2.1 cf) (σ.2.1 ct) 0 0 j)) Post := by
  intro n
  induction n with
  | zero => intro j hn hj; omega
  | succ n ih =>
    intro j hn hj
    refine xe_iload_n dX9_move_2 rfl ?_
    refine xe_bipush (v := 115) dX9_move_3 rfl ?_
    refine xe_icmp_ge (tgt := 20) dX9_move_5 (by decide) (fun h5 => ?_) (fun h5 => ?_)
    · refine xe_vret dX9_move_20 rfl ?_
      have e := nLe (a := 115) (by omega) (by omega) h5
      rw [show j = 115 by omega]
      exact h
    · refine xe_aload_n dX9_move_8 rfl ?_
      refine xe_iload_n dX9_move_9 rfl ?_
      refine xe_aload_n dX9_move_10 rfl ?_
      refine xe_iload_n dX9_move_11 rfl ?_
      refine xn_iaload dX9_move_12 hf.1 hf.2 (by first | with_reducible rfl | (simp only [xl, pk_mul, nI_add, nI_1]; done) | (simp only [xl, pk_mul, nI_add, nI_1]; rfl)) (nNle (a := 115) (by omega) (by omega) h5) (by decide) ?_
      refine xn_iastore dX9_move_13 ht.1 ht.2 (by first | with_reducible rfl | (simp only [xl, pk_mul, nI_add, nI_1]; done) | (simp only [xl, pk_mul, nI_add, nI_1]; rfl)) (nNle (a := 115) (by omega) (by omega) h5) (by decide) ?_
      refine xn_inc (j := j) (lv2 := [_, _, _]) dX9_move_14 (by decide) rfl rfl ?_
      refine xe_goto (tgt := 2) dX9_move_17 (by decide) ?_
      have e := nNle (a := 115) (by omega) (by omega) h5
      refine xe_st ?_ (ih (j + 1) (by omega) (by omega))
      rw [xsA_A, xsA_get, xsA_ne hne, cpy_succ]

theorem sX9_move {d : Nat} (hd : 0 ≤ d) {σ : xSt} {Post : Option Value → xSt → Prop} (cf ct : Nat) (hf : xI cf 115) (ht : xI ct 115) (hne : cf ≠ ct) (h : Post none (xsA σ ct (va_cpy (σ.2.1 cf) (σ.2.1 ct) 0 0 115))) : xM kX9_move d [.ref cf, .ref ct] σ Post := by
  refine xM_start (lv := [some (.ref cf), some (.ref ct), none]) rfl ?_
  refine xe_iconst (v := 0) dX9_move_0 rfl ?_
  refine xe_istore_n (lv2 := [_, _, _]) dX9_move_1 (by decide) rfl ?_
  have l := lX9_move (d := d) (σ := σ) cf ct hf ht hne h 116 0 (by omega) (by omega)
  rw [cpy_zero, xsA_self] at l
  exact l

/-- how many of the lowest eight bits are set -/
def mMany (b : Int32) : Int32 := iS (fun j => b >>> (nI j &&& 31) &&& 1) 8

theorem lX9_many {d : Nat} {σ : xSt} {Post : Option Value → xSt → Prop} (b : Int32) (h : Post (some (.int (mMany b))) σ) : ∀ (n j : Nat), 9 ≤ j + n → j ≤ 8 → xEv kX9_many d 4 [some (.int b), some (.int (iS (fun j => b >>> (nI j &&& 31) &&& 1) j)), some (.int (nI j))] [] σ Post := by
  intro n
  induction n with
  | zero => intro j hn hj; omega
  | succ n ih =>
    intro j hn hj
    refine xe_iload_n dX9_many_4 rfl ?_
    refine xe_bipush (v := 8) dX9_many_5 rfl ?_
    refine xe_icmp_ge (tgt := 24) dX9_many_7 (by decide) (fun h7 => ?_) (fun h7 => ?_)
    · refine xe_iload_n dX9_many_24 rfl ?_
      refine xe_iret dX9_many_25 rfl rfl ?_
      have e := nLe (a := 8) (by omega) (by omega) h7
      rw [show j = 8 by omega]
      exact h
    · refine xe_iload_n dX9_many_10 rfl ?_
      refine xe_iload_n dX9_many_11 rfl ?_
      refine xe_iload_n dX9_many_12 rfl ?_
      refine xe_ishr dX9_many_13 ?_
      refine xe_iconst (v := 1) dX9_many_14 rfl ?_
      refine xe_iand dX9_many_15 ?_
      refine xe_iadd dX9_many_16 ?_
      refine xe_istore_n (lv2 := [_, _, _]) dX9_many_17 (by decide) rfl ?_
      refine xn_inc (j := j) (lv2 := [_, _, _]) dX9_many_18 (by decide) rfl rfl ?_
      refine xe_goto (tgt := 4) dX9_many_21 (by decide) ?_
      have e := nNle (a := 8) (by omega) (by omega) h7
      exact ih (j + 1) (by omega) (by omega)

theorem sX9_many {d : Nat} (hd : 0 ≤ d) {σ : xSt} {Post : Option Value → xSt → Prop} (b : Int32) (h : Post (some (.int (mMany b))) σ) : xM kX9_many d [.int b] σ Post := by
  refine xM_start (lv := [some (.int b), none, none]) rfl ?_
  refine xe_iconst (v := 0) dX9_many_0 rfl ?_
  refine xe_istore_n (lv2 := [_, _, _]) dX9_many_1 (by decide) rfl ?_
  refine xe_iconst (v := 0) dX9_many_2 rfl ?_
  refine xe_istore_n (lv2 := [_, _, _]) dX9_many_3 (by decide) rfl ?_
  exact lX9_many (d := d) (σ := σ) b h 9 0 (by omega) (by omega)

theorem sX9_image {d : Nat} (hd : 1 ≤ d) {σ : xSt} {Post : Option Value → xSt → Prop}  (h : Post (some (.int (σ.2.1 116 54))) (xsA (xsF σ 115 3 1) 118 (va_cpy (σ.2.1 116) (σ.2.1 118) 0 0 115))) : xM kX9_image d [.ref 115] σ Post := by
  obtain ⟨d, rfl⟩ : ∃ e, d = e + 1 := ⟨d - 1, by omega⟩
  refine xM_start (lv := [some (.ref 115)]) rfl ?_
  refine xe_aload_n dX9_image_0 rfl ?_
  refine xe_iconst (v := 1) dX9_image_1 rfl ?_
  refine xe_putf dX9_image_2 flX9_81 (by decide) rfl rfl (by first | rfl | decide | assumption | exact xb_narrow (by assumption)) rfl ?_
  refine xe_aload_n dX9_image_5 rfl ?_
  refine xe_getr dX9_image_6 flX9_9 (by decide) rfl rfl ?_
  refine xe_aload_n dX9_image_9 rfl ?_
  refine xe_getr dX9_image_10 flX9_18 (by decide) rfl rfl ?_
  refine xe_calls (k2 := kX9_move) (vs := [_, _]) dX9_image_13 okX9_move mlX9_85 stX9_move rfl rfl (Nat.le_of_ble_eq_true rfl) (Nat.le_of_ble_eq_true rfl) (sX9_move (by omega) 116 118 ⟨by decide, rfl⟩ ⟨by decide, rfl⟩ (by decide) ?_)
  refine xe_aload_n dX9_image_16 rfl ?_
  refine xe_getr dX9_image_17 flX9_9 (by decide) rfl rfl ?_
  refine xe_bipush (v := 54) dX9_image_20 rfl ?_
  refine xn_iaload dX9_image_22 (by decide) rfl (by first | with_reducible rfl | (simp only [xl, pk_mul, nI_add, nI_1]; done) | (simp only [xl, pk_mul, nI_add, nI_1]; rfl)) (by omega) (by decide) ?_
  refine xe_iret dX9_image_23 rfl rfl ?_
  exact h

theorem sX9_undo {d : Nat} (hd : 1 ≤ d) {σ : xSt} {Post : Option Value → xSt → Prop}  (h : (σ.1 115 3 = 0 → Post (some (.int (-3))) σ) ∧ (¬ σ.1 115 3 = 0 → Post (some (.int (σ.2.1 118 54))) (xsA σ 116 (va_cpy (σ.2.1 118) (σ.2.1 116) 0 0 115)))) : xM kX9_undo d [.ref 115] σ Post := by
  obtain ⟨d, rfl⟩ : ∃ e, d = e + 1 := ⟨d - 1, by omega⟩
  refine xM_start (lv := [some (.ref 115)]) rfl ?_
  refine xe_aload_n dX9_undo_0 rfl ?_
  refine xe_getf dX9_undo_1 flX9_81 (by decide) rfl rfl ?_
  refine xe_if_ne (tgt := 10) dX9_undo_4 (by decide) (fun h4 => ?_) (fun h4 => ?_)
  · refine xe_aload_n dX9_undo_10 rfl ?_
    refine xe_getr dX9_undo_11 flX9_18 (by decide) rfl rfl ?_
    refine xe_aload_n dX9_undo_14 rfl ?_
    refine xe_getr dX9_undo_15 flX9_9 (by decide) rfl rfl ?_
    refine xe_calls (k2 := kX9_move) (vs := [_, _]) dX9_undo_18 okX9_move mlX9_85 stX9_move rfl rfl (Nat.le_of_ble_eq_true rfl) (Nat.le_of_ble_eq_true rfl) (sX9_move (by omega) 118 116 ⟨by decide, rfl⟩ ⟨by decide, rfl⟩ (by decide) ?_)
    refine xe_aload_n dX9_undo_21 rfl ?_
    refine xe_getr dX9_undo_22 flX9_9 (by decide) rfl rfl ?_
    refine xe_bipush (v := 54) dX9_undo_25 rfl ?_
    refine xn_iaload dX9_undo_27 (by decide) rfl (by first | with_reducible rfl | (simp only [xl, pk_mul, nI_add, nI_1]; done) | (simp only [xl, pk_mul, nI_add, nI_1]; rfl)) (by omega) (by decide) ?_
    refine xe_iret dX9_undo_28 rfl rfl ?_
    first | exact h.1 (by assumption) | (have h2 := h.2 (by assumption); exact h2)
  · refine xe_bipush (v := -3) dX9_undo_7 rfl ?_
    refine xe_iret dX9_undo_9 rfl rfl ?_
    first | exact h.1 (by assumption) | (have h2 := h.2 (by assumption); exact h2)
end
